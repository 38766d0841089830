section
-- ===== PART A: goes FIRST, ahead of the names: the tables' words, and 'selects' of the private methods out of them =====
/-- a private method of a class that the tables say can be made, by its rows of tables_1 -/
def lw_okq (q : MethodName × Nat) : Prop := (q.1.cls ≠ "java/lang/invoke/MethodHandle" ∧ q.1.cls ≠ "java/lang/invoke/VarHandle") ∧ Cond.instantiable q.1.cls q.2 ∈ tables_1 ∧ Cond.privateMethod q.1 ∈ tables_1 ∧ Cond.instanceMethod q.1 ∈ tables_1
theorem lw_p0 : lw_okq (⟨"TaskShare", "leastLatenessAlone", "(LTaskShare$Task;)I"⟩, 7) := ⟨⟨by decide +kernel, by decide +kernel⟩, List.mem_of_getElem? (i := 25) (by decide +kernel), List.mem_of_getElem? (i := 159) (by decide +kernel), List.mem_of_getElem? (i := 160) (by decide +kernel)⟩
theorem lw_p1 : lw_okq (⟨"TaskShare$Person", "may", "(LTaskShare$Task;)Z"⟩, 14) := ⟨⟨by decide +kernel, by decide +kernel⟩, List.mem_of_getElem? (i := 167) (by decide +kernel), List.mem_of_getElem? (i := 165) (by decide +kernel), List.mem_of_getElem? (i := 166) (by decide +kernel)⟩
theorem lw_p2 : lw_okq (⟨"TaskShare$Person", "hasSkill", "(I)Z"⟩, 14) := ⟨⟨by decide +kernel, by decide +kernel⟩, List.mem_of_getElem? (i := 167) (by decide +kernel), List.mem_of_getElem? (i := 170) (by decide +kernel), List.mem_of_getElem? (i := 171) (by decide +kernel)⟩
theorem lw_p3 : lw_okq (⟨"TaskShare$Person", "hasRefused", "(LTaskShare$Task;)Z"⟩, 14) := ⟨⟨by decide +kernel, by decide +kernel⟩, List.mem_of_getElem? (i := 167) (by decide +kernel), List.mem_of_getElem? (i := 174) (by decide +kernel), List.mem_of_getElem? (i := 175) (by decide +kernel)⟩
theorem lw_p4 : lw_okq (⟨"TaskShare", "startAsOnlyOne", "(LTaskShare$Person;LTaskShare$Task;)I"⟩, 7) := ⟨⟨by decide +kernel, by decide +kernel⟩, List.mem_of_getElem? (i := 25) (by decide +kernel), List.mem_of_getElem? (i := 178) (by decide +kernel), List.mem_of_getElem? (i := 179) (by decide +kernel)⟩
theorem lw_p5 : lw_okq (⟨"TaskShare$Person", "freeFrom", "(I)I"⟩, 14) := ⟨⟨by decide +kernel, by decide +kernel⟩, List.mem_of_getElem? (i := 167) (by decide +kernel), List.mem_of_getElem? (i := 182) (by decide +kernel), List.mem_of_getElem? (i := 183) (by decide +kernel)⟩
theorem lw_p6 : lw_okq (⟨"TaskShare$Person", "startOf", "(LTaskShare$Task;IILTaskShare$Ways;)I"⟩, 14) := ⟨⟨by decide +kernel, by decide +kernel⟩, List.mem_of_getElem? (i := 167) (by decide +kernel), List.mem_of_getElem? (i := 189) (by decide +kernel), List.mem_of_getElem? (i := 190) (by decide +kernel)⟩
theorem lw_p7 : lw_okq (⟨"TaskShare$Ways", "between", "(II)I"⟩, 1) := ⟨⟨by decide +kernel, by decide +kernel⟩, List.mem_of_getElem? (i := 59) (by decide +kernel), List.mem_of_getElem? (i := 193) (by decide +kernel), List.mem_of_getElem? (i := 194) (by decide +kernel)⟩
theorem lw_p8 : lw_okq (⟨"TaskShare$Task", "latenessFrom", "(I)I"⟩, 8) := ⟨⟨by decide +kernel, by decide +kernel⟩, List.mem_of_getElem? (i := 199) (by decide +kernel), List.mem_of_getElem? (i := 197) (by decide +kernel), List.mem_of_getElem? (i := 198) (by decide +kernel)⟩
theorem lw_p9 : lw_okq (⟨"TaskShare", "tasksIn", "(I)I"⟩, 7) := ⟨⟨by decide +kernel, by decide +kernel⟩, List.mem_of_getElem? (i := 25) (by decide +kernel), List.mem_of_getElem? (i := 210) (by decide +kernel), List.mem_of_getElem? (i := 211) (by decide +kernel)⟩
theorem lw_p10 : lw_okq (⟨"TaskShare", "tasksOf", "(II)I"⟩, 7) := ⟨⟨by decide +kernel, by decide +kernel⟩, List.mem_of_getElem? (i := 25) (by decide +kernel), List.mem_of_getElem? (i := 214) (by decide +kernel), List.mem_of_getElem? (i := 215) (by decide +kernel)⟩
theorem lw_p11 : lw_okq (⟨"TaskShare$Task", "isOf", "(II)Z"⟩, 8) := ⟨⟨by decide +kernel, by decide +kernel⟩, List.mem_of_getElem? (i := 199) (by decide +kernel), List.mem_of_getElem? (i := 218) (by decide +kernel), List.mem_of_getElem? (i := 219) (by decide +kernel)⟩
theorem lw_p12 : lw_okq (⟨"TaskShare", "latenessOfPlan", "()I"⟩, 7) := ⟨⟨by decide +kernel, by decide +kernel⟩, List.mem_of_getElem? (i := 25) (by decide +kernel), List.mem_of_getElem? (i := 222) (by decide +kernel), List.mem_of_getElem? (i := 223) (by decide +kernel)⟩
theorem lw_p13 : lw_okq (⟨"java/lang/Throwable", "fillInStackTrace", "(I)Ljava/lang/Throwable;"⟩, 6) := ⟨⟨by decide +kernel, by decide +kernel⟩, List.mem_of_getElem? (i := 277) (by decide +kernel), List.mem_of_getElem? (i := 275) (by decide +kernel), List.mem_of_getElem? (i := 276) (by decide +kernel)⟩
theorem lw_p14 : lw_okq (⟨"java/util/ArrayList", "add", "(Ljava/lang/Object;[Ljava/lang/Object;I)V"⟩, 3) := ⟨⟨by decide +kernel, by decide +kernel⟩, List.mem_of_getElem? (i := 33) (by decide +kernel), List.mem_of_getElem? (i := 395) (by decide +kernel), List.mem_of_getElem? (i := 396) (by decide +kernel)⟩
theorem lw_p15 : lw_okq (⟨"java/util/ArrayList", "grow", "()[Ljava/lang/Object;"⟩, 3) := ⟨⟨by decide +kernel, by decide +kernel⟩, List.mem_of_getElem? (i := 33) (by decide +kernel), List.mem_of_getElem? (i := 399) (by decide +kernel), List.mem_of_getElem? (i := 400) (by decide +kernel)⟩
def lw_privs_1 : List (MethodName × Nat) := [(⟨"TaskShare", "leastLatenessAlone", "(LTaskShare$Task;)I"⟩, 7), (⟨"TaskShare$Person", "may", "(LTaskShare$Task;)Z"⟩, 14), (⟨"TaskShare$Person", "hasSkill", "(I)Z"⟩, 14), (⟨"TaskShare$Person", "hasRefused", "(LTaskShare$Task;)Z"⟩, 14), (⟨"TaskShare", "startAsOnlyOne", "(LTaskShare$Person;LTaskShare$Task;)I"⟩, 7), (⟨"TaskShare$Person", "freeFrom", "(I)I"⟩, 14), (⟨"TaskShare$Person", "startOf", "(LTaskShare$Task;IILTaskShare$Ways;)I"⟩, 14), (⟨"TaskShare$Ways", "between", "(II)I"⟩, 1), (⟨"TaskShare$Task", "latenessFrom", "(I)I"⟩, 8), (⟨"TaskShare", "tasksIn", "(I)I"⟩, 7), (⟨"TaskShare", "tasksOf", "(II)I"⟩, 7), (⟨"TaskShare$Task", "isOf", "(II)Z"⟩, 8), (⟨"TaskShare", "latenessOfPlan", "()I"⟩, 7), (⟨"java/lang/Throwable", "fillInStackTrace", "(I)Ljava/lang/Throwable;"⟩, 6), (⟨"java/util/ArrayList", "add", "(Ljava/lang/Object;[Ljava/lang/Object;I)V"⟩, 3), (⟨"java/util/ArrayList", "grow", "()[Ljava/lang/Object;"⟩, 3)]
theorem lw_r1 : ∀ q ∈ lw_privs_1, lw_okq q := List.forall_mem_cons.mpr ⟨lw_p0, List.forall_mem_cons.mpr ⟨lw_p1, List.forall_mem_cons.mpr ⟨lw_p2, List.forall_mem_cons.mpr ⟨lw_p3, List.forall_mem_cons.mpr ⟨lw_p4, List.forall_mem_cons.mpr ⟨lw_p5, List.forall_mem_cons.mpr ⟨lw_p6, List.forall_mem_cons.mpr ⟨lw_p7, List.forall_mem_cons.mpr ⟨lw_p8, List.forall_mem_cons.mpr ⟨lw_p9, List.forall_mem_cons.mpr ⟨lw_p10, List.forall_mem_cons.mpr ⟨lw_p11, List.forall_mem_cons.mpr ⟨lw_p12, List.forall_mem_cons.mpr ⟨lw_p13, List.forall_mem_cons.mpr ⟨lw_p14, List.forall_mem_cons.mpr ⟨lw_p15, fun _ h => absurd h List.not_mem_nil⟩⟩⟩⟩⟩⟩⟩⟩⟩⟩⟩⟩⟩⟩⟩⟩
theorem lw_p16 : lw_okq (⟨"java/util/ArrayList", "grow", "(I)[Ljava/lang/Object;"⟩, 3) := ⟨⟨by decide +kernel, by decide +kernel⟩, List.mem_of_getElem? (i := 33) (by decide +kernel), List.mem_of_getElem? (i := 403) (by decide +kernel), List.mem_of_getElem? (i := 404) (by decide +kernel)⟩
theorem lw_p17 : lw_okq (⟨"TaskShare", "personOf", "(I)LTaskShare$Person;"⟩, 7) := ⟨⟨by decide +kernel, by decide +kernel⟩, List.mem_of_getElem? (i := 25) (by decide +kernel), List.mem_of_getElem? (i := 453) (by decide +kernel), List.mem_of_getElem? (i := 454) (by decide +kernel)⟩
theorem lw_p18 : lw_okq (⟨"TaskShare$Ways", "put", "(III)V"⟩, 1) := ⟨⟨by decide +kernel, by decide +kernel⟩, List.mem_of_getElem? (i := 59) (by decide +kernel), List.mem_of_getElem? (i := 564) (by decide +kernel), List.mem_of_getElem? (i := 565) (by decide +kernel)⟩
theorem lw_p19 : lw_okq (⟨"TaskShare", "taskOf", "(I)LTaskShare$Task;"⟩, 7) := ⟨⟨by decide +kernel, by decide +kernel⟩, List.mem_of_getElem? (i := 25) (by decide +kernel), List.mem_of_getElem? (i := 575) (by decide +kernel), List.mem_of_getElem? (i := 576) (by decide +kernel)⟩
theorem lw_p20 : lw_okq (⟨"TaskShare$Task", "free", "()V"⟩, 8) := ⟨⟨by decide +kernel, by decide +kernel⟩, List.mem_of_getElem? (i := 199) (by decide +kernel), List.mem_of_getElem? (i := 586) (by decide +kernel), List.mem_of_getElem? (i := 587) (by decide +kernel)⟩
theorem lw_p21 : lw_okq (⟨"TaskShare", "freeOpenTasks", "()V"⟩, 7) := ⟨⟨by decide +kernel, by decide +kernel⟩, List.mem_of_getElem? (i := 25) (by decide +kernel), List.mem_of_getElem? (i := 604) (by decide +kernel), List.mem_of_getElem? (i := 605) (by decide +kernel)⟩
theorem lw_p22 : lw_okq (⟨"TaskShare$ExactPlanner", "plan", "(Ljava/util/ArrayList;Ljava/util/ArrayList;LTaskShare$Ways;I)V"⟩, 8) := ⟨⟨by decide +kernel, by decide +kernel⟩, List.mem_of_getElem? (i := 70) (by decide +kernel), List.mem_of_getElem? (i := 608) (by decide +kernel), List.mem_of_getElem? (i := 609) (by decide +kernel)⟩
theorem lw_p23 : lw_okq (⟨"TaskShare$ExactPlanner", "collectOpen", "(Ljava/util/ArrayList;)V"⟩, 8) := ⟨⟨by decide +kernel, by decide +kernel⟩, List.mem_of_getElem? (i := 70) (by decide +kernel), List.mem_of_getElem? (i := 612) (by decide +kernel), List.mem_of_getElem? (i := 613) (by decide +kernel)⟩
theorem lw_p24 : lw_okq (⟨"TaskShare$ExactPlanner", "tryOrders", "(LTaskShare$Person;LTaskShare$Ways;III)V"⟩, 8) := ⟨⟨by decide +kernel, by decide +kernel⟩, List.mem_of_getElem? (i := 70) (by decide +kernel), List.mem_of_getElem? (i := 627) (by decide +kernel), List.mem_of_getElem? (i := 628) (by decide +kernel)⟩
theorem lw_p25 : lw_okq (⟨"TaskShare$ExactPlanner", "keepIfBetter", "(III)V"⟩, 8) := ⟨⟨by decide +kernel, by decide +kernel⟩, List.mem_of_getElem? (i := 70) (by decide +kernel), List.mem_of_getElem? (i := 631) (by decide +kernel), List.mem_of_getElem? (i := 632) (by decide +kernel)⟩
theorem lw_p26 : lw_okq (⟨"TaskShare$ExactPlanner", "startsEarlier", "(II)Z"⟩, 8) := ⟨⟨by decide +kernel, by decide +kernel⟩, List.mem_of_getElem? (i := 70) (by decide +kernel), List.mem_of_getElem? (i := 635) (by decide +kernel), List.mem_of_getElem? (i := 636) (by decide +kernel)⟩
theorem lw_p27 : lw_okq (⟨"TaskShare$ExactPlanner", "shareOut", "(I)V"⟩, 8) := ⟨⟨by decide +kernel, by decide +kernel⟩, List.mem_of_getElem? (i := 70) (by decide +kernel), List.mem_of_getElem? (i := 642) (by decide +kernel), List.mem_of_getElem? (i := 643) (by decide +kernel)⟩
theorem lw_p28 : lw_okq (⟨"TaskShare$ExactPlanner", "rank", "(III)J"⟩, 8) := ⟨⟨by decide +kernel, by decide +kernel⟩, List.mem_of_getElem? (i := 70) (by decide +kernel), List.mem_of_getElem? (i := 648) (by decide +kernel), List.mem_of_getElem? (i := 649) (by decide +kernel)⟩
theorem lw_p29 : lw_okq (⟨"TaskShare$ExactPlanner", "chooseFrom", "(II)V"⟩, 8) := ⟨⟨by decide +kernel, by decide +kernel⟩, List.mem_of_getElem? (i := 70) (by decide +kernel), List.mem_of_getElem? (i := 653) (by decide +kernel), List.mem_of_getElem? (i := 654) (by decide +kernel)⟩
theorem lw_p30 : lw_okq (⟨"TaskShare$ExactPlanner", "tell", "(I)V"⟩, 8) := ⟨⟨by decide +kernel, by decide +kernel⟩, List.mem_of_getElem? (i := 70) (by decide +kernel), List.mem_of_getElem? (i := 657) (by decide +kernel), List.mem_of_getElem? (i := 658) (by decide +kernel)⟩
theorem lw_p31 : lw_okq (⟨"TaskShare$Task", "planFor", "(II)V"⟩, 8) := ⟨⟨by decide +kernel, by decide +kernel⟩, List.mem_of_getElem? (i := 199) (by decide +kernel), List.mem_of_getElem? (i := 661) (by decide +kernel), List.mem_of_getElem? (i := 662) (by decide +kernel)⟩
def lw_privs_2 : List (MethodName × Nat) := [(⟨"java/util/ArrayList", "grow", "(I)[Ljava/lang/Object;"⟩, 3), (⟨"TaskShare", "personOf", "(I)LTaskShare$Person;"⟩, 7), (⟨"TaskShare$Ways", "put", "(III)V"⟩, 1), (⟨"TaskShare", "taskOf", "(I)LTaskShare$Task;"⟩, 7), (⟨"TaskShare$Task", "free", "()V"⟩, 8), (⟨"TaskShare", "freeOpenTasks", "()V"⟩, 7), (⟨"TaskShare$ExactPlanner", "plan", "(Ljava/util/ArrayList;Ljava/util/ArrayList;LTaskShare$Ways;I)V"⟩, 8), (⟨"TaskShare$ExactPlanner", "collectOpen", "(Ljava/util/ArrayList;)V"⟩, 8), (⟨"TaskShare$ExactPlanner", "tryOrders", "(LTaskShare$Person;LTaskShare$Ways;III)V"⟩, 8), (⟨"TaskShare$ExactPlanner", "keepIfBetter", "(III)V"⟩, 8), (⟨"TaskShare$ExactPlanner", "startsEarlier", "(II)Z"⟩, 8), (⟨"TaskShare$ExactPlanner", "shareOut", "(I)V"⟩, 8), (⟨"TaskShare$ExactPlanner", "rank", "(III)J"⟩, 8), (⟨"TaskShare$ExactPlanner", "chooseFrom", "(II)V"⟩, 8), (⟨"TaskShare$ExactPlanner", "tell", "(I)V"⟩, 8), (⟨"TaskShare$Task", "planFor", "(II)V"⟩, 8)]
theorem lw_r2 : ∀ q ∈ lw_privs_2, lw_okq q := List.forall_mem_cons.mpr ⟨lw_p16, List.forall_mem_cons.mpr ⟨lw_p17, List.forall_mem_cons.mpr ⟨lw_p18, List.forall_mem_cons.mpr ⟨lw_p19, List.forall_mem_cons.mpr ⟨lw_p20, List.forall_mem_cons.mpr ⟨lw_p21, List.forall_mem_cons.mpr ⟨lw_p22, List.forall_mem_cons.mpr ⟨lw_p23, List.forall_mem_cons.mpr ⟨lw_p24, List.forall_mem_cons.mpr ⟨lw_p25, List.forall_mem_cons.mpr ⟨lw_p26, List.forall_mem_cons.mpr ⟨lw_p27, List.forall_mem_cons.mpr ⟨lw_p28, List.forall_mem_cons.mpr ⟨lw_p29, List.forall_mem_cons.mpr ⟨lw_p30, List.forall_mem_cons.mpr ⟨lw_p31, fun _ h => absurd h List.not_mem_nil⟩⟩⟩⟩⟩⟩⟩⟩⟩⟩⟩⟩⟩⟩⟩⟩
theorem lw_p32 : lw_okq (⟨"TaskShare", "planByRule", "()V"⟩, 7) := ⟨⟨by decide +kernel, by decide +kernel⟩, List.mem_of_getElem? (i := 25) (by decide +kernel), List.mem_of_getElem? (i := 665) (by decide +kernel), List.mem_of_getElem? (i := 666) (by decide +kernel)⟩
theorem lw_p33 : lw_okq (⟨"TaskShare", "sortOpenByDue", "()V"⟩, 7) := ⟨⟨by decide +kernel, by decide +kernel⟩, List.mem_of_getElem? (i := 25) (by decide +kernel), List.mem_of_getElem? (i := 669) (by decide +kernel), List.mem_of_getElem? (i := 670) (by decide +kernel)⟩
theorem lw_p34 : lw_okq (⟨"java/util/ArrayList", "rangeCheckForAdd", "(I)V"⟩, 3) := ⟨⟨by decide +kernel, by decide +kernel⟩, List.mem_of_getElem? (i := 33) (by decide +kernel), List.mem_of_getElem? (i := 678) (by decide +kernel), List.mem_of_getElem? (i := 679) (by decide +kernel)⟩
theorem lw_p35 : lw_okq (⟨"TaskShare", "addToBestRow", "(LTaskShare$Task;)V"⟩, 7) := ⟨⟨by decide +kernel, by decide +kernel⟩, List.mem_of_getElem? (i := 25) (by decide +kernel), List.mem_of_getElem? (i := 683) (by decide +kernel), List.mem_of_getElem? (i := 684) (by decide +kernel)⟩
theorem lw_p36 : lw_okq (⟨"TaskShare$Person", "addToRow", "(LTaskShare$Task;)V"⟩, 14) := ⟨⟨by decide +kernel, by decide +kernel⟩, List.mem_of_getElem? (i := 167) (by decide +kernel), List.mem_of_getElem? (i := 688) (by decide +kernel), List.mem_of_getElem? (i := 689) (by decide +kernel)⟩
theorem lw_p37 : lw_okq (⟨"TaskShare", "needAtWork", "(LTaskShare$Person;)V"⟩, 7) := ⟨⟨by decide +kernel, by decide +kernel⟩, List.mem_of_getElem? (i := 25) (by decide +kernel), List.mem_of_getElem? (i := 699) (by decide +kernel), List.mem_of_getElem? (i := 700) (by decide +kernel)⟩
theorem lw_p38 : lw_okq (⟨"TaskShare", "plannedTask", "(II)I"⟩, 7) := ⟨⟨by decide +kernel, by decide +kernel⟩, List.mem_of_getElem? (i := 25) (by decide +kernel), List.mem_of_getElem? (i := 705) (by decide +kernel), List.mem_of_getElem? (i := 706) (by decide +kernel)⟩
theorem lw_p39 : lw_okq (⟨"TaskShare", "plannedBefore", "(LTaskShare$Task;)I"⟩, 7) := ⟨⟨by decide +kernel, by decide +kernel⟩, List.mem_of_getElem? (i := 25) (by decide +kernel), List.mem_of_getElem? (i := 709) (by decide +kernel), List.mem_of_getElem? (i := 710) (by decide +kernel)⟩
theorem lw_p40 : lw_okq (⟨"TaskShareModel", "isPerson", "(I)Z"⟩, 30) := ⟨⟨by decide +kernel, by decide +kernel⟩, List.mem_of_getElem? (i := 767) (by decide +kernel), List.mem_of_getElem? (i := 881) (by decide +kernel), List.mem_of_getElem? (i := 882) (by decide +kernel)⟩
theorem lw_p41 : lw_okq (⟨"TaskShareModel", "isTask", "(I)Z"⟩, 30) := ⟨⟨by decide +kernel, by decide +kernel⟩, List.mem_of_getElem? (i := 767) (by decide +kernel), List.mem_of_getElem? (i := 904) (by decide +kernel), List.mem_of_getElem? (i := 905) (by decide +kernel)⟩
theorem lw_p42 : lw_okq (⟨"TaskShareModel", "hasRefused", "(II)Z"⟩, 30) := ⟨⟨by decide +kernel, by decide +kernel⟩, List.mem_of_getElem? (i := 767) (by decide +kernel), List.mem_of_getElem? (i := 908) (by decide +kernel), List.mem_of_getElem? (i := 909) (by decide +kernel)⟩
theorem lw_p43 : lw_okq (⟨"TaskShareModel", "free", "(I)V"⟩, 30) := ⟨⟨by decide +kernel, by decide +kernel⟩, List.mem_of_getElem? (i := 767) (by decide +kernel), List.mem_of_getElem? (i := 912) (by decide +kernel), List.mem_of_getElem? (i := 913) (by decide +kernel)⟩
theorem lw_p44 : lw_okq (⟨"TaskShareModel", "aloneAt", "(II)I"⟩, 30) := ⟨⟨by decide +kernel, by decide +kernel⟩, List.mem_of_getElem? (i := 767) (by decide +kernel), List.mem_of_getElem? (i := 920) (by decide +kernel), List.mem_of_getElem? (i := 921) (by decide +kernel)⟩
theorem lw_p45 : lw_okq (⟨"TaskShareModel", "readyAt", "(I)I"⟩, 30) := ⟨⟨by decide +kernel, by decide +kernel⟩, List.mem_of_getElem? (i := 767) (by decide +kernel), List.mem_of_getElem? (i := 924) (by decide +kernel), List.mem_of_getElem? (i := 925) (by decide +kernel)⟩
theorem lw_p46 : lw_okq (⟨"TaskShareModel", "startOf", "(IIII)I"⟩, 30) := ⟨⟨by decide +kernel, by decide +kernel⟩, List.mem_of_getElem? (i := 767) (by decide +kernel), List.mem_of_getElem? (i := 931) (by decide +kernel), List.mem_of_getElem? (i := 932) (by decide +kernel)⟩
theorem lw_p47 : lw_okq (⟨"TaskShareModel", "inState", "(I)I"⟩, 30) := ⟨⟨by decide +kernel, by decide +kernel⟩, List.mem_of_getElem? (i := 767) (by decide +kernel), List.mem_of_getElem? (i := 943) (by decide +kernel), List.mem_of_getElem? (i := 944) (by decide +kernel)⟩
def lw_privs_3 : List (MethodName × Nat) := [(⟨"TaskShare", "planByRule", "()V"⟩, 7), (⟨"TaskShare", "sortOpenByDue", "()V"⟩, 7), (⟨"java/util/ArrayList", "rangeCheckForAdd", "(I)V"⟩, 3), (⟨"TaskShare", "addToBestRow", "(LTaskShare$Task;)V"⟩, 7), (⟨"TaskShare$Person", "addToRow", "(LTaskShare$Task;)V"⟩, 14), (⟨"TaskShare", "needAtWork", "(LTaskShare$Person;)V"⟩, 7), (⟨"TaskShare", "plannedTask", "(II)I"⟩, 7), (⟨"TaskShare", "plannedBefore", "(LTaskShare$Task;)I"⟩, 7), (⟨"TaskShareModel", "isPerson", "(I)Z"⟩, 30), (⟨"TaskShareModel", "isTask", "(I)Z"⟩, 30), (⟨"TaskShareModel", "hasRefused", "(II)Z"⟩, 30), (⟨"TaskShareModel", "free", "(I)V"⟩, 30), (⟨"TaskShareModel", "aloneAt", "(II)I"⟩, 30), (⟨"TaskShareModel", "readyAt", "(I)I"⟩, 30), (⟨"TaskShareModel", "startOf", "(IIII)I"⟩, 30), (⟨"TaskShareModel", "inState", "(I)I"⟩, 30)]
theorem lw_r3 : ∀ q ∈ lw_privs_3, lw_okq q := List.forall_mem_cons.mpr ⟨lw_p32, List.forall_mem_cons.mpr ⟨lw_p33, List.forall_mem_cons.mpr ⟨lw_p34, List.forall_mem_cons.mpr ⟨lw_p35, List.forall_mem_cons.mpr ⟨lw_p36, List.forall_mem_cons.mpr ⟨lw_p37, List.forall_mem_cons.mpr ⟨lw_p38, List.forall_mem_cons.mpr ⟨lw_p39, List.forall_mem_cons.mpr ⟨lw_p40, List.forall_mem_cons.mpr ⟨lw_p41, List.forall_mem_cons.mpr ⟨lw_p42, List.forall_mem_cons.mpr ⟨lw_p43, List.forall_mem_cons.mpr ⟨lw_p44, List.forall_mem_cons.mpr ⟨lw_p45, List.forall_mem_cons.mpr ⟨lw_p46, List.forall_mem_cons.mpr ⟨lw_p47, fun _ h => absurd h List.not_mem_nil⟩⟩⟩⟩⟩⟩⟩⟩⟩⟩⟩⟩⟩⟩⟩⟩
theorem lw_p48 : lw_okq (⟨"TaskShareModel", "lateBy", "(II)I"⟩, 30) := ⟨⟨by decide +kernel, by decide +kernel⟩, List.mem_of_getElem? (i := 767) (by decide +kernel), List.mem_of_getElem? (i := 947) (by decide +kernel), List.mem_of_getElem? (i := 948) (by decide +kernel)⟩
theorem lw_p49 : lw_okq (⟨"TaskShareModel", "planByRule", "()V"⟩, 30) := ⟨⟨by decide +kernel, by decide +kernel⟩, List.mem_of_getElem? (i := 767) (by decide +kernel), List.mem_of_getElem? (i := 951) (by decide +kernel), List.mem_of_getElem? (i := 952) (by decide +kernel)⟩
theorem lw_p50 : lw_okq (⟨"TaskShareModel", "planOne", "(I)V"⟩, 30) := ⟨⟨by decide +kernel, by decide +kernel⟩, List.mem_of_getElem? (i := 767) (by decide +kernel), List.mem_of_getElem? (i := 955) (by decide +kernel), List.mem_of_getElem? (i := 956) (by decide +kernel)⟩
theorem lw_p51 : lw_okq (⟨"TaskShareModel", "may", "(II)Z"⟩, 30) := ⟨⟨by decide +kernel, by decide +kernel⟩, List.mem_of_getElem? (i := 767) (by decide +kernel), List.mem_of_getElem? (i := 959) (by decide +kernel), List.mem_of_getElem? (i := 960) (by decide +kernel)⟩
theorem lw_p52 : lw_okq (⟨"TaskShareModel", "behind", "(II)I"⟩, 30) := ⟨⟨by decide +kernel, by decide +kernel⟩, List.mem_of_getElem? (i := 767) (by decide +kernel), List.mem_of_getElem? (i := 963) (by decide +kernel), List.mem_of_getElem? (i := 964) (by decide +kernel)⟩
theorem lw_p53 : lw_okq (⟨"TaskShareModel", "load", "(I)I"⟩, 30) := ⟨⟨by decide +kernel, by decide +kernel⟩, List.mem_of_getElem? (i := 767) (by decide +kernel), List.mem_of_getElem? (i := 967) (by decide +kernel), List.mem_of_getElem? (i := 968) (by decide +kernel)⟩
theorem lw_p54 : lw_okq (⟨"TaskShareModel", "planExactly", "()V"⟩, 30) := ⟨⟨by decide +kernel, by decide +kernel⟩, List.mem_of_getElem? (i := 767) (by decide +kernel), List.mem_of_getElem? (i := 971) (by decide +kernel), List.mem_of_getElem? (i := 972) (by decide +kernel)⟩
theorem lw_p55 : lw_okq (⟨"TaskShareModel", "findOrder", "(II)V"⟩, 30) := ⟨⟨by decide +kernel, by decide +kernel⟩, List.mem_of_getElem? (i := 767) (by decide +kernel), List.mem_of_getElem? (i := 975) (by decide +kernel), List.mem_of_getElem? (i := 976) (by decide +kernel)⟩
theorem lw_p56 : lw_okq (⟨"TaskShareModel", "tryOrder", "(II)I"⟩, 30) := ⟨⟨by decide +kernel, by decide +kernel⟩, List.mem_of_getElem? (i := 767) (by decide +kernel), List.mem_of_getElem? (i := 979) (by decide +kernel), List.mem_of_getElem? (i := 980) (by decide +kernel)⟩
theorem lw_p57 : lw_okq (⟨"TaskShareModel", "startsAreLess", "(II)Z"⟩, 30) := ⟨⟨by decide +kernel, by decide +kernel⟩, List.mem_of_getElem? (i := 767) (by decide +kernel), List.mem_of_getElem? (i := 983) (by decide +kernel), List.mem_of_getElem? (i := 984) (by decide +kernel)⟩
theorem lw_p58 : lw_okq (⟨"TaskShareModel", "nextOrder", "(I)Z"⟩, 30) := ⟨⟨by decide +kernel, by decide +kernel⟩, List.mem_of_getElem? (i := 767) (by decide +kernel), List.mem_of_getElem? (i := 987) (by decide +kernel), List.mem_of_getElem? (i := 988) (by decide +kernel)⟩
theorem lw_p59 : lw_okq (⟨"TaskShareModel", "swap", "(II)V"⟩, 30) := ⟨⟨by decide +kernel, by decide +kernel⟩, List.mem_of_getElem? (i := 767) (by decide +kernel), List.mem_of_getElem? (i := 991) (by decide +kernel), List.mem_of_getElem? (i := 992) (by decide +kernel)⟩
theorem lw_p60 : lw_okq (⟨"TaskShareModel", "costOf", "()I"⟩, 30) := ⟨⟨by decide +kernel, by decide +kernel⟩, List.mem_of_getElem? (i := 767) (by decide +kernel), List.mem_of_getElem? (i := 995) (by decide +kernel), List.mem_of_getElem? (i := 996) (by decide +kernel)⟩
theorem lw_p61 : lw_okq (⟨"TaskShareModel", "setOf", "(I)I"⟩, 30) := ⟨⟨by decide +kernel, by decide +kernel⟩, List.mem_of_getElem? (i := 767) (by decide +kernel), List.mem_of_getElem? (i := 999) (by decide +kernel), List.mem_of_getElem? (i := 1000) (by decide +kernel)⟩
theorem lw_p62 : lw_okq (⟨"TaskShareModel", "planned", "(II)I"⟩, 30) := ⟨⟨by decide +kernel, by decide +kernel⟩, List.mem_of_getElem? (i := 767) (by decide +kernel), List.mem_of_getElem? (i := 1015) (by decide +kernel), List.mem_of_getElem? (i := 1016) (by decide +kernel)⟩
theorem lw_p63 : lw_okq (⟨"TaskShareModel", "doneBy", "(I)I"⟩, 30) := ⟨⟨by decide +kernel, by decide +kernel⟩, List.mem_of_getElem? (i := 767) (by decide +kernel), List.mem_of_getElem? (i := 1023) (by decide +kernel), List.mem_of_getElem? (i := 1024) (by decide +kernel)⟩
def lw_privs_4 : List (MethodName × Nat) := [(⟨"TaskShareModel", "lateBy", "(II)I"⟩, 30), (⟨"TaskShareModel", "planByRule", "()V"⟩, 30), (⟨"TaskShareModel", "planOne", "(I)V"⟩, 30), (⟨"TaskShareModel", "may", "(II)Z"⟩, 30), (⟨"TaskShareModel", "behind", "(II)I"⟩, 30), (⟨"TaskShareModel", "load", "(I)I"⟩, 30), (⟨"TaskShareModel", "planExactly", "()V"⟩, 30), (⟨"TaskShareModel", "findOrder", "(II)V"⟩, 30), (⟨"TaskShareModel", "tryOrder", "(II)I"⟩, 30), (⟨"TaskShareModel", "startsAreLess", "(II)Z"⟩, 30), (⟨"TaskShareModel", "nextOrder", "(I)Z"⟩, 30), (⟨"TaskShareModel", "swap", "(II)V"⟩, 30), (⟨"TaskShareModel", "costOf", "()I"⟩, 30), (⟨"TaskShareModel", "setOf", "(I)I"⟩, 30), (⟨"TaskShareModel", "planned", "(II)I"⟩, 30), (⟨"TaskShareModel", "doneBy", "(I)I"⟩, 30)]
theorem lw_r4 : ∀ q ∈ lw_privs_4, lw_okq q := List.forall_mem_cons.mpr ⟨lw_p48, List.forall_mem_cons.mpr ⟨lw_p49, List.forall_mem_cons.mpr ⟨lw_p50, List.forall_mem_cons.mpr ⟨lw_p51, List.forall_mem_cons.mpr ⟨lw_p52, List.forall_mem_cons.mpr ⟨lw_p53, List.forall_mem_cons.mpr ⟨lw_p54, List.forall_mem_cons.mpr ⟨lw_p55, List.forall_mem_cons.mpr ⟨lw_p56, List.forall_mem_cons.mpr ⟨lw_p57, List.forall_mem_cons.mpr ⟨lw_p58, List.forall_mem_cons.mpr ⟨lw_p59, List.forall_mem_cons.mpr ⟨lw_p60, List.forall_mem_cons.mpr ⟨lw_p61, List.forall_mem_cons.mpr ⟨lw_p62, List.forall_mem_cons.mpr ⟨lw_p63, fun _ h => absurd h List.not_mem_nil⟩⟩⟩⟩⟩⟩⟩⟩⟩⟩⟩⟩⟩⟩⟩⟩
def lw_privs : List (MethodName × Nat) := lw_privs_1 ++ (lw_privs_2 ++ (lw_privs_3 ++ (lw_privs_4)))
def lw_tbl : List Cond := k2_sels lw_privs ++ tables_1
theorem lw_privs_ok : ∀ q ∈ lw_privs, lw_okq q := by
  show ∀ q ∈ lw_privs_1 ++ (lw_privs_2 ++ (lw_privs_3 ++ (lw_privs_4))), lw_okq q
  exact List.forall_mem_append.mpr ⟨lw_r1, List.forall_mem_append.mpr ⟨lw_r2, List.forall_mem_append.mpr ⟨lw_r3, lw_r4⟩⟩⟩
-- ===== end of PART A; then your names; then what follows =====
end
section
/-! 02.exc: rows about a throw, out of the printed names (their section on exceptions), with the namespace written out -/
section Ends
variable {p : Program} {l : Launch} {e : Env} {R : Room} {s : State} {m : MethodId} {args : Array Value} {below : List Frame} {meth : Method} {c : Code} {H : Heap} {locs : List Loc} {cells slots : Nat} {Q : State → Prop}
variable {mc ms : Nat} {free : Addr → Prop} {A0 A1 : Nat → Prop} {H0 : Heap} {a : Array Value} {ls : Array Slot} {st0 rest : List Value}
theorem vx_frame {U : State} {k n : Nat} (h : s.sameButNew ({ U with vm := s.vm } : State) locs k n) : s.heap.size ≤ U.heap.size ∧ ∀ q : Nat, q < s.heap.size → (∀ z ∈ locs, z.base ≠ q) → U.heap[q]? = s.heap[q]? := by
  obtain ⟨-, h2, -, -, -, h6⟩ := h
  refine ⟨h2, fun q hq hz => ?_⟩
  obtain ⟨c9, e1, e2, e3, e4⟩ := h6 q _ (Array.getElem?_eq_getElem hq)
  have hs : c9.slots = (s.heap[q]).slots := Array.ext_getElem? fun i => e4 i fun hm => hz _ hm rfl
  have h9 : c9 = s.heap[q] := by
    rw [hs] at e2
    exact e2
  have e5 : U.heap[q]? = some c9 := e1
  rw [e5, h9, Array.getElem?_eq_getElem hq]
/-- the words of a throw but the four that speak of the heap -/
def vx_no (w : Cond) : Bool := decide (w ≠ .isRef (.static Bundle.tN "UNASSIGNED_STACK" Bundle.steD)) && decide (w ≠ .isRef (.static Bundle.tN "SUPPRESSED_SENTINEL" Bundle.listD)) && decide (w ≠ .laysStatic Bundle.tN "UNASSIGNED_STACK" Bundle.steD) && decide (w ≠ .laysStatic Bundle.tN "SUPPRESSED_SENTINEL" Bundle.listD)
def vx_at0 (own : String) (ic : Nat) (X : String) (names : List String) : List Cond := (Bundle.ownAtoms0 own ic X names).filter vx_no
def vx_atS (own : String) (ic : Nat) (X : String) (names : List String) : List Cond := (Bundle.ownAtoms own ic X names).filter vx_no
/-- a word that the tables alone decide, or a good one -/
def vx_ot (w : Cond) : Bool := w.onTables || goodWord w
theorem vx_ot_at {args a' : Array Value} {s U : State} {w : Cond} (hW : s.WarmedH U.vm) (hvm : s.vm = U.vm) (hg : vx_ot w = true) (h : w.before args s = true) : w.before a' U = true := by
  simp only [vx_ot, Bool.or_eq_true] at hg
  rcases hg with hg | hg
  · exact va_tabs hg hvm h
  · exact word_at hW (good_of_word hg) h
/-- a list's words: the good ones out of the method's own list, the others by premises of their own -/
theorem vx_hat {args : Array Value} {s : State} {L B : List Cond} (h1 : ∀ w ∈ L.filter goodWord, w.before args s = true) (h2 : ∀ w ∈ L.filter (fun w => !goodWord w), w ∈ B) (h3 : ∀ w ∈ B, w.before args s = true) : ∀ w ∈ L, w.before args s = true := by
  intro w hw
  by_cases g : goodWord w = true
  · exact h1 w (List.mem_filter.mpr ⟨hw, g⟩)
  · refine h3 w (h2 w (List.mem_filter.mpr ⟨hw, ?_⟩))
    show (!goodWord w) = true
    cases hgw : goodWord w
    · rfl
    · exact absurd hgw g
theorem vx_c {args : Array Value} {s : State} {w : Cond} {B : List Cond} (h : w.before args s = true) (t : ∀ w ∈ B, w.before args s = true) : ∀ w' ∈ w :: B, w'.before args s = true := fun w' h' => (List.mem_cons.mp h').elim (fun e => by rw [e]; exact h) (t w')
theorem vx_n {args : Array Value} {s : State} : ∀ w ∈ ([] : List Cond), w.before args s = true := fun _ h => nomatch h
theorem vx_own {args : Array Value} {s : State} {L : List Cond} (h1 : ∀ w ∈ L.filter vx_no, w.before args s = true)
    (hU : (Cond.isRef (.static Bundle.tN "UNASSIGNED_STACK" Bundle.steD)).before args s = true) (hN : (Cond.isRef (.static Bundle.tN "SUPPRESSED_SENTINEL" Bundle.listD)).before args s = true)
    (lU : (Cond.laysStatic Bundle.tN "UNASSIGNED_STACK" Bundle.steD).before args s = true) (lN : (Cond.laysStatic Bundle.tN "SUPPRESSED_SENTINEL" Bundle.listD).before args s = true) : ∀ w ∈ L, w.before args s = true := by
  intro w hw
  by_cases e1 : w = .isRef (.static Bundle.tN "UNASSIGNED_STACK" Bundle.steD)
  · rw [e1]; exact hU
  · by_cases e2 : w = .isRef (.static Bundle.tN "SUPPRESSED_SENTINEL" Bundle.listD)
    · rw [e2]; exact hN
    · by_cases e3 : w = .laysStatic Bundle.tN "UNASSIGNED_STACK" Bundle.steD
      · rw [e3]; exact lU
      · by_cases e4 : w = .laysStatic Bundle.tN "SUPPRESSED_SENTINEL" Bundle.listD
        · rw [e4]; exact lN
        · exact h1 w (List.mem_filter.mpr ⟨hw, by unfold vx_no; rw [decide_eq_true e1, decide_eq_true e2, decide_eq_true e3, decide_eq_true e4]; rfl⟩)
/-- where a static field lies, its class's statics cell in H -/
def vx_L (C n d : String) (A : Nat → Prop) (U : State) (H : Heap) : Prop := ∃ (c : ClassId) (k : Class) (i : Nat) (f : Field) (a : Nat) (cell : Cell), U.vm.findClass C = some c ∧ U.fieldFound? C n d = some (c, k, i, f) ∧ f.isStatic = true ∧ k.statics = some a ∧ H[a]? = some cell ∧ cell.vm.isStatics = true ∧ cell.cls = c ∧ f.slot < cell.slots.size ∧ k.staticTypes[f.slot]? = some f.type ∧ ¬ A a
theorem vx_L.moved {C n d : String} {A : Nat → Prop} {u U : State} {H : Heap} (hvm : u.vm.Alike U.vm) (h : vx_L C n d A u H) : vx_L C n d A U H := by
  obtain ⟨c, k, i, f, a, cell, h1, h2, h3, h4, h5, h6, h7, h8, h9, h10⟩ := h
  obtain ⟨k', hi', he⟩ := State.fieldFound?_setVm hvm h2
  exact ⟨c, k', i, f, a, cell, by rw [hvm.findClass]; exact h1, hi', h3, by rw [he]; exact h4, h5, h6, h7, h8, by rw [he]; exact h9, h10⟩
theorem vx_L.kept {C n d : String} {A : Nat → Prop} {U : State} {H H1 : Heap} (h : vx_L C n d A U H) (hq : ∀ a : Nat, a < H.size → ¬ A a → H1[a]? = H[a]?) : vx_L C n d A U H1 := by
  obtain ⟨c, k, i, f, a, cell, h1, h2, h3, h4, h5, h6, h7, h8, h9, h10⟩ := h
  exact ⟨c, k, i, f, a, cell, h1, h2, h3, h4, by rw [hq a (Array.getElem?_eq_some_iff.mp h5).1 h10]; exact h5, h6, h7, h8, h9, h10⟩
theorem vx_L.narrow {C n d : String} {A B : Nat → Prop} {U : State} {H : Heap} (h : vx_L C n d A U H) (hAB : ∀ q, B q → A q) : vx_L C n d B U H := by
  obtain ⟨c, k, i, f, a, cell, h1, h2, h3, h4, h5, h6, h7, h8, h9, h10⟩ := h
  exact ⟨c, k, i, f, a, cell, h1, h2, h3, h4, h5, h6, h7, h8, h9, fun z => h10 (hAB _ z)⟩
theorem vx_L.word {C n d : String} {A : Nat → Prop} {s : State} {args : Array Value} (h : vx_L C n d A s s.heap) : (Cond.laysStatic C n d).before args s = true := by
  obtain ⟨c, k, i, f, a, cell, h1, h2, h3, h4, h5, h6, h7, h8, h9, -⟩ := h
  show (Cond.laysStatic C n d).holds args s none s [] = true
  exact Cond.laysStatic_of h1 h2 h3 h4 h5 h6 h7 h8 h9
/-- .. and what it holds: null or some reference -/
def vx_Zq (C n d : String) (A : Nat → Prop) (U : State) (H : Heap) : Prop := va_Zq C n d A U H ∧ vx_L C n d A U H
theorem vx_Zq.moved {C n d : String} {A : Nat → Prop} {u U : State} {H : Heap} (hvm : u.vm.Alike U.vm) (h : vx_Zq C n d A u H) : vx_Zq C n d A U H := ⟨va_Zq.moved hvm h.1, vx_L.moved hvm h.2⟩
theorem vx_Zq.kept {C n d : String} {A : Nat → Prop} {U : State} {H H1 : Heap} (h : vx_Zq C n d A U H) (hq : ∀ a : Nat, a < H.size → ¬ A a → H1[a]? = H[a]?) : vx_Zq C n d A U H1 := ⟨va_Zq.kept h.1 hq, vx_L.kept h.2 hq⟩
theorem vx_Zq.narrow {C n d : String} {A B : Nat → Prop} {U : State} {H : Heap} (h : vx_Zq C n d A U H) (hAB : ∀ q, B q → A q) : vx_Zq C n d B U H := ⟨va_Zq.narrow h.1 hAB, vx_L.narrow h.2 hAB⟩
theorem vx_Zqof {args : Array Value} {s : State} {C n d : String} {A : Nat → Prop} (hl : (Cond.laysStatic C n d).before args s = true) (hini : (Cond.initialized C).before args s = true) (h : (Cond.isRef (.static C n d)).before args s = true) (hA : ∀ a : Nat, a < s.heap.size → ¬ A a) : vx_Zq C n d A s s.heap := by
  refine ⟨va_Zqof hl hini h hA, ?_⟩
  obtain ⟨c, k, i, f, a, cell, h1, h2, h3, h4, h5, h6, h7, h8, h9⟩ := Cond.laysStatic_spec hl
  exact ⟨c, k, i, f, a, cell, h1, h2, h3, h4, h5, h6, h7, h8, h9, hA a (Array.getElem?_eq_some_iff.mp h5).1⟩
theorem vx_isRef {C n d : String} {v : Value} {A : Nat → Prop} {s : State} {args : Array Value} (h : va_Z C n d v A s s.heap) (hv : v.isRef = true) : (Cond.isRef (.static C n d)).before args s = true := by
  obtain ⟨cf, kf, fi, f, a, cell, h1, h2, h3, h4, h5, h6, h7, -⟩ := h
  have he : (Term.static C n d).eval args s none [] s = some v := by
    simp [Term.eval, State.fieldNamed?, h1, h2, h4, h5, h6, h7]
  simp only [Cond.before, Cond.holds, Cond.value, he]
  cases v <;> simp_all [Value.isRef]
theorem vx_isRefq {C n d : String} {A : Nat → Prop} {s : State} {args : Array Value} (h : va_Zq C n d A s s.heap) : (Cond.isRef (.static C n d)).before args s = true := by
  rcases h with h | ⟨t, h⟩
  · exact vx_isRef h rfl
  · exact vx_isRef h rfl
/-- the same frame, seen from here: as if the method were called anew in this heap -/
theorem vx_rebase {T : State} (X : Stand p l e R s m args below meth c T locs cells slots) {R' : Room} (hf : R'.frames ≤ R.frames) (hl : R'.locals ≤ R.locals) (hc : cells + R'.cells ≤ R.cells) (hs : slots + R'.slots ≤ R.slots) :
    Stand p l e R' ((T.setVm s.vm).setFrames (.invoking m args :: below)) m args below meth c T [] 0 0 := by
  have htop : (T.setVm s.vm).topJava?.isSome := X.here.top
  have hF : ((T.setVm s.vm).setFrames (.invoking m args :: below)).frames = .invoking m args :: below := State.frames_setFrames _ (State.cur_lt_of_top htop)
  obtain ⟨g₀, hg0⟩ := Option.isSome_iff_exists.mp htop
  obtain ⟨r, hr⟩ := State.topJava?_eq_some.mp hg0
  have hl9 : e.platform.stackLimits (T.setVm s.vm).me = e.platform.stackLimits s.me := X.limits
  have hb9 : (T.setVm s.vm).me.stackBytes = s.me.stackBytes := X.bytes
  refine ⟨X.admits, X.cas, X.clock, hF, ?_, X.hears, X.method, X.code, X.here, X.tail, X.warmed, ?_, ?_, ?_⟩
  · have h := X.room
    have hU : ((T.setVm s.vm).setFrames (.invoking m args :: below)).localsInUse = s.localsInUse := by
      rw [State.localsInUse_invoking hF (meth := meth) (c := c) X.method X.code, State.localsInUse_invoking X.frames X.method X.code]
    simp only [State.hasRoom, Bool.and_eq_true, decide_eq_true_eq] at h ⊢
    obtain ⟨⟨⟨⟨h1, h2, h3, h4, h5, h6⟩, h7⟩, h8⟩, h9⟩ := h
    rw [X.frames, List.length_cons] at h2 h3
    have q1 := X.heapSize
    have q2 := X.used
    simp only [hF, hU, List.length_cons, State.stackLimits_setFrames, State.stackBytes_setFrames, hl9, hb9]
    refine ⟨⟨⟨⟨by omega, by omega, by omega, by omega, by omega, h6⟩, ?_⟩, ?_⟩, X.book⟩
    · show T.heap.size + R'.cells ≤ e.platform.maxCells
      omega
    · show T.slotsUsed + R'.slots ≤ e.platform.maxSlots
      omega
  · rw [State.stackLimits_setFrames]; rfl
  · rw [State.stackBytes_setFrames]; rfl
  · refine ⟨?_, Nat.le_refl _, Nat.le_refl _, ?_, ?_, fun a c9 h9 => ⟨c9, h9, rfl, rfl, fun _ _ => rfl⟩⟩
    · obtain ⟨t, ht, -⟩ := State.frames_cons hr
      show T.setVm s.vm = { ((T.setVm s.vm).setFrames (.invoking m args :: below)).setFrames (T.setVm s.vm).frames with heap := T.heap, slotsUsed := T.slotsUsed }
      rw [State.setFrames_setFrames, State.setFrames_self ht]
      rfl
    · show T.slotsUsed = T.slotsUsed + ((T.heap.toList.drop T.heap.size).map (·.slots.size)).sum
      rw [List.drop_eq_nil_of_le (Nat.le_of_eq Array.length_toList)]
      rfl
    · show ((T.heap.toList.drop T.heap.size).map (·.slots.size)).sum ≤ 0
      rw [List.drop_eq_nil_of_le (Nat.le_of_eq Array.length_toList)]
      exact Nat.le_refl _
end Ends
end
section
/-! 03.dec: an instruction out of a method's table -/
theorem jx_dec {b : ByteArray} {T : List (Nat × Instr × Nat)} (h : T.all (fun q => decide (decode b q.1 = .ok q.2)) = true) (i : Nat) {pc : Nat} {r : Instr × Nat} (hi : T[i]? = some (pc, r)) : decode b pc = .ok r := by
  have h1 := List.all_eq_true.mp h _ (List.mem_of_getElem? hi)
  exact of_decide_eq_true h1
end
section
/-! 04.0A: the instructions -/
def c_A_init : List (Nat × Instr × Nat) := [(0, .aload_n 0, 1), (1, .invokespecial 1, 3), (4, .aload_n 0, 1), (5, .getstatic 39, 3), (8, .putfield 9, 3), (11, .return_, 1)]
theorem c_A_init_ok : (c_A_init).all (fun q => decide (decode prog_23_method_2_code q.1 = .ok q.2)) = true := by decide +kernel
theorem d_A_init_0 : decode prog_23_method_2_code 0 = .ok (.aload_n 0, 1) := jx_dec c_A_init_ok 0 rfl
theorem d_A_init_1 : decode prog_23_method_2_code 1 = .ok (.invokespecial 1, 3) := jx_dec c_A_init_ok 1 rfl
theorem d_A_init_4 : decode prog_23_method_2_code 4 = .ok (.aload_n 0, 1) := jx_dec c_A_init_ok 2 rfl
theorem d_A_init_5 : decode prog_23_method_2_code 5 = .ok (.getstatic 39, 3) := jx_dec c_A_init_ok 3 rfl
theorem d_A_init_8 : decode prog_23_method_2_code 8 = .ok (.putfield 9, 3) := jx_dec c_A_init_ok 4 rfl
theorem d_A_init_11 : decode prog_23_method_2_code 11 = .ok (.return_, 1) := jx_dec c_A_init_ok 5 rfl
def c_A_size : List (Nat × Instr × Nat) := [(0, .aload_n 0, 1), (1, .getfield 48, 3), (4, .ireturn, 1)]
theorem c_A_size_ok : (c_A_size).all (fun q => decide (decode prog_23_method_8_code q.1 = .ok q.2)) = true := by decide +kernel
theorem d_A_size_0 : decode prog_23_method_8_code 0 = .ok (.aload_n 0, 1) := jx_dec c_A_size_ok 0 rfl
theorem d_A_size_1 : decode prog_23_method_8_code 1 = .ok (.getfield 48, 3) := jx_dec c_A_size_ok 1 rfl
theorem d_A_size_4 : decode prog_23_method_8_code 4 = .ok (.ireturn, 1) := jx_dec c_A_size_ok 2 rfl
def c_A_get : List (Nat × Instr × Nat) := [(0, .iload_n 1, 1), (1, .aload_n 0, 1), (2, .getfield 48, 3), (5, .invokestatic 118, 3), (8, .pop, 1), (9, .aload_n 0, 1), (10, .iload_n 1, 1), (11, .invokevirtual 123, 3), (14, .areturn, 1)]
theorem c_A_get_ok : (c_A_get).all (fun q => decide (decode prog_23_method_20_code q.1 = .ok q.2)) = true := by decide +kernel
theorem d_A_get_0 : decode prog_23_method_20_code 0 = .ok (.iload_n 1, 1) := jx_dec c_A_get_ok 0 rfl
theorem d_A_get_1 : decode prog_23_method_20_code 1 = .ok (.aload_n 0, 1) := jx_dec c_A_get_ok 1 rfl
theorem d_A_get_2 : decode prog_23_method_20_code 2 = .ok (.getfield 48, 3) := jx_dec c_A_get_ok 2 rfl
theorem d_A_get_5 : decode prog_23_method_20_code 5 = .ok (.invokestatic 118, 3) := jx_dec c_A_get_ok 3 rfl
theorem d_A_get_8 : decode prog_23_method_20_code 8 = .ok (.pop, 1) := jx_dec c_A_get_ok 4 rfl
theorem d_A_get_9 : decode prog_23_method_20_code 9 = .ok (.aload_n 0, 1) := jx_dec c_A_get_ok 5 rfl
theorem d_A_get_10 : decode prog_23_method_20_code 10 = .ok (.iload_n 1, 1) := jx_dec c_A_get_ok 6 rfl
theorem d_A_get_11 : decode prog_23_method_20_code 11 = .ok (.invokevirtual 123, 3) := jx_dec c_A_get_ok 7 rfl
theorem d_A_get_14 : decode prog_23_method_20_code 14 = .ok (.areturn, 1) := jx_dec c_A_get_ok 8 rfl
def c_A_elementData : List (Nat × Instr × Nat) := [(0, .aload_n 0, 1), (1, .getfield 9, 3), (4, .iload_n 1, 1), (5, .aaload, 1), (6, .areturn, 1)]
theorem c_A_elementData_ok : (c_A_elementData).all (fun q => decide (decode prog_23_method_18_code q.1 = .ok q.2)) = true := by decide +kernel
theorem d_A_elementData_0 : decode prog_23_method_18_code 0 = .ok (.aload_n 0, 1) := jx_dec c_A_elementData_ok 0 rfl
theorem d_A_elementData_1 : decode prog_23_method_18_code 1 = .ok (.getfield 9, 3) := jx_dec c_A_elementData_ok 1 rfl
theorem d_A_elementData_4 : decode prog_23_method_18_code 4 = .ok (.iload_n 1, 1) := jx_dec c_A_elementData_ok 2 rfl
theorem d_A_elementData_5 : decode prog_23_method_18_code 5 = .ok (.aaload, 1) := jx_dec c_A_elementData_ok 3 rfl
theorem d_A_elementData_6 : decode prog_23_method_18_code 6 = .ok (.areturn, 1) := jx_dec c_A_elementData_ok 4 rfl
def c_A_add : List (Nat × Instr × Nat) := [(0, .aload_n 0, 1), (1, .dup, 1), (2, .getfield 63, 3), (5, .iconst 1, 1), (6, .iadd, 1), (7, .putfield 63, 3), (10, .aload_n 0, 1), (11, .aload_n 1, 1), (12, .aload_n 0, 1), (13, .getfield 9, 3), (16, .aload_n 0, 1), (17, .getfield 48, 3), (20, .invokevirtual 131, 3), (23, .iconst 1, 1), (24, .ireturn, 1)]
theorem c_A_add_ok : (c_A_add).all (fun q => decide (decode prog_23_method_25_code q.1 = .ok q.2)) = true := by decide +kernel
theorem d_A_add_0 : decode prog_23_method_25_code 0 = .ok (.aload_n 0, 1) := jx_dec c_A_add_ok 0 rfl
theorem d_A_add_1 : decode prog_23_method_25_code 1 = .ok (.dup, 1) := jx_dec c_A_add_ok 1 rfl
theorem d_A_add_2 : decode prog_23_method_25_code 2 = .ok (.getfield 63, 3) := jx_dec c_A_add_ok 2 rfl
theorem d_A_add_5 : decode prog_23_method_25_code 5 = .ok (.iconst 1, 1) := jx_dec c_A_add_ok 3 rfl
theorem d_A_add_6 : decode prog_23_method_25_code 6 = .ok (.iadd, 1) := jx_dec c_A_add_ok 4 rfl
theorem d_A_add_7 : decode prog_23_method_25_code 7 = .ok (.putfield 63, 3) := jx_dec c_A_add_ok 5 rfl
theorem d_A_add_10 : decode prog_23_method_25_code 10 = .ok (.aload_n 0, 1) := jx_dec c_A_add_ok 6 rfl
theorem d_A_add_11 : decode prog_23_method_25_code 11 = .ok (.aload_n 1, 1) := jx_dec c_A_add_ok 7 rfl
theorem d_A_add_12 : decode prog_23_method_25_code 12 = .ok (.aload_n 0, 1) := jx_dec c_A_add_ok 8 rfl
theorem d_A_add_13 : decode prog_23_method_25_code 13 = .ok (.getfield 9, 3) := jx_dec c_A_add_ok 9 rfl
theorem d_A_add_16 : decode prog_23_method_25_code 16 = .ok (.aload_n 0, 1) := jx_dec c_A_add_ok 10 rfl
theorem d_A_add_17 : decode prog_23_method_25_code 17 = .ok (.getfield 48, 3) := jx_dec c_A_add_ok 11 rfl
theorem d_A_add_20 : decode prog_23_method_25_code 20 = .ok (.invokevirtual 131, 3) := jx_dec c_A_add_ok 12 rfl
theorem d_A_add_23 : decode prog_23_method_25_code 23 = .ok (.iconst 1, 1) := jx_dec c_A_add_ok 13 rfl
theorem d_A_add_24 : decode prog_23_method_25_code 24 = .ok (.ireturn, 1) := jx_dec c_A_add_ok 14 rfl
def c_A_add3 : List (Nat × Instr × Nat) := [(0, .iload_n 3, 1), (1, .aload_n 2, 1), (2, .arraylength, 1), (3, .if_icmp .ne 8, 3), (6, .aload_n 0, 1), (7, .invokevirtual 129, 3), (10, .astore_n 2, 1), (11, .aload_n 2, 1), (12, .iload_n 3, 1), (13, .aload_n 1, 1), (14, .aastore, 1), (15, .aload_n 0, 1), (16, .iload_n 3, 1), (17, .iconst 1, 1), (18, .iadd, 1), (19, .putfield 48, 3), (22, .return_, 1)]
theorem c_A_add3_ok : (c_A_add3).all (fun q => decide (decode prog_23_method_24_code q.1 = .ok q.2)) = true := by decide +kernel
theorem d_A_add3_0 : decode prog_23_method_24_code 0 = .ok (.iload_n 3, 1) := jx_dec c_A_add3_ok 0 rfl
theorem d_A_add3_1 : decode prog_23_method_24_code 1 = .ok (.aload_n 2, 1) := jx_dec c_A_add3_ok 1 rfl
theorem d_A_add3_2 : decode prog_23_method_24_code 2 = .ok (.arraylength, 1) := jx_dec c_A_add3_ok 2 rfl
theorem d_A_add3_3 : decode prog_23_method_24_code 3 = .ok (.if_icmp .ne 8, 3) := jx_dec c_A_add3_ok 3 rfl
theorem d_A_add3_6 : decode prog_23_method_24_code 6 = .ok (.aload_n 0, 1) := jx_dec c_A_add3_ok 4 rfl
theorem d_A_add3_7 : decode prog_23_method_24_code 7 = .ok (.invokevirtual 129, 3) := jx_dec c_A_add3_ok 5 rfl
theorem d_A_add3_10 : decode prog_23_method_24_code 10 = .ok (.astore_n 2, 1) := jx_dec c_A_add3_ok 6 rfl
theorem d_A_add3_11 : decode prog_23_method_24_code 11 = .ok (.aload_n 2, 1) := jx_dec c_A_add3_ok 7 rfl
theorem d_A_add3_12 : decode prog_23_method_24_code 12 = .ok (.iload_n 3, 1) := jx_dec c_A_add3_ok 8 rfl
theorem d_A_add3_13 : decode prog_23_method_24_code 13 = .ok (.aload_n 1, 1) := jx_dec c_A_add3_ok 9 rfl
theorem d_A_add3_14 : decode prog_23_method_24_code 14 = .ok (.aastore, 1) := jx_dec c_A_add3_ok 10 rfl
theorem d_A_add3_15 : decode prog_23_method_24_code 15 = .ok (.aload_n 0, 1) := jx_dec c_A_add3_ok 11 rfl
theorem d_A_add3_16 : decode prog_23_method_24_code 16 = .ok (.iload_n 3, 1) := jx_dec c_A_add3_ok 12 rfl
theorem d_A_add3_17 : decode prog_23_method_24_code 17 = .ok (.iconst 1, 1) := jx_dec c_A_add3_ok 13 rfl
theorem d_A_add3_18 : decode prog_23_method_24_code 18 = .ok (.iadd, 1) := jx_dec c_A_add3_ok 14 rfl
theorem d_A_add3_19 : decode prog_23_method_24_code 19 = .ok (.putfield 48, 3) := jx_dec c_A_add3_ok 15 rfl
theorem d_A_add3_22 : decode prog_23_method_24_code 22 = .ok (.return_, 1) := jx_dec c_A_add3_ok 16 rfl
def c_A_grow : List (Nat × Instr × Nat) := [(0, .aload_n 0, 1), (1, .aload_n 0, 1), (2, .getfield 48, 3), (5, .iconst 1, 1), (6, .iadd, 1), (7, .invokevirtual 69, 3), (10, .areturn, 1)]
theorem c_A_grow_ok : (c_A_grow).all (fun q => decide (decode prog_23_method_7_code q.1 = .ok q.2)) = true := by decide +kernel
theorem d_A_grow_0 : decode prog_23_method_7_code 0 = .ok (.aload_n 0, 1) := jx_dec c_A_grow_ok 0 rfl
theorem d_A_grow_1 : decode prog_23_method_7_code 1 = .ok (.aload_n 0, 1) := jx_dec c_A_grow_ok 1 rfl
theorem d_A_grow_2 : decode prog_23_method_7_code 2 = .ok (.getfield 48, 3) := jx_dec c_A_grow_ok 2 rfl
theorem d_A_grow_5 : decode prog_23_method_7_code 5 = .ok (.iconst 1, 1) := jx_dec c_A_grow_ok 3 rfl
theorem d_A_grow_6 : decode prog_23_method_7_code 6 = .ok (.iadd, 1) := jx_dec c_A_grow_ok 4 rfl
theorem d_A_grow_7 : decode prog_23_method_7_code 7 = .ok (.invokevirtual 69, 3) := jx_dec c_A_grow_ok 5 rfl
theorem d_A_grow_10 : decode prog_23_method_7_code 10 = .ok (.areturn, 1) := jx_dec c_A_grow_ok 6 rfl
def c_A_growBy : List (Nat × Instr × Nat) := [(0, .aload_n 0, 1), (1, .getfield 9, 3), (4, .arraylength, 1), (5, .istore_n 2, 1), (6, .iload_n 2, 1), (7, .ifCond .gt 13, 3), (10, .aload_n 0, 1), (11, .getfield 9, 3), (14, .getstatic 39, 3), (17, .if_acmp .eq 28, 3), (20, .iload_n 2, 1), (21, .iload_n 1, 1), (22, .iload_n 2, 1), (23, .isub, 1), (24, .iload_n 2, 1), (25, .iconst 1, 1), (26, .ishr, 1), (27, .invokestatic 73, 3), (30, .istore_n 3, 1), (31, .aload_n 0, 1), (32, .aload_n 0, 1), (33, .getfield 9, 3), (36, .iload_n 3, 1), (37, .invokestatic 66, 3), (40, .dup_x1, 1), (41, .putfield 9, 3), (44, .areturn, 1), (45, .aload_n 0, 1), (46, .bipush 10, 2), (48, .iload_n 1, 1), (49, .invokestatic 79, 3), (52, .anewarray 7, 3), (55, .dup_x1, 1), (56, .putfield 9, 3), (59, .areturn, 1)]
theorem c_A_growBy_ok : (c_A_growBy).all (fun q => decide (decode prog_23_method_6_code q.1 = .ok q.2)) = true := by decide +kernel
theorem d_A_growBy_0 : decode prog_23_method_6_code 0 = .ok (.aload_n 0, 1) := jx_dec c_A_growBy_ok 0 rfl
theorem d_A_growBy_1 : decode prog_23_method_6_code 1 = .ok (.getfield 9, 3) := jx_dec c_A_growBy_ok 1 rfl
theorem d_A_growBy_4 : decode prog_23_method_6_code 4 = .ok (.arraylength, 1) := jx_dec c_A_growBy_ok 2 rfl
theorem d_A_growBy_5 : decode prog_23_method_6_code 5 = .ok (.istore_n 2, 1) := jx_dec c_A_growBy_ok 3 rfl
theorem d_A_growBy_6 : decode prog_23_method_6_code 6 = .ok (.iload_n 2, 1) := jx_dec c_A_growBy_ok 4 rfl
theorem d_A_growBy_7 : decode prog_23_method_6_code 7 = .ok (.ifCond .gt 13, 3) := jx_dec c_A_growBy_ok 5 rfl
theorem d_A_growBy_10 : decode prog_23_method_6_code 10 = .ok (.aload_n 0, 1) := jx_dec c_A_growBy_ok 6 rfl
theorem d_A_growBy_11 : decode prog_23_method_6_code 11 = .ok (.getfield 9, 3) := jx_dec c_A_growBy_ok 7 rfl
theorem d_A_growBy_14 : decode prog_23_method_6_code 14 = .ok (.getstatic 39, 3) := jx_dec c_A_growBy_ok 8 rfl
theorem d_A_growBy_17 : decode prog_23_method_6_code 17 = .ok (.if_acmp .eq 28, 3) := jx_dec c_A_growBy_ok 9 rfl
theorem d_A_growBy_20 : decode prog_23_method_6_code 20 = .ok (.iload_n 2, 1) := jx_dec c_A_growBy_ok 10 rfl
theorem d_A_growBy_21 : decode prog_23_method_6_code 21 = .ok (.iload_n 1, 1) := jx_dec c_A_growBy_ok 11 rfl
theorem d_A_growBy_22 : decode prog_23_method_6_code 22 = .ok (.iload_n 2, 1) := jx_dec c_A_growBy_ok 12 rfl
theorem d_A_growBy_23 : decode prog_23_method_6_code 23 = .ok (.isub, 1) := jx_dec c_A_growBy_ok 13 rfl
theorem d_A_growBy_24 : decode prog_23_method_6_code 24 = .ok (.iload_n 2, 1) := jx_dec c_A_growBy_ok 14 rfl
theorem d_A_growBy_25 : decode prog_23_method_6_code 25 = .ok (.iconst 1, 1) := jx_dec c_A_growBy_ok 15 rfl
theorem d_A_growBy_26 : decode prog_23_method_6_code 26 = .ok (.ishr, 1) := jx_dec c_A_growBy_ok 16 rfl
theorem d_A_growBy_27 : decode prog_23_method_6_code 27 = .ok (.invokestatic 73, 3) := jx_dec c_A_growBy_ok 17 rfl
theorem d_A_growBy_30 : decode prog_23_method_6_code 30 = .ok (.istore_n 3, 1) := jx_dec c_A_growBy_ok 18 rfl
theorem d_A_growBy_31 : decode prog_23_method_6_code 31 = .ok (.aload_n 0, 1) := jx_dec c_A_growBy_ok 19 rfl
theorem d_A_growBy_32 : decode prog_23_method_6_code 32 = .ok (.aload_n 0, 1) := jx_dec c_A_growBy_ok 20 rfl
theorem d_A_growBy_33 : decode prog_23_method_6_code 33 = .ok (.getfield 9, 3) := jx_dec c_A_growBy_ok 21 rfl
theorem d_A_growBy_36 : decode prog_23_method_6_code 36 = .ok (.iload_n 3, 1) := jx_dec c_A_growBy_ok 22 rfl
theorem d_A_growBy_37 : decode prog_23_method_6_code 37 = .ok (.invokestatic 66, 3) := jx_dec c_A_growBy_ok 23 rfl
theorem d_A_growBy_40 : decode prog_23_method_6_code 40 = .ok (.dup_x1, 1) := jx_dec c_A_growBy_ok 24 rfl
theorem d_A_growBy_41 : decode prog_23_method_6_code 41 = .ok (.putfield 9, 3) := jx_dec c_A_growBy_ok 25 rfl
theorem d_A_growBy_44 : decode prog_23_method_6_code 44 = .ok (.areturn, 1) := jx_dec c_A_growBy_ok 26 rfl
theorem d_A_growBy_45 : decode prog_23_method_6_code 45 = .ok (.aload_n 0, 1) := jx_dec c_A_growBy_ok 27 rfl
theorem d_A_growBy_46 : decode prog_23_method_6_code 46 = .ok (.bipush 10, 2) := jx_dec c_A_growBy_ok 28 rfl
theorem d_A_growBy_48 : decode prog_23_method_6_code 48 = .ok (.iload_n 1, 1) := jx_dec c_A_growBy_ok 29 rfl
theorem d_A_growBy_49 : decode prog_23_method_6_code 49 = .ok (.invokestatic 79, 3) := jx_dec c_A_growBy_ok 30 rfl
theorem d_A_growBy_52 : decode prog_23_method_6_code 52 = .ok (.anewarray 7, 3) := jx_dec c_A_growBy_ok 31 rfl
theorem d_A_growBy_55 : decode prog_23_method_6_code 55 = .ok (.dup_x1, 1) := jx_dec c_A_growBy_ok 32 rfl
theorem d_A_growBy_56 : decode prog_23_method_6_code 56 = .ok (.putfield 9, 3) := jx_dec c_A_growBy_ok 33 rfl
theorem d_A_growBy_59 : decode prog_23_method_6_code 59 = .ok (.areturn, 1) := jx_dec c_A_growBy_ok 34 rfl
def c_A_clear : List (Nat × Instr × Nat) := [(0, .aload_n 0, 1), (1, .dup, 1), (2, .getfield 63, 3), (5, .iconst 1, 1), (6, .iadd, 1), (7, .putfield 63, 3), (10, .aload_n 0, 1), (11, .getfield 9, 3), (14, .astore_n 1, 1), (15, .aload_n 0, 1), (16, .getfield 48, 3), (19, .istore_n 2, 1), (20, .aload_n 0, 1), (21, .iconst 0, 1), (22, .dup_x1, 1), (23, .putfield 48, 3), (26, .istore_n 3, 1), (27, .iload_n 3, 1), (28, .iload_n 2, 1), (29, .if_icmp .ge 13, 3), (32, .aload_n 1, 1), (33, .iload_n 3, 1), (34, .aconst_null, 1), (35, .aastore, 1), (36, .iinc 3 1, 3), (39, .goto (-12), 3), (42, .return_, 1)]
theorem c_A_clear_ok : (c_A_clear).all (fun q => decide (decode prog_23_method_40_code q.1 = .ok q.2)) = true := by decide +kernel
theorem d_A_clear_0 : decode prog_23_method_40_code 0 = .ok (.aload_n 0, 1) := jx_dec c_A_clear_ok 0 rfl
theorem d_A_clear_1 : decode prog_23_method_40_code 1 = .ok (.dup, 1) := jx_dec c_A_clear_ok 1 rfl
theorem d_A_clear_2 : decode prog_23_method_40_code 2 = .ok (.getfield 63, 3) := jx_dec c_A_clear_ok 2 rfl
theorem d_A_clear_5 : decode prog_23_method_40_code 5 = .ok (.iconst 1, 1) := jx_dec c_A_clear_ok 3 rfl
theorem d_A_clear_6 : decode prog_23_method_40_code 6 = .ok (.iadd, 1) := jx_dec c_A_clear_ok 4 rfl
theorem d_A_clear_7 : decode prog_23_method_40_code 7 = .ok (.putfield 63, 3) := jx_dec c_A_clear_ok 5 rfl
theorem d_A_clear_10 : decode prog_23_method_40_code 10 = .ok (.aload_n 0, 1) := jx_dec c_A_clear_ok 6 rfl
theorem d_A_clear_11 : decode prog_23_method_40_code 11 = .ok (.getfield 9, 3) := jx_dec c_A_clear_ok 7 rfl
theorem d_A_clear_14 : decode prog_23_method_40_code 14 = .ok (.astore_n 1, 1) := jx_dec c_A_clear_ok 8 rfl
theorem d_A_clear_15 : decode prog_23_method_40_code 15 = .ok (.aload_n 0, 1) := jx_dec c_A_clear_ok 9 rfl
theorem d_A_clear_16 : decode prog_23_method_40_code 16 = .ok (.getfield 48, 3) := jx_dec c_A_clear_ok 10 rfl
theorem d_A_clear_19 : decode prog_23_method_40_code 19 = .ok (.istore_n 2, 1) := jx_dec c_A_clear_ok 11 rfl
theorem d_A_clear_20 : decode prog_23_method_40_code 20 = .ok (.aload_n 0, 1) := jx_dec c_A_clear_ok 12 rfl
theorem d_A_clear_21 : decode prog_23_method_40_code 21 = .ok (.iconst 0, 1) := jx_dec c_A_clear_ok 13 rfl
theorem d_A_clear_22 : decode prog_23_method_40_code 22 = .ok (.dup_x1, 1) := jx_dec c_A_clear_ok 14 rfl
theorem d_A_clear_23 : decode prog_23_method_40_code 23 = .ok (.putfield 48, 3) := jx_dec c_A_clear_ok 15 rfl
theorem d_A_clear_26 : decode prog_23_method_40_code 26 = .ok (.istore_n 3, 1) := jx_dec c_A_clear_ok 16 rfl
theorem d_A_clear_27 : decode prog_23_method_40_code 27 = .ok (.iload_n 3, 1) := jx_dec c_A_clear_ok 17 rfl
theorem d_A_clear_28 : decode prog_23_method_40_code 28 = .ok (.iload_n 2, 1) := jx_dec c_A_clear_ok 18 rfl
theorem d_A_clear_29 : decode prog_23_method_40_code 29 = .ok (.if_icmp .ge 13, 3) := jx_dec c_A_clear_ok 19 rfl
theorem d_A_clear_32 : decode prog_23_method_40_code 32 = .ok (.aload_n 1, 1) := jx_dec c_A_clear_ok 20 rfl
theorem d_A_clear_33 : decode prog_23_method_40_code 33 = .ok (.iload_n 3, 1) := jx_dec c_A_clear_ok 21 rfl
theorem d_A_clear_34 : decode prog_23_method_40_code 34 = .ok (.aconst_null, 1) := jx_dec c_A_clear_ok 22 rfl
theorem d_A_clear_35 : decode prog_23_method_40_code 35 = .ok (.aastore, 1) := jx_dec c_A_clear_ok 23 rfl
theorem d_A_clear_36 : decode prog_23_method_40_code 36 = .ok (.iinc 3 1, 3) := jx_dec c_A_clear_ok 24 rfl
theorem d_A_clear_39 : decode prog_23_method_40_code 39 = .ok (.goto (-12), 3) := jx_dec c_A_clear_ok 25 rfl
theorem d_A_clear_42 : decode prog_23_method_40_code 42 = .ok (.return_, 1) := jx_dec c_A_clear_ok 26 rfl
def c_A_addAt : List (Nat × Instr × Nat) := [(0, .aload_n 0, 1), (1, .iload_n 1, 1), (2, .invokevirtual 135, 3), (5, .aload_n 0, 1), (6, .dup, 1), (7, .getfield 63, 3), (10, .iconst 1, 1), (11, .iadd, 1), (12, .putfield 63, 3), (15, .aload_n 0, 1), (16, .getfield 48, 3), (19, .dup, 1), (20, .istore_n 3, 1), (21, .aload_n 0, 1), (22, .getfield 9, 3), (25, .dup, 1), (26, .astore 4, 2), (28, .arraylength, 1), (29, .if_icmp .ne 9, 3), (32, .aload_n 0, 1), (33, .invokevirtual 129, 3), (36, .astore 4, 2), (38, .aload 4, 2), (40, .iload_n 1, 1), (41, .aload 4, 2), (43, .iload_n 1, 1), (44, .iconst 1, 1), (45, .iadd, 1), (46, .iload_n 3, 1), (47, .iload_n 1, 1), (48, .isub, 1), (49, .invokestatic 112, 3), (52, .aload 4, 2), (54, .iload_n 1, 1), (55, .aload_n 2, 1), (56, .aastore, 1), (57, .aload_n 0, 1), (58, .iload_n 3, 1), (59, .iconst 1, 1), (60, .iadd, 1), (61, .putfield 48, 3), (64, .return_, 1)]
theorem c_A_addAt_ok : (c_A_addAt).all (fun q => decide (decode prog_23_method_26_code q.1 = .ok q.2)) = true := by decide +kernel
theorem d_A_addAt_0 : decode prog_23_method_26_code 0 = .ok (.aload_n 0, 1) := jx_dec c_A_addAt_ok 0 rfl
theorem d_A_addAt_1 : decode prog_23_method_26_code 1 = .ok (.iload_n 1, 1) := jx_dec c_A_addAt_ok 1 rfl
theorem d_A_addAt_2 : decode prog_23_method_26_code 2 = .ok (.invokevirtual 135, 3) := jx_dec c_A_addAt_ok 2 rfl
theorem d_A_addAt_5 : decode prog_23_method_26_code 5 = .ok (.aload_n 0, 1) := jx_dec c_A_addAt_ok 3 rfl
theorem d_A_addAt_6 : decode prog_23_method_26_code 6 = .ok (.dup, 1) := jx_dec c_A_addAt_ok 4 rfl
theorem d_A_addAt_7 : decode prog_23_method_26_code 7 = .ok (.getfield 63, 3) := jx_dec c_A_addAt_ok 5 rfl
theorem d_A_addAt_10 : decode prog_23_method_26_code 10 = .ok (.iconst 1, 1) := jx_dec c_A_addAt_ok 6 rfl
theorem d_A_addAt_11 : decode prog_23_method_26_code 11 = .ok (.iadd, 1) := jx_dec c_A_addAt_ok 7 rfl
theorem d_A_addAt_12 : decode prog_23_method_26_code 12 = .ok (.putfield 63, 3) := jx_dec c_A_addAt_ok 8 rfl
theorem d_A_addAt_15 : decode prog_23_method_26_code 15 = .ok (.aload_n 0, 1) := jx_dec c_A_addAt_ok 9 rfl
theorem d_A_addAt_16 : decode prog_23_method_26_code 16 = .ok (.getfield 48, 3) := jx_dec c_A_addAt_ok 10 rfl
theorem d_A_addAt_19 : decode prog_23_method_26_code 19 = .ok (.dup, 1) := jx_dec c_A_addAt_ok 11 rfl
theorem d_A_addAt_20 : decode prog_23_method_26_code 20 = .ok (.istore_n 3, 1) := jx_dec c_A_addAt_ok 12 rfl
theorem d_A_addAt_21 : decode prog_23_method_26_code 21 = .ok (.aload_n 0, 1) := jx_dec c_A_addAt_ok 13 rfl
theorem d_A_addAt_22 : decode prog_23_method_26_code 22 = .ok (.getfield 9, 3) := jx_dec c_A_addAt_ok 14 rfl
theorem d_A_addAt_25 : decode prog_23_method_26_code 25 = .ok (.dup, 1) := jx_dec c_A_addAt_ok 15 rfl
theorem d_A_addAt_26 : decode prog_23_method_26_code 26 = .ok (.astore 4, 2) := jx_dec c_A_addAt_ok 16 rfl
theorem d_A_addAt_28 : decode prog_23_method_26_code 28 = .ok (.arraylength, 1) := jx_dec c_A_addAt_ok 17 rfl
theorem d_A_addAt_29 : decode prog_23_method_26_code 29 = .ok (.if_icmp .ne 9, 3) := jx_dec c_A_addAt_ok 18 rfl
theorem d_A_addAt_32 : decode prog_23_method_26_code 32 = .ok (.aload_n 0, 1) := jx_dec c_A_addAt_ok 19 rfl
theorem d_A_addAt_33 : decode prog_23_method_26_code 33 = .ok (.invokevirtual 129, 3) := jx_dec c_A_addAt_ok 20 rfl
theorem d_A_addAt_36 : decode prog_23_method_26_code 36 = .ok (.astore 4, 2) := jx_dec c_A_addAt_ok 21 rfl
theorem d_A_addAt_38 : decode prog_23_method_26_code 38 = .ok (.aload 4, 2) := jx_dec c_A_addAt_ok 22 rfl
theorem d_A_addAt_40 : decode prog_23_method_26_code 40 = .ok (.iload_n 1, 1) := jx_dec c_A_addAt_ok 23 rfl
theorem d_A_addAt_41 : decode prog_23_method_26_code 41 = .ok (.aload 4, 2) := jx_dec c_A_addAt_ok 24 rfl
theorem d_A_addAt_43 : decode prog_23_method_26_code 43 = .ok (.iload_n 1, 1) := jx_dec c_A_addAt_ok 25 rfl
theorem d_A_addAt_44 : decode prog_23_method_26_code 44 = .ok (.iconst 1, 1) := jx_dec c_A_addAt_ok 26 rfl
theorem d_A_addAt_45 : decode prog_23_method_26_code 45 = .ok (.iadd, 1) := jx_dec c_A_addAt_ok 27 rfl
theorem d_A_addAt_46 : decode prog_23_method_26_code 46 = .ok (.iload_n 3, 1) := jx_dec c_A_addAt_ok 28 rfl
theorem d_A_addAt_47 : decode prog_23_method_26_code 47 = .ok (.iload_n 1, 1) := jx_dec c_A_addAt_ok 29 rfl
theorem d_A_addAt_48 : decode prog_23_method_26_code 48 = .ok (.isub, 1) := jx_dec c_A_addAt_ok 30 rfl
theorem d_A_addAt_49 : decode prog_23_method_26_code 49 = .ok (.invokestatic 112, 3) := jx_dec c_A_addAt_ok 31 rfl
theorem d_A_addAt_52 : decode prog_23_method_26_code 52 = .ok (.aload 4, 2) := jx_dec c_A_addAt_ok 32 rfl
theorem d_A_addAt_54 : decode prog_23_method_26_code 54 = .ok (.iload_n 1, 1) := jx_dec c_A_addAt_ok 33 rfl
theorem d_A_addAt_55 : decode prog_23_method_26_code 55 = .ok (.aload_n 2, 1) := jx_dec c_A_addAt_ok 34 rfl
theorem d_A_addAt_56 : decode prog_23_method_26_code 56 = .ok (.aastore, 1) := jx_dec c_A_addAt_ok 35 rfl
theorem d_A_addAt_57 : decode prog_23_method_26_code 57 = .ok (.aload_n 0, 1) := jx_dec c_A_addAt_ok 36 rfl
theorem d_A_addAt_58 : decode prog_23_method_26_code 58 = .ok (.iload_n 3, 1) := jx_dec c_A_addAt_ok 37 rfl
theorem d_A_addAt_59 : decode prog_23_method_26_code 59 = .ok (.iconst 1, 1) := jx_dec c_A_addAt_ok 38 rfl
theorem d_A_addAt_60 : decode prog_23_method_26_code 60 = .ok (.iadd, 1) := jx_dec c_A_addAt_ok 39 rfl
theorem d_A_addAt_61 : decode prog_23_method_26_code 61 = .ok (.putfield 48, 3) := jx_dec c_A_addAt_ok 40 rfl
theorem d_A_addAt_64 : decode prog_23_method_26_code 64 = .ok (.return_, 1) := jx_dec c_A_addAt_ok 41 rfl
def c_A_rangeCheckForAdd : List (Nat × Instr × Nat) := [(0, .iload_n 1, 1), (1, .aload_n 0, 1), (2, .getfield 48, 3), (5, .if_icmp .gt 7, 3), (8, .iload_n 1, 1), (9, .ifCond .ge 16, 3), (12, .new 187, 3), (15, .dup, 1), (16, .aload_n 0, 1), (17, .iload_n 1, 1), (18, .invokevirtual 198, 3), (21, .invokespecial 193, 3), (24, .athrow, 1), (25, .return_, 1)]
theorem c_A_rangeCheckForAdd_ok : (c_A_rangeCheckForAdd).all (fun q => decide (decode prog_23_method_45_code q.1 = .ok q.2)) = true := by decide +kernel
theorem d_A_rangeCheckForAdd_0 : decode prog_23_method_45_code 0 = .ok (.iload_n 1, 1) := jx_dec c_A_rangeCheckForAdd_ok 0 rfl
theorem d_A_rangeCheckForAdd_1 : decode prog_23_method_45_code 1 = .ok (.aload_n 0, 1) := jx_dec c_A_rangeCheckForAdd_ok 1 rfl
theorem d_A_rangeCheckForAdd_2 : decode prog_23_method_45_code 2 = .ok (.getfield 48, 3) := jx_dec c_A_rangeCheckForAdd_ok 2 rfl
theorem d_A_rangeCheckForAdd_5 : decode prog_23_method_45_code 5 = .ok (.if_icmp .gt 7, 3) := jx_dec c_A_rangeCheckForAdd_ok 3 rfl
theorem d_A_rangeCheckForAdd_8 : decode prog_23_method_45_code 8 = .ok (.iload_n 1, 1) := jx_dec c_A_rangeCheckForAdd_ok 4 rfl
theorem d_A_rangeCheckForAdd_9 : decode prog_23_method_45_code 9 = .ok (.ifCond .ge 16, 3) := jx_dec c_A_rangeCheckForAdd_ok 5 rfl
theorem d_A_rangeCheckForAdd_12 : decode prog_23_method_45_code 12 = .ok (.new 187, 3) := jx_dec c_A_rangeCheckForAdd_ok 6 rfl
theorem d_A_rangeCheckForAdd_15 : decode prog_23_method_45_code 15 = .ok (.dup, 1) := jx_dec c_A_rangeCheckForAdd_ok 7 rfl
theorem d_A_rangeCheckForAdd_16 : decode prog_23_method_45_code 16 = .ok (.aload_n 0, 1) := jx_dec c_A_rangeCheckForAdd_ok 8 rfl
theorem d_A_rangeCheckForAdd_17 : decode prog_23_method_45_code 17 = .ok (.iload_n 1, 1) := jx_dec c_A_rangeCheckForAdd_ok 9 rfl
theorem d_A_rangeCheckForAdd_18 : decode prog_23_method_45_code 18 = .ok (.invokevirtual 198, 3) := jx_dec c_A_rangeCheckForAdd_ok 10 rfl
theorem d_A_rangeCheckForAdd_21 : decode prog_23_method_45_code 21 = .ok (.invokespecial 193, 3) := jx_dec c_A_rangeCheckForAdd_ok 11 rfl
theorem d_A_rangeCheckForAdd_24 : decode prog_23_method_45_code 24 = .ok (.athrow, 1) := jx_dec c_A_rangeCheckForAdd_ok 12 rfl
theorem d_A_rangeCheckForAdd_25 : decode prog_23_method_45_code 25 = .ok (.return_, 1) := jx_dec c_A_rangeCheckForAdd_ok 13 rfl
end
section
/-! 04.1J: the instructions -/
def c_JAbstractList_init : List (Nat × Instr × Nat) := [(0, .aload_n 0, 1), (1, .invokespecial 1, 3), (4, .aload_n 0, 1), (5, .iconst 0, 1), (6, .putfield 7, 3), (9, .return_, 1)]
theorem c_JAbstractList_init_ok : (c_JAbstractList_init).all (fun q => decide (decode prog_22_method_1_code q.1 = .ok q.2)) = true := by decide +kernel
theorem d_JAbstractList_init_0 : decode prog_22_method_1_code 0 = .ok (.aload_n 0, 1) := jx_dec c_JAbstractList_init_ok 0 rfl
theorem d_JAbstractList_init_1 : decode prog_22_method_1_code 1 = .ok (.invokespecial 1, 3) := jx_dec c_JAbstractList_init_ok 1 rfl
theorem d_JAbstractList_init_4 : decode prog_22_method_1_code 4 = .ok (.aload_n 0, 1) := jx_dec c_JAbstractList_init_ok 2 rfl
theorem d_JAbstractList_init_5 : decode prog_22_method_1_code 5 = .ok (.iconst 0, 1) := jx_dec c_JAbstractList_init_ok 3 rfl
theorem d_JAbstractList_init_6 : decode prog_22_method_1_code 6 = .ok (.putfield 7, 3) := jx_dec c_JAbstractList_init_ok 4 rfl
theorem d_JAbstractList_init_9 : decode prog_22_method_1_code 9 = .ok (.return_, 1) := jx_dec c_JAbstractList_init_ok 5 rfl
def c_JAbstractCollection_init : List (Nat × Instr × Nat) := [(0, .aload_n 0, 1), (1, .invokespecial 1, 3), (4, .return_, 1)]
theorem c_JAbstractCollection_init_ok : (c_JAbstractCollection_init).all (fun q => decide (decode prog_21_method_1_code q.1 = .ok q.2)) = true := by decide +kernel
theorem d_JAbstractCollection_init_0 : decode prog_21_method_1_code 0 = .ok (.aload_n 0, 1) := jx_dec c_JAbstractCollection_init_ok 0 rfl
theorem d_JAbstractCollection_init_1 : decode prog_21_method_1_code 1 = .ok (.invokespecial 1, 3) := jx_dec c_JAbstractCollection_init_ok 1 rfl
theorem d_JAbstractCollection_init_4 : decode prog_21_method_1_code 4 = .ok (.return_, 1) := jx_dec c_JAbstractCollection_init_ok 2 rfl
def c_JObjects_checkIndex : List (Nat × Instr × Nat) := [(0, .iload_n 0, 1), (1, .iload_n 1, 1), (2, .aconst_null, 1), (3, .invokestatic 105, 3), (6, .ireturn, 1)]
theorem c_JObjects_checkIndex_ok : (c_JObjects_checkIndex).all (fun q => decide (decode prog_28_method_17_code q.1 = .ok q.2)) = true := by decide +kernel
theorem d_JObjects_checkIndex_0 : decode prog_28_method_17_code 0 = .ok (.iload_n 0, 1) := jx_dec c_JObjects_checkIndex_ok 0 rfl
theorem d_JObjects_checkIndex_1 : decode prog_28_method_17_code 1 = .ok (.iload_n 1, 1) := jx_dec c_JObjects_checkIndex_ok 1 rfl
theorem d_JObjects_checkIndex_2 : decode prog_28_method_17_code 2 = .ok (.aconst_null, 1) := jx_dec c_JObjects_checkIndex_ok 2 rfl
theorem d_JObjects_checkIndex_3 : decode prog_28_method_17_code 3 = .ok (.invokestatic 105, 3) := jx_dec c_JObjects_checkIndex_ok 3 rfl
theorem d_JObjects_checkIndex_6 : decode prog_28_method_17_code 6 = .ok (.ireturn, 1) := jx_dec c_JObjects_checkIndex_ok 4 rfl
def c_JPreconditions_checkIndex : List (Nat × Instr × Nat) := [(0, .iload_n 0, 1), (1, .ifCond .lt 8, 3), (4, .iload_n 0, 1), (5, .iload_n 1, 1), (6, .if_icmp .lt 10, 3), (9, .aload_n 2, 1), (10, .iload_n 0, 1), (11, .iload_n 1, 1), (12, .invokestatic 95, 3), (15, .athrow, 1), (16, .iload_n 0, 1), (17, .ireturn, 1)]
theorem c_JPreconditions_checkIndex_ok : (c_JPreconditions_checkIndex).all (fun q => decide (decode prog_32_method_11_code q.1 = .ok q.2)) = true := by decide +kernel
theorem d_JPreconditions_checkIndex_0 : decode prog_32_method_11_code 0 = .ok (.iload_n 0, 1) := jx_dec c_JPreconditions_checkIndex_ok 0 rfl
theorem d_JPreconditions_checkIndex_1 : decode prog_32_method_11_code 1 = .ok (.ifCond .lt 8, 3) := jx_dec c_JPreconditions_checkIndex_ok 1 rfl
theorem d_JPreconditions_checkIndex_4 : decode prog_32_method_11_code 4 = .ok (.iload_n 0, 1) := jx_dec c_JPreconditions_checkIndex_ok 2 rfl
theorem d_JPreconditions_checkIndex_5 : decode prog_32_method_11_code 5 = .ok (.iload_n 1, 1) := jx_dec c_JPreconditions_checkIndex_ok 3 rfl
theorem d_JPreconditions_checkIndex_6 : decode prog_32_method_11_code 6 = .ok (.if_icmp .lt 10, 3) := jx_dec c_JPreconditions_checkIndex_ok 4 rfl
theorem d_JPreconditions_checkIndex_9 : decode prog_32_method_11_code 9 = .ok (.aload_n 2, 1) := jx_dec c_JPreconditions_checkIndex_ok 5 rfl
theorem d_JPreconditions_checkIndex_10 : decode prog_32_method_11_code 10 = .ok (.iload_n 0, 1) := jx_dec c_JPreconditions_checkIndex_ok 6 rfl
theorem d_JPreconditions_checkIndex_11 : decode prog_32_method_11_code 11 = .ok (.iload_n 1, 1) := jx_dec c_JPreconditions_checkIndex_ok 7 rfl
theorem d_JPreconditions_checkIndex_12 : decode prog_32_method_11_code 12 = .ok (.invokestatic 95, 3) := jx_dec c_JPreconditions_checkIndex_ok 8 rfl
theorem d_JPreconditions_checkIndex_15 : decode prog_32_method_11_code 15 = .ok (.athrow, 1) := jx_dec c_JPreconditions_checkIndex_ok 9 rfl
theorem d_JPreconditions_checkIndex_16 : decode prog_32_method_11_code 16 = .ok (.iload_n 0, 1) := jx_dec c_JPreconditions_checkIndex_ok 10 rfl
theorem d_JPreconditions_checkIndex_17 : decode prog_32_method_11_code 17 = .ok (.ireturn, 1) := jx_dec c_JPreconditions_checkIndex_ok 11 rfl
def c_JMath_max : List (Nat × Instr × Nat) := [(0, .iload_n 0, 1), (1, .iload_n 1, 1), (2, .if_icmp .lt 7, 3), (5, .iload_n 0, 1), (6, .goto 4, 3), (9, .iload_n 1, 1), (10, .ireturn, 1)]
theorem c_JMath_max_ok : (c_JMath_max).all (fun q => decide (decode prog_15_method_65_code q.1 = .ok q.2)) = true := by decide +kernel
theorem d_JMath_max_0 : decode prog_15_method_65_code 0 = .ok (.iload_n 0, 1) := jx_dec c_JMath_max_ok 0 rfl
theorem d_JMath_max_1 : decode prog_15_method_65_code 1 = .ok (.iload_n 1, 1) := jx_dec c_JMath_max_ok 1 rfl
theorem d_JMath_max_2 : decode prog_15_method_65_code 2 = .ok (.if_icmp .lt 7, 3) := jx_dec c_JMath_max_ok 2 rfl
theorem d_JMath_max_5 : decode prog_15_method_65_code 5 = .ok (.iload_n 0, 1) := jx_dec c_JMath_max_ok 3 rfl
theorem d_JMath_max_6 : decode prog_15_method_65_code 6 = .ok (.goto 4, 3) := jx_dec c_JMath_max_ok 4 rfl
theorem d_JMath_max_9 : decode prog_15_method_65_code 9 = .ok (.iload_n 1, 1) := jx_dec c_JMath_max_ok 5 rfl
theorem d_JMath_max_10 : decode prog_15_method_65_code 10 = .ok (.ireturn, 1) := jx_dec c_JMath_max_ok 6 rfl
def c_JMath_min : List (Nat × Instr × Nat) := [(0, .iload_n 0, 1), (1, .iload_n 1, 1), (2, .if_icmp .gt 7, 3), (5, .iload_n 0, 1), (6, .goto 4, 3), (9, .iload_n 1, 1), (10, .ireturn, 1)]
theorem c_JMath_min_ok : (c_JMath_min).all (fun q => decide (decode prog_15_method_69_code q.1 = .ok q.2)) = true := by decide +kernel
theorem d_JMath_min_0 : decode prog_15_method_69_code 0 = .ok (.iload_n 0, 1) := jx_dec c_JMath_min_ok 0 rfl
theorem d_JMath_min_1 : decode prog_15_method_69_code 1 = .ok (.iload_n 1, 1) := jx_dec c_JMath_min_ok 1 rfl
theorem d_JMath_min_2 : decode prog_15_method_69_code 2 = .ok (.if_icmp .gt 7, 3) := jx_dec c_JMath_min_ok 2 rfl
theorem d_JMath_min_5 : decode prog_15_method_69_code 5 = .ok (.iload_n 0, 1) := jx_dec c_JMath_min_ok 3 rfl
theorem d_JMath_min_6 : decode prog_15_method_69_code 6 = .ok (.goto 4, 3) := jx_dec c_JMath_min_ok 4 rfl
theorem d_JMath_min_9 : decode prog_15_method_69_code 9 = .ok (.iload_n 1, 1) := jx_dec c_JMath_min_ok 5 rfl
theorem d_JMath_min_10 : decode prog_15_method_69_code 10 = .ok (.ireturn, 1) := jx_dec c_JMath_min_ok 6 rfl
def c_JArraysSupport_newLength : List (Nat × Instr × Nat) := [(0, .iload_n 0, 1), (1, .iload_n 1, 1), (2, .iload_n 2, 1), (3, .invokestatic 194, 3), (6, .iadd, 1), (7, .istore_n 3, 1), (8, .iconst 0, 1), (9, .iload_n 3, 1), (10, .if_icmp .ge 11, 3), (13, .iload_n 3, 1), (14, .ldc 200, 2), (16, .if_icmp .gt 5, 3), (19, .iload_n 3, 1), (20, .ireturn, 1), (21, .iload_n 0, 1), (22, .iload_n 1, 1), (23, .invokestatic 201, 3), (26, .ireturn, 1)]
theorem c_JArraysSupport_newLength_ok : (c_JArraysSupport_newLength).all (fun q => decide (decode prog_31_method_27_code q.1 = .ok q.2)) = true := by decide +kernel
theorem d_JArraysSupport_newLength_0 : decode prog_31_method_27_code 0 = .ok (.iload_n 0, 1) := jx_dec c_JArraysSupport_newLength_ok 0 rfl
theorem d_JArraysSupport_newLength_1 : decode prog_31_method_27_code 1 = .ok (.iload_n 1, 1) := jx_dec c_JArraysSupport_newLength_ok 1 rfl
theorem d_JArraysSupport_newLength_2 : decode prog_31_method_27_code 2 = .ok (.iload_n 2, 1) := jx_dec c_JArraysSupport_newLength_ok 2 rfl
theorem d_JArraysSupport_newLength_3 : decode prog_31_method_27_code 3 = .ok (.invokestatic 194, 3) := jx_dec c_JArraysSupport_newLength_ok 3 rfl
theorem d_JArraysSupport_newLength_6 : decode prog_31_method_27_code 6 = .ok (.iadd, 1) := jx_dec c_JArraysSupport_newLength_ok 4 rfl
theorem d_JArraysSupport_newLength_7 : decode prog_31_method_27_code 7 = .ok (.istore_n 3, 1) := jx_dec c_JArraysSupport_newLength_ok 5 rfl
theorem d_JArraysSupport_newLength_8 : decode prog_31_method_27_code 8 = .ok (.iconst 0, 1) := jx_dec c_JArraysSupport_newLength_ok 6 rfl
theorem d_JArraysSupport_newLength_9 : decode prog_31_method_27_code 9 = .ok (.iload_n 3, 1) := jx_dec c_JArraysSupport_newLength_ok 7 rfl
theorem d_JArraysSupport_newLength_10 : decode prog_31_method_27_code 10 = .ok (.if_icmp .ge 11, 3) := jx_dec c_JArraysSupport_newLength_ok 8 rfl
theorem d_JArraysSupport_newLength_13 : decode prog_31_method_27_code 13 = .ok (.iload_n 3, 1) := jx_dec c_JArraysSupport_newLength_ok 9 rfl
theorem d_JArraysSupport_newLength_14 : decode prog_31_method_27_code 14 = .ok (.ldc 200, 2) := jx_dec c_JArraysSupport_newLength_ok 10 rfl
theorem d_JArraysSupport_newLength_16 : decode prog_31_method_27_code 16 = .ok (.if_icmp .gt 5, 3) := jx_dec c_JArraysSupport_newLength_ok 11 rfl
theorem d_JArraysSupport_newLength_19 : decode prog_31_method_27_code 19 = .ok (.iload_n 3, 1) := jx_dec c_JArraysSupport_newLength_ok 12 rfl
theorem d_JArraysSupport_newLength_20 : decode prog_31_method_27_code 20 = .ok (.ireturn, 1) := jx_dec c_JArraysSupport_newLength_ok 13 rfl
theorem d_JArraysSupport_newLength_21 : decode prog_31_method_27_code 21 = .ok (.iload_n 0, 1) := jx_dec c_JArraysSupport_newLength_ok 14 rfl
theorem d_JArraysSupport_newLength_22 : decode prog_31_method_27_code 22 = .ok (.iload_n 1, 1) := jx_dec c_JArraysSupport_newLength_ok 15 rfl
theorem d_JArraysSupport_newLength_23 : decode prog_31_method_27_code 23 = .ok (.invokestatic 201, 3) := jx_dec c_JArraysSupport_newLength_ok 16 rfl
theorem d_JArraysSupport_newLength_26 : decode prog_31_method_27_code 26 = .ok (.ireturn, 1) := jx_dec c_JArraysSupport_newLength_ok 17 rfl
def c_JArraysSupport_hugeLength : List (Nat × Instr × Nat) := [(0, .iload_n 0, 1), (1, .iload_n 1, 1), (2, .iadd, 1), (3, .istore_n 2, 1), (4, .iload_n 2, 1), (5, .ifCond .ge 44, 3), (8, .new 204, 3), (11, .dup, 1), (12, .new 89, 3), (15, .dup, 1), (16, .invokespecial 91, 3), (19, .ldc 206, 2), (21, .invokevirtual 94, 3), (24, .iload_n 0, 1), (25, .invokevirtual 98, 3), (28, .ldc 208, 2), (30, .invokevirtual 94, 3), (33, .iload_n 1, 1), (34, .invokevirtual 98, 3), (37, .ldc 210, 2), (39, .invokevirtual 94, 3), (42, .invokevirtual 101, 3), (45, .invokespecial 212, 3), (48, .athrow, 1), (49, .iload_n 2, 1), (50, .ldc 200, 2), (52, .if_icmp .gt 6, 3), (55, .ldc 200, 2), (57, .ireturn, 1), (58, .iload_n 2, 1), (59, .ireturn, 1)]
theorem c_JArraysSupport_hugeLength_ok : (c_JArraysSupport_hugeLength).all (fun q => decide (decode prog_31_method_28_code q.1 = .ok q.2)) = true := by decide +kernel
theorem d_JArraysSupport_hugeLength_0 : decode prog_31_method_28_code 0 = .ok (.iload_n 0, 1) := jx_dec c_JArraysSupport_hugeLength_ok 0 rfl
theorem d_JArraysSupport_hugeLength_1 : decode prog_31_method_28_code 1 = .ok (.iload_n 1, 1) := jx_dec c_JArraysSupport_hugeLength_ok 1 rfl
theorem d_JArraysSupport_hugeLength_2 : decode prog_31_method_28_code 2 = .ok (.iadd, 1) := jx_dec c_JArraysSupport_hugeLength_ok 2 rfl
theorem d_JArraysSupport_hugeLength_3 : decode prog_31_method_28_code 3 = .ok (.istore_n 2, 1) := jx_dec c_JArraysSupport_hugeLength_ok 3 rfl
theorem d_JArraysSupport_hugeLength_4 : decode prog_31_method_28_code 4 = .ok (.iload_n 2, 1) := jx_dec c_JArraysSupport_hugeLength_ok 4 rfl
theorem d_JArraysSupport_hugeLength_5 : decode prog_31_method_28_code 5 = .ok (.ifCond .ge 44, 3) := jx_dec c_JArraysSupport_hugeLength_ok 5 rfl
theorem d_JArraysSupport_hugeLength_8 : decode prog_31_method_28_code 8 = .ok (.new 204, 3) := jx_dec c_JArraysSupport_hugeLength_ok 6 rfl
theorem d_JArraysSupport_hugeLength_11 : decode prog_31_method_28_code 11 = .ok (.dup, 1) := jx_dec c_JArraysSupport_hugeLength_ok 7 rfl
theorem d_JArraysSupport_hugeLength_12 : decode prog_31_method_28_code 12 = .ok (.new 89, 3) := jx_dec c_JArraysSupport_hugeLength_ok 8 rfl
theorem d_JArraysSupport_hugeLength_15 : decode prog_31_method_28_code 15 = .ok (.dup, 1) := jx_dec c_JArraysSupport_hugeLength_ok 9 rfl
theorem d_JArraysSupport_hugeLength_16 : decode prog_31_method_28_code 16 = .ok (.invokespecial 91, 3) := jx_dec c_JArraysSupport_hugeLength_ok 10 rfl
theorem d_JArraysSupport_hugeLength_19 : decode prog_31_method_28_code 19 = .ok (.ldc 206, 2) := jx_dec c_JArraysSupport_hugeLength_ok 11 rfl
theorem d_JArraysSupport_hugeLength_21 : decode prog_31_method_28_code 21 = .ok (.invokevirtual 94, 3) := jx_dec c_JArraysSupport_hugeLength_ok 12 rfl
theorem d_JArraysSupport_hugeLength_24 : decode prog_31_method_28_code 24 = .ok (.iload_n 0, 1) := jx_dec c_JArraysSupport_hugeLength_ok 13 rfl
theorem d_JArraysSupport_hugeLength_25 : decode prog_31_method_28_code 25 = .ok (.invokevirtual 98, 3) := jx_dec c_JArraysSupport_hugeLength_ok 14 rfl
theorem d_JArraysSupport_hugeLength_28 : decode prog_31_method_28_code 28 = .ok (.ldc 208, 2) := jx_dec c_JArraysSupport_hugeLength_ok 15 rfl
theorem d_JArraysSupport_hugeLength_30 : decode prog_31_method_28_code 30 = .ok (.invokevirtual 94, 3) := jx_dec c_JArraysSupport_hugeLength_ok 16 rfl
theorem d_JArraysSupport_hugeLength_33 : decode prog_31_method_28_code 33 = .ok (.iload_n 1, 1) := jx_dec c_JArraysSupport_hugeLength_ok 17 rfl
theorem d_JArraysSupport_hugeLength_34 : decode prog_31_method_28_code 34 = .ok (.invokevirtual 98, 3) := jx_dec c_JArraysSupport_hugeLength_ok 18 rfl
theorem d_JArraysSupport_hugeLength_37 : decode prog_31_method_28_code 37 = .ok (.ldc 210, 2) := jx_dec c_JArraysSupport_hugeLength_ok 19 rfl
theorem d_JArraysSupport_hugeLength_39 : decode prog_31_method_28_code 39 = .ok (.invokevirtual 94, 3) := jx_dec c_JArraysSupport_hugeLength_ok 20 rfl
theorem d_JArraysSupport_hugeLength_42 : decode prog_31_method_28_code 42 = .ok (.invokevirtual 101, 3) := jx_dec c_JArraysSupport_hugeLength_ok 21 rfl
theorem d_JArraysSupport_hugeLength_45 : decode prog_31_method_28_code 45 = .ok (.invokespecial 212, 3) := jx_dec c_JArraysSupport_hugeLength_ok 22 rfl
theorem d_JArraysSupport_hugeLength_48 : decode prog_31_method_28_code 48 = .ok (.athrow, 1) := jx_dec c_JArraysSupport_hugeLength_ok 23 rfl
theorem d_JArraysSupport_hugeLength_49 : decode prog_31_method_28_code 49 = .ok (.iload_n 2, 1) := jx_dec c_JArraysSupport_hugeLength_ok 24 rfl
theorem d_JArraysSupport_hugeLength_50 : decode prog_31_method_28_code 50 = .ok (.ldc 200, 2) := jx_dec c_JArraysSupport_hugeLength_ok 25 rfl
theorem d_JArraysSupport_hugeLength_52 : decode prog_31_method_28_code 52 = .ok (.if_icmp .gt 6, 3) := jx_dec c_JArraysSupport_hugeLength_ok 26 rfl
theorem d_JArraysSupport_hugeLength_55 : decode prog_31_method_28_code 55 = .ok (.ldc 200, 2) := jx_dec c_JArraysSupport_hugeLength_ok 27 rfl
theorem d_JArraysSupport_hugeLength_57 : decode prog_31_method_28_code 57 = .ok (.ireturn, 1) := jx_dec c_JArraysSupport_hugeLength_ok 28 rfl
theorem d_JArraysSupport_hugeLength_58 : decode prog_31_method_28_code 58 = .ok (.iload_n 2, 1) := jx_dec c_JArraysSupport_hugeLength_ok 29 rfl
theorem d_JArraysSupport_hugeLength_59 : decode prog_31_method_28_code 59 = .ok (.ireturn, 1) := jx_dec c_JArraysSupport_hugeLength_ok 30 rfl
def c_JArrays_copyOf : List (Nat × Instr × Nat) := [(0, .aload_n 0, 1), (1, .iload_n 1, 1), (2, .aload_n 0, 1), (3, .invokevirtual 86, 3), (6, .invokestatic 300, 3), (9, .areturn, 1)]
theorem c_JArrays_copyOf_ok : (c_JArrays_copyOf).all (fun q => decide (decode prog_24_method_119_code q.1 = .ok q.2)) = true := by decide +kernel
theorem d_JArrays_copyOf_0 : decode prog_24_method_119_code 0 = .ok (.aload_n 0, 1) := jx_dec c_JArrays_copyOf_ok 0 rfl
theorem d_JArrays_copyOf_1 : decode prog_24_method_119_code 1 = .ok (.iload_n 1, 1) := jx_dec c_JArrays_copyOf_ok 1 rfl
theorem d_JArrays_copyOf_2 : decode prog_24_method_119_code 2 = .ok (.aload_n 0, 1) := jx_dec c_JArrays_copyOf_ok 2 rfl
theorem d_JArrays_copyOf_3 : decode prog_24_method_119_code 3 = .ok (.invokevirtual 86, 3) := jx_dec c_JArrays_copyOf_ok 3 rfl
theorem d_JArrays_copyOf_6 : decode prog_24_method_119_code 6 = .ok (.invokestatic 300, 3) := jx_dec c_JArrays_copyOf_ok 4 rfl
theorem d_JArrays_copyOf_9 : decode prog_24_method_119_code 9 = .ok (.areturn, 1) := jx_dec c_JArrays_copyOf_ok 5 rfl
def c_JArrays_copyOf3 : List (Nat × Instr × Nat) := [(0, .aload_n 2, 1), (1, .ldc 110, 2), (3, .if_acmp .ne 10, 3), (6, .iload_n 1, 1), (7, .anewarray 2, 3), (10, .goto 14, 3), (13, .aload_n 2, 1), (14, .invokevirtual 90, 3), (17, .iload_n 1, 1), (18, .invokestatic 95, 3), (21, .checkcast 110, 3), (24, .astore_n 3, 1), (25, .aload_n 0, 1), (26, .iconst 0, 1), (27, .aload_n 3, 1), (28, .iconst 0, 1), (29, .aload_n 0, 1), (30, .arraylength, 1), (31, .iload_n 1, 1), (32, .invokestatic 304, 3), (35, .invokestatic 150, 3), (38, .aload_n 3, 1), (39, .areturn, 1)]
theorem c_JArrays_copyOf3_ok : (c_JArrays_copyOf3).all (fun q => decide (decode prog_24_method_120_code q.1 = .ok q.2)) = true := by decide +kernel
theorem d_JArrays_copyOf3_0 : decode prog_24_method_120_code 0 = .ok (.aload_n 2, 1) := jx_dec c_JArrays_copyOf3_ok 0 rfl
theorem d_JArrays_copyOf3_1 : decode prog_24_method_120_code 1 = .ok (.ldc 110, 2) := jx_dec c_JArrays_copyOf3_ok 1 rfl
theorem d_JArrays_copyOf3_3 : decode prog_24_method_120_code 3 = .ok (.if_acmp .ne 10, 3) := jx_dec c_JArrays_copyOf3_ok 2 rfl
theorem d_JArrays_copyOf3_6 : decode prog_24_method_120_code 6 = .ok (.iload_n 1, 1) := jx_dec c_JArrays_copyOf3_ok 3 rfl
theorem d_JArrays_copyOf3_7 : decode prog_24_method_120_code 7 = .ok (.anewarray 2, 3) := jx_dec c_JArrays_copyOf3_ok 4 rfl
theorem d_JArrays_copyOf3_10 : decode prog_24_method_120_code 10 = .ok (.goto 14, 3) := jx_dec c_JArrays_copyOf3_ok 5 rfl
theorem d_JArrays_copyOf3_13 : decode prog_24_method_120_code 13 = .ok (.aload_n 2, 1) := jx_dec c_JArrays_copyOf3_ok 6 rfl
theorem d_JArrays_copyOf3_14 : decode prog_24_method_120_code 14 = .ok (.invokevirtual 90, 3) := jx_dec c_JArrays_copyOf3_ok 7 rfl
theorem d_JArrays_copyOf3_17 : decode prog_24_method_120_code 17 = .ok (.iload_n 1, 1) := jx_dec c_JArrays_copyOf3_ok 8 rfl
theorem d_JArrays_copyOf3_18 : decode prog_24_method_120_code 18 = .ok (.invokestatic 95, 3) := jx_dec c_JArrays_copyOf3_ok 9 rfl
theorem d_JArrays_copyOf3_21 : decode prog_24_method_120_code 21 = .ok (.checkcast 110, 3) := jx_dec c_JArrays_copyOf3_ok 10 rfl
theorem d_JArrays_copyOf3_24 : decode prog_24_method_120_code 24 = .ok (.astore_n 3, 1) := jx_dec c_JArrays_copyOf3_ok 11 rfl
theorem d_JArrays_copyOf3_25 : decode prog_24_method_120_code 25 = .ok (.aload_n 0, 1) := jx_dec c_JArrays_copyOf3_ok 12 rfl
theorem d_JArrays_copyOf3_26 : decode prog_24_method_120_code 26 = .ok (.iconst 0, 1) := jx_dec c_JArrays_copyOf3_ok 13 rfl
theorem d_JArrays_copyOf3_27 : decode prog_24_method_120_code 27 = .ok (.aload_n 3, 1) := jx_dec c_JArrays_copyOf3_ok 14 rfl
theorem d_JArrays_copyOf3_28 : decode prog_24_method_120_code 28 = .ok (.iconst 0, 1) := jx_dec c_JArrays_copyOf3_ok 15 rfl
theorem d_JArrays_copyOf3_29 : decode prog_24_method_120_code 29 = .ok (.aload_n 0, 1) := jx_dec c_JArrays_copyOf3_ok 16 rfl
theorem d_JArrays_copyOf3_30 : decode prog_24_method_120_code 30 = .ok (.arraylength, 1) := jx_dec c_JArrays_copyOf3_ok 17 rfl
theorem d_JArrays_copyOf3_31 : decode prog_24_method_120_code 31 = .ok (.iload_n 1, 1) := jx_dec c_JArrays_copyOf3_ok 18 rfl
theorem d_JArrays_copyOf3_32 : decode prog_24_method_120_code 32 = .ok (.invokestatic 304, 3) := jx_dec c_JArrays_copyOf3_ok 19 rfl
theorem d_JArrays_copyOf3_35 : decode prog_24_method_120_code 35 = .ok (.invokestatic 150, 3) := jx_dec c_JArrays_copyOf3_ok 20 rfl
theorem d_JArrays_copyOf3_38 : decode prog_24_method_120_code 38 = .ok (.aload_n 3, 1) := jx_dec c_JArrays_copyOf3_ok 21 rfl
theorem d_JArrays_copyOf3_39 : decode prog_24_method_120_code 39 = .ok (.areturn, 1) := jx_dec c_JArrays_copyOf3_ok 22 rfl
def c_JInteger_bitCount : List (Nat × Instr × Nat) := [(0, .iload_n 0, 1), (1, .iload_n 0, 1), (2, .iconst 1, 1), (3, .iushr, 1), (4, .ldc_w 265, 3), (7, .iand, 1), (8, .isub, 1), (9, .istore_n 0, 1), (10, .iload_n 0, 1), (11, .ldc_w 266, 3), (14, .iand, 1), (15, .iload_n 0, 1), (16, .iconst 2, 1), (17, .iushr, 1), (18, .ldc_w 266, 3), (21, .iand, 1), (22, .iadd, 1), (23, .istore_n 0, 1), (24, .iload_n 0, 1), (25, .iload_n 0, 1), (26, .iconst 4, 1), (27, .iushr, 1), (28, .iadd, 1), (29, .ldc_w 267, 3), (32, .iand, 1), (33, .istore_n 0, 1), (34, .iload_n 0, 1), (35, .iload_n 0, 1), (36, .bipush 8, 2), (38, .iushr, 1), (39, .iadd, 1), (40, .istore_n 0, 1), (41, .iload_n 0, 1), (42, .iload_n 0, 1), (43, .bipush 16, 2), (45, .iushr, 1), (46, .iadd, 1), (47, .istore_n 0, 1), (48, .iload_n 0, 1), (49, .bipush 63, 2), (51, .iand, 1), (52, .ireturn, 1)]
theorem c_JInteger_bitCount_ok : (c_JInteger_bitCount).all (fun q => decide (decode prog_13_method_49_code q.1 = .ok q.2)) = true := by decide +kernel
theorem d_JInteger_bitCount_0 : decode prog_13_method_49_code 0 = .ok (.iload_n 0, 1) := jx_dec c_JInteger_bitCount_ok 0 rfl
theorem d_JInteger_bitCount_1 : decode prog_13_method_49_code 1 = .ok (.iload_n 0, 1) := jx_dec c_JInteger_bitCount_ok 1 rfl
theorem d_JInteger_bitCount_2 : decode prog_13_method_49_code 2 = .ok (.iconst 1, 1) := jx_dec c_JInteger_bitCount_ok 2 rfl
theorem d_JInteger_bitCount_3 : decode prog_13_method_49_code 3 = .ok (.iushr, 1) := jx_dec c_JInteger_bitCount_ok 3 rfl
theorem d_JInteger_bitCount_4 : decode prog_13_method_49_code 4 = .ok (.ldc_w 265, 3) := jx_dec c_JInteger_bitCount_ok 4 rfl
theorem d_JInteger_bitCount_7 : decode prog_13_method_49_code 7 = .ok (.iand, 1) := jx_dec c_JInteger_bitCount_ok 5 rfl
theorem d_JInteger_bitCount_8 : decode prog_13_method_49_code 8 = .ok (.isub, 1) := jx_dec c_JInteger_bitCount_ok 6 rfl
theorem d_JInteger_bitCount_9 : decode prog_13_method_49_code 9 = .ok (.istore_n 0, 1) := jx_dec c_JInteger_bitCount_ok 7 rfl
theorem d_JInteger_bitCount_10 : decode prog_13_method_49_code 10 = .ok (.iload_n 0, 1) := jx_dec c_JInteger_bitCount_ok 8 rfl
theorem d_JInteger_bitCount_11 : decode prog_13_method_49_code 11 = .ok (.ldc_w 266, 3) := jx_dec c_JInteger_bitCount_ok 9 rfl
theorem d_JInteger_bitCount_14 : decode prog_13_method_49_code 14 = .ok (.iand, 1) := jx_dec c_JInteger_bitCount_ok 10 rfl
theorem d_JInteger_bitCount_15 : decode prog_13_method_49_code 15 = .ok (.iload_n 0, 1) := jx_dec c_JInteger_bitCount_ok 11 rfl
theorem d_JInteger_bitCount_16 : decode prog_13_method_49_code 16 = .ok (.iconst 2, 1) := jx_dec c_JInteger_bitCount_ok 12 rfl
theorem d_JInteger_bitCount_17 : decode prog_13_method_49_code 17 = .ok (.iushr, 1) := jx_dec c_JInteger_bitCount_ok 13 rfl
theorem d_JInteger_bitCount_18 : decode prog_13_method_49_code 18 = .ok (.ldc_w 266, 3) := jx_dec c_JInteger_bitCount_ok 14 rfl
theorem d_JInteger_bitCount_21 : decode prog_13_method_49_code 21 = .ok (.iand, 1) := jx_dec c_JInteger_bitCount_ok 15 rfl
theorem d_JInteger_bitCount_22 : decode prog_13_method_49_code 22 = .ok (.iadd, 1) := jx_dec c_JInteger_bitCount_ok 16 rfl
theorem d_JInteger_bitCount_23 : decode prog_13_method_49_code 23 = .ok (.istore_n 0, 1) := jx_dec c_JInteger_bitCount_ok 17 rfl
theorem d_JInteger_bitCount_24 : decode prog_13_method_49_code 24 = .ok (.iload_n 0, 1) := jx_dec c_JInteger_bitCount_ok 18 rfl
theorem d_JInteger_bitCount_25 : decode prog_13_method_49_code 25 = .ok (.iload_n 0, 1) := jx_dec c_JInteger_bitCount_ok 19 rfl
theorem d_JInteger_bitCount_26 : decode prog_13_method_49_code 26 = .ok (.iconst 4, 1) := jx_dec c_JInteger_bitCount_ok 20 rfl
theorem d_JInteger_bitCount_27 : decode prog_13_method_49_code 27 = .ok (.iushr, 1) := jx_dec c_JInteger_bitCount_ok 21 rfl
theorem d_JInteger_bitCount_28 : decode prog_13_method_49_code 28 = .ok (.iadd, 1) := jx_dec c_JInteger_bitCount_ok 22 rfl
theorem d_JInteger_bitCount_29 : decode prog_13_method_49_code 29 = .ok (.ldc_w 267, 3) := jx_dec c_JInteger_bitCount_ok 23 rfl
theorem d_JInteger_bitCount_32 : decode prog_13_method_49_code 32 = .ok (.iand, 1) := jx_dec c_JInteger_bitCount_ok 24 rfl
theorem d_JInteger_bitCount_33 : decode prog_13_method_49_code 33 = .ok (.istore_n 0, 1) := jx_dec c_JInteger_bitCount_ok 25 rfl
theorem d_JInteger_bitCount_34 : decode prog_13_method_49_code 34 = .ok (.iload_n 0, 1) := jx_dec c_JInteger_bitCount_ok 26 rfl
theorem d_JInteger_bitCount_35 : decode prog_13_method_49_code 35 = .ok (.iload_n 0, 1) := jx_dec c_JInteger_bitCount_ok 27 rfl
theorem d_JInteger_bitCount_36 : decode prog_13_method_49_code 36 = .ok (.bipush 8, 2) := jx_dec c_JInteger_bitCount_ok 28 rfl
theorem d_JInteger_bitCount_38 : decode prog_13_method_49_code 38 = .ok (.iushr, 1) := jx_dec c_JInteger_bitCount_ok 29 rfl
theorem d_JInteger_bitCount_39 : decode prog_13_method_49_code 39 = .ok (.iadd, 1) := jx_dec c_JInteger_bitCount_ok 30 rfl
theorem d_JInteger_bitCount_40 : decode prog_13_method_49_code 40 = .ok (.istore_n 0, 1) := jx_dec c_JInteger_bitCount_ok 31 rfl
theorem d_JInteger_bitCount_41 : decode prog_13_method_49_code 41 = .ok (.iload_n 0, 1) := jx_dec c_JInteger_bitCount_ok 32 rfl
theorem d_JInteger_bitCount_42 : decode prog_13_method_49_code 42 = .ok (.iload_n 0, 1) := jx_dec c_JInteger_bitCount_ok 33 rfl
theorem d_JInteger_bitCount_43 : decode prog_13_method_49_code 43 = .ok (.bipush 16, 2) := jx_dec c_JInteger_bitCount_ok 34 rfl
theorem d_JInteger_bitCount_45 : decode prog_13_method_49_code 45 = .ok (.iushr, 1) := jx_dec c_JInteger_bitCount_ok 35 rfl
theorem d_JInteger_bitCount_46 : decode prog_13_method_49_code 46 = .ok (.iadd, 1) := jx_dec c_JInteger_bitCount_ok 36 rfl
theorem d_JInteger_bitCount_47 : decode prog_13_method_49_code 47 = .ok (.istore_n 0, 1) := jx_dec c_JInteger_bitCount_ok 37 rfl
theorem d_JInteger_bitCount_48 : decode prog_13_method_49_code 48 = .ok (.iload_n 0, 1) := jx_dec c_JInteger_bitCount_ok 38 rfl
theorem d_JInteger_bitCount_49 : decode prog_13_method_49_code 49 = .ok (.bipush 63, 2) := jx_dec c_JInteger_bitCount_ok 39 rfl
theorem d_JInteger_bitCount_51 : decode prog_13_method_49_code 51 = .ok (.iand, 1) := jx_dec c_JInteger_bitCount_ok 40 rfl
theorem d_JInteger_bitCount_52 : decode prog_13_method_49_code 52 = .ok (.ireturn, 1) := jx_dec c_JInteger_bitCount_ok 41 rfl
end
section
/-! 04.2P: the instructions -/
def c_P_may : List (Nat × Instr × Nat) := [(0, .aload_n 0, 1), (1, .getfield 9, 3), (4, .ifCond .eq 26, 3), (7, .aload_n 0, 1), (8, .aload_n 1, 1), (9, .getfield 40, 3), (12, .invokevirtual 43, 3), (15, .ifCond .eq 15, 3), (18, .aload_n 0, 1), (19, .aload_n 1, 1), (20, .invokevirtual 47, 3), (23, .ifCond .ne 7, 3), (26, .iconst 1, 1), (27, .goto 4, 3), (30, .iconst 0, 1), (31, .ireturn, 1)]
theorem c_P_may_ok : (c_P_may).all (fun q => decide (decode prog_3_method_4_code q.1 = .ok q.2)) = true := by decide +kernel
theorem d_P_may_0 : decode prog_3_method_4_code 0 = .ok (.aload_n 0, 1) := jx_dec c_P_may_ok 0 rfl
theorem d_P_may_1 : decode prog_3_method_4_code 1 = .ok (.getfield 9, 3) := jx_dec c_P_may_ok 1 rfl
theorem d_P_may_4 : decode prog_3_method_4_code 4 = .ok (.ifCond .eq 26, 3) := jx_dec c_P_may_ok 2 rfl
theorem d_P_may_7 : decode prog_3_method_4_code 7 = .ok (.aload_n 0, 1) := jx_dec c_P_may_ok 3 rfl
theorem d_P_may_8 : decode prog_3_method_4_code 8 = .ok (.aload_n 1, 1) := jx_dec c_P_may_ok 4 rfl
theorem d_P_may_9 : decode prog_3_method_4_code 9 = .ok (.getfield 40, 3) := jx_dec c_P_may_ok 5 rfl
theorem d_P_may_12 : decode prog_3_method_4_code 12 = .ok (.invokevirtual 43, 3) := jx_dec c_P_may_ok 6 rfl
theorem d_P_may_15 : decode prog_3_method_4_code 15 = .ok (.ifCond .eq 15, 3) := jx_dec c_P_may_ok 7 rfl
theorem d_P_may_18 : decode prog_3_method_4_code 18 = .ok (.aload_n 0, 1) := jx_dec c_P_may_ok 8 rfl
theorem d_P_may_19 : decode prog_3_method_4_code 19 = .ok (.aload_n 1, 1) := jx_dec c_P_may_ok 9 rfl
theorem d_P_may_20 : decode prog_3_method_4_code 20 = .ok (.invokevirtual 47, 3) := jx_dec c_P_may_ok 10 rfl
theorem d_P_may_23 : decode prog_3_method_4_code 23 = .ok (.ifCond .ne 7, 3) := jx_dec c_P_may_ok 11 rfl
theorem d_P_may_26 : decode prog_3_method_4_code 26 = .ok (.iconst 1, 1) := jx_dec c_P_may_ok 12 rfl
theorem d_P_may_27 : decode prog_3_method_4_code 27 = .ok (.goto 4, 3) := jx_dec c_P_may_ok 13 rfl
theorem d_P_may_30 : decode prog_3_method_4_code 30 = .ok (.iconst 0, 1) := jx_dec c_P_may_ok 14 rfl
theorem d_P_may_31 : decode prog_3_method_4_code 31 = .ok (.ireturn, 1) := jx_dec c_P_may_ok 15 rfl
def c_P_hasSkill : List (Nat × Instr × Nat) := [(0, .aload_n 0, 1), (1, .getfield 22, 3), (4, .iload_n 1, 1), (5, .ishr, 1), (6, .iconst 1, 1), (7, .iand, 1), (8, .iconst 1, 1), (9, .if_icmp .ne 7, 3), (12, .iconst 1, 1), (13, .goto 4, 3), (16, .iconst 0, 1), (17, .ireturn, 1)]
theorem c_P_hasSkill_ok : (c_P_hasSkill).all (fun q => decide (decode prog_3_method_2_code q.1 = .ok q.2)) = true := by decide +kernel
theorem d_P_hasSkill_0 : decode prog_3_method_2_code 0 = .ok (.aload_n 0, 1) := jx_dec c_P_hasSkill_ok 0 rfl
theorem d_P_hasSkill_1 : decode prog_3_method_2_code 1 = .ok (.getfield 22, 3) := jx_dec c_P_hasSkill_ok 1 rfl
theorem d_P_hasSkill_4 : decode prog_3_method_2_code 4 = .ok (.iload_n 1, 1) := jx_dec c_P_hasSkill_ok 2 rfl
theorem d_P_hasSkill_5 : decode prog_3_method_2_code 5 = .ok (.ishr, 1) := jx_dec c_P_hasSkill_ok 3 rfl
theorem d_P_hasSkill_6 : decode prog_3_method_2_code 6 = .ok (.iconst 1, 1) := jx_dec c_P_hasSkill_ok 4 rfl
theorem d_P_hasSkill_7 : decode prog_3_method_2_code 7 = .ok (.iand, 1) := jx_dec c_P_hasSkill_ok 5 rfl
theorem d_P_hasSkill_8 : decode prog_3_method_2_code 8 = .ok (.iconst 1, 1) := jx_dec c_P_hasSkill_ok 6 rfl
theorem d_P_hasSkill_9 : decode prog_3_method_2_code 9 = .ok (.if_icmp .ne 7, 3) := jx_dec c_P_hasSkill_ok 7 rfl
theorem d_P_hasSkill_12 : decode prog_3_method_2_code 12 = .ok (.iconst 1, 1) := jx_dec c_P_hasSkill_ok 8 rfl
theorem d_P_hasSkill_13 : decode prog_3_method_2_code 13 = .ok (.goto 4, 3) := jx_dec c_P_hasSkill_ok 9 rfl
theorem d_P_hasSkill_16 : decode prog_3_method_2_code 16 = .ok (.iconst 0, 1) := jx_dec c_P_hasSkill_ok 10 rfl
theorem d_P_hasSkill_17 : decode prog_3_method_2_code 17 = .ok (.ireturn, 1) := jx_dec c_P_hasSkill_ok 11 rfl
def c_P_hasRefused : List (Nat × Instr × Nat) := [(0, .aload_n 0, 1), (1, .getfield 34, 3), (4, .aload_n 1, 1), (5, .getfield 37, 3), (8, .ishr, 1), (9, .iconst 1, 1), (10, .iand, 1), (11, .iconst 1, 1), (12, .if_icmp .ne 7, 3), (15, .iconst 1, 1), (16, .goto 4, 3), (19, .iconst 0, 1), (20, .ireturn, 1)]
theorem c_P_hasRefused_ok : (c_P_hasRefused).all (fun q => decide (decode prog_3_method_3_code q.1 = .ok q.2)) = true := by decide +kernel
theorem d_P_hasRefused_0 : decode prog_3_method_3_code 0 = .ok (.aload_n 0, 1) := jx_dec c_P_hasRefused_ok 0 rfl
theorem d_P_hasRefused_1 : decode prog_3_method_3_code 1 = .ok (.getfield 34, 3) := jx_dec c_P_hasRefused_ok 1 rfl
theorem d_P_hasRefused_4 : decode prog_3_method_3_code 4 = .ok (.aload_n 1, 1) := jx_dec c_P_hasRefused_ok 2 rfl
theorem d_P_hasRefused_5 : decode prog_3_method_3_code 5 = .ok (.getfield 37, 3) := jx_dec c_P_hasRefused_ok 3 rfl
theorem d_P_hasRefused_8 : decode prog_3_method_3_code 8 = .ok (.ishr, 1) := jx_dec c_P_hasRefused_ok 4 rfl
theorem d_P_hasRefused_9 : decode prog_3_method_3_code 9 = .ok (.iconst 1, 1) := jx_dec c_P_hasRefused_ok 5 rfl
theorem d_P_hasRefused_10 : decode prog_3_method_3_code 10 = .ok (.iand, 1) := jx_dec c_P_hasRefused_ok 6 rfl
theorem d_P_hasRefused_11 : decode prog_3_method_3_code 11 = .ok (.iconst 1, 1) := jx_dec c_P_hasRefused_ok 7 rfl
theorem d_P_hasRefused_12 : decode prog_3_method_3_code 12 = .ok (.if_icmp .ne 7, 3) := jx_dec c_P_hasRefused_ok 8 rfl
theorem d_P_hasRefused_15 : decode prog_3_method_3_code 15 = .ok (.iconst 1, 1) := jx_dec c_P_hasRefused_ok 9 rfl
theorem d_P_hasRefused_16 : decode prog_3_method_3_code 16 = .ok (.goto 4, 3) := jx_dec c_P_hasRefused_ok 10 rfl
theorem d_P_hasRefused_19 : decode prog_3_method_3_code 19 = .ok (.iconst 0, 1) := jx_dec c_P_hasRefused_ok 11 rfl
theorem d_P_hasRefused_20 : decode prog_3_method_3_code 20 = .ok (.ireturn, 1) := jx_dec c_P_hasRefused_ok 12 rfl
def c_P_freeFrom : List (Nat × Instr × Nat) := [(0, .iload_n 1, 1), (1, .aload_n 0, 1), (2, .getfield 25, 3), (5, .aload_n 0, 1), (6, .getfield 51, 3), (9, .invokestatic 54, 3), (12, .invokestatic 54, 3), (15, .ireturn, 1)]
theorem c_P_freeFrom_ok : (c_P_freeFrom).all (fun q => decide (decode prog_3_method_5_code q.1 = .ok q.2)) = true := by decide +kernel
theorem d_P_freeFrom_0 : decode prog_3_method_5_code 0 = .ok (.iload_n 1, 1) := jx_dec c_P_freeFrom_ok 0 rfl
theorem d_P_freeFrom_1 : decode prog_3_method_5_code 1 = .ok (.aload_n 0, 1) := jx_dec c_P_freeFrom_ok 1 rfl
theorem d_P_freeFrom_2 : decode prog_3_method_5_code 2 = .ok (.getfield 25, 3) := jx_dec c_P_freeFrom_ok 2 rfl
theorem d_P_freeFrom_5 : decode prog_3_method_5_code 5 = .ok (.aload_n 0, 1) := jx_dec c_P_freeFrom_ok 3 rfl
theorem d_P_freeFrom_6 : decode prog_3_method_5_code 6 = .ok (.getfield 51, 3) := jx_dec c_P_freeFrom_ok 4 rfl
theorem d_P_freeFrom_9 : decode prog_3_method_5_code 9 = .ok (.invokestatic 54, 3) := jx_dec c_P_freeFrom_ok 5 rfl
theorem d_P_freeFrom_12 : decode prog_3_method_5_code 12 = .ok (.invokestatic 54, 3) := jx_dec c_P_freeFrom_ok 6 rfl
theorem d_P_freeFrom_15 : decode prog_3_method_5_code 15 = .ok (.ireturn, 1) := jx_dec c_P_freeFrom_ok 7 rfl
def c_P_startOf : List (Nat × Instr × Nat) := [(0, .iload_n 2, 1), (1, .aload 4, 2), (3, .iload_n 3, 1), (4, .aload_n 1, 1), (5, .getfield 60, 3), (8, .invokevirtual 61, 3), (11, .iadd, 1), (12, .istore 5, 2), (14, .iload 5, 2), (16, .aload_n 0, 1), (17, .getfield 66, 3), (20, .if_icmp .ge 23, 3), (23, .iload 5, 2), (25, .aload_n 1, 1), (26, .getfield 69, 3), (29, .iadd, 1), (30, .aload_n 0, 1), (31, .getfield 72, 3), (34, .if_icmp .le 9, 3), (37, .aload_n 0, 1), (38, .getfield 66, 3), (41, .istore 5, 2), (43, .iload 5, 2), (45, .aload_n 1, 1), (46, .getfield 69, 3), (49, .iadd, 1), (50, .aload_n 0, 1), (51, .getfield 28, 3), (54, .if_icmp .le 7, 3), (57, .iconst (-1), 1), (58, .goto 5, 3), (61, .iload 5, 2), (63, .ireturn, 1)]
theorem c_P_startOf_ok : (c_P_startOf).all (fun q => decide (decode prog_3_method_6_code q.1 = .ok q.2)) = true := by decide +kernel
theorem d_P_startOf_0 : decode prog_3_method_6_code 0 = .ok (.iload_n 2, 1) := jx_dec c_P_startOf_ok 0 rfl
theorem d_P_startOf_1 : decode prog_3_method_6_code 1 = .ok (.aload 4, 2) := jx_dec c_P_startOf_ok 1 rfl
theorem d_P_startOf_3 : decode prog_3_method_6_code 3 = .ok (.iload_n 3, 1) := jx_dec c_P_startOf_ok 2 rfl
theorem d_P_startOf_4 : decode prog_3_method_6_code 4 = .ok (.aload_n 1, 1) := jx_dec c_P_startOf_ok 3 rfl
theorem d_P_startOf_5 : decode prog_3_method_6_code 5 = .ok (.getfield 60, 3) := jx_dec c_P_startOf_ok 4 rfl
theorem d_P_startOf_8 : decode prog_3_method_6_code 8 = .ok (.invokevirtual 61, 3) := jx_dec c_P_startOf_ok 5 rfl
theorem d_P_startOf_11 : decode prog_3_method_6_code 11 = .ok (.iadd, 1) := jx_dec c_P_startOf_ok 6 rfl
theorem d_P_startOf_12 : decode prog_3_method_6_code 12 = .ok (.istore 5, 2) := jx_dec c_P_startOf_ok 7 rfl
theorem d_P_startOf_14 : decode prog_3_method_6_code 14 = .ok (.iload 5, 2) := jx_dec c_P_startOf_ok 8 rfl
theorem d_P_startOf_16 : decode prog_3_method_6_code 16 = .ok (.aload_n 0, 1) := jx_dec c_P_startOf_ok 9 rfl
theorem d_P_startOf_17 : decode prog_3_method_6_code 17 = .ok (.getfield 66, 3) := jx_dec c_P_startOf_ok 10 rfl
theorem d_P_startOf_20 : decode prog_3_method_6_code 20 = .ok (.if_icmp .ge 23, 3) := jx_dec c_P_startOf_ok 11 rfl
theorem d_P_startOf_23 : decode prog_3_method_6_code 23 = .ok (.iload 5, 2) := jx_dec c_P_startOf_ok 12 rfl
theorem d_P_startOf_25 : decode prog_3_method_6_code 25 = .ok (.aload_n 1, 1) := jx_dec c_P_startOf_ok 13 rfl
theorem d_P_startOf_26 : decode prog_3_method_6_code 26 = .ok (.getfield 69, 3) := jx_dec c_P_startOf_ok 14 rfl
theorem d_P_startOf_29 : decode prog_3_method_6_code 29 = .ok (.iadd, 1) := jx_dec c_P_startOf_ok 15 rfl
theorem d_P_startOf_30 : decode prog_3_method_6_code 30 = .ok (.aload_n 0, 1) := jx_dec c_P_startOf_ok 16 rfl
theorem d_P_startOf_31 : decode prog_3_method_6_code 31 = .ok (.getfield 72, 3) := jx_dec c_P_startOf_ok 17 rfl
theorem d_P_startOf_34 : decode prog_3_method_6_code 34 = .ok (.if_icmp .le 9, 3) := jx_dec c_P_startOf_ok 18 rfl
theorem d_P_startOf_37 : decode prog_3_method_6_code 37 = .ok (.aload_n 0, 1) := jx_dec c_P_startOf_ok 19 rfl
theorem d_P_startOf_38 : decode prog_3_method_6_code 38 = .ok (.getfield 66, 3) := jx_dec c_P_startOf_ok 20 rfl
theorem d_P_startOf_41 : decode prog_3_method_6_code 41 = .ok (.istore 5, 2) := jx_dec c_P_startOf_ok 21 rfl
theorem d_P_startOf_43 : decode prog_3_method_6_code 43 = .ok (.iload 5, 2) := jx_dec c_P_startOf_ok 22 rfl
theorem d_P_startOf_45 : decode prog_3_method_6_code 45 = .ok (.aload_n 1, 1) := jx_dec c_P_startOf_ok 23 rfl
theorem d_P_startOf_46 : decode prog_3_method_6_code 46 = .ok (.getfield 69, 3) := jx_dec c_P_startOf_ok 24 rfl
theorem d_P_startOf_49 : decode prog_3_method_6_code 49 = .ok (.iadd, 1) := jx_dec c_P_startOf_ok 25 rfl
theorem d_P_startOf_50 : decode prog_3_method_6_code 50 = .ok (.aload_n 0, 1) := jx_dec c_P_startOf_ok 26 rfl
theorem d_P_startOf_51 : decode prog_3_method_6_code 51 = .ok (.getfield 28, 3) := jx_dec c_P_startOf_ok 27 rfl
theorem d_P_startOf_54 : decode prog_3_method_6_code 54 = .ok (.if_icmp .le 7, 3) := jx_dec c_P_startOf_ok 28 rfl
theorem d_P_startOf_57 : decode prog_3_method_6_code 57 = .ok (.iconst (-1), 1) := jx_dec c_P_startOf_ok 29 rfl
theorem d_P_startOf_58 : decode prog_3_method_6_code 58 = .ok (.goto 5, 3) := jx_dec c_P_startOf_ok 30 rfl
theorem d_P_startOf_61 : decode prog_3_method_6_code 61 = .ok (.iload 5, 2) := jx_dec c_P_startOf_ok 31 rfl
theorem d_P_startOf_63 : decode prog_3_method_6_code 63 = .ok (.ireturn, 1) := jx_dec c_P_startOf_ok 32 rfl
def c_P_init : List (Nat × Instr × Nat) := [(0, .aload_n 0, 1), (1, .invokespecial 3, 3), (4, .aload_n 0, 1), (5, .iconst 1, 1), (6, .putfield 9, 3), (9, .aload_n 0, 1), (10, .iconst (-1), 1), (11, .putfield 15, 3), (14, .aload_n 0, 1), (15, .iload_n 1, 1), (16, .putfield 19, 3), (19, .aload_n 0, 1), (20, .iload_n 2, 1), (21, .putfield 22, 3), (24, .aload_n 0, 1), (25, .iload_n 3, 1), (26, .putfield 25, 3), (29, .aload_n 0, 1), (30, .iload 4, 2), (32, .putfield 28, 3), (35, .aload_n 0, 1), (36, .iload 5, 2), (38, .putfield 31, 3), (41, .return_, 1)]
theorem c_P_init_ok : (c_P_init).all (fun q => decide (decode prog_3_method_1_code q.1 = .ok q.2)) = true := by decide +kernel
theorem d_P_init_0 : decode prog_3_method_1_code 0 = .ok (.aload_n 0, 1) := jx_dec c_P_init_ok 0 rfl
theorem d_P_init_1 : decode prog_3_method_1_code 1 = .ok (.invokespecial 3, 3) := jx_dec c_P_init_ok 1 rfl
theorem d_P_init_4 : decode prog_3_method_1_code 4 = .ok (.aload_n 0, 1) := jx_dec c_P_init_ok 2 rfl
theorem d_P_init_5 : decode prog_3_method_1_code 5 = .ok (.iconst 1, 1) := jx_dec c_P_init_ok 3 rfl
theorem d_P_init_6 : decode prog_3_method_1_code 6 = .ok (.putfield 9, 3) := jx_dec c_P_init_ok 4 rfl
theorem d_P_init_9 : decode prog_3_method_1_code 9 = .ok (.aload_n 0, 1) := jx_dec c_P_init_ok 5 rfl
theorem d_P_init_10 : decode prog_3_method_1_code 10 = .ok (.iconst (-1), 1) := jx_dec c_P_init_ok 6 rfl
theorem d_P_init_11 : decode prog_3_method_1_code 11 = .ok (.putfield 15, 3) := jx_dec c_P_init_ok 7 rfl
theorem d_P_init_14 : decode prog_3_method_1_code 14 = .ok (.aload_n 0, 1) := jx_dec c_P_init_ok 8 rfl
theorem d_P_init_15 : decode prog_3_method_1_code 15 = .ok (.iload_n 1, 1) := jx_dec c_P_init_ok 9 rfl
theorem d_P_init_16 : decode prog_3_method_1_code 16 = .ok (.putfield 19, 3) := jx_dec c_P_init_ok 10 rfl
theorem d_P_init_19 : decode prog_3_method_1_code 19 = .ok (.aload_n 0, 1) := jx_dec c_P_init_ok 11 rfl
theorem d_P_init_20 : decode prog_3_method_1_code 20 = .ok (.iload_n 2, 1) := jx_dec c_P_init_ok 12 rfl
theorem d_P_init_21 : decode prog_3_method_1_code 21 = .ok (.putfield 22, 3) := jx_dec c_P_init_ok 13 rfl
theorem d_P_init_24 : decode prog_3_method_1_code 24 = .ok (.aload_n 0, 1) := jx_dec c_P_init_ok 14 rfl
theorem d_P_init_25 : decode prog_3_method_1_code 25 = .ok (.iload_n 3, 1) := jx_dec c_P_init_ok 15 rfl
theorem d_P_init_26 : decode prog_3_method_1_code 26 = .ok (.putfield 25, 3) := jx_dec c_P_init_ok 16 rfl
theorem d_P_init_29 : decode prog_3_method_1_code 29 = .ok (.aload_n 0, 1) := jx_dec c_P_init_ok 17 rfl
theorem d_P_init_30 : decode prog_3_method_1_code 30 = .ok (.iload 4, 2) := jx_dec c_P_init_ok 18 rfl
theorem d_P_init_32 : decode prog_3_method_1_code 32 = .ok (.putfield 28, 3) := jx_dec c_P_init_ok 19 rfl
theorem d_P_init_35 : decode prog_3_method_1_code 35 = .ok (.aload_n 0, 1) := jx_dec c_P_init_ok 20 rfl
theorem d_P_init_36 : decode prog_3_method_1_code 36 = .ok (.iload 5, 2) := jx_dec c_P_init_ok 21 rfl
theorem d_P_init_38 : decode prog_3_method_1_code 38 = .ok (.putfield 31, 3) := jx_dec c_P_init_ok 22 rfl
theorem d_P_init_41 : decode prog_3_method_1_code 41 = .ok (.return_, 1) := jx_dec c_P_init_ok 23 rfl
def c_P_addToRow : List (Nat × Instr × Nat) := [(0, .aload_n 0, 1), (1, .aload_n 1, 1), (2, .getfield 75, 3), (5, .aload_n 1, 1), (6, .getfield 69, 3), (9, .iadd, 1), (10, .putfield 78, 3), (13, .aload_n 0, 1), (14, .aload_n 1, 1), (15, .getfield 60, 3), (18, .putfield 81, 3), (21, .aload_n 0, 1), (22, .dup, 1), (23, .getfield 84, 3), (26, .iconst 1, 1), (27, .iadd, 1), (28, .putfield 84, 3), (31, .return_, 1)]
theorem c_P_addToRow_ok : (c_P_addToRow).all (fun q => decide (decode prog_3_method_7_code q.1 = .ok q.2)) = true := by decide +kernel
theorem d_P_addToRow_0 : decode prog_3_method_7_code 0 = .ok (.aload_n 0, 1) := jx_dec c_P_addToRow_ok 0 rfl
theorem d_P_addToRow_1 : decode prog_3_method_7_code 1 = .ok (.aload_n 1, 1) := jx_dec c_P_addToRow_ok 1 rfl
theorem d_P_addToRow_2 : decode prog_3_method_7_code 2 = .ok (.getfield 75, 3) := jx_dec c_P_addToRow_ok 2 rfl
theorem d_P_addToRow_5 : decode prog_3_method_7_code 5 = .ok (.aload_n 1, 1) := jx_dec c_P_addToRow_ok 3 rfl
theorem d_P_addToRow_6 : decode prog_3_method_7_code 6 = .ok (.getfield 69, 3) := jx_dec c_P_addToRow_ok 4 rfl
theorem d_P_addToRow_9 : decode prog_3_method_7_code 9 = .ok (.iadd, 1) := jx_dec c_P_addToRow_ok 5 rfl
theorem d_P_addToRow_10 : decode prog_3_method_7_code 10 = .ok (.putfield 78, 3) := jx_dec c_P_addToRow_ok 6 rfl
theorem d_P_addToRow_13 : decode prog_3_method_7_code 13 = .ok (.aload_n 0, 1) := jx_dec c_P_addToRow_ok 7 rfl
theorem d_P_addToRow_14 : decode prog_3_method_7_code 14 = .ok (.aload_n 1, 1) := jx_dec c_P_addToRow_ok 8 rfl
theorem d_P_addToRow_15 : decode prog_3_method_7_code 15 = .ok (.getfield 60, 3) := jx_dec c_P_addToRow_ok 9 rfl
theorem d_P_addToRow_18 : decode prog_3_method_7_code 18 = .ok (.putfield 81, 3) := jx_dec c_P_addToRow_ok 10 rfl
theorem d_P_addToRow_21 : decode prog_3_method_7_code 21 = .ok (.aload_n 0, 1) := jx_dec c_P_addToRow_ok 11 rfl
theorem d_P_addToRow_22 : decode prog_3_method_7_code 22 = .ok (.dup, 1) := jx_dec c_P_addToRow_ok 12 rfl
theorem d_P_addToRow_23 : decode prog_3_method_7_code 23 = .ok (.getfield 84, 3) := jx_dec c_P_addToRow_ok 13 rfl
theorem d_P_addToRow_26 : decode prog_3_method_7_code 26 = .ok (.iconst 1, 1) := jx_dec c_P_addToRow_ok 14 rfl
theorem d_P_addToRow_27 : decode prog_3_method_7_code 27 = .ok (.iadd, 1) := jx_dec c_P_addToRow_ok 15 rfl
theorem d_P_addToRow_28 : decode prog_3_method_7_code 28 = .ok (.putfield 84, 3) := jx_dec c_P_addToRow_ok 16 rfl
theorem d_P_addToRow_31 : decode prog_3_method_7_code 31 = .ok (.return_, 1) := jx_dec c_P_addToRow_ok 17 rfl
end
section
/-! 04.3K: the instructions -/
def c_K_latenessFrom : List (Nat × Instr × Nat) := [(0, .iconst 0, 1), (1, .iload_n 1, 1), (2, .aload_n 0, 1), (3, .getfield 27, 3), (6, .iadd, 1), (7, .aload_n 0, 1), (8, .getfield 30, 3), (11, .isub, 1), (12, .invokestatic 36, 3), (15, .ireturn, 1)]
theorem c_K_latenessFrom_ok : (c_K_latenessFrom).all (fun q => decide (decode prog_4_method_3_code q.1 = .ok q.2)) = true := by decide +kernel
theorem d_K_latenessFrom_0 : decode prog_4_method_3_code 0 = .ok (.iconst 0, 1) := jx_dec c_K_latenessFrom_ok 0 rfl
theorem d_K_latenessFrom_1 : decode prog_4_method_3_code 1 = .ok (.iload_n 1, 1) := jx_dec c_K_latenessFrom_ok 1 rfl
theorem d_K_latenessFrom_2 : decode prog_4_method_3_code 2 = .ok (.aload_n 0, 1) := jx_dec c_K_latenessFrom_ok 2 rfl
theorem d_K_latenessFrom_3 : decode prog_4_method_3_code 3 = .ok (.getfield 27, 3) := jx_dec c_K_latenessFrom_ok 3 rfl
theorem d_K_latenessFrom_6 : decode prog_4_method_3_code 6 = .ok (.iadd, 1) := jx_dec c_K_latenessFrom_ok 4 rfl
theorem d_K_latenessFrom_7 : decode prog_4_method_3_code 7 = .ok (.aload_n 0, 1) := jx_dec c_K_latenessFrom_ok 5 rfl
theorem d_K_latenessFrom_8 : decode prog_4_method_3_code 8 = .ok (.getfield 30, 3) := jx_dec c_K_latenessFrom_ok 6 rfl
theorem d_K_latenessFrom_11 : decode prog_4_method_3_code 11 = .ok (.isub, 1) := jx_dec c_K_latenessFrom_ok 7 rfl
theorem d_K_latenessFrom_12 : decode prog_4_method_3_code 12 = .ok (.invokestatic 36, 3) := jx_dec c_K_latenessFrom_ok 8 rfl
theorem d_K_latenessFrom_15 : decode prog_4_method_3_code 15 = .ok (.ireturn, 1) := jx_dec c_K_latenessFrom_ok 9 rfl
def c_K_isOf : List (Nat × Instr × Nat) := [(0, .aload_n 0, 1), (1, .getfield 15, 3), (4, .iload_n 1, 1), (5, .if_icmp .ne 15, 3), (8, .aload_n 0, 1), (9, .getfield 9, 3), (12, .iload_n 2, 1), (13, .if_icmp .ne 7, 3), (16, .iconst 1, 1), (17, .goto 4, 3), (20, .iconst 0, 1), (21, .ireturn, 1)]
theorem c_K_isOf_ok : (c_K_isOf).all (fun q => decide (decode prog_4_method_2_code q.1 = .ok q.2)) = true := by decide +kernel
theorem d_K_isOf_0 : decode prog_4_method_2_code 0 = .ok (.aload_n 0, 1) := jx_dec c_K_isOf_ok 0 rfl
theorem d_K_isOf_1 : decode prog_4_method_2_code 1 = .ok (.getfield 15, 3) := jx_dec c_K_isOf_ok 1 rfl
theorem d_K_isOf_4 : decode prog_4_method_2_code 4 = .ok (.iload_n 1, 1) := jx_dec c_K_isOf_ok 2 rfl
theorem d_K_isOf_5 : decode prog_4_method_2_code 5 = .ok (.if_icmp .ne 15, 3) := jx_dec c_K_isOf_ok 3 rfl
theorem d_K_isOf_8 : decode prog_4_method_2_code 8 = .ok (.aload_n 0, 1) := jx_dec c_K_isOf_ok 4 rfl
theorem d_K_isOf_9 : decode prog_4_method_2_code 9 = .ok (.getfield 9, 3) := jx_dec c_K_isOf_ok 5 rfl
theorem d_K_isOf_12 : decode prog_4_method_2_code 12 = .ok (.iload_n 2, 1) := jx_dec c_K_isOf_ok 6 rfl
theorem d_K_isOf_13 : decode prog_4_method_2_code 13 = .ok (.if_icmp .ne 7, 3) := jx_dec c_K_isOf_ok 7 rfl
theorem d_K_isOf_16 : decode prog_4_method_2_code 16 = .ok (.iconst 1, 1) := jx_dec c_K_isOf_ok 8 rfl
theorem d_K_isOf_17 : decode prog_4_method_2_code 17 = .ok (.goto 4, 3) := jx_dec c_K_isOf_ok 9 rfl
theorem d_K_isOf_20 : decode prog_4_method_2_code 20 = .ok (.iconst 0, 1) := jx_dec c_K_isOf_ok 10 rfl
theorem d_K_isOf_21 : decode prog_4_method_2_code 21 = .ok (.ireturn, 1) := jx_dec c_K_isOf_ok 11 rfl
def c_K_init : List (Nat × Instr × Nat) := [(0, .aload_n 0, 1), (1, .invokespecial 3, 3), (4, .aload_n 0, 1), (5, .iconst 0, 1), (6, .putfield 9, 3), (9, .aload_n 0, 1), (10, .iconst (-1), 1), (11, .putfield 15, 3), (14, .aload_n 0, 1), (15, .iconst (-1), 1), (16, .putfield 18, 3), (19, .aload_n 0, 1), (20, .iload_n 1, 1), (21, .putfield 21, 3), (24, .aload_n 0, 1), (25, .iload_n 2, 1), (26, .putfield 24, 3), (29, .aload_n 0, 1), (30, .iload_n 3, 1), (31, .putfield 27, 3), (34, .aload_n 0, 1), (35, .iload 4, 2), (37, .putfield 30, 3), (40, .aload_n 0, 1), (41, .iload 5, 2), (43, .putfield 33, 3), (46, .return_, 1)]
theorem c_K_init_ok : (c_K_init).all (fun q => decide (decode prog_4_method_1_code q.1 = .ok q.2)) = true := by decide +kernel
theorem d_K_init_0 : decode prog_4_method_1_code 0 = .ok (.aload_n 0, 1) := jx_dec c_K_init_ok 0 rfl
theorem d_K_init_1 : decode prog_4_method_1_code 1 = .ok (.invokespecial 3, 3) := jx_dec c_K_init_ok 1 rfl
theorem d_K_init_4 : decode prog_4_method_1_code 4 = .ok (.aload_n 0, 1) := jx_dec c_K_init_ok 2 rfl
theorem d_K_init_5 : decode prog_4_method_1_code 5 = .ok (.iconst 0, 1) := jx_dec c_K_init_ok 3 rfl
theorem d_K_init_6 : decode prog_4_method_1_code 6 = .ok (.putfield 9, 3) := jx_dec c_K_init_ok 4 rfl
theorem d_K_init_9 : decode prog_4_method_1_code 9 = .ok (.aload_n 0, 1) := jx_dec c_K_init_ok 5 rfl
theorem d_K_init_10 : decode prog_4_method_1_code 10 = .ok (.iconst (-1), 1) := jx_dec c_K_init_ok 6 rfl
theorem d_K_init_11 : decode prog_4_method_1_code 11 = .ok (.putfield 15, 3) := jx_dec c_K_init_ok 7 rfl
theorem d_K_init_14 : decode prog_4_method_1_code 14 = .ok (.aload_n 0, 1) := jx_dec c_K_init_ok 8 rfl
theorem d_K_init_15 : decode prog_4_method_1_code 15 = .ok (.iconst (-1), 1) := jx_dec c_K_init_ok 9 rfl
theorem d_K_init_16 : decode prog_4_method_1_code 16 = .ok (.putfield 18, 3) := jx_dec c_K_init_ok 10 rfl
theorem d_K_init_19 : decode prog_4_method_1_code 19 = .ok (.aload_n 0, 1) := jx_dec c_K_init_ok 11 rfl
theorem d_K_init_20 : decode prog_4_method_1_code 20 = .ok (.iload_n 1, 1) := jx_dec c_K_init_ok 12 rfl
theorem d_K_init_21 : decode prog_4_method_1_code 21 = .ok (.putfield 21, 3) := jx_dec c_K_init_ok 13 rfl
theorem d_K_init_24 : decode prog_4_method_1_code 24 = .ok (.aload_n 0, 1) := jx_dec c_K_init_ok 14 rfl
theorem d_K_init_25 : decode prog_4_method_1_code 25 = .ok (.iload_n 2, 1) := jx_dec c_K_init_ok 15 rfl
theorem d_K_init_26 : decode prog_4_method_1_code 26 = .ok (.putfield 24, 3) := jx_dec c_K_init_ok 16 rfl
theorem d_K_init_29 : decode prog_4_method_1_code 29 = .ok (.aload_n 0, 1) := jx_dec c_K_init_ok 17 rfl
theorem d_K_init_30 : decode prog_4_method_1_code 30 = .ok (.iload_n 3, 1) := jx_dec c_K_init_ok 18 rfl
theorem d_K_init_31 : decode prog_4_method_1_code 31 = .ok (.putfield 27, 3) := jx_dec c_K_init_ok 19 rfl
theorem d_K_init_34 : decode prog_4_method_1_code 34 = .ok (.aload_n 0, 1) := jx_dec c_K_init_ok 20 rfl
theorem d_K_init_35 : decode prog_4_method_1_code 35 = .ok (.iload 4, 2) := jx_dec c_K_init_ok 21 rfl
theorem d_K_init_37 : decode prog_4_method_1_code 37 = .ok (.putfield 30, 3) := jx_dec c_K_init_ok 22 rfl
theorem d_K_init_40 : decode prog_4_method_1_code 40 = .ok (.aload_n 0, 1) := jx_dec c_K_init_ok 23 rfl
theorem d_K_init_41 : decode prog_4_method_1_code 41 = .ok (.iload 5, 2) := jx_dec c_K_init_ok 24 rfl
theorem d_K_init_43 : decode prog_4_method_1_code 43 = .ok (.putfield 33, 3) := jx_dec c_K_init_ok 25 rfl
theorem d_K_init_46 : decode prog_4_method_1_code 46 = .ok (.return_, 1) := jx_dec c_K_init_ok 26 rfl
def c_K_free : List (Nat × Instr × Nat) := [(0, .aload_n 0, 1), (1, .iconst 0, 1), (2, .putfield 9, 3), (5, .aload_n 0, 1), (6, .iconst (-1), 1), (7, .putfield 15, 3), (10, .aload_n 0, 1), (11, .iconst (-1), 1), (12, .putfield 18, 3), (15, .return_, 1)]
theorem c_K_free_ok : (c_K_free).all (fun q => decide (decode prog_4_method_5_code q.1 = .ok q.2)) = true := by decide +kernel
theorem d_K_free_0 : decode prog_4_method_5_code 0 = .ok (.aload_n 0, 1) := jx_dec c_K_free_ok 0 rfl
theorem d_K_free_1 : decode prog_4_method_5_code 1 = .ok (.iconst 0, 1) := jx_dec c_K_free_ok 1 rfl
theorem d_K_free_2 : decode prog_4_method_5_code 2 = .ok (.putfield 9, 3) := jx_dec c_K_free_ok 2 rfl
theorem d_K_free_5 : decode prog_4_method_5_code 5 = .ok (.aload_n 0, 1) := jx_dec c_K_free_ok 3 rfl
theorem d_K_free_6 : decode prog_4_method_5_code 6 = .ok (.iconst (-1), 1) := jx_dec c_K_free_ok 4 rfl
theorem d_K_free_7 : decode prog_4_method_5_code 7 = .ok (.putfield 15, 3) := jx_dec c_K_free_ok 5 rfl
theorem d_K_free_10 : decode prog_4_method_5_code 10 = .ok (.aload_n 0, 1) := jx_dec c_K_free_ok 6 rfl
theorem d_K_free_11 : decode prog_4_method_5_code 11 = .ok (.iconst (-1), 1) := jx_dec c_K_free_ok 7 rfl
theorem d_K_free_12 : decode prog_4_method_5_code 12 = .ok (.putfield 18, 3) := jx_dec c_K_free_ok 8 rfl
theorem d_K_free_15 : decode prog_4_method_5_code 15 = .ok (.return_, 1) := jx_dec c_K_free_ok 9 rfl
def c_K_planFor : List (Nat × Instr × Nat) := [(0, .aload_n 0, 1), (1, .iload_n 1, 1), (2, .putfield 15, 3), (5, .aload_n 0, 1), (6, .iload_n 2, 1), (7, .putfield 18, 3), (10, .return_, 1)]
theorem c_K_planFor_ok : (c_K_planFor).all (fun q => decide (decode prog_4_method_4_code q.1 = .ok q.2)) = true := by decide +kernel
theorem d_K_planFor_0 : decode prog_4_method_4_code 0 = .ok (.aload_n 0, 1) := jx_dec c_K_planFor_ok 0 rfl
theorem d_K_planFor_1 : decode prog_4_method_4_code 1 = .ok (.iload_n 1, 1) := jx_dec c_K_planFor_ok 1 rfl
theorem d_K_planFor_2 : decode prog_4_method_4_code 2 = .ok (.putfield 15, 3) := jx_dec c_K_planFor_ok 2 rfl
theorem d_K_planFor_5 : decode prog_4_method_4_code 5 = .ok (.aload_n 0, 1) := jx_dec c_K_planFor_ok 3 rfl
theorem d_K_planFor_6 : decode prog_4_method_4_code 6 = .ok (.iload_n 2, 1) := jx_dec c_K_planFor_ok 4 rfl
theorem d_K_planFor_7 : decode prog_4_method_4_code 7 = .ok (.putfield 18, 3) := jx_dec c_K_planFor_ok 5 rfl
theorem d_K_planFor_10 : decode prog_4_method_4_code 10 = .ok (.return_, 1) := jx_dec c_K_planFor_ok 6 rfl
end
section
/-! 04.4Y: the instructions -/
def c_Y_init : List (Nat × Instr × Nat) := [(0, .aload_n 0, 1), (1, .invokespecial 3, 3), (4, .aload_n 0, 1), (5, .bipush 16, 2), (7, .newarray .int, 2), (9, .putfield 9, 3), (12, .return_, 1)]
theorem c_Y_init_ok : (c_Y_init).all (fun q => decide (decode prog_5_method_1_code q.1 = .ok q.2)) = true := by decide +kernel
theorem d_Y_init_0 : decode prog_5_method_1_code 0 = .ok (.aload_n 0, 1) := jx_dec c_Y_init_ok 0 rfl
theorem d_Y_init_1 : decode prog_5_method_1_code 1 = .ok (.invokespecial 3, 3) := jx_dec c_Y_init_ok 1 rfl
theorem d_Y_init_4 : decode prog_5_method_1_code 4 = .ok (.aload_n 0, 1) := jx_dec c_Y_init_ok 2 rfl
theorem d_Y_init_5 : decode prog_5_method_1_code 5 = .ok (.bipush 16, 2) := jx_dec c_Y_init_ok 3 rfl
theorem d_Y_init_7 : decode prog_5_method_1_code 7 = .ok (.newarray .int, 2) := jx_dec c_Y_init_ok 4 rfl
theorem d_Y_init_9 : decode prog_5_method_1_code 9 = .ok (.putfield 9, 3) := jx_dec c_Y_init_ok 5 rfl
theorem d_Y_init_12 : decode prog_5_method_1_code 12 = .ok (.return_, 1) := jx_dec c_Y_init_ok 6 rfl
def c_Y_between : List (Nat × Instr × Nat) := [(0, .aload_n 0, 1), (1, .getfield 9, 3), (4, .iload_n 1, 1), (5, .iconst 4, 1), (6, .imul, 1), (7, .iload_n 2, 1), (8, .iadd, 1), (9, .iaload, 1), (10, .ireturn, 1)]
theorem c_Y_between_ok : (c_Y_between).all (fun q => decide (decode prog_5_method_3_code q.1 = .ok q.2)) = true := by decide +kernel
theorem d_Y_between_0 : decode prog_5_method_3_code 0 = .ok (.aload_n 0, 1) := jx_dec c_Y_between_ok 0 rfl
theorem d_Y_between_1 : decode prog_5_method_3_code 1 = .ok (.getfield 9, 3) := jx_dec c_Y_between_ok 1 rfl
theorem d_Y_between_4 : decode prog_5_method_3_code 4 = .ok (.iload_n 1, 1) := jx_dec c_Y_between_ok 2 rfl
theorem d_Y_between_5 : decode prog_5_method_3_code 5 = .ok (.iconst 4, 1) := jx_dec c_Y_between_ok 3 rfl
theorem d_Y_between_6 : decode prog_5_method_3_code 6 = .ok (.imul, 1) := jx_dec c_Y_between_ok 4 rfl
theorem d_Y_between_7 : decode prog_5_method_3_code 7 = .ok (.iload_n 2, 1) := jx_dec c_Y_between_ok 5 rfl
theorem d_Y_between_8 : decode prog_5_method_3_code 8 = .ok (.iadd, 1) := jx_dec c_Y_between_ok 6 rfl
theorem d_Y_between_9 : decode prog_5_method_3_code 9 = .ok (.iaload, 1) := jx_dec c_Y_between_ok 7 rfl
theorem d_Y_between_10 : decode prog_5_method_3_code 10 = .ok (.ireturn, 1) := jx_dec c_Y_between_ok 8 rfl
def c_Y_put : List (Nat × Instr × Nat) := [(0, .aload_n 0, 1), (1, .getfield 9, 3), (4, .iload_n 1, 1), (5, .iconst 4, 1), (6, .imul, 1), (7, .iload_n 2, 1), (8, .iadd, 1), (9, .iload_n 3, 1), (10, .iastore, 1), (11, .aload_n 0, 1), (12, .getfield 9, 3), (15, .iload_n 2, 1), (16, .iconst 4, 1), (17, .imul, 1), (18, .iload_n 1, 1), (19, .iadd, 1), (20, .iload_n 3, 1), (21, .iastore, 1), (22, .return_, 1)]
theorem c_Y_put_ok : (c_Y_put).all (fun q => decide (decode prog_5_method_2_code q.1 = .ok q.2)) = true := by decide +kernel
theorem d_Y_put_0 : decode prog_5_method_2_code 0 = .ok (.aload_n 0, 1) := jx_dec c_Y_put_ok 0 rfl
theorem d_Y_put_1 : decode prog_5_method_2_code 1 = .ok (.getfield 9, 3) := jx_dec c_Y_put_ok 1 rfl
theorem d_Y_put_4 : decode prog_5_method_2_code 4 = .ok (.iload_n 1, 1) := jx_dec c_Y_put_ok 2 rfl
theorem d_Y_put_5 : decode prog_5_method_2_code 5 = .ok (.iconst 4, 1) := jx_dec c_Y_put_ok 3 rfl
theorem d_Y_put_6 : decode prog_5_method_2_code 6 = .ok (.imul, 1) := jx_dec c_Y_put_ok 4 rfl
theorem d_Y_put_7 : decode prog_5_method_2_code 7 = .ok (.iload_n 2, 1) := jx_dec c_Y_put_ok 5 rfl
theorem d_Y_put_8 : decode prog_5_method_2_code 8 = .ok (.iadd, 1) := jx_dec c_Y_put_ok 6 rfl
theorem d_Y_put_9 : decode prog_5_method_2_code 9 = .ok (.iload_n 3, 1) := jx_dec c_Y_put_ok 7 rfl
theorem d_Y_put_10 : decode prog_5_method_2_code 10 = .ok (.iastore, 1) := jx_dec c_Y_put_ok 8 rfl
theorem d_Y_put_11 : decode prog_5_method_2_code 11 = .ok (.aload_n 0, 1) := jx_dec c_Y_put_ok 9 rfl
theorem d_Y_put_12 : decode prog_5_method_2_code 12 = .ok (.getfield 9, 3) := jx_dec c_Y_put_ok 10 rfl
theorem d_Y_put_15 : decode prog_5_method_2_code 15 = .ok (.iload_n 2, 1) := jx_dec c_Y_put_ok 11 rfl
theorem d_Y_put_16 : decode prog_5_method_2_code 16 = .ok (.iconst 4, 1) := jx_dec c_Y_put_ok 12 rfl
theorem d_Y_put_17 : decode prog_5_method_2_code 17 = .ok (.imul, 1) := jx_dec c_Y_put_ok 13 rfl
theorem d_Y_put_18 : decode prog_5_method_2_code 18 = .ok (.iload_n 1, 1) := jx_dec c_Y_put_ok 14 rfl
theorem d_Y_put_19 : decode prog_5_method_2_code 19 = .ok (.iadd, 1) := jx_dec c_Y_put_ok 15 rfl
theorem d_Y_put_20 : decode prog_5_method_2_code 20 = .ok (.iload_n 3, 1) := jx_dec c_Y_put_ok 16 rfl
theorem d_Y_put_21 : decode prog_5_method_2_code 21 = .ok (.iastore, 1) := jx_dec c_Y_put_ok 17 rfl
theorem d_Y_put_22 : decode prog_5_method_2_code 22 = .ok (.return_, 1) := jx_dec c_Y_put_ok 18 rfl
end
section
/-! 04.5X: the instructions -/
def c_X_init : List (Nat × Instr × Nat) := [(0, .aload_n 0, 1), (1, .invokespecial 3, 3), (4, .aload_n 0, 1), (5, .new 9, 3), (8, .dup, 1), (9, .invokespecial 11, 3), (12, .putfield 12, 3), (15, .aload_n 0, 1), (16, .iconst 4, 1), (17, .bipush 32, 2), (19, .multianewarray 18 2, 4), (23, .putfield 20, 3), (26, .aload_n 0, 1), (27, .iconst 4, 1), (28, .sipush 160, 3), (31, .multianewarray 18 2, 4), (35, .putfield 23, 3), (38, .aload_n 0, 1), (39, .iconst 5, 1), (40, .newarray .int, 2), (42, .putfield 26, 3), (45, .aload_n 0, 1), (46, .bipush 32, 2), (48, .newarray .int, 2), (50, .putfield 30, 3), (53, .aload_n 0, 1), (54, .iconst 5, 1), (55, .bipush 32, 2), (57, .multianewarray 33 2, 4), (61, .putfield 35, 3), (64, .aload_n 0, 1), (65, .iconst 4, 1), (66, .bipush 32, 2), (68, .multianewarray 18 2, 4), (72, .putfield 38, 3), (75, .iconst 0, 1), (76, .istore_n 1, 1), (77, .iload_n 1, 1), (78, .bipush 32, 2), (80, .if_icmp .ge 42, 3), (83, .iconst 0, 1), (84, .istore_n 2, 1), (85, .iload_n 2, 1), (86, .iconst 5, 1), (87, .if_icmp .ge 29, 3), (90, .aload_n 0, 1), (91, .getfield 30, 3), (94, .iload_n 1, 1), (95, .dup2, 1), (96, .iaload, 1), (97, .iload_n 1, 1), (98, .iload_n 2, 1), (99, .ishr, 1), (100, .iconst 1, 1), (101, .iand, 1), (102, .getstatic 41, 3), (105, .iload_n 2, 1), (106, .iaload, 1), (107, .imul, 1), (108, .iadd, 1), (109, .iastore, 1), (110, .iinc 2 1, 3), (113, .goto (-28), 3), (116, .iinc 1 1, 3), (119, .goto (-42), 3), (122, .return_, 1)]
theorem c_X_init_ok : (c_X_init).all (fun q => decide (decode prog_2_method_1_code q.1 = .ok q.2)) = true := by decide +kernel
theorem d_X_init_0 : decode prog_2_method_1_code 0 = .ok (.aload_n 0, 1) := jx_dec c_X_init_ok 0 rfl
theorem d_X_init_1 : decode prog_2_method_1_code 1 = .ok (.invokespecial 3, 3) := jx_dec c_X_init_ok 1 rfl
theorem d_X_init_4 : decode prog_2_method_1_code 4 = .ok (.aload_n 0, 1) := jx_dec c_X_init_ok 2 rfl
theorem d_X_init_5 : decode prog_2_method_1_code 5 = .ok (.new 9, 3) := jx_dec c_X_init_ok 3 rfl
theorem d_X_init_8 : decode prog_2_method_1_code 8 = .ok (.dup, 1) := jx_dec c_X_init_ok 4 rfl
theorem d_X_init_9 : decode prog_2_method_1_code 9 = .ok (.invokespecial 11, 3) := jx_dec c_X_init_ok 5 rfl
theorem d_X_init_12 : decode prog_2_method_1_code 12 = .ok (.putfield 12, 3) := jx_dec c_X_init_ok 6 rfl
theorem d_X_init_15 : decode prog_2_method_1_code 15 = .ok (.aload_n 0, 1) := jx_dec c_X_init_ok 7 rfl
theorem d_X_init_16 : decode prog_2_method_1_code 16 = .ok (.iconst 4, 1) := jx_dec c_X_init_ok 8 rfl
theorem d_X_init_17 : decode prog_2_method_1_code 17 = .ok (.bipush 32, 2) := jx_dec c_X_init_ok 9 rfl
theorem d_X_init_19 : decode prog_2_method_1_code 19 = .ok (.multianewarray 18 2, 4) := jx_dec c_X_init_ok 10 rfl
theorem d_X_init_23 : decode prog_2_method_1_code 23 = .ok (.putfield 20, 3) := jx_dec c_X_init_ok 11 rfl
theorem d_X_init_26 : decode prog_2_method_1_code 26 = .ok (.aload_n 0, 1) := jx_dec c_X_init_ok 12 rfl
theorem d_X_init_27 : decode prog_2_method_1_code 27 = .ok (.iconst 4, 1) := jx_dec c_X_init_ok 13 rfl
theorem d_X_init_28 : decode prog_2_method_1_code 28 = .ok (.sipush 160, 3) := jx_dec c_X_init_ok 14 rfl
theorem d_X_init_31 : decode prog_2_method_1_code 31 = .ok (.multianewarray 18 2, 4) := jx_dec c_X_init_ok 15 rfl
theorem d_X_init_35 : decode prog_2_method_1_code 35 = .ok (.putfield 23, 3) := jx_dec c_X_init_ok 16 rfl
theorem d_X_init_38 : decode prog_2_method_1_code 38 = .ok (.aload_n 0, 1) := jx_dec c_X_init_ok 17 rfl
theorem d_X_init_39 : decode prog_2_method_1_code 39 = .ok (.iconst 5, 1) := jx_dec c_X_init_ok 18 rfl
theorem d_X_init_40 : decode prog_2_method_1_code 40 = .ok (.newarray .int, 2) := jx_dec c_X_init_ok 19 rfl
theorem d_X_init_42 : decode prog_2_method_1_code 42 = .ok (.putfield 26, 3) := jx_dec c_X_init_ok 20 rfl
theorem d_X_init_45 : decode prog_2_method_1_code 45 = .ok (.aload_n 0, 1) := jx_dec c_X_init_ok 21 rfl
theorem d_X_init_46 : decode prog_2_method_1_code 46 = .ok (.bipush 32, 2) := jx_dec c_X_init_ok 22 rfl
theorem d_X_init_48 : decode prog_2_method_1_code 48 = .ok (.newarray .int, 2) := jx_dec c_X_init_ok 23 rfl
theorem d_X_init_50 : decode prog_2_method_1_code 50 = .ok (.putfield 30, 3) := jx_dec c_X_init_ok 24 rfl
theorem d_X_init_53 : decode prog_2_method_1_code 53 = .ok (.aload_n 0, 1) := jx_dec c_X_init_ok 25 rfl
theorem d_X_init_54 : decode prog_2_method_1_code 54 = .ok (.iconst 5, 1) := jx_dec c_X_init_ok 26 rfl
theorem d_X_init_55 : decode prog_2_method_1_code 55 = .ok (.bipush 32, 2) := jx_dec c_X_init_ok 27 rfl
theorem d_X_init_57 : decode prog_2_method_1_code 57 = .ok (.multianewarray 33 2, 4) := jx_dec c_X_init_ok 28 rfl
theorem d_X_init_61 : decode prog_2_method_1_code 61 = .ok (.putfield 35, 3) := jx_dec c_X_init_ok 29 rfl
theorem d_X_init_64 : decode prog_2_method_1_code 64 = .ok (.aload_n 0, 1) := jx_dec c_X_init_ok 30 rfl
theorem d_X_init_65 : decode prog_2_method_1_code 65 = .ok (.iconst 4, 1) := jx_dec c_X_init_ok 31 rfl
theorem d_X_init_66 : decode prog_2_method_1_code 66 = .ok (.bipush 32, 2) := jx_dec c_X_init_ok 32 rfl
theorem d_X_init_68 : decode prog_2_method_1_code 68 = .ok (.multianewarray 18 2, 4) := jx_dec c_X_init_ok 33 rfl
theorem d_X_init_72 : decode prog_2_method_1_code 72 = .ok (.putfield 38, 3) := jx_dec c_X_init_ok 34 rfl
theorem d_X_init_75 : decode prog_2_method_1_code 75 = .ok (.iconst 0, 1) := jx_dec c_X_init_ok 35 rfl
theorem d_X_init_76 : decode prog_2_method_1_code 76 = .ok (.istore_n 1, 1) := jx_dec c_X_init_ok 36 rfl
theorem d_X_init_77 : decode prog_2_method_1_code 77 = .ok (.iload_n 1, 1) := jx_dec c_X_init_ok 37 rfl
theorem d_X_init_78 : decode prog_2_method_1_code 78 = .ok (.bipush 32, 2) := jx_dec c_X_init_ok 38 rfl
theorem d_X_init_80 : decode prog_2_method_1_code 80 = .ok (.if_icmp .ge 42, 3) := jx_dec c_X_init_ok 39 rfl
theorem d_X_init_83 : decode prog_2_method_1_code 83 = .ok (.iconst 0, 1) := jx_dec c_X_init_ok 40 rfl
theorem d_X_init_84 : decode prog_2_method_1_code 84 = .ok (.istore_n 2, 1) := jx_dec c_X_init_ok 41 rfl
theorem d_X_init_85 : decode prog_2_method_1_code 85 = .ok (.iload_n 2, 1) := jx_dec c_X_init_ok 42 rfl
theorem d_X_init_86 : decode prog_2_method_1_code 86 = .ok (.iconst 5, 1) := jx_dec c_X_init_ok 43 rfl
theorem d_X_init_87 : decode prog_2_method_1_code 87 = .ok (.if_icmp .ge 29, 3) := jx_dec c_X_init_ok 44 rfl
theorem d_X_init_90 : decode prog_2_method_1_code 90 = .ok (.aload_n 0, 1) := jx_dec c_X_init_ok 45 rfl
theorem d_X_init_91 : decode prog_2_method_1_code 91 = .ok (.getfield 30, 3) := jx_dec c_X_init_ok 46 rfl
theorem d_X_init_94 : decode prog_2_method_1_code 94 = .ok (.iload_n 1, 1) := jx_dec c_X_init_ok 47 rfl
theorem d_X_init_95 : decode prog_2_method_1_code 95 = .ok (.dup2, 1) := jx_dec c_X_init_ok 48 rfl
theorem d_X_init_96 : decode prog_2_method_1_code 96 = .ok (.iaload, 1) := jx_dec c_X_init_ok 49 rfl
theorem d_X_init_97 : decode prog_2_method_1_code 97 = .ok (.iload_n 1, 1) := jx_dec c_X_init_ok 50 rfl
theorem d_X_init_98 : decode prog_2_method_1_code 98 = .ok (.iload_n 2, 1) := jx_dec c_X_init_ok 51 rfl
theorem d_X_init_99 : decode prog_2_method_1_code 99 = .ok (.ishr, 1) := jx_dec c_X_init_ok 52 rfl
theorem d_X_init_100 : decode prog_2_method_1_code 100 = .ok (.iconst 1, 1) := jx_dec c_X_init_ok 53 rfl
theorem d_X_init_101 : decode prog_2_method_1_code 101 = .ok (.iand, 1) := jx_dec c_X_init_ok 54 rfl
theorem d_X_init_102 : decode prog_2_method_1_code 102 = .ok (.getstatic 41, 3) := jx_dec c_X_init_ok 55 rfl
theorem d_X_init_105 : decode prog_2_method_1_code 105 = .ok (.iload_n 2, 1) := jx_dec c_X_init_ok 56 rfl
theorem d_X_init_106 : decode prog_2_method_1_code 106 = .ok (.iaload, 1) := jx_dec c_X_init_ok 57 rfl
theorem d_X_init_107 : decode prog_2_method_1_code 107 = .ok (.imul, 1) := jx_dec c_X_init_ok 58 rfl
theorem d_X_init_108 : decode prog_2_method_1_code 108 = .ok (.iadd, 1) := jx_dec c_X_init_ok 59 rfl
theorem d_X_init_109 : decode prog_2_method_1_code 109 = .ok (.iastore, 1) := jx_dec c_X_init_ok 60 rfl
theorem d_X_init_110 : decode prog_2_method_1_code 110 = .ok (.iinc 2 1, 3) := jx_dec c_X_init_ok 61 rfl
theorem d_X_init_113 : decode prog_2_method_1_code 113 = .ok (.goto (-28), 3) := jx_dec c_X_init_ok 62 rfl
theorem d_X_init_116 : decode prog_2_method_1_code 116 = .ok (.iinc 1 1, 3) := jx_dec c_X_init_ok 63 rfl
theorem d_X_init_119 : decode prog_2_method_1_code 119 = .ok (.goto (-42), 3) := jx_dec c_X_init_ok 64 rfl
theorem d_X_init_122 : decode prog_2_method_1_code 122 = .ok (.return_, 1) := jx_dec c_X_init_ok 65 rfl
def c_X_plan : List (Nat × Instr × Nat) := [(0, .aload_n 0, 1), (1, .aload_n 2, 1), (2, .invokevirtual 44, 3), (5, .iconst 0, 1), (6, .istore 5, 2), (8, .iload 5, 2), (10, .aload_n 1, 1), (11, .invokevirtual 48, 3), (14, .if_icmp .ge 82, 3), (17, .aload_n 1, 1), (18, .iload 5, 2), (20, .invokevirtual 52, 3), (23, .checkcast 56, 3), (26, .astore 6, 2), (28, .iconst 0, 1), (29, .istore 7, 2), (31, .iload 7, 2), (33, .aload_n 0, 1), (34, .getfield 58, 3), (37, .if_icmp .ge 21, 3), (40, .aload_n 0, 1), (41, .getfield 20, 3), (44, .iload 5, 2), (46, .aaload, 1), (47, .iload 7, 2), (49, .ldc 62, 2), (51, .iastore, 1), (52, .iinc 7 1, 3), (55, .goto (-24), 3), (58, .aload 6, 2), (60, .aload 6, 2), (62, .iload 4, 2), (64, .invokevirtual 63, 3), (67, .putfield 67, 3), (70, .aload 6, 2), (72, .aload 6, 2), (74, .getfield 70, 3), (77, .putfield 73, 3), (80, .aload_n 0, 1), (81, .aload 6, 2), (83, .aload_n 3, 1), (84, .iconst 0, 1), (85, .iconst 0, 1), (86, .iconst 0, 1), (87, .invokevirtual 76, 3), (90, .iinc 5 1, 3), (93, .goto (-85), 3), (96, .aload_n 0, 1), (97, .aload_n 1, 1), (98, .invokevirtual 48, 3), (101, .invokevirtual 80, 3), (104, .aload_n 0, 1), (105, .aload_n 1, 1), (106, .invokevirtual 48, 3), (109, .invokevirtual 84, 3), (112, .return_, 1)]
theorem c_X_plan_ok : (c_X_plan).all (fun q => decide (decode prog_2_method_2_code q.1 = .ok q.2)) = true := by decide +kernel
theorem d_X_plan_0 : decode prog_2_method_2_code 0 = .ok (.aload_n 0, 1) := jx_dec c_X_plan_ok 0 rfl
theorem d_X_plan_1 : decode prog_2_method_2_code 1 = .ok (.aload_n 2, 1) := jx_dec c_X_plan_ok 1 rfl
theorem d_X_plan_2 : decode prog_2_method_2_code 2 = .ok (.invokevirtual 44, 3) := jx_dec c_X_plan_ok 2 rfl
theorem d_X_plan_5 : decode prog_2_method_2_code 5 = .ok (.iconst 0, 1) := jx_dec c_X_plan_ok 3 rfl
theorem d_X_plan_6 : decode prog_2_method_2_code 6 = .ok (.istore 5, 2) := jx_dec c_X_plan_ok 4 rfl
theorem d_X_plan_8 : decode prog_2_method_2_code 8 = .ok (.iload 5, 2) := jx_dec c_X_plan_ok 5 rfl
theorem d_X_plan_10 : decode prog_2_method_2_code 10 = .ok (.aload_n 1, 1) := jx_dec c_X_plan_ok 6 rfl
theorem d_X_plan_11 : decode prog_2_method_2_code 11 = .ok (.invokevirtual 48, 3) := jx_dec c_X_plan_ok 7 rfl
theorem d_X_plan_14 : decode prog_2_method_2_code 14 = .ok (.if_icmp .ge 82, 3) := jx_dec c_X_plan_ok 8 rfl
theorem d_X_plan_17 : decode prog_2_method_2_code 17 = .ok (.aload_n 1, 1) := jx_dec c_X_plan_ok 9 rfl
theorem d_X_plan_18 : decode prog_2_method_2_code 18 = .ok (.iload 5, 2) := jx_dec c_X_plan_ok 10 rfl
theorem d_X_plan_20 : decode prog_2_method_2_code 20 = .ok (.invokevirtual 52, 3) := jx_dec c_X_plan_ok 11 rfl
theorem d_X_plan_23 : decode prog_2_method_2_code 23 = .ok (.checkcast 56, 3) := jx_dec c_X_plan_ok 12 rfl
theorem d_X_plan_26 : decode prog_2_method_2_code 26 = .ok (.astore 6, 2) := jx_dec c_X_plan_ok 13 rfl
theorem d_X_plan_28 : decode prog_2_method_2_code 28 = .ok (.iconst 0, 1) := jx_dec c_X_plan_ok 14 rfl
theorem d_X_plan_29 : decode prog_2_method_2_code 29 = .ok (.istore 7, 2) := jx_dec c_X_plan_ok 15 rfl
theorem d_X_plan_31 : decode prog_2_method_2_code 31 = .ok (.iload 7, 2) := jx_dec c_X_plan_ok 16 rfl
theorem d_X_plan_33 : decode prog_2_method_2_code 33 = .ok (.aload_n 0, 1) := jx_dec c_X_plan_ok 17 rfl
theorem d_X_plan_34 : decode prog_2_method_2_code 34 = .ok (.getfield 58, 3) := jx_dec c_X_plan_ok 18 rfl
theorem d_X_plan_37 : decode prog_2_method_2_code 37 = .ok (.if_icmp .ge 21, 3) := jx_dec c_X_plan_ok 19 rfl
theorem d_X_plan_40 : decode prog_2_method_2_code 40 = .ok (.aload_n 0, 1) := jx_dec c_X_plan_ok 20 rfl
theorem d_X_plan_41 : decode prog_2_method_2_code 41 = .ok (.getfield 20, 3) := jx_dec c_X_plan_ok 21 rfl
theorem d_X_plan_44 : decode prog_2_method_2_code 44 = .ok (.iload 5, 2) := jx_dec c_X_plan_ok 22 rfl
theorem d_X_plan_46 : decode prog_2_method_2_code 46 = .ok (.aaload, 1) := jx_dec c_X_plan_ok 23 rfl
theorem d_X_plan_47 : decode prog_2_method_2_code 47 = .ok (.iload 7, 2) := jx_dec c_X_plan_ok 24 rfl
theorem d_X_plan_49 : decode prog_2_method_2_code 49 = .ok (.ldc 62, 2) := jx_dec c_X_plan_ok 25 rfl
theorem d_X_plan_51 : decode prog_2_method_2_code 51 = .ok (.iastore, 1) := jx_dec c_X_plan_ok 26 rfl
theorem d_X_plan_52 : decode prog_2_method_2_code 52 = .ok (.iinc 7 1, 3) := jx_dec c_X_plan_ok 27 rfl
theorem d_X_plan_55 : decode prog_2_method_2_code 55 = .ok (.goto (-24), 3) := jx_dec c_X_plan_ok 28 rfl
theorem d_X_plan_58 : decode prog_2_method_2_code 58 = .ok (.aload 6, 2) := jx_dec c_X_plan_ok 29 rfl
theorem d_X_plan_60 : decode prog_2_method_2_code 60 = .ok (.aload 6, 2) := jx_dec c_X_plan_ok 30 rfl
theorem d_X_plan_62 : decode prog_2_method_2_code 62 = .ok (.iload 4, 2) := jx_dec c_X_plan_ok 31 rfl
theorem d_X_plan_64 : decode prog_2_method_2_code 64 = .ok (.invokevirtual 63, 3) := jx_dec c_X_plan_ok 32 rfl
theorem d_X_plan_67 : decode prog_2_method_2_code 67 = .ok (.putfield 67, 3) := jx_dec c_X_plan_ok 33 rfl
theorem d_X_plan_70 : decode prog_2_method_2_code 70 = .ok (.aload 6, 2) := jx_dec c_X_plan_ok 34 rfl
theorem d_X_plan_72 : decode prog_2_method_2_code 72 = .ok (.aload 6, 2) := jx_dec c_X_plan_ok 35 rfl
theorem d_X_plan_74 : decode prog_2_method_2_code 74 = .ok (.getfield 70, 3) := jx_dec c_X_plan_ok 36 rfl
theorem d_X_plan_77 : decode prog_2_method_2_code 77 = .ok (.putfield 73, 3) := jx_dec c_X_plan_ok 37 rfl
theorem d_X_plan_80 : decode prog_2_method_2_code 80 = .ok (.aload_n 0, 1) := jx_dec c_X_plan_ok 38 rfl
theorem d_X_plan_81 : decode prog_2_method_2_code 81 = .ok (.aload 6, 2) := jx_dec c_X_plan_ok 39 rfl
theorem d_X_plan_83 : decode prog_2_method_2_code 83 = .ok (.aload_n 3, 1) := jx_dec c_X_plan_ok 40 rfl
theorem d_X_plan_84 : decode prog_2_method_2_code 84 = .ok (.iconst 0, 1) := jx_dec c_X_plan_ok 41 rfl
theorem d_X_plan_85 : decode prog_2_method_2_code 85 = .ok (.iconst 0, 1) := jx_dec c_X_plan_ok 42 rfl
theorem d_X_plan_86 : decode prog_2_method_2_code 86 = .ok (.iconst 0, 1) := jx_dec c_X_plan_ok 43 rfl
theorem d_X_plan_87 : decode prog_2_method_2_code 87 = .ok (.invokevirtual 76, 3) := jx_dec c_X_plan_ok 44 rfl
theorem d_X_plan_90 : decode prog_2_method_2_code 90 = .ok (.iinc 5 1, 3) := jx_dec c_X_plan_ok 45 rfl
theorem d_X_plan_93 : decode prog_2_method_2_code 93 = .ok (.goto (-85), 3) := jx_dec c_X_plan_ok 46 rfl
theorem d_X_plan_96 : decode prog_2_method_2_code 96 = .ok (.aload_n 0, 1) := jx_dec c_X_plan_ok 47 rfl
theorem d_X_plan_97 : decode prog_2_method_2_code 97 = .ok (.aload_n 1, 1) := jx_dec c_X_plan_ok 48 rfl
theorem d_X_plan_98 : decode prog_2_method_2_code 98 = .ok (.invokevirtual 48, 3) := jx_dec c_X_plan_ok 49 rfl
theorem d_X_plan_101 : decode prog_2_method_2_code 101 = .ok (.invokevirtual 80, 3) := jx_dec c_X_plan_ok 50 rfl
theorem d_X_plan_104 : decode prog_2_method_2_code 104 = .ok (.aload_n 0, 1) := jx_dec c_X_plan_ok 51 rfl
theorem d_X_plan_105 : decode prog_2_method_2_code 105 = .ok (.aload_n 1, 1) := jx_dec c_X_plan_ok 52 rfl
theorem d_X_plan_106 : decode prog_2_method_2_code 106 = .ok (.invokevirtual 48, 3) := jx_dec c_X_plan_ok 53 rfl
theorem d_X_plan_109 : decode prog_2_method_2_code 109 = .ok (.invokevirtual 84, 3) := jx_dec c_X_plan_ok 54 rfl
theorem d_X_plan_112 : decode prog_2_method_2_code 112 = .ok (.return_, 1) := jx_dec c_X_plan_ok 55 rfl
def c_X_collectOpen : List (Nat × Instr × Nat) := [(0, .aload_n 0, 1), (1, .getfield 12, 3), (4, .invokevirtual 87, 3), (7, .iconst 0, 1), (8, .istore_n 2, 1), (9, .iload_n 2, 1), (10, .aload_n 1, 1), (11, .invokevirtual 48, 3), (14, .if_icmp .ge 50, 3), (17, .aload_n 1, 1), (18, .iload_n 2, 1), (19, .invokevirtual 52, 3), (22, .checkcast 90, 3), (25, .getfield 92, 3), (28, .ifCond .ne 30, 3), (31, .aload_n 0, 1), (32, .getfield 12, 3), (35, .invokevirtual 48, 3), (38, .iconst 5, 1), (39, .if_icmp .ge 19, 3), (42, .aload_n 0, 1), (43, .getfield 12, 3), (46, .aload_n 1, 1), (47, .iload_n 2, 1), (48, .invokevirtual 52, 3), (51, .checkcast 90, 3), (54, .invokevirtual 95, 3), (57, .pop, 1), (58, .iinc 2 1, 3), (61, .goto (-52), 3), (64, .aload_n 0, 1), (65, .iconst 1, 1), (66, .aload_n 0, 1), (67, .getfield 12, 3), (70, .invokevirtual 48, 3), (73, .ishl, 1), (74, .putfield 58, 3), (77, .return_, 1)]
theorem c_X_collectOpen_ok : (c_X_collectOpen).all (fun q => decide (decode prog_2_method_3_code q.1 = .ok q.2)) = true := by decide +kernel
theorem d_X_collectOpen_0 : decode prog_2_method_3_code 0 = .ok (.aload_n 0, 1) := jx_dec c_X_collectOpen_ok 0 rfl
theorem d_X_collectOpen_1 : decode prog_2_method_3_code 1 = .ok (.getfield 12, 3) := jx_dec c_X_collectOpen_ok 1 rfl
theorem d_X_collectOpen_4 : decode prog_2_method_3_code 4 = .ok (.invokevirtual 87, 3) := jx_dec c_X_collectOpen_ok 2 rfl
theorem d_X_collectOpen_7 : decode prog_2_method_3_code 7 = .ok (.iconst 0, 1) := jx_dec c_X_collectOpen_ok 3 rfl
theorem d_X_collectOpen_8 : decode prog_2_method_3_code 8 = .ok (.istore_n 2, 1) := jx_dec c_X_collectOpen_ok 4 rfl
theorem d_X_collectOpen_9 : decode prog_2_method_3_code 9 = .ok (.iload_n 2, 1) := jx_dec c_X_collectOpen_ok 5 rfl
theorem d_X_collectOpen_10 : decode prog_2_method_3_code 10 = .ok (.aload_n 1, 1) := jx_dec c_X_collectOpen_ok 6 rfl
theorem d_X_collectOpen_11 : decode prog_2_method_3_code 11 = .ok (.invokevirtual 48, 3) := jx_dec c_X_collectOpen_ok 7 rfl
theorem d_X_collectOpen_14 : decode prog_2_method_3_code 14 = .ok (.if_icmp .ge 50, 3) := jx_dec c_X_collectOpen_ok 8 rfl
theorem d_X_collectOpen_17 : decode prog_2_method_3_code 17 = .ok (.aload_n 1, 1) := jx_dec c_X_collectOpen_ok 9 rfl
theorem d_X_collectOpen_18 : decode prog_2_method_3_code 18 = .ok (.iload_n 2, 1) := jx_dec c_X_collectOpen_ok 10 rfl
theorem d_X_collectOpen_19 : decode prog_2_method_3_code 19 = .ok (.invokevirtual 52, 3) := jx_dec c_X_collectOpen_ok 11 rfl
theorem d_X_collectOpen_22 : decode prog_2_method_3_code 22 = .ok (.checkcast 90, 3) := jx_dec c_X_collectOpen_ok 12 rfl
theorem d_X_collectOpen_25 : decode prog_2_method_3_code 25 = .ok (.getfield 92, 3) := jx_dec c_X_collectOpen_ok 13 rfl
theorem d_X_collectOpen_28 : decode prog_2_method_3_code 28 = .ok (.ifCond .ne 30, 3) := jx_dec c_X_collectOpen_ok 14 rfl
theorem d_X_collectOpen_31 : decode prog_2_method_3_code 31 = .ok (.aload_n 0, 1) := jx_dec c_X_collectOpen_ok 15 rfl
theorem d_X_collectOpen_32 : decode prog_2_method_3_code 32 = .ok (.getfield 12, 3) := jx_dec c_X_collectOpen_ok 16 rfl
theorem d_X_collectOpen_35 : decode prog_2_method_3_code 35 = .ok (.invokevirtual 48, 3) := jx_dec c_X_collectOpen_ok 17 rfl
theorem d_X_collectOpen_38 : decode prog_2_method_3_code 38 = .ok (.iconst 5, 1) := jx_dec c_X_collectOpen_ok 18 rfl
theorem d_X_collectOpen_39 : decode prog_2_method_3_code 39 = .ok (.if_icmp .ge 19, 3) := jx_dec c_X_collectOpen_ok 19 rfl
theorem d_X_collectOpen_42 : decode prog_2_method_3_code 42 = .ok (.aload_n 0, 1) := jx_dec c_X_collectOpen_ok 20 rfl
theorem d_X_collectOpen_43 : decode prog_2_method_3_code 43 = .ok (.getfield 12, 3) := jx_dec c_X_collectOpen_ok 21 rfl
theorem d_X_collectOpen_46 : decode prog_2_method_3_code 46 = .ok (.aload_n 1, 1) := jx_dec c_X_collectOpen_ok 22 rfl
theorem d_X_collectOpen_47 : decode prog_2_method_3_code 47 = .ok (.iload_n 2, 1) := jx_dec c_X_collectOpen_ok 23 rfl
theorem d_X_collectOpen_48 : decode prog_2_method_3_code 48 = .ok (.invokevirtual 52, 3) := jx_dec c_X_collectOpen_ok 24 rfl
theorem d_X_collectOpen_51 : decode prog_2_method_3_code 51 = .ok (.checkcast 90, 3) := jx_dec c_X_collectOpen_ok 25 rfl
theorem d_X_collectOpen_54 : decode prog_2_method_3_code 54 = .ok (.invokevirtual 95, 3) := jx_dec c_X_collectOpen_ok 26 rfl
theorem d_X_collectOpen_57 : decode prog_2_method_3_code 57 = .ok (.pop, 1) := jx_dec c_X_collectOpen_ok 27 rfl
theorem d_X_collectOpen_58 : decode prog_2_method_3_code 58 = .ok (.iinc 2 1, 3) := jx_dec c_X_collectOpen_ok 28 rfl
theorem d_X_collectOpen_61 : decode prog_2_method_3_code 61 = .ok (.goto (-52), 3) := jx_dec c_X_collectOpen_ok 29 rfl
theorem d_X_collectOpen_64 : decode prog_2_method_3_code 64 = .ok (.aload_n 0, 1) := jx_dec c_X_collectOpen_ok 30 rfl
theorem d_X_collectOpen_65 : decode prog_2_method_3_code 65 = .ok (.iconst 1, 1) := jx_dec c_X_collectOpen_ok 31 rfl
theorem d_X_collectOpen_66 : decode prog_2_method_3_code 66 = .ok (.aload_n 0, 1) := jx_dec c_X_collectOpen_ok 32 rfl
theorem d_X_collectOpen_67 : decode prog_2_method_3_code 67 = .ok (.getfield 12, 3) := jx_dec c_X_collectOpen_ok 33 rfl
theorem d_X_collectOpen_70 : decode prog_2_method_3_code 70 = .ok (.invokevirtual 48, 3) := jx_dec c_X_collectOpen_ok 34 rfl
theorem d_X_collectOpen_73 : decode prog_2_method_3_code 73 = .ok (.ishl, 1) := jx_dec c_X_collectOpen_ok 35 rfl
theorem d_X_collectOpen_74 : decode prog_2_method_3_code 74 = .ok (.putfield 58, 3) := jx_dec c_X_collectOpen_ok 36 rfl
theorem d_X_collectOpen_77 : decode prog_2_method_3_code 77 = .ok (.return_, 1) := jx_dec c_X_collectOpen_ok 37 rfl
def c_X_tryOrders : List (Nat × Instr × Nat) := [(0, .aload_n 0, 1), (1, .aload_n 1, 1), (2, .getfield 99, 3), (5, .iload_n 3, 1), (6, .iload 4, 2), (8, .invokevirtual 102, 3), (11, .iload 5, 2), (13, .aload_n 0, 1), (14, .getfield 12, 3), (17, .invokevirtual 48, 3), (20, .if_icmp .lt 4, 3), (23, .return_, 1), (24, .aload_n 1, 1), (25, .getfield 67, 3), (28, .istore 6, 2), (30, .aload_n 1, 1), (31, .getfield 73, 3), (34, .istore 7, 2), (36, .iconst 0, 1), (37, .istore 8, 2), (39, .iload 8, 2), (41, .aload_n 0, 1), (42, .getfield 12, 3), (45, .invokevirtual 48, 3), (48, .if_icmp .ge 123, 3), (51, .aload_n 0, 1), (52, .getfield 12, 3), (55, .iload 8, 2), (57, .invokevirtual 52, 3), (60, .checkcast 90, 3), (63, .astore 9, 2), (65, .iload_n 3, 1), (66, .iload 8, 2), (68, .ishr, 1), (69, .iconst 1, 1), (70, .iand, 1), (71, .iconst 1, 1), (72, .if_icmp .eq 93, 3), (75, .aload_n 1, 1), (76, .aload 9, 2), (78, .invokevirtual 106, 3), (81, .ifCond .ne 6, 3), (84, .goto 81, 3), (87, .aload_n 1, 1), (88, .aload 9, 2), (90, .iload 6, 2), (92, .iload 7, 2), (94, .aload_n 2, 1), (95, .invokevirtual 110, 3), (98, .istore 10, 2), (100, .iload 10, 2), (102, .iconst (-1), 1), (103, .if_icmp .ne 6, 3), (106, .goto 59, 3), (109, .aload_n 0, 1), (110, .getfield 26, 3), (113, .iload 8, 2), (115, .iload 10, 2), (117, .iastore, 1), (118, .aload_n 1, 1), (119, .iload 10, 2), (121, .aload 9, 2), (123, .getfield 114, 3), (126, .iadd, 1), (127, .putfield 67, 3), (130, .aload_n 1, 1), (131, .aload 9, 2), (133, .getfield 117, 3), (136, .putfield 73, 3), (139, .aload_n 0, 1), (140, .aload_n 1, 1), (141, .aload_n 2, 1), (142, .iload_n 3, 1), (143, .iconst 1, 1), (144, .iload 8, 2), (146, .ishl, 1), (147, .ior, 1), (148, .iload 4, 2), (150, .aload 9, 2), (152, .iload 10, 2), (154, .invokevirtual 118, 3), (157, .iadd, 1), (158, .iload 5, 2), (160, .iconst 1, 1), (161, .iadd, 1), (162, .invokevirtual 76, 3), (165, .iinc 8 1, 3), (168, .goto (-129), 3), (171, .return_, 1)]
theorem c_X_tryOrders_ok : (c_X_tryOrders).all (fun q => decide (decode prog_2_method_4_code q.1 = .ok q.2)) = true := by decide +kernel
theorem d_X_tryOrders_0 : decode prog_2_method_4_code 0 = .ok (.aload_n 0, 1) := jx_dec c_X_tryOrders_ok 0 rfl
theorem d_X_tryOrders_1 : decode prog_2_method_4_code 1 = .ok (.aload_n 1, 1) := jx_dec c_X_tryOrders_ok 1 rfl
theorem d_X_tryOrders_2 : decode prog_2_method_4_code 2 = .ok (.getfield 99, 3) := jx_dec c_X_tryOrders_ok 2 rfl
theorem d_X_tryOrders_5 : decode prog_2_method_4_code 5 = .ok (.iload_n 3, 1) := jx_dec c_X_tryOrders_ok 3 rfl
theorem d_X_tryOrders_6 : decode prog_2_method_4_code 6 = .ok (.iload 4, 2) := jx_dec c_X_tryOrders_ok 4 rfl
theorem d_X_tryOrders_8 : decode prog_2_method_4_code 8 = .ok (.invokevirtual 102, 3) := jx_dec c_X_tryOrders_ok 5 rfl
theorem d_X_tryOrders_11 : decode prog_2_method_4_code 11 = .ok (.iload 5, 2) := jx_dec c_X_tryOrders_ok 6 rfl
theorem d_X_tryOrders_13 : decode prog_2_method_4_code 13 = .ok (.aload_n 0, 1) := jx_dec c_X_tryOrders_ok 7 rfl
theorem d_X_tryOrders_14 : decode prog_2_method_4_code 14 = .ok (.getfield 12, 3) := jx_dec c_X_tryOrders_ok 8 rfl
theorem d_X_tryOrders_17 : decode prog_2_method_4_code 17 = .ok (.invokevirtual 48, 3) := jx_dec c_X_tryOrders_ok 9 rfl
theorem d_X_tryOrders_20 : decode prog_2_method_4_code 20 = .ok (.if_icmp .lt 4, 3) := jx_dec c_X_tryOrders_ok 10 rfl
theorem d_X_tryOrders_23 : decode prog_2_method_4_code 23 = .ok (.return_, 1) := jx_dec c_X_tryOrders_ok 11 rfl
theorem d_X_tryOrders_24 : decode prog_2_method_4_code 24 = .ok (.aload_n 1, 1) := jx_dec c_X_tryOrders_ok 12 rfl
theorem d_X_tryOrders_25 : decode prog_2_method_4_code 25 = .ok (.getfield 67, 3) := jx_dec c_X_tryOrders_ok 13 rfl
theorem d_X_tryOrders_28 : decode prog_2_method_4_code 28 = .ok (.istore 6, 2) := jx_dec c_X_tryOrders_ok 14 rfl
theorem d_X_tryOrders_30 : decode prog_2_method_4_code 30 = .ok (.aload_n 1, 1) := jx_dec c_X_tryOrders_ok 15 rfl
theorem d_X_tryOrders_31 : decode prog_2_method_4_code 31 = .ok (.getfield 73, 3) := jx_dec c_X_tryOrders_ok 16 rfl
theorem d_X_tryOrders_34 : decode prog_2_method_4_code 34 = .ok (.istore 7, 2) := jx_dec c_X_tryOrders_ok 17 rfl
theorem d_X_tryOrders_36 : decode prog_2_method_4_code 36 = .ok (.iconst 0, 1) := jx_dec c_X_tryOrders_ok 18 rfl
theorem d_X_tryOrders_37 : decode prog_2_method_4_code 37 = .ok (.istore 8, 2) := jx_dec c_X_tryOrders_ok 19 rfl
theorem d_X_tryOrders_39 : decode prog_2_method_4_code 39 = .ok (.iload 8, 2) := jx_dec c_X_tryOrders_ok 20 rfl
theorem d_X_tryOrders_41 : decode prog_2_method_4_code 41 = .ok (.aload_n 0, 1) := jx_dec c_X_tryOrders_ok 21 rfl
theorem d_X_tryOrders_42 : decode prog_2_method_4_code 42 = .ok (.getfield 12, 3) := jx_dec c_X_tryOrders_ok 22 rfl
theorem d_X_tryOrders_45 : decode prog_2_method_4_code 45 = .ok (.invokevirtual 48, 3) := jx_dec c_X_tryOrders_ok 23 rfl
theorem d_X_tryOrders_48 : decode prog_2_method_4_code 48 = .ok (.if_icmp .ge 123, 3) := jx_dec c_X_tryOrders_ok 24 rfl
theorem d_X_tryOrders_51 : decode prog_2_method_4_code 51 = .ok (.aload_n 0, 1) := jx_dec c_X_tryOrders_ok 25 rfl
theorem d_X_tryOrders_52 : decode prog_2_method_4_code 52 = .ok (.getfield 12, 3) := jx_dec c_X_tryOrders_ok 26 rfl
theorem d_X_tryOrders_55 : decode prog_2_method_4_code 55 = .ok (.iload 8, 2) := jx_dec c_X_tryOrders_ok 27 rfl
theorem d_X_tryOrders_57 : decode prog_2_method_4_code 57 = .ok (.invokevirtual 52, 3) := jx_dec c_X_tryOrders_ok 28 rfl
theorem d_X_tryOrders_60 : decode prog_2_method_4_code 60 = .ok (.checkcast 90, 3) := jx_dec c_X_tryOrders_ok 29 rfl
theorem d_X_tryOrders_63 : decode prog_2_method_4_code 63 = .ok (.astore 9, 2) := jx_dec c_X_tryOrders_ok 30 rfl
theorem d_X_tryOrders_65 : decode prog_2_method_4_code 65 = .ok (.iload_n 3, 1) := jx_dec c_X_tryOrders_ok 31 rfl
theorem d_X_tryOrders_66 : decode prog_2_method_4_code 66 = .ok (.iload 8, 2) := jx_dec c_X_tryOrders_ok 32 rfl
theorem d_X_tryOrders_68 : decode prog_2_method_4_code 68 = .ok (.ishr, 1) := jx_dec c_X_tryOrders_ok 33 rfl
theorem d_X_tryOrders_69 : decode prog_2_method_4_code 69 = .ok (.iconst 1, 1) := jx_dec c_X_tryOrders_ok 34 rfl
theorem d_X_tryOrders_70 : decode prog_2_method_4_code 70 = .ok (.iand, 1) := jx_dec c_X_tryOrders_ok 35 rfl
theorem d_X_tryOrders_71 : decode prog_2_method_4_code 71 = .ok (.iconst 1, 1) := jx_dec c_X_tryOrders_ok 36 rfl
theorem d_X_tryOrders_72 : decode prog_2_method_4_code 72 = .ok (.if_icmp .eq 93, 3) := jx_dec c_X_tryOrders_ok 37 rfl
theorem d_X_tryOrders_75 : decode prog_2_method_4_code 75 = .ok (.aload_n 1, 1) := jx_dec c_X_tryOrders_ok 38 rfl
theorem d_X_tryOrders_76 : decode prog_2_method_4_code 76 = .ok (.aload 9, 2) := jx_dec c_X_tryOrders_ok 39 rfl
theorem d_X_tryOrders_78 : decode prog_2_method_4_code 78 = .ok (.invokevirtual 106, 3) := jx_dec c_X_tryOrders_ok 40 rfl
theorem d_X_tryOrders_81 : decode prog_2_method_4_code 81 = .ok (.ifCond .ne 6, 3) := jx_dec c_X_tryOrders_ok 41 rfl
theorem d_X_tryOrders_84 : decode prog_2_method_4_code 84 = .ok (.goto 81, 3) := jx_dec c_X_tryOrders_ok 42 rfl
theorem d_X_tryOrders_87 : decode prog_2_method_4_code 87 = .ok (.aload_n 1, 1) := jx_dec c_X_tryOrders_ok 43 rfl
theorem d_X_tryOrders_88 : decode prog_2_method_4_code 88 = .ok (.aload 9, 2) := jx_dec c_X_tryOrders_ok 44 rfl
theorem d_X_tryOrders_90 : decode prog_2_method_4_code 90 = .ok (.iload 6, 2) := jx_dec c_X_tryOrders_ok 45 rfl
theorem d_X_tryOrders_92 : decode prog_2_method_4_code 92 = .ok (.iload 7, 2) := jx_dec c_X_tryOrders_ok 46 rfl
theorem d_X_tryOrders_94 : decode prog_2_method_4_code 94 = .ok (.aload_n 2, 1) := jx_dec c_X_tryOrders_ok 47 rfl
theorem d_X_tryOrders_95 : decode prog_2_method_4_code 95 = .ok (.invokevirtual 110, 3) := jx_dec c_X_tryOrders_ok 48 rfl
theorem d_X_tryOrders_98 : decode prog_2_method_4_code 98 = .ok (.istore 10, 2) := jx_dec c_X_tryOrders_ok 49 rfl
theorem d_X_tryOrders_100 : decode prog_2_method_4_code 100 = .ok (.iload 10, 2) := jx_dec c_X_tryOrders_ok 50 rfl
theorem d_X_tryOrders_102 : decode prog_2_method_4_code 102 = .ok (.iconst (-1), 1) := jx_dec c_X_tryOrders_ok 51 rfl
theorem d_X_tryOrders_103 : decode prog_2_method_4_code 103 = .ok (.if_icmp .ne 6, 3) := jx_dec c_X_tryOrders_ok 52 rfl
theorem d_X_tryOrders_106 : decode prog_2_method_4_code 106 = .ok (.goto 59, 3) := jx_dec c_X_tryOrders_ok 53 rfl
theorem d_X_tryOrders_109 : decode prog_2_method_4_code 109 = .ok (.aload_n 0, 1) := jx_dec c_X_tryOrders_ok 54 rfl
theorem d_X_tryOrders_110 : decode prog_2_method_4_code 110 = .ok (.getfield 26, 3) := jx_dec c_X_tryOrders_ok 55 rfl
theorem d_X_tryOrders_113 : decode prog_2_method_4_code 113 = .ok (.iload 8, 2) := jx_dec c_X_tryOrders_ok 56 rfl
theorem d_X_tryOrders_115 : decode prog_2_method_4_code 115 = .ok (.iload 10, 2) := jx_dec c_X_tryOrders_ok 57 rfl
theorem d_X_tryOrders_117 : decode prog_2_method_4_code 117 = .ok (.iastore, 1) := jx_dec c_X_tryOrders_ok 58 rfl
theorem d_X_tryOrders_118 : decode prog_2_method_4_code 118 = .ok (.aload_n 1, 1) := jx_dec c_X_tryOrders_ok 59 rfl
theorem d_X_tryOrders_119 : decode prog_2_method_4_code 119 = .ok (.iload 10, 2) := jx_dec c_X_tryOrders_ok 60 rfl
theorem d_X_tryOrders_121 : decode prog_2_method_4_code 121 = .ok (.aload 9, 2) := jx_dec c_X_tryOrders_ok 61 rfl
theorem d_X_tryOrders_123 : decode prog_2_method_4_code 123 = .ok (.getfield 114, 3) := jx_dec c_X_tryOrders_ok 62 rfl
theorem d_X_tryOrders_126 : decode prog_2_method_4_code 126 = .ok (.iadd, 1) := jx_dec c_X_tryOrders_ok 63 rfl
theorem d_X_tryOrders_127 : decode prog_2_method_4_code 127 = .ok (.putfield 67, 3) := jx_dec c_X_tryOrders_ok 64 rfl
theorem d_X_tryOrders_130 : decode prog_2_method_4_code 130 = .ok (.aload_n 1, 1) := jx_dec c_X_tryOrders_ok 65 rfl
theorem d_X_tryOrders_131 : decode prog_2_method_4_code 131 = .ok (.aload 9, 2) := jx_dec c_X_tryOrders_ok 66 rfl
theorem d_X_tryOrders_133 : decode prog_2_method_4_code 133 = .ok (.getfield 117, 3) := jx_dec c_X_tryOrders_ok 67 rfl
theorem d_X_tryOrders_136 : decode prog_2_method_4_code 136 = .ok (.putfield 73, 3) := jx_dec c_X_tryOrders_ok 68 rfl
theorem d_X_tryOrders_139 : decode prog_2_method_4_code 139 = .ok (.aload_n 0, 1) := jx_dec c_X_tryOrders_ok 69 rfl
theorem d_X_tryOrders_140 : decode prog_2_method_4_code 140 = .ok (.aload_n 1, 1) := jx_dec c_X_tryOrders_ok 70 rfl
theorem d_X_tryOrders_141 : decode prog_2_method_4_code 141 = .ok (.aload_n 2, 1) := jx_dec c_X_tryOrders_ok 71 rfl
theorem d_X_tryOrders_142 : decode prog_2_method_4_code 142 = .ok (.iload_n 3, 1) := jx_dec c_X_tryOrders_ok 72 rfl
theorem d_X_tryOrders_143 : decode prog_2_method_4_code 143 = .ok (.iconst 1, 1) := jx_dec c_X_tryOrders_ok 73 rfl
theorem d_X_tryOrders_144 : decode prog_2_method_4_code 144 = .ok (.iload 8, 2) := jx_dec c_X_tryOrders_ok 74 rfl
theorem d_X_tryOrders_146 : decode prog_2_method_4_code 146 = .ok (.ishl, 1) := jx_dec c_X_tryOrders_ok 75 rfl
theorem d_X_tryOrders_147 : decode prog_2_method_4_code 147 = .ok (.ior, 1) := jx_dec c_X_tryOrders_ok 76 rfl
theorem d_X_tryOrders_148 : decode prog_2_method_4_code 148 = .ok (.iload 4, 2) := jx_dec c_X_tryOrders_ok 77 rfl
theorem d_X_tryOrders_150 : decode prog_2_method_4_code 150 = .ok (.aload 9, 2) := jx_dec c_X_tryOrders_ok 78 rfl
theorem d_X_tryOrders_152 : decode prog_2_method_4_code 152 = .ok (.iload 10, 2) := jx_dec c_X_tryOrders_ok 79 rfl
theorem d_X_tryOrders_154 : decode prog_2_method_4_code 154 = .ok (.invokevirtual 118, 3) := jx_dec c_X_tryOrders_ok 80 rfl
theorem d_X_tryOrders_157 : decode prog_2_method_4_code 157 = .ok (.iadd, 1) := jx_dec c_X_tryOrders_ok 81 rfl
theorem d_X_tryOrders_158 : decode prog_2_method_4_code 158 = .ok (.iload 5, 2) := jx_dec c_X_tryOrders_ok 82 rfl
theorem d_X_tryOrders_160 : decode prog_2_method_4_code 160 = .ok (.iconst 1, 1) := jx_dec c_X_tryOrders_ok 83 rfl
theorem d_X_tryOrders_161 : decode prog_2_method_4_code 161 = .ok (.iadd, 1) := jx_dec c_X_tryOrders_ok 84 rfl
theorem d_X_tryOrders_162 : decode prog_2_method_4_code 162 = .ok (.invokevirtual 76, 3) := jx_dec c_X_tryOrders_ok 85 rfl
theorem d_X_tryOrders_165 : decode prog_2_method_4_code 165 = .ok (.iinc 8 1, 3) := jx_dec c_X_tryOrders_ok 86 rfl
theorem d_X_tryOrders_168 : decode prog_2_method_4_code 168 = .ok (.goto (-129), 3) := jx_dec c_X_tryOrders_ok 87 rfl
theorem d_X_tryOrders_171 : decode prog_2_method_4_code 171 = .ok (.return_, 1) := jx_dec c_X_tryOrders_ok 88 rfl
def c_X_keepIfBetter : List (Nat × Instr × Nat) := [(0, .aload_n 0, 1), (1, .getfield 20, 3), (4, .iload_n 1, 1), (5, .aaload, 1), (6, .iload_n 2, 1), (7, .iaload, 1), (8, .istore 4, 2), (10, .iload_n 3, 1), (11, .iload 4, 2), (13, .if_icmp .gt 18, 3), (16, .iload_n 3, 1), (17, .iload 4, 2), (19, .if_icmp .ne 13, 3), (22, .aload_n 0, 1), (23, .iload_n 1, 1), (24, .iload_n 2, 1), (25, .invokevirtual 121, 3), (28, .ifCond .ne 4, 3), (31, .return_, 1), (32, .aload_n 0, 1), (33, .getfield 20, 3), (36, .iload_n 1, 1), (37, .aaload, 1), (38, .iload_n 2, 1), (39, .iload_n 3, 1), (40, .iastore, 1), (41, .iconst 0, 1), (42, .istore 5, 2), (44, .iload 5, 2), (46, .aload_n 0, 1), (47, .getfield 12, 3), (50, .invokevirtual 48, 3), (53, .if_icmp .ge 29, 3), (56, .aload_n 0, 1), (57, .getfield 23, 3), (60, .iload_n 1, 1), (61, .aaload, 1), (62, .iload_n 2, 1), (63, .iconst 5, 1), (64, .imul, 1), (65, .iload 5, 2), (67, .iadd, 1), (68, .aload_n 0, 1), (69, .getfield 26, 3), (72, .iload 5, 2), (74, .iaload, 1), (75, .iastore, 1), (76, .iinc 5 1, 3), (79, .goto (-35), 3), (82, .return_, 1)]
theorem c_X_keepIfBetter_ok : (c_X_keepIfBetter).all (fun q => decide (decode prog_2_method_5_code q.1 = .ok q.2)) = true := by decide +kernel
theorem d_X_keepIfBetter_0 : decode prog_2_method_5_code 0 = .ok (.aload_n 0, 1) := jx_dec c_X_keepIfBetter_ok 0 rfl
theorem d_X_keepIfBetter_1 : decode prog_2_method_5_code 1 = .ok (.getfield 20, 3) := jx_dec c_X_keepIfBetter_ok 1 rfl
theorem d_X_keepIfBetter_4 : decode prog_2_method_5_code 4 = .ok (.iload_n 1, 1) := jx_dec c_X_keepIfBetter_ok 2 rfl
theorem d_X_keepIfBetter_5 : decode prog_2_method_5_code 5 = .ok (.aaload, 1) := jx_dec c_X_keepIfBetter_ok 3 rfl
theorem d_X_keepIfBetter_6 : decode prog_2_method_5_code 6 = .ok (.iload_n 2, 1) := jx_dec c_X_keepIfBetter_ok 4 rfl
theorem d_X_keepIfBetter_7 : decode prog_2_method_5_code 7 = .ok (.iaload, 1) := jx_dec c_X_keepIfBetter_ok 5 rfl
theorem d_X_keepIfBetter_8 : decode prog_2_method_5_code 8 = .ok (.istore 4, 2) := jx_dec c_X_keepIfBetter_ok 6 rfl
theorem d_X_keepIfBetter_10 : decode prog_2_method_5_code 10 = .ok (.iload_n 3, 1) := jx_dec c_X_keepIfBetter_ok 7 rfl
theorem d_X_keepIfBetter_11 : decode prog_2_method_5_code 11 = .ok (.iload 4, 2) := jx_dec c_X_keepIfBetter_ok 8 rfl
theorem d_X_keepIfBetter_13 : decode prog_2_method_5_code 13 = .ok (.if_icmp .gt 18, 3) := jx_dec c_X_keepIfBetter_ok 9 rfl
theorem d_X_keepIfBetter_16 : decode prog_2_method_5_code 16 = .ok (.iload_n 3, 1) := jx_dec c_X_keepIfBetter_ok 10 rfl
theorem d_X_keepIfBetter_17 : decode prog_2_method_5_code 17 = .ok (.iload 4, 2) := jx_dec c_X_keepIfBetter_ok 11 rfl
theorem d_X_keepIfBetter_19 : decode prog_2_method_5_code 19 = .ok (.if_icmp .ne 13, 3) := jx_dec c_X_keepIfBetter_ok 12 rfl
theorem d_X_keepIfBetter_22 : decode prog_2_method_5_code 22 = .ok (.aload_n 0, 1) := jx_dec c_X_keepIfBetter_ok 13 rfl
theorem d_X_keepIfBetter_23 : decode prog_2_method_5_code 23 = .ok (.iload_n 1, 1) := jx_dec c_X_keepIfBetter_ok 14 rfl
theorem d_X_keepIfBetter_24 : decode prog_2_method_5_code 24 = .ok (.iload_n 2, 1) := jx_dec c_X_keepIfBetter_ok 15 rfl
theorem d_X_keepIfBetter_25 : decode prog_2_method_5_code 25 = .ok (.invokevirtual 121, 3) := jx_dec c_X_keepIfBetter_ok 16 rfl
theorem d_X_keepIfBetter_28 : decode prog_2_method_5_code 28 = .ok (.ifCond .ne 4, 3) := jx_dec c_X_keepIfBetter_ok 17 rfl
theorem d_X_keepIfBetter_31 : decode prog_2_method_5_code 31 = .ok (.return_, 1) := jx_dec c_X_keepIfBetter_ok 18 rfl
theorem d_X_keepIfBetter_32 : decode prog_2_method_5_code 32 = .ok (.aload_n 0, 1) := jx_dec c_X_keepIfBetter_ok 19 rfl
theorem d_X_keepIfBetter_33 : decode prog_2_method_5_code 33 = .ok (.getfield 20, 3) := jx_dec c_X_keepIfBetter_ok 20 rfl
theorem d_X_keepIfBetter_36 : decode prog_2_method_5_code 36 = .ok (.iload_n 1, 1) := jx_dec c_X_keepIfBetter_ok 21 rfl
theorem d_X_keepIfBetter_37 : decode prog_2_method_5_code 37 = .ok (.aaload, 1) := jx_dec c_X_keepIfBetter_ok 22 rfl
theorem d_X_keepIfBetter_38 : decode prog_2_method_5_code 38 = .ok (.iload_n 2, 1) := jx_dec c_X_keepIfBetter_ok 23 rfl
theorem d_X_keepIfBetter_39 : decode prog_2_method_5_code 39 = .ok (.iload_n 3, 1) := jx_dec c_X_keepIfBetter_ok 24 rfl
theorem d_X_keepIfBetter_40 : decode prog_2_method_5_code 40 = .ok (.iastore, 1) := jx_dec c_X_keepIfBetter_ok 25 rfl
theorem d_X_keepIfBetter_41 : decode prog_2_method_5_code 41 = .ok (.iconst 0, 1) := jx_dec c_X_keepIfBetter_ok 26 rfl
theorem d_X_keepIfBetter_42 : decode prog_2_method_5_code 42 = .ok (.istore 5, 2) := jx_dec c_X_keepIfBetter_ok 27 rfl
theorem d_X_keepIfBetter_44 : decode prog_2_method_5_code 44 = .ok (.iload 5, 2) := jx_dec c_X_keepIfBetter_ok 28 rfl
theorem d_X_keepIfBetter_46 : decode prog_2_method_5_code 46 = .ok (.aload_n 0, 1) := jx_dec c_X_keepIfBetter_ok 29 rfl
theorem d_X_keepIfBetter_47 : decode prog_2_method_5_code 47 = .ok (.getfield 12, 3) := jx_dec c_X_keepIfBetter_ok 30 rfl
theorem d_X_keepIfBetter_50 : decode prog_2_method_5_code 50 = .ok (.invokevirtual 48, 3) := jx_dec c_X_keepIfBetter_ok 31 rfl
theorem d_X_keepIfBetter_53 : decode prog_2_method_5_code 53 = .ok (.if_icmp .ge 29, 3) := jx_dec c_X_keepIfBetter_ok 32 rfl
theorem d_X_keepIfBetter_56 : decode prog_2_method_5_code 56 = .ok (.aload_n 0, 1) := jx_dec c_X_keepIfBetter_ok 33 rfl
theorem d_X_keepIfBetter_57 : decode prog_2_method_5_code 57 = .ok (.getfield 23, 3) := jx_dec c_X_keepIfBetter_ok 34 rfl
theorem d_X_keepIfBetter_60 : decode prog_2_method_5_code 60 = .ok (.iload_n 1, 1) := jx_dec c_X_keepIfBetter_ok 35 rfl
theorem d_X_keepIfBetter_61 : decode prog_2_method_5_code 61 = .ok (.aaload, 1) := jx_dec c_X_keepIfBetter_ok 36 rfl
theorem d_X_keepIfBetter_62 : decode prog_2_method_5_code 62 = .ok (.iload_n 2, 1) := jx_dec c_X_keepIfBetter_ok 37 rfl
theorem d_X_keepIfBetter_63 : decode prog_2_method_5_code 63 = .ok (.iconst 5, 1) := jx_dec c_X_keepIfBetter_ok 38 rfl
theorem d_X_keepIfBetter_64 : decode prog_2_method_5_code 64 = .ok (.imul, 1) := jx_dec c_X_keepIfBetter_ok 39 rfl
theorem d_X_keepIfBetter_65 : decode prog_2_method_5_code 65 = .ok (.iload 5, 2) := jx_dec c_X_keepIfBetter_ok 40 rfl
theorem d_X_keepIfBetter_67 : decode prog_2_method_5_code 67 = .ok (.iadd, 1) := jx_dec c_X_keepIfBetter_ok 41 rfl
theorem d_X_keepIfBetter_68 : decode prog_2_method_5_code 68 = .ok (.aload_n 0, 1) := jx_dec c_X_keepIfBetter_ok 42 rfl
theorem d_X_keepIfBetter_69 : decode prog_2_method_5_code 69 = .ok (.getfield 26, 3) := jx_dec c_X_keepIfBetter_ok 43 rfl
theorem d_X_keepIfBetter_72 : decode prog_2_method_5_code 72 = .ok (.iload 5, 2) := jx_dec c_X_keepIfBetter_ok 44 rfl
theorem d_X_keepIfBetter_74 : decode prog_2_method_5_code 74 = .ok (.iaload, 1) := jx_dec c_X_keepIfBetter_ok 45 rfl
theorem d_X_keepIfBetter_75 : decode prog_2_method_5_code 75 = .ok (.iastore, 1) := jx_dec c_X_keepIfBetter_ok 46 rfl
theorem d_X_keepIfBetter_76 : decode prog_2_method_5_code 76 = .ok (.iinc 5 1, 3) := jx_dec c_X_keepIfBetter_ok 47 rfl
theorem d_X_keepIfBetter_79 : decode prog_2_method_5_code 79 = .ok (.goto (-35), 3) := jx_dec c_X_keepIfBetter_ok 48 rfl
theorem d_X_keepIfBetter_82 : decode prog_2_method_5_code 82 = .ok (.return_, 1) := jx_dec c_X_keepIfBetter_ok 49 rfl
def c_X_startsEarlier : List (Nat × Instr × Nat) := [(0, .iconst 0, 1), (1, .istore_n 3, 1), (2, .iload_n 3, 1), (3, .aload_n 0, 1), (4, .getfield 12, 3), (7, .invokevirtual 48, 3), (10, .if_icmp .ge 60, 3), (13, .aload_n 0, 1), (14, .getfield 23, 3), (17, .iload_n 1, 1), (18, .aaload, 1), (19, .iload_n 2, 1), (20, .iconst 5, 1), (21, .imul, 1), (22, .iload_n 3, 1), (23, .iadd, 1), (24, .iaload, 1), (25, .istore 4, 2), (27, .iload_n 2, 1), (28, .iload_n 3, 1), (29, .ishr, 1), (30, .iconst 1, 1), (31, .iand, 1), (32, .iconst 1, 1), (33, .if_icmp .ne 31, 3), (36, .aload_n 0, 1), (37, .getfield 26, 3), (40, .iload_n 3, 1), (41, .iaload, 1), (42, .iload 4, 2), (44, .if_icmp .eq 20, 3), (47, .aload_n 0, 1), (48, .getfield 26, 3), (51, .iload_n 3, 1), (52, .iaload, 1), (53, .iload 4, 2), (55, .if_icmp .ge 7, 3), (58, .iconst 1, 1), (59, .goto 4, 3), (62, .iconst 0, 1), (63, .ireturn, 1), (64, .iinc 3 1, 3), (67, .goto (-65), 3), (70, .iconst 0, 1), (71, .ireturn, 1)]
theorem c_X_startsEarlier_ok : (c_X_startsEarlier).all (fun q => decide (decode prog_2_method_6_code q.1 = .ok q.2)) = true := by decide +kernel
theorem d_X_startsEarlier_0 : decode prog_2_method_6_code 0 = .ok (.iconst 0, 1) := jx_dec c_X_startsEarlier_ok 0 rfl
theorem d_X_startsEarlier_1 : decode prog_2_method_6_code 1 = .ok (.istore_n 3, 1) := jx_dec c_X_startsEarlier_ok 1 rfl
theorem d_X_startsEarlier_2 : decode prog_2_method_6_code 2 = .ok (.iload_n 3, 1) := jx_dec c_X_startsEarlier_ok 2 rfl
theorem d_X_startsEarlier_3 : decode prog_2_method_6_code 3 = .ok (.aload_n 0, 1) := jx_dec c_X_startsEarlier_ok 3 rfl
theorem d_X_startsEarlier_4 : decode prog_2_method_6_code 4 = .ok (.getfield 12, 3) := jx_dec c_X_startsEarlier_ok 4 rfl
theorem d_X_startsEarlier_7 : decode prog_2_method_6_code 7 = .ok (.invokevirtual 48, 3) := jx_dec c_X_startsEarlier_ok 5 rfl
theorem d_X_startsEarlier_10 : decode prog_2_method_6_code 10 = .ok (.if_icmp .ge 60, 3) := jx_dec c_X_startsEarlier_ok 6 rfl
theorem d_X_startsEarlier_13 : decode prog_2_method_6_code 13 = .ok (.aload_n 0, 1) := jx_dec c_X_startsEarlier_ok 7 rfl
theorem d_X_startsEarlier_14 : decode prog_2_method_6_code 14 = .ok (.getfield 23, 3) := jx_dec c_X_startsEarlier_ok 8 rfl
theorem d_X_startsEarlier_17 : decode prog_2_method_6_code 17 = .ok (.iload_n 1, 1) := jx_dec c_X_startsEarlier_ok 9 rfl
theorem d_X_startsEarlier_18 : decode prog_2_method_6_code 18 = .ok (.aaload, 1) := jx_dec c_X_startsEarlier_ok 10 rfl
theorem d_X_startsEarlier_19 : decode prog_2_method_6_code 19 = .ok (.iload_n 2, 1) := jx_dec c_X_startsEarlier_ok 11 rfl
theorem d_X_startsEarlier_20 : decode prog_2_method_6_code 20 = .ok (.iconst 5, 1) := jx_dec c_X_startsEarlier_ok 12 rfl
theorem d_X_startsEarlier_21 : decode prog_2_method_6_code 21 = .ok (.imul, 1) := jx_dec c_X_startsEarlier_ok 13 rfl
theorem d_X_startsEarlier_22 : decode prog_2_method_6_code 22 = .ok (.iload_n 3, 1) := jx_dec c_X_startsEarlier_ok 14 rfl
theorem d_X_startsEarlier_23 : decode prog_2_method_6_code 23 = .ok (.iadd, 1) := jx_dec c_X_startsEarlier_ok 15 rfl
theorem d_X_startsEarlier_24 : decode prog_2_method_6_code 24 = .ok (.iaload, 1) := jx_dec c_X_startsEarlier_ok 16 rfl
theorem d_X_startsEarlier_25 : decode prog_2_method_6_code 25 = .ok (.istore 4, 2) := jx_dec c_X_startsEarlier_ok 17 rfl
theorem d_X_startsEarlier_27 : decode prog_2_method_6_code 27 = .ok (.iload_n 2, 1) := jx_dec c_X_startsEarlier_ok 18 rfl
theorem d_X_startsEarlier_28 : decode prog_2_method_6_code 28 = .ok (.iload_n 3, 1) := jx_dec c_X_startsEarlier_ok 19 rfl
theorem d_X_startsEarlier_29 : decode prog_2_method_6_code 29 = .ok (.ishr, 1) := jx_dec c_X_startsEarlier_ok 20 rfl
theorem d_X_startsEarlier_30 : decode prog_2_method_6_code 30 = .ok (.iconst 1, 1) := jx_dec c_X_startsEarlier_ok 21 rfl
theorem d_X_startsEarlier_31 : decode prog_2_method_6_code 31 = .ok (.iand, 1) := jx_dec c_X_startsEarlier_ok 22 rfl
theorem d_X_startsEarlier_32 : decode prog_2_method_6_code 32 = .ok (.iconst 1, 1) := jx_dec c_X_startsEarlier_ok 23 rfl
theorem d_X_startsEarlier_33 : decode prog_2_method_6_code 33 = .ok (.if_icmp .ne 31, 3) := jx_dec c_X_startsEarlier_ok 24 rfl
theorem d_X_startsEarlier_36 : decode prog_2_method_6_code 36 = .ok (.aload_n 0, 1) := jx_dec c_X_startsEarlier_ok 25 rfl
theorem d_X_startsEarlier_37 : decode prog_2_method_6_code 37 = .ok (.getfield 26, 3) := jx_dec c_X_startsEarlier_ok 26 rfl
theorem d_X_startsEarlier_40 : decode prog_2_method_6_code 40 = .ok (.iload_n 3, 1) := jx_dec c_X_startsEarlier_ok 27 rfl
theorem d_X_startsEarlier_41 : decode prog_2_method_6_code 41 = .ok (.iaload, 1) := jx_dec c_X_startsEarlier_ok 28 rfl
theorem d_X_startsEarlier_42 : decode prog_2_method_6_code 42 = .ok (.iload 4, 2) := jx_dec c_X_startsEarlier_ok 29 rfl
theorem d_X_startsEarlier_44 : decode prog_2_method_6_code 44 = .ok (.if_icmp .eq 20, 3) := jx_dec c_X_startsEarlier_ok 30 rfl
theorem d_X_startsEarlier_47 : decode prog_2_method_6_code 47 = .ok (.aload_n 0, 1) := jx_dec c_X_startsEarlier_ok 31 rfl
theorem d_X_startsEarlier_48 : decode prog_2_method_6_code 48 = .ok (.getfield 26, 3) := jx_dec c_X_startsEarlier_ok 32 rfl
theorem d_X_startsEarlier_51 : decode prog_2_method_6_code 51 = .ok (.iload_n 3, 1) := jx_dec c_X_startsEarlier_ok 33 rfl
theorem d_X_startsEarlier_52 : decode prog_2_method_6_code 52 = .ok (.iaload, 1) := jx_dec c_X_startsEarlier_ok 34 rfl
theorem d_X_startsEarlier_53 : decode prog_2_method_6_code 53 = .ok (.iload 4, 2) := jx_dec c_X_startsEarlier_ok 35 rfl
theorem d_X_startsEarlier_55 : decode prog_2_method_6_code 55 = .ok (.if_icmp .ge 7, 3) := jx_dec c_X_startsEarlier_ok 36 rfl
theorem d_X_startsEarlier_58 : decode prog_2_method_6_code 58 = .ok (.iconst 1, 1) := jx_dec c_X_startsEarlier_ok 37 rfl
theorem d_X_startsEarlier_59 : decode prog_2_method_6_code 59 = .ok (.goto 4, 3) := jx_dec c_X_startsEarlier_ok 38 rfl
theorem d_X_startsEarlier_62 : decode prog_2_method_6_code 62 = .ok (.iconst 0, 1) := jx_dec c_X_startsEarlier_ok 39 rfl
theorem d_X_startsEarlier_63 : decode prog_2_method_6_code 63 = .ok (.ireturn, 1) := jx_dec c_X_startsEarlier_ok 40 rfl
theorem d_X_startsEarlier_64 : decode prog_2_method_6_code 64 = .ok (.iinc 3 1, 3) := jx_dec c_X_startsEarlier_ok 41 rfl
theorem d_X_startsEarlier_67 : decode prog_2_method_6_code 67 = .ok (.goto (-65), 3) := jx_dec c_X_startsEarlier_ok 42 rfl
theorem d_X_startsEarlier_70 : decode prog_2_method_6_code 70 = .ok (.iconst 0, 1) := jx_dec c_X_startsEarlier_ok 43 rfl
theorem d_X_startsEarlier_71 : decode prog_2_method_6_code 71 = .ok (.ireturn, 1) := jx_dec c_X_startsEarlier_ok 44 rfl
def c_X_shareOut : List (Nat × Instr × Nat) := [(0, .iconst 0, 1), (1, .istore_n 2, 1), (2, .iload_n 2, 1), (3, .aload_n 0, 1), (4, .getfield 58, 3), (7, .if_icmp .ge 30, 3), (10, .aload_n 0, 1), (11, .getfield 35, 3), (14, .iload_n 1, 1), (15, .aaload, 1), (16, .iload_n 2, 1), (17, .aload_n 0, 1), (18, .iload_n 2, 1), (19, .invokestatic 127, 3), (22, .ldc 132, 2), (24, .imul, 1), (25, .iconst 4, 1), (26, .iload_n 2, 1), (27, .invokevirtual 133, 3), (30, .lastore, 1), (31, .iinc 2 1, 3), (34, .goto (-32), 3), (37, .iload_n 1, 1), (38, .iconst 1, 1), (39, .isub, 1), (40, .istore_n 2, 1), (41, .iload_n 2, 1), (42, .ifCond .lt 31, 3), (45, .iconst 0, 1), (46, .istore_n 3, 1), (47, .iload_n 3, 1), (48, .aload_n 0, 1), (49, .getfield 58, 3), (52, .if_icmp .ge 15, 3), (55, .aload_n 0, 1), (56, .iload_n 2, 1), (57, .iload_n 3, 1), (58, .invokevirtual 137, 3), (61, .iinc 3 1, 3), (64, .goto (-17), 3), (67, .iinc 2 (-1), 3), (70, .goto (-29), 3), (73, .return_, 1)]
theorem c_X_shareOut_ok : (c_X_shareOut).all (fun q => decide (decode prog_2_method_8_code q.1 = .ok q.2)) = true := by decide +kernel
theorem d_X_shareOut_0 : decode prog_2_method_8_code 0 = .ok (.iconst 0, 1) := jx_dec c_X_shareOut_ok 0 rfl
theorem d_X_shareOut_1 : decode prog_2_method_8_code 1 = .ok (.istore_n 2, 1) := jx_dec c_X_shareOut_ok 1 rfl
theorem d_X_shareOut_2 : decode prog_2_method_8_code 2 = .ok (.iload_n 2, 1) := jx_dec c_X_shareOut_ok 2 rfl
theorem d_X_shareOut_3 : decode prog_2_method_8_code 3 = .ok (.aload_n 0, 1) := jx_dec c_X_shareOut_ok 3 rfl
theorem d_X_shareOut_4 : decode prog_2_method_8_code 4 = .ok (.getfield 58, 3) := jx_dec c_X_shareOut_ok 4 rfl
theorem d_X_shareOut_7 : decode prog_2_method_8_code 7 = .ok (.if_icmp .ge 30, 3) := jx_dec c_X_shareOut_ok 5 rfl
theorem d_X_shareOut_10 : decode prog_2_method_8_code 10 = .ok (.aload_n 0, 1) := jx_dec c_X_shareOut_ok 6 rfl
theorem d_X_shareOut_11 : decode prog_2_method_8_code 11 = .ok (.getfield 35, 3) := jx_dec c_X_shareOut_ok 7 rfl
theorem d_X_shareOut_14 : decode prog_2_method_8_code 14 = .ok (.iload_n 1, 1) := jx_dec c_X_shareOut_ok 8 rfl
theorem d_X_shareOut_15 : decode prog_2_method_8_code 15 = .ok (.aaload, 1) := jx_dec c_X_shareOut_ok 9 rfl
theorem d_X_shareOut_16 : decode prog_2_method_8_code 16 = .ok (.iload_n 2, 1) := jx_dec c_X_shareOut_ok 10 rfl
theorem d_X_shareOut_17 : decode prog_2_method_8_code 17 = .ok (.aload_n 0, 1) := jx_dec c_X_shareOut_ok 11 rfl
theorem d_X_shareOut_18 : decode prog_2_method_8_code 18 = .ok (.iload_n 2, 1) := jx_dec c_X_shareOut_ok 12 rfl
theorem d_X_shareOut_19 : decode prog_2_method_8_code 19 = .ok (.invokestatic 127, 3) := jx_dec c_X_shareOut_ok 13 rfl
theorem d_X_shareOut_22 : decode prog_2_method_8_code 22 = .ok (.ldc 132, 2) := jx_dec c_X_shareOut_ok 14 rfl
theorem d_X_shareOut_24 : decode prog_2_method_8_code 24 = .ok (.imul, 1) := jx_dec c_X_shareOut_ok 15 rfl
theorem d_X_shareOut_25 : decode prog_2_method_8_code 25 = .ok (.iconst 4, 1) := jx_dec c_X_shareOut_ok 16 rfl
theorem d_X_shareOut_26 : decode prog_2_method_8_code 26 = .ok (.iload_n 2, 1) := jx_dec c_X_shareOut_ok 17 rfl
theorem d_X_shareOut_27 : decode prog_2_method_8_code 27 = .ok (.invokevirtual 133, 3) := jx_dec c_X_shareOut_ok 18 rfl
theorem d_X_shareOut_30 : decode prog_2_method_8_code 30 = .ok (.lastore, 1) := jx_dec c_X_shareOut_ok 19 rfl
theorem d_X_shareOut_31 : decode prog_2_method_8_code 31 = .ok (.iinc 2 1, 3) := jx_dec c_X_shareOut_ok 20 rfl
theorem d_X_shareOut_34 : decode prog_2_method_8_code 34 = .ok (.goto (-32), 3) := jx_dec c_X_shareOut_ok 21 rfl
theorem d_X_shareOut_37 : decode prog_2_method_8_code 37 = .ok (.iload_n 1, 1) := jx_dec c_X_shareOut_ok 22 rfl
theorem d_X_shareOut_38 : decode prog_2_method_8_code 38 = .ok (.iconst 1, 1) := jx_dec c_X_shareOut_ok 23 rfl
theorem d_X_shareOut_39 : decode prog_2_method_8_code 39 = .ok (.isub, 1) := jx_dec c_X_shareOut_ok 24 rfl
theorem d_X_shareOut_40 : decode prog_2_method_8_code 40 = .ok (.istore_n 2, 1) := jx_dec c_X_shareOut_ok 25 rfl
theorem d_X_shareOut_41 : decode prog_2_method_8_code 41 = .ok (.iload_n 2, 1) := jx_dec c_X_shareOut_ok 26 rfl
theorem d_X_shareOut_42 : decode prog_2_method_8_code 42 = .ok (.ifCond .lt 31, 3) := jx_dec c_X_shareOut_ok 27 rfl
theorem d_X_shareOut_45 : decode prog_2_method_8_code 45 = .ok (.iconst 0, 1) := jx_dec c_X_shareOut_ok 28 rfl
theorem d_X_shareOut_46 : decode prog_2_method_8_code 46 = .ok (.istore_n 3, 1) := jx_dec c_X_shareOut_ok 29 rfl
theorem d_X_shareOut_47 : decode prog_2_method_8_code 47 = .ok (.iload_n 3, 1) := jx_dec c_X_shareOut_ok 30 rfl
theorem d_X_shareOut_48 : decode prog_2_method_8_code 48 = .ok (.aload_n 0, 1) := jx_dec c_X_shareOut_ok 31 rfl
theorem d_X_shareOut_49 : decode prog_2_method_8_code 49 = .ok (.getfield 58, 3) := jx_dec c_X_shareOut_ok 32 rfl
theorem d_X_shareOut_52 : decode prog_2_method_8_code 52 = .ok (.if_icmp .ge 15, 3) := jx_dec c_X_shareOut_ok 33 rfl
theorem d_X_shareOut_55 : decode prog_2_method_8_code 55 = .ok (.aload_n 0, 1) := jx_dec c_X_shareOut_ok 34 rfl
theorem d_X_shareOut_56 : decode prog_2_method_8_code 56 = .ok (.iload_n 2, 1) := jx_dec c_X_shareOut_ok 35 rfl
theorem d_X_shareOut_57 : decode prog_2_method_8_code 57 = .ok (.iload_n 3, 1) := jx_dec c_X_shareOut_ok 36 rfl
theorem d_X_shareOut_58 : decode prog_2_method_8_code 58 = .ok (.invokevirtual 137, 3) := jx_dec c_X_shareOut_ok 37 rfl
theorem d_X_shareOut_61 : decode prog_2_method_8_code 61 = .ok (.iinc 3 1, 3) := jx_dec c_X_shareOut_ok 38 rfl
theorem d_X_shareOut_64 : decode prog_2_method_8_code 64 = .ok (.goto (-17), 3) := jx_dec c_X_shareOut_ok 39 rfl
theorem d_X_shareOut_67 : decode prog_2_method_8_code 67 = .ok (.iinc 2 (-1), 3) := jx_dec c_X_shareOut_ok 40 rfl
theorem d_X_shareOut_70 : decode prog_2_method_8_code 70 = .ok (.goto (-29), 3) := jx_dec c_X_shareOut_ok 41 rfl
theorem d_X_shareOut_73 : decode prog_2_method_8_code 73 = .ok (.return_, 1) := jx_dec c_X_shareOut_ok 42 rfl
def c_X_rank : List (Nat × Instr × Nat) := [(0, .iload_n 1, 1), (1, .i2l, 1), (2, .ldc2_w 125, 3), (5, .lmul, 1), (6, .iload_n 2, 1), (7, .aload_n 0, 1), (8, .getfield 30, 3), (11, .iload_n 3, 1), (12, .iaload, 1), (13, .imul, 1), (14, .i2l, 1), (15, .ladd, 1), (16, .lreturn, 1)]
theorem c_X_rank_ok : (c_X_rank).all (fun q => decide (decode prog_2_method_7_code q.1 = .ok q.2)) = true := by decide +kernel
theorem d_X_rank_0 : decode prog_2_method_7_code 0 = .ok (.iload_n 1, 1) := jx_dec c_X_rank_ok 0 rfl
theorem d_X_rank_1 : decode prog_2_method_7_code 1 = .ok (.i2l, 1) := jx_dec c_X_rank_ok 1 rfl
theorem d_X_rank_2 : decode prog_2_method_7_code 2 = .ok (.ldc2_w 125, 3) := jx_dec c_X_rank_ok 2 rfl
theorem d_X_rank_5 : decode prog_2_method_7_code 5 = .ok (.lmul, 1) := jx_dec c_X_rank_ok 3 rfl
theorem d_X_rank_6 : decode prog_2_method_7_code 6 = .ok (.iload_n 2, 1) := jx_dec c_X_rank_ok 4 rfl
theorem d_X_rank_7 : decode prog_2_method_7_code 7 = .ok (.aload_n 0, 1) := jx_dec c_X_rank_ok 5 rfl
theorem d_X_rank_8 : decode prog_2_method_7_code 8 = .ok (.getfield 30, 3) := jx_dec c_X_rank_ok 6 rfl
theorem d_X_rank_11 : decode prog_2_method_7_code 11 = .ok (.iload_n 3, 1) := jx_dec c_X_rank_ok 7 rfl
theorem d_X_rank_12 : decode prog_2_method_7_code 12 = .ok (.iaload, 1) := jx_dec c_X_rank_ok 8 rfl
theorem d_X_rank_13 : decode prog_2_method_7_code 13 = .ok (.imul, 1) := jx_dec c_X_rank_ok 9 rfl
theorem d_X_rank_14 : decode prog_2_method_7_code 14 = .ok (.i2l, 1) := jx_dec c_X_rank_ok 10 rfl
theorem d_X_rank_15 : decode prog_2_method_7_code 15 = .ok (.ladd, 1) := jx_dec c_X_rank_ok 11 rfl
theorem d_X_rank_16 : decode prog_2_method_7_code 16 = .ok (.lreturn, 1) := jx_dec c_X_rank_ok 12 rfl
def c_X_chooseFrom : List (Nat × Instr × Nat) := [(0, .aload_n 0, 1), (1, .getfield 35, 3), (4, .iload_n 1, 1), (5, .iconst 1, 1), (6, .iadd, 1), (7, .aaload, 1), (8, .iload_n 2, 1), (9, .laload, 1), (10, .lstore_n 3, 1), (11, .iconst 0, 1), (12, .istore 5, 2), (14, .iconst 1, 1), (15, .istore 6, 2), (17, .iload 6, 2), (19, .iload_n 2, 1), (20, .if_icmp .gt 75, 3), (23, .aload_n 0, 1), (24, .getfield 20, 3), (27, .iload_n 1, 1), (28, .aaload, 1), (29, .iload 6, 2), (31, .iaload, 1), (32, .istore 7, 2), (34, .iload 6, 2), (36, .iload_n 2, 1), (37, .iand, 1), (38, .iload 6, 2), (40, .if_icmp .ne 49, 3), (43, .iload 7, 2), (45, .ldc 62, 2), (47, .if_icmp .eq 42, 3), (50, .aload_n 0, 1), (51, .iload 7, 2), (53, .iload_n 1, 1), (54, .iload 6, 2), (56, .invokevirtual 133, 3), (59, .aload_n 0, 1), (60, .getfield 35, 3), (63, .iload_n 1, 1), (64, .iconst 1, 1), (65, .iadd, 1), (66, .aaload, 1), (67, .iload_n 2, 1), (68, .iload 6, 2), (70, .ixor, 1), (71, .laload, 1), (72, .ladd, 1), (73, .lstore 8, 2), (75, .lload 8, 2), (77, .lload_n 3, 1), (78, .lcmp, 1), (79, .ifCond .ge 10, 3), (82, .lload 8, 2), (84, .lstore_n 3, 1), (85, .iload 6, 2), (87, .istore 5, 2), (89, .iinc 6 1, 3), (92, .goto (-75), 3), (95, .aload_n 0, 1), (96, .getfield 35, 3), (99, .iload_n 1, 1), (100, .aaload, 1), (101, .iload_n 2, 1), (102, .lload_n 3, 1), (103, .lastore, 1), (104, .aload_n 0, 1), (105, .getfield 38, 3), (108, .iload_n 1, 1), (109, .aaload, 1), (110, .iload_n 2, 1), (111, .iload 5, 2), (113, .iastore, 1), (114, .return_, 1)]
theorem c_X_chooseFrom_ok : (c_X_chooseFrom).all (fun q => decide (decode prog_2_method_9_code q.1 = .ok q.2)) = true := by decide +kernel
theorem d_X_chooseFrom_0 : decode prog_2_method_9_code 0 = .ok (.aload_n 0, 1) := jx_dec c_X_chooseFrom_ok 0 rfl
theorem d_X_chooseFrom_1 : decode prog_2_method_9_code 1 = .ok (.getfield 35, 3) := jx_dec c_X_chooseFrom_ok 1 rfl
theorem d_X_chooseFrom_4 : decode prog_2_method_9_code 4 = .ok (.iload_n 1, 1) := jx_dec c_X_chooseFrom_ok 2 rfl
theorem d_X_chooseFrom_5 : decode prog_2_method_9_code 5 = .ok (.iconst 1, 1) := jx_dec c_X_chooseFrom_ok 3 rfl
theorem d_X_chooseFrom_6 : decode prog_2_method_9_code 6 = .ok (.iadd, 1) := jx_dec c_X_chooseFrom_ok 4 rfl
theorem d_X_chooseFrom_7 : decode prog_2_method_9_code 7 = .ok (.aaload, 1) := jx_dec c_X_chooseFrom_ok 5 rfl
theorem d_X_chooseFrom_8 : decode prog_2_method_9_code 8 = .ok (.iload_n 2, 1) := jx_dec c_X_chooseFrom_ok 6 rfl
theorem d_X_chooseFrom_9 : decode prog_2_method_9_code 9 = .ok (.laload, 1) := jx_dec c_X_chooseFrom_ok 7 rfl
theorem d_X_chooseFrom_10 : decode prog_2_method_9_code 10 = .ok (.lstore_n 3, 1) := jx_dec c_X_chooseFrom_ok 8 rfl
theorem d_X_chooseFrom_11 : decode prog_2_method_9_code 11 = .ok (.iconst 0, 1) := jx_dec c_X_chooseFrom_ok 9 rfl
theorem d_X_chooseFrom_12 : decode prog_2_method_9_code 12 = .ok (.istore 5, 2) := jx_dec c_X_chooseFrom_ok 10 rfl
theorem d_X_chooseFrom_14 : decode prog_2_method_9_code 14 = .ok (.iconst 1, 1) := jx_dec c_X_chooseFrom_ok 11 rfl
theorem d_X_chooseFrom_15 : decode prog_2_method_9_code 15 = .ok (.istore 6, 2) := jx_dec c_X_chooseFrom_ok 12 rfl
theorem d_X_chooseFrom_17 : decode prog_2_method_9_code 17 = .ok (.iload 6, 2) := jx_dec c_X_chooseFrom_ok 13 rfl
theorem d_X_chooseFrom_19 : decode prog_2_method_9_code 19 = .ok (.iload_n 2, 1) := jx_dec c_X_chooseFrom_ok 14 rfl
theorem d_X_chooseFrom_20 : decode prog_2_method_9_code 20 = .ok (.if_icmp .gt 75, 3) := jx_dec c_X_chooseFrom_ok 15 rfl
theorem d_X_chooseFrom_23 : decode prog_2_method_9_code 23 = .ok (.aload_n 0, 1) := jx_dec c_X_chooseFrom_ok 16 rfl
theorem d_X_chooseFrom_24 : decode prog_2_method_9_code 24 = .ok (.getfield 20, 3) := jx_dec c_X_chooseFrom_ok 17 rfl
theorem d_X_chooseFrom_27 : decode prog_2_method_9_code 27 = .ok (.iload_n 1, 1) := jx_dec c_X_chooseFrom_ok 18 rfl
theorem d_X_chooseFrom_28 : decode prog_2_method_9_code 28 = .ok (.aaload, 1) := jx_dec c_X_chooseFrom_ok 19 rfl
theorem d_X_chooseFrom_29 : decode prog_2_method_9_code 29 = .ok (.iload 6, 2) := jx_dec c_X_chooseFrom_ok 20 rfl
theorem d_X_chooseFrom_31 : decode prog_2_method_9_code 31 = .ok (.iaload, 1) := jx_dec c_X_chooseFrom_ok 21 rfl
theorem d_X_chooseFrom_32 : decode prog_2_method_9_code 32 = .ok (.istore 7, 2) := jx_dec c_X_chooseFrom_ok 22 rfl
theorem d_X_chooseFrom_34 : decode prog_2_method_9_code 34 = .ok (.iload 6, 2) := jx_dec c_X_chooseFrom_ok 23 rfl
theorem d_X_chooseFrom_36 : decode prog_2_method_9_code 36 = .ok (.iload_n 2, 1) := jx_dec c_X_chooseFrom_ok 24 rfl
theorem d_X_chooseFrom_37 : decode prog_2_method_9_code 37 = .ok (.iand, 1) := jx_dec c_X_chooseFrom_ok 25 rfl
theorem d_X_chooseFrom_38 : decode prog_2_method_9_code 38 = .ok (.iload 6, 2) := jx_dec c_X_chooseFrom_ok 26 rfl
theorem d_X_chooseFrom_40 : decode prog_2_method_9_code 40 = .ok (.if_icmp .ne 49, 3) := jx_dec c_X_chooseFrom_ok 27 rfl
theorem d_X_chooseFrom_43 : decode prog_2_method_9_code 43 = .ok (.iload 7, 2) := jx_dec c_X_chooseFrom_ok 28 rfl
theorem d_X_chooseFrom_45 : decode prog_2_method_9_code 45 = .ok (.ldc 62, 2) := jx_dec c_X_chooseFrom_ok 29 rfl
theorem d_X_chooseFrom_47 : decode prog_2_method_9_code 47 = .ok (.if_icmp .eq 42, 3) := jx_dec c_X_chooseFrom_ok 30 rfl
theorem d_X_chooseFrom_50 : decode prog_2_method_9_code 50 = .ok (.aload_n 0, 1) := jx_dec c_X_chooseFrom_ok 31 rfl
theorem d_X_chooseFrom_51 : decode prog_2_method_9_code 51 = .ok (.iload 7, 2) := jx_dec c_X_chooseFrom_ok 32 rfl
theorem d_X_chooseFrom_53 : decode prog_2_method_9_code 53 = .ok (.iload_n 1, 1) := jx_dec c_X_chooseFrom_ok 33 rfl
theorem d_X_chooseFrom_54 : decode prog_2_method_9_code 54 = .ok (.iload 6, 2) := jx_dec c_X_chooseFrom_ok 34 rfl
theorem d_X_chooseFrom_56 : decode prog_2_method_9_code 56 = .ok (.invokevirtual 133, 3) := jx_dec c_X_chooseFrom_ok 35 rfl
theorem d_X_chooseFrom_59 : decode prog_2_method_9_code 59 = .ok (.aload_n 0, 1) := jx_dec c_X_chooseFrom_ok 36 rfl
theorem d_X_chooseFrom_60 : decode prog_2_method_9_code 60 = .ok (.getfield 35, 3) := jx_dec c_X_chooseFrom_ok 37 rfl
theorem d_X_chooseFrom_63 : decode prog_2_method_9_code 63 = .ok (.iload_n 1, 1) := jx_dec c_X_chooseFrom_ok 38 rfl
theorem d_X_chooseFrom_64 : decode prog_2_method_9_code 64 = .ok (.iconst 1, 1) := jx_dec c_X_chooseFrom_ok 39 rfl
theorem d_X_chooseFrom_65 : decode prog_2_method_9_code 65 = .ok (.iadd, 1) := jx_dec c_X_chooseFrom_ok 40 rfl
theorem d_X_chooseFrom_66 : decode prog_2_method_9_code 66 = .ok (.aaload, 1) := jx_dec c_X_chooseFrom_ok 41 rfl
theorem d_X_chooseFrom_67 : decode prog_2_method_9_code 67 = .ok (.iload_n 2, 1) := jx_dec c_X_chooseFrom_ok 42 rfl
theorem d_X_chooseFrom_68 : decode prog_2_method_9_code 68 = .ok (.iload 6, 2) := jx_dec c_X_chooseFrom_ok 43 rfl
theorem d_X_chooseFrom_70 : decode prog_2_method_9_code 70 = .ok (.ixor, 1) := jx_dec c_X_chooseFrom_ok 44 rfl
theorem d_X_chooseFrom_71 : decode prog_2_method_9_code 71 = .ok (.laload, 1) := jx_dec c_X_chooseFrom_ok 45 rfl
theorem d_X_chooseFrom_72 : decode prog_2_method_9_code 72 = .ok (.ladd, 1) := jx_dec c_X_chooseFrom_ok 46 rfl
theorem d_X_chooseFrom_73 : decode prog_2_method_9_code 73 = .ok (.lstore 8, 2) := jx_dec c_X_chooseFrom_ok 47 rfl
theorem d_X_chooseFrom_75 : decode prog_2_method_9_code 75 = .ok (.lload 8, 2) := jx_dec c_X_chooseFrom_ok 48 rfl
theorem d_X_chooseFrom_77 : decode prog_2_method_9_code 77 = .ok (.lload_n 3, 1) := jx_dec c_X_chooseFrom_ok 49 rfl
theorem d_X_chooseFrom_78 : decode prog_2_method_9_code 78 = .ok (.lcmp, 1) := jx_dec c_X_chooseFrom_ok 50 rfl
theorem d_X_chooseFrom_79 : decode prog_2_method_9_code 79 = .ok (.ifCond .ge 10, 3) := jx_dec c_X_chooseFrom_ok 51 rfl
theorem d_X_chooseFrom_82 : decode prog_2_method_9_code 82 = .ok (.lload 8, 2) := jx_dec c_X_chooseFrom_ok 52 rfl
theorem d_X_chooseFrom_84 : decode prog_2_method_9_code 84 = .ok (.lstore_n 3, 1) := jx_dec c_X_chooseFrom_ok 53 rfl
theorem d_X_chooseFrom_85 : decode prog_2_method_9_code 85 = .ok (.iload 6, 2) := jx_dec c_X_chooseFrom_ok 54 rfl
theorem d_X_chooseFrom_87 : decode prog_2_method_9_code 87 = .ok (.istore 5, 2) := jx_dec c_X_chooseFrom_ok 55 rfl
theorem d_X_chooseFrom_89 : decode prog_2_method_9_code 89 = .ok (.iinc 6 1, 3) := jx_dec c_X_chooseFrom_ok 56 rfl
theorem d_X_chooseFrom_92 : decode prog_2_method_9_code 92 = .ok (.goto (-75), 3) := jx_dec c_X_chooseFrom_ok 57 rfl
theorem d_X_chooseFrom_95 : decode prog_2_method_9_code 95 = .ok (.aload_n 0, 1) := jx_dec c_X_chooseFrom_ok 58 rfl
theorem d_X_chooseFrom_96 : decode prog_2_method_9_code 96 = .ok (.getfield 35, 3) := jx_dec c_X_chooseFrom_ok 59 rfl
theorem d_X_chooseFrom_99 : decode prog_2_method_9_code 99 = .ok (.iload_n 1, 1) := jx_dec c_X_chooseFrom_ok 60 rfl
theorem d_X_chooseFrom_100 : decode prog_2_method_9_code 100 = .ok (.aaload, 1) := jx_dec c_X_chooseFrom_ok 61 rfl
theorem d_X_chooseFrom_101 : decode prog_2_method_9_code 101 = .ok (.iload_n 2, 1) := jx_dec c_X_chooseFrom_ok 62 rfl
theorem d_X_chooseFrom_102 : decode prog_2_method_9_code 102 = .ok (.lload_n 3, 1) := jx_dec c_X_chooseFrom_ok 63 rfl
theorem d_X_chooseFrom_103 : decode prog_2_method_9_code 103 = .ok (.lastore, 1) := jx_dec c_X_chooseFrom_ok 64 rfl
theorem d_X_chooseFrom_104 : decode prog_2_method_9_code 104 = .ok (.aload_n 0, 1) := jx_dec c_X_chooseFrom_ok 65 rfl
theorem d_X_chooseFrom_105 : decode prog_2_method_9_code 105 = .ok (.getfield 38, 3) := jx_dec c_X_chooseFrom_ok 66 rfl
theorem d_X_chooseFrom_108 : decode prog_2_method_9_code 108 = .ok (.iload_n 1, 1) := jx_dec c_X_chooseFrom_ok 67 rfl
theorem d_X_chooseFrom_109 : decode prog_2_method_9_code 109 = .ok (.aaload, 1) := jx_dec c_X_chooseFrom_ok 68 rfl
theorem d_X_chooseFrom_110 : decode prog_2_method_9_code 110 = .ok (.iload_n 2, 1) := jx_dec c_X_chooseFrom_ok 69 rfl
theorem d_X_chooseFrom_111 : decode prog_2_method_9_code 111 = .ok (.iload 5, 2) := jx_dec c_X_chooseFrom_ok 70 rfl
theorem d_X_chooseFrom_113 : decode prog_2_method_9_code 113 = .ok (.iastore, 1) := jx_dec c_X_chooseFrom_ok 71 rfl
theorem d_X_chooseFrom_114 : decode prog_2_method_9_code 114 = .ok (.return_, 1) := jx_dec c_X_chooseFrom_ok 72 rfl
def c_X_tell : List (Nat × Instr × Nat) := [(0, .aload_n 0, 1), (1, .getfield 58, 3), (4, .iconst 1, 1), (5, .isub, 1), (6, .istore_n 2, 1), (7, .iconst 0, 1), (8, .istore_n 3, 1), (9, .iload_n 3, 1), (10, .iload_n 1, 1), (11, .if_icmp .ge 86, 3), (14, .aload_n 0, 1), (15, .getfield 38, 3), (18, .iload_n 3, 1), (19, .aaload, 1), (20, .iload_n 2, 1), (21, .iaload, 1), (22, .istore 4, 2), (24, .iconst 0, 1), (25, .istore 5, 2), (27, .iload 5, 2), (29, .aload_n 0, 1), (30, .getfield 12, 3), (33, .invokevirtual 48, 3), (36, .if_icmp .ge 50, 3), (39, .iload 4, 2), (41, .iload 5, 2), (43, .ishr, 1), (44, .iconst 1, 1), (45, .iand, 1), (46, .iconst 1, 1), (47, .if_icmp .ne 33, 3), (50, .aload_n 0, 1), (51, .getfield 12, 3), (54, .iload 5, 2), (56, .invokevirtual 52, 3), (59, .checkcast 90, 3), (62, .iload_n 3, 1), (63, .aload_n 0, 1), (64, .getfield 23, 3), (67, .iload_n 3, 1), (68, .aaload, 1), (69, .iload 4, 2), (71, .iconst 5, 1), (72, .imul, 1), (73, .iload 5, 2), (75, .iadd, 1), (76, .iaload, 1), (77, .invokevirtual 141, 3), (80, .iinc 5 1, 3), (83, .goto (-56), 3), (86, .iload_n 2, 1), (87, .iload 4, 2), (89, .ixor, 1), (90, .istore_n 2, 1), (91, .iinc 3 1, 3), (94, .goto (-85), 3), (97, .return_, 1)]
theorem c_X_tell_ok : (c_X_tell).all (fun q => decide (decode prog_2_method_10_code q.1 = .ok q.2)) = true := by decide +kernel
theorem d_X_tell_0 : decode prog_2_method_10_code 0 = .ok (.aload_n 0, 1) := jx_dec c_X_tell_ok 0 rfl
theorem d_X_tell_1 : decode prog_2_method_10_code 1 = .ok (.getfield 58, 3) := jx_dec c_X_tell_ok 1 rfl
theorem d_X_tell_4 : decode prog_2_method_10_code 4 = .ok (.iconst 1, 1) := jx_dec c_X_tell_ok 2 rfl
theorem d_X_tell_5 : decode prog_2_method_10_code 5 = .ok (.isub, 1) := jx_dec c_X_tell_ok 3 rfl
theorem d_X_tell_6 : decode prog_2_method_10_code 6 = .ok (.istore_n 2, 1) := jx_dec c_X_tell_ok 4 rfl
theorem d_X_tell_7 : decode prog_2_method_10_code 7 = .ok (.iconst 0, 1) := jx_dec c_X_tell_ok 5 rfl
theorem d_X_tell_8 : decode prog_2_method_10_code 8 = .ok (.istore_n 3, 1) := jx_dec c_X_tell_ok 6 rfl
theorem d_X_tell_9 : decode prog_2_method_10_code 9 = .ok (.iload_n 3, 1) := jx_dec c_X_tell_ok 7 rfl
theorem d_X_tell_10 : decode prog_2_method_10_code 10 = .ok (.iload_n 1, 1) := jx_dec c_X_tell_ok 8 rfl
theorem d_X_tell_11 : decode prog_2_method_10_code 11 = .ok (.if_icmp .ge 86, 3) := jx_dec c_X_tell_ok 9 rfl
theorem d_X_tell_14 : decode prog_2_method_10_code 14 = .ok (.aload_n 0, 1) := jx_dec c_X_tell_ok 10 rfl
theorem d_X_tell_15 : decode prog_2_method_10_code 15 = .ok (.getfield 38, 3) := jx_dec c_X_tell_ok 11 rfl
theorem d_X_tell_18 : decode prog_2_method_10_code 18 = .ok (.iload_n 3, 1) := jx_dec c_X_tell_ok 12 rfl
theorem d_X_tell_19 : decode prog_2_method_10_code 19 = .ok (.aaload, 1) := jx_dec c_X_tell_ok 13 rfl
theorem d_X_tell_20 : decode prog_2_method_10_code 20 = .ok (.iload_n 2, 1) := jx_dec c_X_tell_ok 14 rfl
theorem d_X_tell_21 : decode prog_2_method_10_code 21 = .ok (.iaload, 1) := jx_dec c_X_tell_ok 15 rfl
theorem d_X_tell_22 : decode prog_2_method_10_code 22 = .ok (.istore 4, 2) := jx_dec c_X_tell_ok 16 rfl
theorem d_X_tell_24 : decode prog_2_method_10_code 24 = .ok (.iconst 0, 1) := jx_dec c_X_tell_ok 17 rfl
theorem d_X_tell_25 : decode prog_2_method_10_code 25 = .ok (.istore 5, 2) := jx_dec c_X_tell_ok 18 rfl
theorem d_X_tell_27 : decode prog_2_method_10_code 27 = .ok (.iload 5, 2) := jx_dec c_X_tell_ok 19 rfl
theorem d_X_tell_29 : decode prog_2_method_10_code 29 = .ok (.aload_n 0, 1) := jx_dec c_X_tell_ok 20 rfl
theorem d_X_tell_30 : decode prog_2_method_10_code 30 = .ok (.getfield 12, 3) := jx_dec c_X_tell_ok 21 rfl
theorem d_X_tell_33 : decode prog_2_method_10_code 33 = .ok (.invokevirtual 48, 3) := jx_dec c_X_tell_ok 22 rfl
theorem d_X_tell_36 : decode prog_2_method_10_code 36 = .ok (.if_icmp .ge 50, 3) := jx_dec c_X_tell_ok 23 rfl
theorem d_X_tell_39 : decode prog_2_method_10_code 39 = .ok (.iload 4, 2) := jx_dec c_X_tell_ok 24 rfl
theorem d_X_tell_41 : decode prog_2_method_10_code 41 = .ok (.iload 5, 2) := jx_dec c_X_tell_ok 25 rfl
theorem d_X_tell_43 : decode prog_2_method_10_code 43 = .ok (.ishr, 1) := jx_dec c_X_tell_ok 26 rfl
theorem d_X_tell_44 : decode prog_2_method_10_code 44 = .ok (.iconst 1, 1) := jx_dec c_X_tell_ok 27 rfl
theorem d_X_tell_45 : decode prog_2_method_10_code 45 = .ok (.iand, 1) := jx_dec c_X_tell_ok 28 rfl
theorem d_X_tell_46 : decode prog_2_method_10_code 46 = .ok (.iconst 1, 1) := jx_dec c_X_tell_ok 29 rfl
theorem d_X_tell_47 : decode prog_2_method_10_code 47 = .ok (.if_icmp .ne 33, 3) := jx_dec c_X_tell_ok 30 rfl
theorem d_X_tell_50 : decode prog_2_method_10_code 50 = .ok (.aload_n 0, 1) := jx_dec c_X_tell_ok 31 rfl
theorem d_X_tell_51 : decode prog_2_method_10_code 51 = .ok (.getfield 12, 3) := jx_dec c_X_tell_ok 32 rfl
theorem d_X_tell_54 : decode prog_2_method_10_code 54 = .ok (.iload 5, 2) := jx_dec c_X_tell_ok 33 rfl
theorem d_X_tell_56 : decode prog_2_method_10_code 56 = .ok (.invokevirtual 52, 3) := jx_dec c_X_tell_ok 34 rfl
theorem d_X_tell_59 : decode prog_2_method_10_code 59 = .ok (.checkcast 90, 3) := jx_dec c_X_tell_ok 35 rfl
theorem d_X_tell_62 : decode prog_2_method_10_code 62 = .ok (.iload_n 3, 1) := jx_dec c_X_tell_ok 36 rfl
theorem d_X_tell_63 : decode prog_2_method_10_code 63 = .ok (.aload_n 0, 1) := jx_dec c_X_tell_ok 37 rfl
theorem d_X_tell_64 : decode prog_2_method_10_code 64 = .ok (.getfield 23, 3) := jx_dec c_X_tell_ok 38 rfl
theorem d_X_tell_67 : decode prog_2_method_10_code 67 = .ok (.iload_n 3, 1) := jx_dec c_X_tell_ok 39 rfl
theorem d_X_tell_68 : decode prog_2_method_10_code 68 = .ok (.aaload, 1) := jx_dec c_X_tell_ok 40 rfl
theorem d_X_tell_69 : decode prog_2_method_10_code 69 = .ok (.iload 4, 2) := jx_dec c_X_tell_ok 41 rfl
theorem d_X_tell_71 : decode prog_2_method_10_code 71 = .ok (.iconst 5, 1) := jx_dec c_X_tell_ok 42 rfl
theorem d_X_tell_72 : decode prog_2_method_10_code 72 = .ok (.imul, 1) := jx_dec c_X_tell_ok 43 rfl
theorem d_X_tell_73 : decode prog_2_method_10_code 73 = .ok (.iload 5, 2) := jx_dec c_X_tell_ok 44 rfl
theorem d_X_tell_75 : decode prog_2_method_10_code 75 = .ok (.iadd, 1) := jx_dec c_X_tell_ok 45 rfl
theorem d_X_tell_76 : decode prog_2_method_10_code 76 = .ok (.iaload, 1) := jx_dec c_X_tell_ok 46 rfl
theorem d_X_tell_77 : decode prog_2_method_10_code 77 = .ok (.invokevirtual 141, 3) := jx_dec c_X_tell_ok 47 rfl
theorem d_X_tell_80 : decode prog_2_method_10_code 80 = .ok (.iinc 5 1, 3) := jx_dec c_X_tell_ok 48 rfl
theorem d_X_tell_83 : decode prog_2_method_10_code 83 = .ok (.goto (-56), 3) := jx_dec c_X_tell_ok 49 rfl
theorem d_X_tell_86 : decode prog_2_method_10_code 86 = .ok (.iload_n 2, 1) := jx_dec c_X_tell_ok 50 rfl
theorem d_X_tell_87 : decode prog_2_method_10_code 87 = .ok (.iload 4, 2) := jx_dec c_X_tell_ok 51 rfl
theorem d_X_tell_89 : decode prog_2_method_10_code 89 = .ok (.ixor, 1) := jx_dec c_X_tell_ok 52 rfl
theorem d_X_tell_90 : decode prog_2_method_10_code 90 = .ok (.istore_n 2, 1) := jx_dec c_X_tell_ok 53 rfl
theorem d_X_tell_91 : decode prog_2_method_10_code 91 = .ok (.iinc 3 1, 3) := jx_dec c_X_tell_ok 54 rfl
theorem d_X_tell_94 : decode prog_2_method_10_code 94 = .ok (.goto (-85), 3) := jx_dec c_X_tell_ok 55 rfl
theorem d_X_tell_97 : decode prog_2_method_10_code 97 = .ok (.return_, 1) := jx_dec c_X_tell_ok 56 rfl
end
section
/-! 04.6T: the instructions -/
def c_T_init : List (Nat × Instr × Nat) := [(0, .aload_n 0, 1), (1, .invokespecial 1, 3), (4, .aload_n 0, 1), (5, .new 7, 3), (8, .dup, 1), (9, .invokespecial 9, 3), (12, .putfield 10, 3), (15, .aload_n 0, 1), (16, .new 7, 3), (19, .dup, 1), (20, .invokespecial 9, 3), (23, .putfield 16, 3), (26, .aload_n 0, 1), (27, .new 7, 3), (30, .dup, 1), (31, .invokespecial 9, 3), (34, .putfield 19, 3), (37, .aload_n 0, 1), (38, .new 22, 3), (41, .dup, 1), (42, .invokespecial 24, 3), (45, .putfield 25, 3), (48, .aload_n 0, 1), (49, .new 29, 3), (52, .dup, 1), (53, .invokespecial 31, 3), (56, .putfield 32, 3), (59, .return_, 1)]
theorem c_T_init_ok : (c_T_init).all (fun q => decide (decode prog_1_method_1_code q.1 = .ok q.2)) = true := by decide +kernel
theorem d_T_init_0 : decode prog_1_method_1_code 0 = .ok (.aload_n 0, 1) := jx_dec c_T_init_ok 0 rfl
theorem d_T_init_1 : decode prog_1_method_1_code 1 = .ok (.invokespecial 1, 3) := jx_dec c_T_init_ok 1 rfl
theorem d_T_init_4 : decode prog_1_method_1_code 4 = .ok (.aload_n 0, 1) := jx_dec c_T_init_ok 2 rfl
theorem d_T_init_5 : decode prog_1_method_1_code 5 = .ok (.new 7, 3) := jx_dec c_T_init_ok 3 rfl
theorem d_T_init_8 : decode prog_1_method_1_code 8 = .ok (.dup, 1) := jx_dec c_T_init_ok 4 rfl
theorem d_T_init_9 : decode prog_1_method_1_code 9 = .ok (.invokespecial 9, 3) := jx_dec c_T_init_ok 5 rfl
theorem d_T_init_12 : decode prog_1_method_1_code 12 = .ok (.putfield 10, 3) := jx_dec c_T_init_ok 6 rfl
theorem d_T_init_15 : decode prog_1_method_1_code 15 = .ok (.aload_n 0, 1) := jx_dec c_T_init_ok 7 rfl
theorem d_T_init_16 : decode prog_1_method_1_code 16 = .ok (.new 7, 3) := jx_dec c_T_init_ok 8 rfl
theorem d_T_init_19 : decode prog_1_method_1_code 19 = .ok (.dup, 1) := jx_dec c_T_init_ok 9 rfl
theorem d_T_init_20 : decode prog_1_method_1_code 20 = .ok (.invokespecial 9, 3) := jx_dec c_T_init_ok 10 rfl
theorem d_T_init_23 : decode prog_1_method_1_code 23 = .ok (.putfield 16, 3) := jx_dec c_T_init_ok 11 rfl
theorem d_T_init_26 : decode prog_1_method_1_code 26 = .ok (.aload_n 0, 1) := jx_dec c_T_init_ok 12 rfl
theorem d_T_init_27 : decode prog_1_method_1_code 27 = .ok (.new 7, 3) := jx_dec c_T_init_ok 13 rfl
theorem d_T_init_30 : decode prog_1_method_1_code 30 = .ok (.dup, 1) := jx_dec c_T_init_ok 14 rfl
theorem d_T_init_31 : decode prog_1_method_1_code 31 = .ok (.invokespecial 9, 3) := jx_dec c_T_init_ok 15 rfl
theorem d_T_init_34 : decode prog_1_method_1_code 34 = .ok (.putfield 19, 3) := jx_dec c_T_init_ok 16 rfl
theorem d_T_init_37 : decode prog_1_method_1_code 37 = .ok (.aload_n 0, 1) := jx_dec c_T_init_ok 17 rfl
theorem d_T_init_38 : decode prog_1_method_1_code 38 = .ok (.new 22, 3) := jx_dec c_T_init_ok 18 rfl
theorem d_T_init_41 : decode prog_1_method_1_code 41 = .ok (.dup, 1) := jx_dec c_T_init_ok 19 rfl
theorem d_T_init_42 : decode prog_1_method_1_code 42 = .ok (.invokespecial 24, 3) := jx_dec c_T_init_ok 20 rfl
theorem d_T_init_45 : decode prog_1_method_1_code 45 = .ok (.putfield 25, 3) := jx_dec c_T_init_ok 21 rfl
theorem d_T_init_48 : decode prog_1_method_1_code 48 = .ok (.aload_n 0, 1) := jx_dec c_T_init_ok 22 rfl
theorem d_T_init_49 : decode prog_1_method_1_code 49 = .ok (.new 29, 3) := jx_dec c_T_init_ok 23 rfl
theorem d_T_init_52 : decode prog_1_method_1_code 52 = .ok (.dup, 1) := jx_dec c_T_init_ok 24 rfl
theorem d_T_init_53 : decode prog_1_method_1_code 53 = .ok (.invokespecial 31, 3) := jx_dec c_T_init_ok 25 rfl
theorem d_T_init_56 : decode prog_1_method_1_code 56 = .ok (.putfield 32, 3) := jx_dec c_T_init_ok 26 rfl
theorem d_T_init_59 : decode prog_1_method_1_code 59 = .ok (.return_, 1) := jx_dec c_T_init_ok 27 rfl
def c_T_exact : List (Nat × Instr × Nat) := [(0, .aload_n 0, 1), (1, .getfield 150, 3), (4, .ireturn, 1)]
theorem c_T_exact_ok : (c_T_exact).all (fun q => decide (decode prog_1_method_10_code q.1 = .ok q.2)) = true := by decide +kernel
theorem d_T_exact_0 : decode prog_1_method_10_code 0 = .ok (.aload_n 0, 1) := jx_dec c_T_exact_ok 0 rfl
theorem d_T_exact_1 : decode prog_1_method_10_code 1 = .ok (.getfield 150, 3) := jx_dec c_T_exact_ok 1 rfl
theorem d_T_exact_4 : decode prog_1_method_10_code 4 = .ok (.ireturn, 1) := jx_dec c_T_exact_ok 2 rfl
def c_T_bound : List (Nat × Instr × Nat) := [(0, .iconst 0, 1), (1, .istore_n 1, 1), (2, .iconst 0, 1), (3, .istore_n 2, 1), (4, .iload_n 2, 1), (5, .aload_n 0, 1), (6, .getfield 16, 3), (9, .invokevirtual 41, 3), (12, .if_icmp .ge 44, 3), (15, .aload_n 0, 1), (16, .getfield 16, 3), (19, .iload_n 2, 1), (20, .invokevirtual 166, 3), (23, .checkcast 98, 3), (26, .getfield 170, 3), (29, .ifCond .ne 21, 3), (32, .iload_n 1, 1), (33, .aload_n 0, 1), (34, .aload_n 0, 1), (35, .getfield 16, 3), (38, .iload_n 2, 1), (39, .invokevirtual 166, 3), (42, .checkcast 98, 3), (45, .invokevirtual 173, 3), (48, .iadd, 1), (49, .istore_n 1, 1), (50, .iinc 2 1, 3), (53, .goto (-49), 3), (56, .iload_n 1, 1), (57, .ireturn, 1)]
theorem c_T_bound_ok : (c_T_bound).all (fun q => decide (decode prog_1_method_11_code q.1 = .ok q.2)) = true := by decide +kernel
theorem d_T_bound_0 : decode prog_1_method_11_code 0 = .ok (.iconst 0, 1) := jx_dec c_T_bound_ok 0 rfl
theorem d_T_bound_1 : decode prog_1_method_11_code 1 = .ok (.istore_n 1, 1) := jx_dec c_T_bound_ok 1 rfl
theorem d_T_bound_2 : decode prog_1_method_11_code 2 = .ok (.iconst 0, 1) := jx_dec c_T_bound_ok 2 rfl
theorem d_T_bound_3 : decode prog_1_method_11_code 3 = .ok (.istore_n 2, 1) := jx_dec c_T_bound_ok 3 rfl
theorem d_T_bound_4 : decode prog_1_method_11_code 4 = .ok (.iload_n 2, 1) := jx_dec c_T_bound_ok 4 rfl
theorem d_T_bound_5 : decode prog_1_method_11_code 5 = .ok (.aload_n 0, 1) := jx_dec c_T_bound_ok 5 rfl
theorem d_T_bound_6 : decode prog_1_method_11_code 6 = .ok (.getfield 16, 3) := jx_dec c_T_bound_ok 6 rfl
theorem d_T_bound_9 : decode prog_1_method_11_code 9 = .ok (.invokevirtual 41, 3) := jx_dec c_T_bound_ok 7 rfl
theorem d_T_bound_12 : decode prog_1_method_11_code 12 = .ok (.if_icmp .ge 44, 3) := jx_dec c_T_bound_ok 8 rfl
theorem d_T_bound_15 : decode prog_1_method_11_code 15 = .ok (.aload_n 0, 1) := jx_dec c_T_bound_ok 9 rfl
theorem d_T_bound_16 : decode prog_1_method_11_code 16 = .ok (.getfield 16, 3) := jx_dec c_T_bound_ok 10 rfl
theorem d_T_bound_19 : decode prog_1_method_11_code 19 = .ok (.iload_n 2, 1) := jx_dec c_T_bound_ok 11 rfl
theorem d_T_bound_20 : decode prog_1_method_11_code 20 = .ok (.invokevirtual 166, 3) := jx_dec c_T_bound_ok 12 rfl
theorem d_T_bound_23 : decode prog_1_method_11_code 23 = .ok (.checkcast 98, 3) := jx_dec c_T_bound_ok 13 rfl
theorem d_T_bound_26 : decode prog_1_method_11_code 26 = .ok (.getfield 170, 3) := jx_dec c_T_bound_ok 14 rfl
theorem d_T_bound_29 : decode prog_1_method_11_code 29 = .ok (.ifCond .ne 21, 3) := jx_dec c_T_bound_ok 15 rfl
theorem d_T_bound_32 : decode prog_1_method_11_code 32 = .ok (.iload_n 1, 1) := jx_dec c_T_bound_ok 16 rfl
theorem d_T_bound_33 : decode prog_1_method_11_code 33 = .ok (.aload_n 0, 1) := jx_dec c_T_bound_ok 17 rfl
theorem d_T_bound_34 : decode prog_1_method_11_code 34 = .ok (.aload_n 0, 1) := jx_dec c_T_bound_ok 18 rfl
theorem d_T_bound_35 : decode prog_1_method_11_code 35 = .ok (.getfield 16, 3) := jx_dec c_T_bound_ok 19 rfl
theorem d_T_bound_38 : decode prog_1_method_11_code 38 = .ok (.iload_n 2, 1) := jx_dec c_T_bound_ok 20 rfl
theorem d_T_bound_39 : decode prog_1_method_11_code 39 = .ok (.invokevirtual 166, 3) := jx_dec c_T_bound_ok 21 rfl
theorem d_T_bound_42 : decode prog_1_method_11_code 42 = .ok (.checkcast 98, 3) := jx_dec c_T_bound_ok 22 rfl
theorem d_T_bound_45 : decode prog_1_method_11_code 45 = .ok (.invokevirtual 173, 3) := jx_dec c_T_bound_ok 23 rfl
theorem d_T_bound_48 : decode prog_1_method_11_code 48 = .ok (.iadd, 1) := jx_dec c_T_bound_ok 24 rfl
theorem d_T_bound_49 : decode prog_1_method_11_code 49 = .ok (.istore_n 1, 1) := jx_dec c_T_bound_ok 25 rfl
theorem d_T_bound_50 : decode prog_1_method_11_code 50 = .ok (.iinc 2 1, 3) := jx_dec c_T_bound_ok 26 rfl
theorem d_T_bound_53 : decode prog_1_method_11_code 53 = .ok (.goto (-49), 3) := jx_dec c_T_bound_ok 27 rfl
theorem d_T_bound_56 : decode prog_1_method_11_code 56 = .ok (.iload_n 1, 1) := jx_dec c_T_bound_ok 28 rfl
theorem d_T_bound_57 : decode prog_1_method_11_code 57 = .ok (.ireturn, 1) := jx_dec c_T_bound_ok 29 rfl
def c_T_leastLatenessAlone : List (Nat × Instr × Nat) := [(0, .ldc 40, 2), (2, .istore_n 2, 1), (3, .iconst 0, 1), (4, .istore_n 3, 1), (5, .iload_n 3, 1), (6, .aload_n 0, 1), (7, .getfield 10, 3), (10, .invokevirtual 41, 3), (13, .if_icmp .ge 61, 3), (16, .aload_n 0, 1), (17, .getfield 10, 3), (20, .iload_n 3, 1), (21, .invokevirtual 166, 3), (24, .checkcast 49, 3), (27, .astore 4, 2), (29, .aload 4, 2), (31, .aload_n 1, 1), (32, .invokevirtual 254, 3), (35, .ifCond .eq 13, 3), (38, .aload_n 0, 1), (39, .aload 4, 2), (41, .aload_n 1, 1), (42, .invokevirtual 140, 3), (45, .goto 4, 3), (48, .iconst (-1), 1), (49, .istore 5, 2), (51, .iload 5, 2), (53, .iconst (-1), 1), (54, .if_icmp .eq 14, 3), (57, .iload_n 2, 1), (58, .aload_n 1, 1), (59, .iload 5, 2), (61, .invokevirtual 241, 3), (64, .invokestatic 257, 3), (67, .istore_n 2, 1), (68, .iinc 3 1, 3), (71, .goto (-66), 3), (74, .iload_n 2, 1), (75, .ireturn, 1)]
theorem c_T_leastLatenessAlone_ok : (c_T_leastLatenessAlone).all (fun q => decide (decode prog_1_method_33_code q.1 = .ok q.2)) = true := by decide +kernel
theorem d_T_leastLatenessAlone_0 : decode prog_1_method_33_code 0 = .ok (.ldc 40, 2) := jx_dec c_T_leastLatenessAlone_ok 0 rfl
theorem d_T_leastLatenessAlone_2 : decode prog_1_method_33_code 2 = .ok (.istore_n 2, 1) := jx_dec c_T_leastLatenessAlone_ok 1 rfl
theorem d_T_leastLatenessAlone_3 : decode prog_1_method_33_code 3 = .ok (.iconst 0, 1) := jx_dec c_T_leastLatenessAlone_ok 2 rfl
theorem d_T_leastLatenessAlone_4 : decode prog_1_method_33_code 4 = .ok (.istore_n 3, 1) := jx_dec c_T_leastLatenessAlone_ok 3 rfl
theorem d_T_leastLatenessAlone_5 : decode prog_1_method_33_code 5 = .ok (.iload_n 3, 1) := jx_dec c_T_leastLatenessAlone_ok 4 rfl
theorem d_T_leastLatenessAlone_6 : decode prog_1_method_33_code 6 = .ok (.aload_n 0, 1) := jx_dec c_T_leastLatenessAlone_ok 5 rfl
theorem d_T_leastLatenessAlone_7 : decode prog_1_method_33_code 7 = .ok (.getfield 10, 3) := jx_dec c_T_leastLatenessAlone_ok 6 rfl
theorem d_T_leastLatenessAlone_10 : decode prog_1_method_33_code 10 = .ok (.invokevirtual 41, 3) := jx_dec c_T_leastLatenessAlone_ok 7 rfl
theorem d_T_leastLatenessAlone_13 : decode prog_1_method_33_code 13 = .ok (.if_icmp .ge 61, 3) := jx_dec c_T_leastLatenessAlone_ok 8 rfl
theorem d_T_leastLatenessAlone_16 : decode prog_1_method_33_code 16 = .ok (.aload_n 0, 1) := jx_dec c_T_leastLatenessAlone_ok 9 rfl
theorem d_T_leastLatenessAlone_17 : decode prog_1_method_33_code 17 = .ok (.getfield 10, 3) := jx_dec c_T_leastLatenessAlone_ok 10 rfl
theorem d_T_leastLatenessAlone_20 : decode prog_1_method_33_code 20 = .ok (.iload_n 3, 1) := jx_dec c_T_leastLatenessAlone_ok 11 rfl
theorem d_T_leastLatenessAlone_21 : decode prog_1_method_33_code 21 = .ok (.invokevirtual 166, 3) := jx_dec c_T_leastLatenessAlone_ok 12 rfl
theorem d_T_leastLatenessAlone_24 : decode prog_1_method_33_code 24 = .ok (.checkcast 49, 3) := jx_dec c_T_leastLatenessAlone_ok 13 rfl
theorem d_T_leastLatenessAlone_27 : decode prog_1_method_33_code 27 = .ok (.astore 4, 2) := jx_dec c_T_leastLatenessAlone_ok 14 rfl
theorem d_T_leastLatenessAlone_29 : decode prog_1_method_33_code 29 = .ok (.aload 4, 2) := jx_dec c_T_leastLatenessAlone_ok 15 rfl
theorem d_T_leastLatenessAlone_31 : decode prog_1_method_33_code 31 = .ok (.aload_n 1, 1) := jx_dec c_T_leastLatenessAlone_ok 16 rfl
theorem d_T_leastLatenessAlone_32 : decode prog_1_method_33_code 32 = .ok (.invokevirtual 254, 3) := jx_dec c_T_leastLatenessAlone_ok 17 rfl
theorem d_T_leastLatenessAlone_35 : decode prog_1_method_33_code 35 = .ok (.ifCond .eq 13, 3) := jx_dec c_T_leastLatenessAlone_ok 18 rfl
theorem d_T_leastLatenessAlone_38 : decode prog_1_method_33_code 38 = .ok (.aload_n 0, 1) := jx_dec c_T_leastLatenessAlone_ok 19 rfl
theorem d_T_leastLatenessAlone_39 : decode prog_1_method_33_code 39 = .ok (.aload 4, 2) := jx_dec c_T_leastLatenessAlone_ok 20 rfl
theorem d_T_leastLatenessAlone_41 : decode prog_1_method_33_code 41 = .ok (.aload_n 1, 1) := jx_dec c_T_leastLatenessAlone_ok 21 rfl
theorem d_T_leastLatenessAlone_42 : decode prog_1_method_33_code 42 = .ok (.invokevirtual 140, 3) := jx_dec c_T_leastLatenessAlone_ok 22 rfl
theorem d_T_leastLatenessAlone_45 : decode prog_1_method_33_code 45 = .ok (.goto 4, 3) := jx_dec c_T_leastLatenessAlone_ok 23 rfl
theorem d_T_leastLatenessAlone_48 : decode prog_1_method_33_code 48 = .ok (.iconst (-1), 1) := jx_dec c_T_leastLatenessAlone_ok 24 rfl
theorem d_T_leastLatenessAlone_49 : decode prog_1_method_33_code 49 = .ok (.istore 5, 2) := jx_dec c_T_leastLatenessAlone_ok 25 rfl
theorem d_T_leastLatenessAlone_51 : decode prog_1_method_33_code 51 = .ok (.iload 5, 2) := jx_dec c_T_leastLatenessAlone_ok 26 rfl
theorem d_T_leastLatenessAlone_53 : decode prog_1_method_33_code 53 = .ok (.iconst (-1), 1) := jx_dec c_T_leastLatenessAlone_ok 27 rfl
theorem d_T_leastLatenessAlone_54 : decode prog_1_method_33_code 54 = .ok (.if_icmp .eq 14, 3) := jx_dec c_T_leastLatenessAlone_ok 28 rfl
theorem d_T_leastLatenessAlone_57 : decode prog_1_method_33_code 57 = .ok (.iload_n 2, 1) := jx_dec c_T_leastLatenessAlone_ok 29 rfl
theorem d_T_leastLatenessAlone_58 : decode prog_1_method_33_code 58 = .ok (.aload_n 1, 1) := jx_dec c_T_leastLatenessAlone_ok 30 rfl
theorem d_T_leastLatenessAlone_59 : decode prog_1_method_33_code 59 = .ok (.iload 5, 2) := jx_dec c_T_leastLatenessAlone_ok 31 rfl
theorem d_T_leastLatenessAlone_61 : decode prog_1_method_33_code 61 = .ok (.invokevirtual 241, 3) := jx_dec c_T_leastLatenessAlone_ok 32 rfl
theorem d_T_leastLatenessAlone_64 : decode prog_1_method_33_code 64 = .ok (.invokestatic 257, 3) := jx_dec c_T_leastLatenessAlone_ok 33 rfl
theorem d_T_leastLatenessAlone_67 : decode prog_1_method_33_code 67 = .ok (.istore_n 2, 1) := jx_dec c_T_leastLatenessAlone_ok 34 rfl
theorem d_T_leastLatenessAlone_68 : decode prog_1_method_33_code 68 = .ok (.iinc 3 1, 3) := jx_dec c_T_leastLatenessAlone_ok 35 rfl
theorem d_T_leastLatenessAlone_71 : decode prog_1_method_33_code 71 = .ok (.goto (-66), 3) := jx_dec c_T_leastLatenessAlone_ok 36 rfl
theorem d_T_leastLatenessAlone_74 : decode prog_1_method_33_code 74 = .ok (.iload_n 2, 1) := jx_dec c_T_leastLatenessAlone_ok 37 rfl
theorem d_T_leastLatenessAlone_75 : decode prog_1_method_33_code 75 = .ok (.ireturn, 1) := jx_dec c_T_leastLatenessAlone_ok 38 rfl
def c_T_startAsOnlyOne : List (Nat × Instr × Nat) := [(0, .aload_n 1, 1), (1, .aload_n 2, 1), (2, .aload_n 1, 1), (3, .aload_n 0, 1), (4, .getfield 153, 3), (7, .invokevirtual 247, 3), (10, .aload_n 1, 1), (11, .getfield 200, 3), (14, .aload_n 0, 1), (15, .getfield 25, 3), (18, .invokevirtual 250, 3), (21, .ireturn, 1)]
theorem c_T_startAsOnlyOne_ok : (c_T_startAsOnlyOne).all (fun q => decide (decode prog_1_method_32_code q.1 = .ok q.2)) = true := by decide +kernel
theorem d_T_startAsOnlyOne_0 : decode prog_1_method_32_code 0 = .ok (.aload_n 1, 1) := jx_dec c_T_startAsOnlyOne_ok 0 rfl
theorem d_T_startAsOnlyOne_1 : decode prog_1_method_32_code 1 = .ok (.aload_n 2, 1) := jx_dec c_T_startAsOnlyOne_ok 1 rfl
theorem d_T_startAsOnlyOne_2 : decode prog_1_method_32_code 2 = .ok (.aload_n 1, 1) := jx_dec c_T_startAsOnlyOne_ok 2 rfl
theorem d_T_startAsOnlyOne_3 : decode prog_1_method_32_code 3 = .ok (.aload_n 0, 1) := jx_dec c_T_startAsOnlyOne_ok 3 rfl
theorem d_T_startAsOnlyOne_4 : decode prog_1_method_32_code 4 = .ok (.getfield 153, 3) := jx_dec c_T_startAsOnlyOne_ok 4 rfl
theorem d_T_startAsOnlyOne_7 : decode prog_1_method_32_code 7 = .ok (.invokevirtual 247, 3) := jx_dec c_T_startAsOnlyOne_ok 5 rfl
theorem d_T_startAsOnlyOne_10 : decode prog_1_method_32_code 10 = .ok (.aload_n 1, 1) := jx_dec c_T_startAsOnlyOne_ok 6 rfl
theorem d_T_startAsOnlyOne_11 : decode prog_1_method_32_code 11 = .ok (.getfield 200, 3) := jx_dec c_T_startAsOnlyOne_ok 7 rfl
theorem d_T_startAsOnlyOne_14 : decode prog_1_method_32_code 14 = .ok (.aload_n 0, 1) := jx_dec c_T_startAsOnlyOne_ok 8 rfl
theorem d_T_startAsOnlyOne_15 : decode prog_1_method_32_code 15 = .ok (.getfield 25, 3) := jx_dec c_T_startAsOnlyOne_ok 9 rfl
theorem d_T_startAsOnlyOne_18 : decode prog_1_method_32_code 18 = .ok (.invokevirtual 250, 3) := jx_dec c_T_startAsOnlyOne_ok 10 rfl
theorem d_T_startAsOnlyOne_21 : decode prog_1_method_32_code 21 = .ok (.ireturn, 1) := jx_dec c_T_startAsOnlyOne_ok 11 rfl
def c_T_count : List (Nat × Instr × Nat) := [(0, .iload_n 1, 1), (1, .tableswitch 98 0 7 #[47, 55, 63, 69, 75, 81, 88, 93], 47), (48, .aload_n 0, 1), (49, .getfield 10, 3), (52, .invokevirtual 41, 3), (55, .ireturn, 1), (56, .aload_n 0, 1), (57, .getfield 16, 3), (60, .invokevirtual 41, 3), (63, .ireturn, 1), (64, .aload_n 0, 1), (65, .iconst 0, 1), (66, .invokevirtual 147, 3), (69, .ireturn, 1), (70, .aload_n 0, 1), (71, .iconst 1, 1), (72, .invokevirtual 147, 3), (75, .ireturn, 1), (76, .aload_n 0, 1), (77, .iconst 2, 1), (78, .invokevirtual 147, 3), (81, .ireturn, 1), (82, .aload_n 0, 1), (83, .iconst (-1), 1), (84, .iconst 0, 1), (85, .invokevirtual 203, 3), (88, .ireturn, 1), (89, .aload_n 0, 1), (90, .getfield 153, 3), (93, .ireturn, 1), (94, .aload_n 0, 1), (95, .invokevirtual 163, 3), (98, .ireturn, 1), (99, .iconst (-1), 1), (100, .ireturn, 1)]
theorem c_T_count_ok : (c_T_count).all (fun q => decide (decode prog_1_method_20_code q.1 = .ok q.2)) = true := by decide +kernel
theorem d_T_count_0 : decode prog_1_method_20_code 0 = .ok (.iload_n 1, 1) := jx_dec c_T_count_ok 0 rfl
theorem d_T_count_1 : decode prog_1_method_20_code 1 = .ok (.tableswitch 98 0 7 #[47, 55, 63, 69, 75, 81, 88, 93], 47) := jx_dec c_T_count_ok 1 rfl
theorem d_T_count_48 : decode prog_1_method_20_code 48 = .ok (.aload_n 0, 1) := jx_dec c_T_count_ok 2 rfl
theorem d_T_count_49 : decode prog_1_method_20_code 49 = .ok (.getfield 10, 3) := jx_dec c_T_count_ok 3 rfl
theorem d_T_count_52 : decode prog_1_method_20_code 52 = .ok (.invokevirtual 41, 3) := jx_dec c_T_count_ok 4 rfl
theorem d_T_count_55 : decode prog_1_method_20_code 55 = .ok (.ireturn, 1) := jx_dec c_T_count_ok 5 rfl
theorem d_T_count_56 : decode prog_1_method_20_code 56 = .ok (.aload_n 0, 1) := jx_dec c_T_count_ok 6 rfl
theorem d_T_count_57 : decode prog_1_method_20_code 57 = .ok (.getfield 16, 3) := jx_dec c_T_count_ok 7 rfl
theorem d_T_count_60 : decode prog_1_method_20_code 60 = .ok (.invokevirtual 41, 3) := jx_dec c_T_count_ok 8 rfl
theorem d_T_count_63 : decode prog_1_method_20_code 63 = .ok (.ireturn, 1) := jx_dec c_T_count_ok 9 rfl
theorem d_T_count_64 : decode prog_1_method_20_code 64 = .ok (.aload_n 0, 1) := jx_dec c_T_count_ok 10 rfl
theorem d_T_count_65 : decode prog_1_method_20_code 65 = .ok (.iconst 0, 1) := jx_dec c_T_count_ok 11 rfl
theorem d_T_count_66 : decode prog_1_method_20_code 66 = .ok (.invokevirtual 147, 3) := jx_dec c_T_count_ok 12 rfl
theorem d_T_count_69 : decode prog_1_method_20_code 69 = .ok (.ireturn, 1) := jx_dec c_T_count_ok 13 rfl
theorem d_T_count_70 : decode prog_1_method_20_code 70 = .ok (.aload_n 0, 1) := jx_dec c_T_count_ok 14 rfl
theorem d_T_count_71 : decode prog_1_method_20_code 71 = .ok (.iconst 1, 1) := jx_dec c_T_count_ok 15 rfl
theorem d_T_count_72 : decode prog_1_method_20_code 72 = .ok (.invokevirtual 147, 3) := jx_dec c_T_count_ok 16 rfl
theorem d_T_count_75 : decode prog_1_method_20_code 75 = .ok (.ireturn, 1) := jx_dec c_T_count_ok 17 rfl
theorem d_T_count_76 : decode prog_1_method_20_code 76 = .ok (.aload_n 0, 1) := jx_dec c_T_count_ok 18 rfl
theorem d_T_count_77 : decode prog_1_method_20_code 77 = .ok (.iconst 2, 1) := jx_dec c_T_count_ok 19 rfl
theorem d_T_count_78 : decode prog_1_method_20_code 78 = .ok (.invokevirtual 147, 3) := jx_dec c_T_count_ok 20 rfl
theorem d_T_count_81 : decode prog_1_method_20_code 81 = .ok (.ireturn, 1) := jx_dec c_T_count_ok 21 rfl
theorem d_T_count_82 : decode prog_1_method_20_code 82 = .ok (.aload_n 0, 1) := jx_dec c_T_count_ok 22 rfl
theorem d_T_count_83 : decode prog_1_method_20_code 83 = .ok (.iconst (-1), 1) := jx_dec c_T_count_ok 23 rfl
theorem d_T_count_84 : decode prog_1_method_20_code 84 = .ok (.iconst 0, 1) := jx_dec c_T_count_ok 24 rfl
theorem d_T_count_85 : decode prog_1_method_20_code 85 = .ok (.invokevirtual 203, 3) := jx_dec c_T_count_ok 25 rfl
theorem d_T_count_88 : decode prog_1_method_20_code 88 = .ok (.ireturn, 1) := jx_dec c_T_count_ok 26 rfl
theorem d_T_count_89 : decode prog_1_method_20_code 89 = .ok (.aload_n 0, 1) := jx_dec c_T_count_ok 27 rfl
theorem d_T_count_90 : decode prog_1_method_20_code 90 = .ok (.getfield 153, 3) := jx_dec c_T_count_ok 28 rfl
theorem d_T_count_93 : decode prog_1_method_20_code 93 = .ok (.ireturn, 1) := jx_dec c_T_count_ok 29 rfl
theorem d_T_count_94 : decode prog_1_method_20_code 94 = .ok (.aload_n 0, 1) := jx_dec c_T_count_ok 30 rfl
theorem d_T_count_95 : decode prog_1_method_20_code 95 = .ok (.invokevirtual 163, 3) := jx_dec c_T_count_ok 31 rfl
theorem d_T_count_98 : decode prog_1_method_20_code 98 = .ok (.ireturn, 1) := jx_dec c_T_count_ok 32 rfl
theorem d_T_count_99 : decode prog_1_method_20_code 99 = .ok (.iconst (-1), 1) := jx_dec c_T_count_ok 33 rfl
theorem d_T_count_100 : decode prog_1_method_20_code 100 = .ok (.ireturn, 1) := jx_dec c_T_count_ok 34 rfl
def c_T_tasksIn : List (Nat × Instr × Nat) := [(0, .iconst 0, 1), (1, .istore_n 2, 1), (2, .iconst 0, 1), (3, .istore_n 3, 1), (4, .iload_n 3, 1), (5, .aload_n 0, 1), (6, .getfield 16, 3), (9, .invokevirtual 41, 3), (12, .if_icmp .ge 30, 3), (15, .aload_n 0, 1), (16, .getfield 16, 3), (19, .iload_n 3, 1), (20, .invokevirtual 166, 3), (23, .checkcast 98, 3), (26, .getfield 170, 3), (29, .iload_n 1, 1), (30, .if_icmp .ne 6, 3), (33, .iinc 2 1, 3), (36, .iinc 3 1, 3), (39, .goto (-35), 3), (42, .iload_n 2, 1), (43, .ireturn, 1)]
theorem c_T_tasksIn_ok : (c_T_tasksIn).all (fun q => decide (decode prog_1_method_27_code q.1 = .ok q.2)) = true := by decide +kernel
theorem d_T_tasksIn_0 : decode prog_1_method_27_code 0 = .ok (.iconst 0, 1) := jx_dec c_T_tasksIn_ok 0 rfl
theorem d_T_tasksIn_1 : decode prog_1_method_27_code 1 = .ok (.istore_n 2, 1) := jx_dec c_T_tasksIn_ok 1 rfl
theorem d_T_tasksIn_2 : decode prog_1_method_27_code 2 = .ok (.iconst 0, 1) := jx_dec c_T_tasksIn_ok 2 rfl
theorem d_T_tasksIn_3 : decode prog_1_method_27_code 3 = .ok (.istore_n 3, 1) := jx_dec c_T_tasksIn_ok 3 rfl
theorem d_T_tasksIn_4 : decode prog_1_method_27_code 4 = .ok (.iload_n 3, 1) := jx_dec c_T_tasksIn_ok 4 rfl
theorem d_T_tasksIn_5 : decode prog_1_method_27_code 5 = .ok (.aload_n 0, 1) := jx_dec c_T_tasksIn_ok 5 rfl
theorem d_T_tasksIn_6 : decode prog_1_method_27_code 6 = .ok (.getfield 16, 3) := jx_dec c_T_tasksIn_ok 6 rfl
theorem d_T_tasksIn_9 : decode prog_1_method_27_code 9 = .ok (.invokevirtual 41, 3) := jx_dec c_T_tasksIn_ok 7 rfl
theorem d_T_tasksIn_12 : decode prog_1_method_27_code 12 = .ok (.if_icmp .ge 30, 3) := jx_dec c_T_tasksIn_ok 8 rfl
theorem d_T_tasksIn_15 : decode prog_1_method_27_code 15 = .ok (.aload_n 0, 1) := jx_dec c_T_tasksIn_ok 9 rfl
theorem d_T_tasksIn_16 : decode prog_1_method_27_code 16 = .ok (.getfield 16, 3) := jx_dec c_T_tasksIn_ok 10 rfl
theorem d_T_tasksIn_19 : decode prog_1_method_27_code 19 = .ok (.iload_n 3, 1) := jx_dec c_T_tasksIn_ok 11 rfl
theorem d_T_tasksIn_20 : decode prog_1_method_27_code 20 = .ok (.invokevirtual 166, 3) := jx_dec c_T_tasksIn_ok 12 rfl
theorem d_T_tasksIn_23 : decode prog_1_method_27_code 23 = .ok (.checkcast 98, 3) := jx_dec c_T_tasksIn_ok 13 rfl
theorem d_T_tasksIn_26 : decode prog_1_method_27_code 26 = .ok (.getfield 170, 3) := jx_dec c_T_tasksIn_ok 14 rfl
theorem d_T_tasksIn_29 : decode prog_1_method_27_code 29 = .ok (.iload_n 1, 1) := jx_dec c_T_tasksIn_ok 15 rfl
theorem d_T_tasksIn_30 : decode prog_1_method_27_code 30 = .ok (.if_icmp .ne 6, 3) := jx_dec c_T_tasksIn_ok 16 rfl
theorem d_T_tasksIn_33 : decode prog_1_method_27_code 33 = .ok (.iinc 2 1, 3) := jx_dec c_T_tasksIn_ok 17 rfl
theorem d_T_tasksIn_36 : decode prog_1_method_27_code 36 = .ok (.iinc 3 1, 3) := jx_dec c_T_tasksIn_ok 18 rfl
theorem d_T_tasksIn_39 : decode prog_1_method_27_code 39 = .ok (.goto (-35), 3) := jx_dec c_T_tasksIn_ok 19 rfl
theorem d_T_tasksIn_42 : decode prog_1_method_27_code 42 = .ok (.iload_n 2, 1) := jx_dec c_T_tasksIn_ok 20 rfl
theorem d_T_tasksIn_43 : decode prog_1_method_27_code 43 = .ok (.ireturn, 1) := jx_dec c_T_tasksIn_ok 21 rfl
def c_T_tasksOf : List (Nat × Instr × Nat) := [(0, .iconst 0, 1), (1, .istore_n 3, 1), (2, .iconst 0, 1), (3, .istore 4, 2), (5, .iload 4, 2), (7, .aload_n 0, 1), (8, .getfield 16, 3), (11, .invokevirtual 41, 3), (14, .if_icmp .ge 32, 3), (17, .aload_n 0, 1), (18, .getfield 16, 3), (21, .iload 4, 2), (23, .invokevirtual 166, 3), (26, .checkcast 98, 3), (29, .iload_n 1, 1), (30, .iload_n 2, 1), (31, .invokevirtual 237, 3), (34, .ifCond .eq 6, 3), (37, .iinc 3 1, 3), (40, .iinc 4 1, 3), (43, .goto (-38), 3), (46, .iload_n 3, 1), (47, .ireturn, 1)]
theorem c_T_tasksOf_ok : (c_T_tasksOf).all (fun q => decide (decode prog_1_method_28_code q.1 = .ok q.2)) = true := by decide +kernel
theorem d_T_tasksOf_0 : decode prog_1_method_28_code 0 = .ok (.iconst 0, 1) := jx_dec c_T_tasksOf_ok 0 rfl
theorem d_T_tasksOf_1 : decode prog_1_method_28_code 1 = .ok (.istore_n 3, 1) := jx_dec c_T_tasksOf_ok 1 rfl
theorem d_T_tasksOf_2 : decode prog_1_method_28_code 2 = .ok (.iconst 0, 1) := jx_dec c_T_tasksOf_ok 2 rfl
theorem d_T_tasksOf_3 : decode prog_1_method_28_code 3 = .ok (.istore 4, 2) := jx_dec c_T_tasksOf_ok 3 rfl
theorem d_T_tasksOf_5 : decode prog_1_method_28_code 5 = .ok (.iload 4, 2) := jx_dec c_T_tasksOf_ok 4 rfl
theorem d_T_tasksOf_7 : decode prog_1_method_28_code 7 = .ok (.aload_n 0, 1) := jx_dec c_T_tasksOf_ok 5 rfl
theorem d_T_tasksOf_8 : decode prog_1_method_28_code 8 = .ok (.getfield 16, 3) := jx_dec c_T_tasksOf_ok 6 rfl
theorem d_T_tasksOf_11 : decode prog_1_method_28_code 11 = .ok (.invokevirtual 41, 3) := jx_dec c_T_tasksOf_ok 7 rfl
theorem d_T_tasksOf_14 : decode prog_1_method_28_code 14 = .ok (.if_icmp .ge 32, 3) := jx_dec c_T_tasksOf_ok 8 rfl
theorem d_T_tasksOf_17 : decode prog_1_method_28_code 17 = .ok (.aload_n 0, 1) := jx_dec c_T_tasksOf_ok 9 rfl
theorem d_T_tasksOf_18 : decode prog_1_method_28_code 18 = .ok (.getfield 16, 3) := jx_dec c_T_tasksOf_ok 10 rfl
theorem d_T_tasksOf_21 : decode prog_1_method_28_code 21 = .ok (.iload 4, 2) := jx_dec c_T_tasksOf_ok 11 rfl
theorem d_T_tasksOf_23 : decode prog_1_method_28_code 23 = .ok (.invokevirtual 166, 3) := jx_dec c_T_tasksOf_ok 12 rfl
theorem d_T_tasksOf_26 : decode prog_1_method_28_code 26 = .ok (.checkcast 98, 3) := jx_dec c_T_tasksOf_ok 13 rfl
theorem d_T_tasksOf_29 : decode prog_1_method_28_code 29 = .ok (.iload_n 1, 1) := jx_dec c_T_tasksOf_ok 14 rfl
theorem d_T_tasksOf_30 : decode prog_1_method_28_code 30 = .ok (.iload_n 2, 1) := jx_dec c_T_tasksOf_ok 15 rfl
theorem d_T_tasksOf_31 : decode prog_1_method_28_code 31 = .ok (.invokevirtual 237, 3) := jx_dec c_T_tasksOf_ok 16 rfl
theorem d_T_tasksOf_34 : decode prog_1_method_28_code 34 = .ok (.ifCond .eq 6, 3) := jx_dec c_T_tasksOf_ok 17 rfl
theorem d_T_tasksOf_37 : decode prog_1_method_28_code 37 = .ok (.iinc 3 1, 3) := jx_dec c_T_tasksOf_ok 18 rfl
theorem d_T_tasksOf_40 : decode prog_1_method_28_code 40 = .ok (.iinc 4 1, 3) := jx_dec c_T_tasksOf_ok 19 rfl
theorem d_T_tasksOf_43 : decode prog_1_method_28_code 43 = .ok (.goto (-38), 3) := jx_dec c_T_tasksOf_ok 20 rfl
theorem d_T_tasksOf_46 : decode prog_1_method_28_code 46 = .ok (.iload_n 3, 1) := jx_dec c_T_tasksOf_ok 21 rfl
theorem d_T_tasksOf_47 : decode prog_1_method_28_code 47 = .ok (.ireturn, 1) := jx_dec c_T_tasksOf_ok 22 rfl
def c_T_latenessOfPlan : List (Nat × Instr × Nat) := [(0, .iconst 0, 1), (1, .istore_n 1, 1), (2, .iconst 0, 1), (3, .istore_n 2, 1), (4, .iload_n 2, 1), (5, .aload_n 0, 1), (6, .getfield 16, 3), (9, .invokevirtual 41, 3), (12, .if_icmp .ge 52, 3), (15, .aload_n 0, 1), (16, .getfield 16, 3), (19, .iload_n 2, 1), (20, .invokevirtual 166, 3), (23, .checkcast 98, 3), (26, .astore_n 3, 1), (27, .aload_n 3, 1), (28, .getfield 170, 3), (31, .ifCond .ne 27, 3), (34, .iload_n 1, 1), (35, .aload_n 3, 1), (36, .getfield 127, 3), (39, .iconst (-1), 1), (40, .if_icmp .ne 8, 3), (43, .ldc 40, 2), (45, .goto 11, 3), (48, .aload_n 3, 1), (49, .aload_n 3, 1), (50, .getfield 185, 3), (53, .invokevirtual 241, 3), (56, .iadd, 1), (57, .istore_n 1, 1), (58, .iinc 2 1, 3), (61, .goto (-57), 3), (64, .iload_n 1, 1), (65, .ireturn, 1)]
theorem c_T_latenessOfPlan_ok : (c_T_latenessOfPlan).all (fun q => decide (decode prog_1_method_29_code q.1 = .ok q.2)) = true := by decide +kernel
theorem d_T_latenessOfPlan_0 : decode prog_1_method_29_code 0 = .ok (.iconst 0, 1) := jx_dec c_T_latenessOfPlan_ok 0 rfl
theorem d_T_latenessOfPlan_1 : decode prog_1_method_29_code 1 = .ok (.istore_n 1, 1) := jx_dec c_T_latenessOfPlan_ok 1 rfl
theorem d_T_latenessOfPlan_2 : decode prog_1_method_29_code 2 = .ok (.iconst 0, 1) := jx_dec c_T_latenessOfPlan_ok 2 rfl
theorem d_T_latenessOfPlan_3 : decode prog_1_method_29_code 3 = .ok (.istore_n 2, 1) := jx_dec c_T_latenessOfPlan_ok 3 rfl
theorem d_T_latenessOfPlan_4 : decode prog_1_method_29_code 4 = .ok (.iload_n 2, 1) := jx_dec c_T_latenessOfPlan_ok 4 rfl
theorem d_T_latenessOfPlan_5 : decode prog_1_method_29_code 5 = .ok (.aload_n 0, 1) := jx_dec c_T_latenessOfPlan_ok 5 rfl
theorem d_T_latenessOfPlan_6 : decode prog_1_method_29_code 6 = .ok (.getfield 16, 3) := jx_dec c_T_latenessOfPlan_ok 6 rfl
theorem d_T_latenessOfPlan_9 : decode prog_1_method_29_code 9 = .ok (.invokevirtual 41, 3) := jx_dec c_T_latenessOfPlan_ok 7 rfl
theorem d_T_latenessOfPlan_12 : decode prog_1_method_29_code 12 = .ok (.if_icmp .ge 52, 3) := jx_dec c_T_latenessOfPlan_ok 8 rfl
theorem d_T_latenessOfPlan_15 : decode prog_1_method_29_code 15 = .ok (.aload_n 0, 1) := jx_dec c_T_latenessOfPlan_ok 9 rfl
theorem d_T_latenessOfPlan_16 : decode prog_1_method_29_code 16 = .ok (.getfield 16, 3) := jx_dec c_T_latenessOfPlan_ok 10 rfl
theorem d_T_latenessOfPlan_19 : decode prog_1_method_29_code 19 = .ok (.iload_n 2, 1) := jx_dec c_T_latenessOfPlan_ok 11 rfl
theorem d_T_latenessOfPlan_20 : decode prog_1_method_29_code 20 = .ok (.invokevirtual 166, 3) := jx_dec c_T_latenessOfPlan_ok 12 rfl
theorem d_T_latenessOfPlan_23 : decode prog_1_method_29_code 23 = .ok (.checkcast 98, 3) := jx_dec c_T_latenessOfPlan_ok 13 rfl
theorem d_T_latenessOfPlan_26 : decode prog_1_method_29_code 26 = .ok (.astore_n 3, 1) := jx_dec c_T_latenessOfPlan_ok 14 rfl
theorem d_T_latenessOfPlan_27 : decode prog_1_method_29_code 27 = .ok (.aload_n 3, 1) := jx_dec c_T_latenessOfPlan_ok 15 rfl
theorem d_T_latenessOfPlan_28 : decode prog_1_method_29_code 28 = .ok (.getfield 170, 3) := jx_dec c_T_latenessOfPlan_ok 16 rfl
theorem d_T_latenessOfPlan_31 : decode prog_1_method_29_code 31 = .ok (.ifCond .ne 27, 3) := jx_dec c_T_latenessOfPlan_ok 17 rfl
theorem d_T_latenessOfPlan_34 : decode prog_1_method_29_code 34 = .ok (.iload_n 1, 1) := jx_dec c_T_latenessOfPlan_ok 18 rfl
theorem d_T_latenessOfPlan_35 : decode prog_1_method_29_code 35 = .ok (.aload_n 3, 1) := jx_dec c_T_latenessOfPlan_ok 19 rfl
theorem d_T_latenessOfPlan_36 : decode prog_1_method_29_code 36 = .ok (.getfield 127, 3) := jx_dec c_T_latenessOfPlan_ok 20 rfl
theorem d_T_latenessOfPlan_39 : decode prog_1_method_29_code 39 = .ok (.iconst (-1), 1) := jx_dec c_T_latenessOfPlan_ok 21 rfl
theorem d_T_latenessOfPlan_40 : decode prog_1_method_29_code 40 = .ok (.if_icmp .ne 8, 3) := jx_dec c_T_latenessOfPlan_ok 22 rfl
theorem d_T_latenessOfPlan_43 : decode prog_1_method_29_code 43 = .ok (.ldc 40, 2) := jx_dec c_T_latenessOfPlan_ok 23 rfl
theorem d_T_latenessOfPlan_45 : decode prog_1_method_29_code 45 = .ok (.goto 11, 3) := jx_dec c_T_latenessOfPlan_ok 24 rfl
theorem d_T_latenessOfPlan_48 : decode prog_1_method_29_code 48 = .ok (.aload_n 3, 1) := jx_dec c_T_latenessOfPlan_ok 25 rfl
theorem d_T_latenessOfPlan_49 : decode prog_1_method_29_code 49 = .ok (.aload_n 3, 1) := jx_dec c_T_latenessOfPlan_ok 26 rfl
theorem d_T_latenessOfPlan_50 : decode prog_1_method_29_code 50 = .ok (.getfield 185, 3) := jx_dec c_T_latenessOfPlan_ok 27 rfl
theorem d_T_latenessOfPlan_53 : decode prog_1_method_29_code 53 = .ok (.invokevirtual 241, 3) := jx_dec c_T_latenessOfPlan_ok 28 rfl
theorem d_T_latenessOfPlan_56 : decode prog_1_method_29_code 56 = .ok (.iadd, 1) := jx_dec c_T_latenessOfPlan_ok 29 rfl
theorem d_T_latenessOfPlan_57 : decode prog_1_method_29_code 57 = .ok (.istore_n 1, 1) := jx_dec c_T_latenessOfPlan_ok 30 rfl
theorem d_T_latenessOfPlan_58 : decode prog_1_method_29_code 58 = .ok (.iinc 2 1, 3) := jx_dec c_T_latenessOfPlan_ok 31 rfl
theorem d_T_latenessOfPlan_61 : decode prog_1_method_29_code 61 = .ok (.goto (-57), 3) := jx_dec c_T_latenessOfPlan_ok 32 rfl
theorem d_T_latenessOfPlan_64 : decode prog_1_method_29_code 64 = .ok (.iload_n 1, 1) := jx_dec c_T_latenessOfPlan_ok 33 rfl
theorem d_T_latenessOfPlan_65 : decode prog_1_method_29_code 65 = .ok (.ireturn, 1) := jx_dec c_T_latenessOfPlan_ok 34 rfl
def c_T_person : List (Nat × Instr × Nat) := [(0, .iload_n 1, 1), (1, .iconst 0, 1), (2, .sipush 255, 3), (5, .invokestatic 36, 3), (8, .iload_n 2, 1), (9, .iconst 0, 1), (10, .ldc 40, 2), (12, .invokestatic 36, 3), (15, .iload_n 3, 1), (16, .iload_n 2, 1), (17, .iconst 1, 1), (18, .iadd, 1), (19, .ldc 40, 2), (21, .invokestatic 36, 3), (24, .iload 4, 2), (26, .iconst 0, 1), (27, .iconst 3, 1), (28, .invokestatic 36, 3), (31, .aload_n 0, 1), (32, .getfield 10, 3), (35, .invokevirtual 41, 3), (38, .iconst 4, 1), (39, .invokestatic 45, 3), (42, .new 49, 3), (45, .dup, 1), (46, .aload_n 0, 1), (47, .getfield 10, 3), (50, .invokevirtual 41, 3), (53, .iload_n 1, 1), (54, .iload_n 2, 1), (55, .iload_n 3, 1), (56, .iload 4, 2), (58, .invokespecial 51, 3), (61, .astore 5, 2), (63, .aload_n 0, 1), (64, .getfield 10, 3), (67, .aload 5, 2), (69, .invokevirtual 54, 3), (72, .pop, 1), (73, .aload 5, 2), (75, .getfield 58, 3), (78, .ireturn, 1)]
theorem c_T_person_ok : (c_T_person).all (fun q => decide (decode prog_1_method_2_code q.1 = .ok q.2)) = true := by decide +kernel
theorem d_T_person_0 : decode prog_1_method_2_code 0 = .ok (.iload_n 1, 1) := jx_dec c_T_person_ok 0 rfl
theorem d_T_person_1 : decode prog_1_method_2_code 1 = .ok (.iconst 0, 1) := jx_dec c_T_person_ok 1 rfl
theorem d_T_person_2 : decode prog_1_method_2_code 2 = .ok (.sipush 255, 3) := jx_dec c_T_person_ok 2 rfl
theorem d_T_person_5 : decode prog_1_method_2_code 5 = .ok (.invokestatic 36, 3) := jx_dec c_T_person_ok 3 rfl
theorem d_T_person_8 : decode prog_1_method_2_code 8 = .ok (.iload_n 2, 1) := jx_dec c_T_person_ok 4 rfl
theorem d_T_person_9 : decode prog_1_method_2_code 9 = .ok (.iconst 0, 1) := jx_dec c_T_person_ok 5 rfl
theorem d_T_person_10 : decode prog_1_method_2_code 10 = .ok (.ldc 40, 2) := jx_dec c_T_person_ok 6 rfl
theorem d_T_person_12 : decode prog_1_method_2_code 12 = .ok (.invokestatic 36, 3) := jx_dec c_T_person_ok 7 rfl
theorem d_T_person_15 : decode prog_1_method_2_code 15 = .ok (.iload_n 3, 1) := jx_dec c_T_person_ok 8 rfl
theorem d_T_person_16 : decode prog_1_method_2_code 16 = .ok (.iload_n 2, 1) := jx_dec c_T_person_ok 9 rfl
theorem d_T_person_17 : decode prog_1_method_2_code 17 = .ok (.iconst 1, 1) := jx_dec c_T_person_ok 10 rfl
theorem d_T_person_18 : decode prog_1_method_2_code 18 = .ok (.iadd, 1) := jx_dec c_T_person_ok 11 rfl
theorem d_T_person_19 : decode prog_1_method_2_code 19 = .ok (.ldc 40, 2) := jx_dec c_T_person_ok 12 rfl
theorem d_T_person_21 : decode prog_1_method_2_code 21 = .ok (.invokestatic 36, 3) := jx_dec c_T_person_ok 13 rfl
theorem d_T_person_24 : decode prog_1_method_2_code 24 = .ok (.iload 4, 2) := jx_dec c_T_person_ok 14 rfl
theorem d_T_person_26 : decode prog_1_method_2_code 26 = .ok (.iconst 0, 1) := jx_dec c_T_person_ok 15 rfl
theorem d_T_person_27 : decode prog_1_method_2_code 27 = .ok (.iconst 3, 1) := jx_dec c_T_person_ok 16 rfl
theorem d_T_person_28 : decode prog_1_method_2_code 28 = .ok (.invokestatic 36, 3) := jx_dec c_T_person_ok 17 rfl
theorem d_T_person_31 : decode prog_1_method_2_code 31 = .ok (.aload_n 0, 1) := jx_dec c_T_person_ok 18 rfl
theorem d_T_person_32 : decode prog_1_method_2_code 32 = .ok (.getfield 10, 3) := jx_dec c_T_person_ok 19 rfl
theorem d_T_person_35 : decode prog_1_method_2_code 35 = .ok (.invokevirtual 41, 3) := jx_dec c_T_person_ok 20 rfl
theorem d_T_person_38 : decode prog_1_method_2_code 38 = .ok (.iconst 4, 1) := jx_dec c_T_person_ok 21 rfl
theorem d_T_person_39 : decode prog_1_method_2_code 39 = .ok (.invokestatic 45, 3) := jx_dec c_T_person_ok 22 rfl
theorem d_T_person_42 : decode prog_1_method_2_code 42 = .ok (.new 49, 3) := jx_dec c_T_person_ok 23 rfl
theorem d_T_person_45 : decode prog_1_method_2_code 45 = .ok (.dup, 1) := jx_dec c_T_person_ok 24 rfl
theorem d_T_person_46 : decode prog_1_method_2_code 46 = .ok (.aload_n 0, 1) := jx_dec c_T_person_ok 25 rfl
theorem d_T_person_47 : decode prog_1_method_2_code 47 = .ok (.getfield 10, 3) := jx_dec c_T_person_ok 26 rfl
theorem d_T_person_50 : decode prog_1_method_2_code 50 = .ok (.invokevirtual 41, 3) := jx_dec c_T_person_ok 27 rfl
theorem d_T_person_53 : decode prog_1_method_2_code 53 = .ok (.iload_n 1, 1) := jx_dec c_T_person_ok 28 rfl
theorem d_T_person_54 : decode prog_1_method_2_code 54 = .ok (.iload_n 2, 1) := jx_dec c_T_person_ok 29 rfl
theorem d_T_person_55 : decode prog_1_method_2_code 55 = .ok (.iload_n 3, 1) := jx_dec c_T_person_ok 30 rfl
theorem d_T_person_56 : decode prog_1_method_2_code 56 = .ok (.iload 4, 2) := jx_dec c_T_person_ok 31 rfl
theorem d_T_person_58 : decode prog_1_method_2_code 58 = .ok (.invokespecial 51, 3) := jx_dec c_T_person_ok 32 rfl
theorem d_T_person_61 : decode prog_1_method_2_code 61 = .ok (.astore 5, 2) := jx_dec c_T_person_ok 33 rfl
theorem d_T_person_63 : decode prog_1_method_2_code 63 = .ok (.aload_n 0, 1) := jx_dec c_T_person_ok 34 rfl
theorem d_T_person_64 : decode prog_1_method_2_code 64 = .ok (.getfield 10, 3) := jx_dec c_T_person_ok 35 rfl
theorem d_T_person_67 : decode prog_1_method_2_code 67 = .ok (.aload 5, 2) := jx_dec c_T_person_ok 36 rfl
theorem d_T_person_69 : decode prog_1_method_2_code 69 = .ok (.invokevirtual 54, 3) := jx_dec c_T_person_ok 37 rfl
theorem d_T_person_72 : decode prog_1_method_2_code 72 = .ok (.pop, 1) := jx_dec c_T_person_ok 38 rfl
theorem d_T_person_73 : decode prog_1_method_2_code 73 = .ok (.aload 5, 2) := jx_dec c_T_person_ok 39 rfl
theorem d_T_person_75 : decode prog_1_method_2_code 75 = .ok (.getfield 58, 3) := jx_dec c_T_person_ok 40 rfl
theorem d_T_person_78 : decode prog_1_method_2_code 78 = .ok (.ireturn, 1) := jx_dec c_T_person_ok 41 rfl
def c_T_needWithin : List (Nat × Instr × Nat) := [(0, .iload_n 0, 1), (1, .iload_n 1, 1), (2, .if_icmp .lt 8, 3), (5, .iload_n 0, 1), (6, .iload_n 2, 1), (7, .if_icmp .le 13, 3), (10, .new 102, 3), (13, .dup, 1), (14, .ldc 224, 2), (16, .invokespecial 106, 3), (19, .athrow, 1), (20, .return_, 1)]
theorem c_T_needWithin_ok : (c_T_needWithin).all (fun q => decide (decode prog_1_method_23_code q.1 = .ok q.2)) = true := by decide +kernel
theorem d_T_needWithin_0 : decode prog_1_method_23_code 0 = .ok (.iload_n 0, 1) := jx_dec c_T_needWithin_ok 0 rfl
theorem d_T_needWithin_1 : decode prog_1_method_23_code 1 = .ok (.iload_n 1, 1) := jx_dec c_T_needWithin_ok 1 rfl
theorem d_T_needWithin_2 : decode prog_1_method_23_code 2 = .ok (.if_icmp .lt 8, 3) := jx_dec c_T_needWithin_ok 2 rfl
theorem d_T_needWithin_5 : decode prog_1_method_23_code 5 = .ok (.iload_n 0, 1) := jx_dec c_T_needWithin_ok 3 rfl
theorem d_T_needWithin_6 : decode prog_1_method_23_code 6 = .ok (.iload_n 2, 1) := jx_dec c_T_needWithin_ok 4 rfl
theorem d_T_needWithin_7 : decode prog_1_method_23_code 7 = .ok (.if_icmp .le 13, 3) := jx_dec c_T_needWithin_ok 5 rfl
theorem d_T_needWithin_10 : decode prog_1_method_23_code 10 = .ok (.new 102, 3) := jx_dec c_T_needWithin_ok 6 rfl
theorem d_T_needWithin_13 : decode prog_1_method_23_code 13 = .ok (.dup, 1) := jx_dec c_T_needWithin_ok 7 rfl
theorem d_T_needWithin_14 : decode prog_1_method_23_code 14 = .ok (.ldc 224, 2) := jx_dec c_T_needWithin_ok 8 rfl
theorem d_T_needWithin_16 : decode prog_1_method_23_code 16 = .ok (.invokespecial 106, 3) := jx_dec c_T_needWithin_ok 9 rfl
theorem d_T_needWithin_19 : decode prog_1_method_23_code 19 = .ok (.athrow, 1) := jx_dec c_T_needWithin_ok 10 rfl
theorem d_T_needWithin_20 : decode prog_1_method_23_code 20 = .ok (.return_, 1) := jx_dec c_T_needWithin_ok 11 rfl
def c_T_needRoom : List (Nat × Instr × Nat) := [(0, .iload_n 0, 1), (1, .iload_n 1, 1), (2, .if_icmp .lt 13, 3), (5, .new 226, 3), (8, .dup, 1), (9, .ldc 228, 2), (11, .invokespecial 230, 3), (14, .athrow, 1), (15, .return_, 1)]
theorem c_T_needRoom_ok : (c_T_needRoom).all (fun q => decide (decode prog_1_method_24_code q.1 = .ok q.2)) = true := by decide +kernel
theorem d_T_needRoom_0 : decode prog_1_method_24_code 0 = .ok (.iload_n 0, 1) := jx_dec c_T_needRoom_ok 0 rfl
theorem d_T_needRoom_1 : decode prog_1_method_24_code 1 = .ok (.iload_n 1, 1) := jx_dec c_T_needRoom_ok 1 rfl
theorem d_T_needRoom_2 : decode prog_1_method_24_code 2 = .ok (.if_icmp .lt 13, 3) := jx_dec c_T_needRoom_ok 2 rfl
theorem d_T_needRoom_5 : decode prog_1_method_24_code 5 = .ok (.new 226, 3) := jx_dec c_T_needRoom_ok 3 rfl
theorem d_T_needRoom_8 : decode prog_1_method_24_code 8 = .ok (.dup, 1) := jx_dec c_T_needRoom_ok 4 rfl
theorem d_T_needRoom_9 : decode prog_1_method_24_code 9 = .ok (.ldc 228, 2) := jx_dec c_T_needRoom_ok 5 rfl
theorem d_T_needRoom_11 : decode prog_1_method_24_code 11 = .ok (.invokespecial 230, 3) := jx_dec c_T_needRoom_ok 6 rfl
theorem d_T_needRoom_14 : decode prog_1_method_24_code 14 = .ok (.athrow, 1) := jx_dec c_T_needRoom_ok 7 rfl
theorem d_T_needRoom_15 : decode prog_1_method_24_code 15 = .ok (.return_, 1) := jx_dec c_T_needRoom_ok 8 rfl
def c_T_rest : List (Nat × Instr × Nat) := [(0, .aload_n 0, 1), (1, .iload_n 1, 1), (2, .invokevirtual 62, 3), (5, .astore 4, 2), (7, .iload_n 2, 1), (8, .aload 4, 2), (10, .getfield 66, 3), (13, .aload 4, 2), (15, .getfield 69, 3), (18, .invokestatic 36, 3), (21, .iload_n 3, 1), (22, .iload_n 2, 1), (23, .aload 4, 2), (25, .getfield 69, 3), (28, .invokestatic 36, 3), (31, .aload 4, 2), (33, .iload_n 2, 1), (34, .iload_n 3, 1), (35, .if_icmp .ne 7, 3), (38, .iconst 0, 1), (39, .goto 4, 3), (42, .iload_n 2, 1), (43, .putfield 72, 3), (46, .aload 4, 2), (48, .iload_n 2, 1), (49, .iload_n 3, 1), (50, .if_icmp .ne 7, 3), (53, .iconst 0, 1), (54, .goto 4, 3), (57, .iload_n 3, 1), (58, .putfield 75, 3), (61, .return_, 1)]
theorem c_T_rest_ok : (c_T_rest).all (fun q => decide (decode prog_1_method_3_code q.1 = .ok q.2)) = true := by decide +kernel
theorem d_T_rest_0 : decode prog_1_method_3_code 0 = .ok (.aload_n 0, 1) := jx_dec c_T_rest_ok 0 rfl
theorem d_T_rest_1 : decode prog_1_method_3_code 1 = .ok (.iload_n 1, 1) := jx_dec c_T_rest_ok 1 rfl
theorem d_T_rest_2 : decode prog_1_method_3_code 2 = .ok (.invokevirtual 62, 3) := jx_dec c_T_rest_ok 2 rfl
theorem d_T_rest_5 : decode prog_1_method_3_code 5 = .ok (.astore 4, 2) := jx_dec c_T_rest_ok 3 rfl
theorem d_T_rest_7 : decode prog_1_method_3_code 7 = .ok (.iload_n 2, 1) := jx_dec c_T_rest_ok 4 rfl
theorem d_T_rest_8 : decode prog_1_method_3_code 8 = .ok (.aload 4, 2) := jx_dec c_T_rest_ok 5 rfl
theorem d_T_rest_10 : decode prog_1_method_3_code 10 = .ok (.getfield 66, 3) := jx_dec c_T_rest_ok 6 rfl
theorem d_T_rest_13 : decode prog_1_method_3_code 13 = .ok (.aload 4, 2) := jx_dec c_T_rest_ok 7 rfl
theorem d_T_rest_15 : decode prog_1_method_3_code 15 = .ok (.getfield 69, 3) := jx_dec c_T_rest_ok 8 rfl
theorem d_T_rest_18 : decode prog_1_method_3_code 18 = .ok (.invokestatic 36, 3) := jx_dec c_T_rest_ok 9 rfl
theorem d_T_rest_21 : decode prog_1_method_3_code 21 = .ok (.iload_n 3, 1) := jx_dec c_T_rest_ok 10 rfl
theorem d_T_rest_22 : decode prog_1_method_3_code 22 = .ok (.iload_n 2, 1) := jx_dec c_T_rest_ok 11 rfl
theorem d_T_rest_23 : decode prog_1_method_3_code 23 = .ok (.aload 4, 2) := jx_dec c_T_rest_ok 12 rfl
theorem d_T_rest_25 : decode prog_1_method_3_code 25 = .ok (.getfield 69, 3) := jx_dec c_T_rest_ok 13 rfl
theorem d_T_rest_28 : decode prog_1_method_3_code 28 = .ok (.invokestatic 36, 3) := jx_dec c_T_rest_ok 14 rfl
theorem d_T_rest_31 : decode prog_1_method_3_code 31 = .ok (.aload 4, 2) := jx_dec c_T_rest_ok 15 rfl
theorem d_T_rest_33 : decode prog_1_method_3_code 33 = .ok (.iload_n 2, 1) := jx_dec c_T_rest_ok 16 rfl
theorem d_T_rest_34 : decode prog_1_method_3_code 34 = .ok (.iload_n 3, 1) := jx_dec c_T_rest_ok 17 rfl
theorem d_T_rest_35 : decode prog_1_method_3_code 35 = .ok (.if_icmp .ne 7, 3) := jx_dec c_T_rest_ok 18 rfl
theorem d_T_rest_38 : decode prog_1_method_3_code 38 = .ok (.iconst 0, 1) := jx_dec c_T_rest_ok 19 rfl
theorem d_T_rest_39 : decode prog_1_method_3_code 39 = .ok (.goto 4, 3) := jx_dec c_T_rest_ok 20 rfl
theorem d_T_rest_42 : decode prog_1_method_3_code 42 = .ok (.iload_n 2, 1) := jx_dec c_T_rest_ok 21 rfl
theorem d_T_rest_43 : decode prog_1_method_3_code 43 = .ok (.putfield 72, 3) := jx_dec c_T_rest_ok 22 rfl
theorem d_T_rest_46 : decode prog_1_method_3_code 46 = .ok (.aload 4, 2) := jx_dec c_T_rest_ok 23 rfl
theorem d_T_rest_48 : decode prog_1_method_3_code 48 = .ok (.iload_n 2, 1) := jx_dec c_T_rest_ok 24 rfl
theorem d_T_rest_49 : decode prog_1_method_3_code 49 = .ok (.iload_n 3, 1) := jx_dec c_T_rest_ok 25 rfl
theorem d_T_rest_50 : decode prog_1_method_3_code 50 = .ok (.if_icmp .ne 7, 3) := jx_dec c_T_rest_ok 26 rfl
theorem d_T_rest_53 : decode prog_1_method_3_code 53 = .ok (.iconst 0, 1) := jx_dec c_T_rest_ok 27 rfl
theorem d_T_rest_54 : decode prog_1_method_3_code 54 = .ok (.goto 4, 3) := jx_dec c_T_rest_ok 28 rfl
theorem d_T_rest_57 : decode prog_1_method_3_code 57 = .ok (.iload_n 3, 1) := jx_dec c_T_rest_ok 29 rfl
theorem d_T_rest_58 : decode prog_1_method_3_code 58 = .ok (.putfield 75, 3) := jx_dec c_T_rest_ok 30 rfl
theorem d_T_rest_61 : decode prog_1_method_3_code 61 = .ok (.return_, 1) := jx_dec c_T_rest_ok 31 rfl
def c_T_personOf : List (Nat × Instr × Nat) := [(0, .iload_n 1, 1), (1, .ifCond .lt 14, 3), (4, .iload_n 1, 1), (5, .aload_n 0, 1), (6, .getfield 10, 3), (9, .invokevirtual 41, 3), (12, .if_icmp .lt 13, 3), (15, .new 217, 3), (18, .dup, 1), (19, .ldc 219, 2), (21, .invokespecial 221, 3), (24, .athrow, 1), (25, .aload_n 0, 1), (26, .getfield 10, 3), (29, .iload_n 1, 1), (30, .invokevirtual 166, 3), (33, .checkcast 49, 3), (36, .areturn, 1)]
theorem c_T_personOf_ok : (c_T_personOf).all (fun q => decide (decode prog_1_method_21_code q.1 = .ok q.2)) = true := by decide +kernel
theorem d_T_personOf_0 : decode prog_1_method_21_code 0 = .ok (.iload_n 1, 1) := jx_dec c_T_personOf_ok 0 rfl
theorem d_T_personOf_1 : decode prog_1_method_21_code 1 = .ok (.ifCond .lt 14, 3) := jx_dec c_T_personOf_ok 1 rfl
theorem d_T_personOf_4 : decode prog_1_method_21_code 4 = .ok (.iload_n 1, 1) := jx_dec c_T_personOf_ok 2 rfl
theorem d_T_personOf_5 : decode prog_1_method_21_code 5 = .ok (.aload_n 0, 1) := jx_dec c_T_personOf_ok 3 rfl
theorem d_T_personOf_6 : decode prog_1_method_21_code 6 = .ok (.getfield 10, 3) := jx_dec c_T_personOf_ok 4 rfl
theorem d_T_personOf_9 : decode prog_1_method_21_code 9 = .ok (.invokevirtual 41, 3) := jx_dec c_T_personOf_ok 5 rfl
theorem d_T_personOf_12 : decode prog_1_method_21_code 12 = .ok (.if_icmp .lt 13, 3) := jx_dec c_T_personOf_ok 6 rfl
theorem d_T_personOf_15 : decode prog_1_method_21_code 15 = .ok (.new 217, 3) := jx_dec c_T_personOf_ok 7 rfl
theorem d_T_personOf_18 : decode prog_1_method_21_code 18 = .ok (.dup, 1) := jx_dec c_T_personOf_ok 8 rfl
theorem d_T_personOf_19 : decode prog_1_method_21_code 19 = .ok (.ldc 219, 2) := jx_dec c_T_personOf_ok 9 rfl
theorem d_T_personOf_21 : decode prog_1_method_21_code 21 = .ok (.invokespecial 221, 3) := jx_dec c_T_personOf_ok 10 rfl
theorem d_T_personOf_24 : decode prog_1_method_21_code 24 = .ok (.athrow, 1) := jx_dec c_T_personOf_ok 11 rfl
theorem d_T_personOf_25 : decode prog_1_method_21_code 25 = .ok (.aload_n 0, 1) := jx_dec c_T_personOf_ok 12 rfl
theorem d_T_personOf_26 : decode prog_1_method_21_code 26 = .ok (.getfield 10, 3) := jx_dec c_T_personOf_ok 13 rfl
theorem d_T_personOf_29 : decode prog_1_method_21_code 29 = .ok (.iload_n 1, 1) := jx_dec c_T_personOf_ok 14 rfl
theorem d_T_personOf_30 : decode prog_1_method_21_code 30 = .ok (.invokevirtual 166, 3) := jx_dec c_T_personOf_ok 15 rfl
theorem d_T_personOf_33 : decode prog_1_method_21_code 33 = .ok (.checkcast 49, 3) := jx_dec c_T_personOf_ok 16 rfl
theorem d_T_personOf_36 : decode prog_1_method_21_code 36 = .ok (.areturn, 1) := jx_dec c_T_personOf_ok 17 rfl
def c_T_train : List (Nat × Instr × Nat) := [(0, .aload_n 0, 1), (1, .iload_n 1, 1), (2, .invokevirtual 62, 3), (5, .astore_n 3, 1), (6, .iload_n 2, 1), (7, .iconst 0, 1), (8, .bipush 7, 2), (10, .invokestatic 36, 3), (13, .aload_n 3, 1), (14, .iload_n 2, 1), (15, .invokevirtual 78, 3), (18, .ifCond .eq 13, 3), (21, .new 82, 3), (24, .dup, 1), (25, .ldc 84, 2), (27, .invokespecial 86, 3), (30, .athrow, 1), (31, .aload_n 3, 1), (32, .dup, 1), (33, .getfield 89, 3), (36, .iconst 1, 1), (37, .iload_n 2, 1), (38, .ishl, 1), (39, .ior, 1), (40, .putfield 89, 3), (43, .aload_n 3, 1), (44, .getfield 89, 3), (47, .invokestatic 92, 3), (50, .ireturn, 1)]
theorem c_T_train_ok : (c_T_train).all (fun q => decide (decode prog_1_method_4_code q.1 = .ok q.2)) = true := by decide +kernel
theorem d_T_train_0 : decode prog_1_method_4_code 0 = .ok (.aload_n 0, 1) := jx_dec c_T_train_ok 0 rfl
theorem d_T_train_1 : decode prog_1_method_4_code 1 = .ok (.iload_n 1, 1) := jx_dec c_T_train_ok 1 rfl
theorem d_T_train_2 : decode prog_1_method_4_code 2 = .ok (.invokevirtual 62, 3) := jx_dec c_T_train_ok 2 rfl
theorem d_T_train_5 : decode prog_1_method_4_code 5 = .ok (.astore_n 3, 1) := jx_dec c_T_train_ok 3 rfl
theorem d_T_train_6 : decode prog_1_method_4_code 6 = .ok (.iload_n 2, 1) := jx_dec c_T_train_ok 4 rfl
theorem d_T_train_7 : decode prog_1_method_4_code 7 = .ok (.iconst 0, 1) := jx_dec c_T_train_ok 5 rfl
theorem d_T_train_8 : decode prog_1_method_4_code 8 = .ok (.bipush 7, 2) := jx_dec c_T_train_ok 6 rfl
theorem d_T_train_10 : decode prog_1_method_4_code 10 = .ok (.invokestatic 36, 3) := jx_dec c_T_train_ok 7 rfl
theorem d_T_train_13 : decode prog_1_method_4_code 13 = .ok (.aload_n 3, 1) := jx_dec c_T_train_ok 8 rfl
theorem d_T_train_14 : decode prog_1_method_4_code 14 = .ok (.iload_n 2, 1) := jx_dec c_T_train_ok 9 rfl
theorem d_T_train_15 : decode prog_1_method_4_code 15 = .ok (.invokevirtual 78, 3) := jx_dec c_T_train_ok 10 rfl
theorem d_T_train_18 : decode prog_1_method_4_code 18 = .ok (.ifCond .eq 13, 3) := jx_dec c_T_train_ok 11 rfl
theorem d_T_train_21 : decode prog_1_method_4_code 21 = .ok (.new 82, 3) := jx_dec c_T_train_ok 12 rfl
theorem d_T_train_24 : decode prog_1_method_4_code 24 = .ok (.dup, 1) := jx_dec c_T_train_ok 13 rfl
theorem d_T_train_25 : decode prog_1_method_4_code 25 = .ok (.ldc 84, 2) := jx_dec c_T_train_ok 14 rfl
theorem d_T_train_27 : decode prog_1_method_4_code 27 = .ok (.invokespecial 86, 3) := jx_dec c_T_train_ok 15 rfl
theorem d_T_train_30 : decode prog_1_method_4_code 30 = .ok (.athrow, 1) := jx_dec c_T_train_ok 16 rfl
theorem d_T_train_31 : decode prog_1_method_4_code 31 = .ok (.aload_n 3, 1) := jx_dec c_T_train_ok 17 rfl
theorem d_T_train_32 : decode prog_1_method_4_code 32 = .ok (.dup, 1) := jx_dec c_T_train_ok 18 rfl
theorem d_T_train_33 : decode prog_1_method_4_code 33 = .ok (.getfield 89, 3) := jx_dec c_T_train_ok 19 rfl
theorem d_T_train_36 : decode prog_1_method_4_code 36 = .ok (.iconst 1, 1) := jx_dec c_T_train_ok 20 rfl
theorem d_T_train_37 : decode prog_1_method_4_code 37 = .ok (.iload_n 2, 1) := jx_dec c_T_train_ok 21 rfl
theorem d_T_train_38 : decode prog_1_method_4_code 38 = .ok (.ishl, 1) := jx_dec c_T_train_ok 22 rfl
theorem d_T_train_39 : decode prog_1_method_4_code 39 = .ok (.ior, 1) := jx_dec c_T_train_ok 23 rfl
theorem d_T_train_40 : decode prog_1_method_4_code 40 = .ok (.putfield 89, 3) := jx_dec c_T_train_ok 24 rfl
theorem d_T_train_43 : decode prog_1_method_4_code 43 = .ok (.aload_n 3, 1) := jx_dec c_T_train_ok 25 rfl
theorem d_T_train_44 : decode prog_1_method_4_code 44 = .ok (.getfield 89, 3) := jx_dec c_T_train_ok 26 rfl
theorem d_T_train_47 : decode prog_1_method_4_code 47 = .ok (.invokestatic 92, 3) := jx_dec c_T_train_ok 27 rfl
theorem d_T_train_50 : decode prog_1_method_4_code 50 = .ok (.ireturn, 1) := jx_dec c_T_train_ok 28 rfl
def c_T_task : List (Nat × Instr × Nat) := [(0, .iload_n 1, 1), (1, .iconst 0, 1), (2, .bipush 7, 2), (4, .invokestatic 36, 3), (7, .iload_n 2, 1), (8, .iconst 1, 1), (9, .sipush 5000, 3), (12, .invokestatic 36, 3), (15, .iload_n 3, 1), (16, .iconst 0, 1), (17, .ldc 40, 2), (19, .invokestatic 36, 3), (22, .iload 4, 2), (24, .iconst 0, 1), (25, .iconst 3, 1), (26, .invokestatic 36, 3), (29, .aload_n 0, 1), (30, .getfield 16, 3), (33, .invokevirtual 41, 3), (36, .bipush 16, 2), (38, .invokestatic 45, 3), (41, .new 98, 3), (44, .dup, 1), (45, .aload_n 0, 1), (46, .getfield 16, 3), (49, .invokevirtual 41, 3), (52, .iload_n 1, 1), (53, .iload_n 2, 1), (54, .iload_n 3, 1), (55, .iload 4, 2), (57, .invokespecial 100, 3), (60, .astore 5, 2), (62, .aload_n 0, 1), (63, .getfield 16, 3), (66, .aload 5, 2), (68, .invokevirtual 54, 3), (71, .pop, 1), (72, .aload 5, 2), (74, .getfield 101, 3), (77, .ireturn, 1)]
theorem c_T_task_ok : (c_T_task).all (fun q => decide (decode prog_1_method_5_code q.1 = .ok q.2)) = true := by decide +kernel
theorem d_T_task_0 : decode prog_1_method_5_code 0 = .ok (.iload_n 1, 1) := jx_dec c_T_task_ok 0 rfl
theorem d_T_task_1 : decode prog_1_method_5_code 1 = .ok (.iconst 0, 1) := jx_dec c_T_task_ok 1 rfl
theorem d_T_task_2 : decode prog_1_method_5_code 2 = .ok (.bipush 7, 2) := jx_dec c_T_task_ok 2 rfl
theorem d_T_task_4 : decode prog_1_method_5_code 4 = .ok (.invokestatic 36, 3) := jx_dec c_T_task_ok 3 rfl
theorem d_T_task_7 : decode prog_1_method_5_code 7 = .ok (.iload_n 2, 1) := jx_dec c_T_task_ok 4 rfl
theorem d_T_task_8 : decode prog_1_method_5_code 8 = .ok (.iconst 1, 1) := jx_dec c_T_task_ok 5 rfl
theorem d_T_task_9 : decode prog_1_method_5_code 9 = .ok (.sipush 5000, 3) := jx_dec c_T_task_ok 6 rfl
theorem d_T_task_12 : decode prog_1_method_5_code 12 = .ok (.invokestatic 36, 3) := jx_dec c_T_task_ok 7 rfl
theorem d_T_task_15 : decode prog_1_method_5_code 15 = .ok (.iload_n 3, 1) := jx_dec c_T_task_ok 8 rfl
theorem d_T_task_16 : decode prog_1_method_5_code 16 = .ok (.iconst 0, 1) := jx_dec c_T_task_ok 9 rfl
theorem d_T_task_17 : decode prog_1_method_5_code 17 = .ok (.ldc 40, 2) := jx_dec c_T_task_ok 10 rfl
theorem d_T_task_19 : decode prog_1_method_5_code 19 = .ok (.invokestatic 36, 3) := jx_dec c_T_task_ok 11 rfl
theorem d_T_task_22 : decode prog_1_method_5_code 22 = .ok (.iload 4, 2) := jx_dec c_T_task_ok 12 rfl
theorem d_T_task_24 : decode prog_1_method_5_code 24 = .ok (.iconst 0, 1) := jx_dec c_T_task_ok 13 rfl
theorem d_T_task_25 : decode prog_1_method_5_code 25 = .ok (.iconst 3, 1) := jx_dec c_T_task_ok 14 rfl
theorem d_T_task_26 : decode prog_1_method_5_code 26 = .ok (.invokestatic 36, 3) := jx_dec c_T_task_ok 15 rfl
theorem d_T_task_29 : decode prog_1_method_5_code 29 = .ok (.aload_n 0, 1) := jx_dec c_T_task_ok 16 rfl
theorem d_T_task_30 : decode prog_1_method_5_code 30 = .ok (.getfield 16, 3) := jx_dec c_T_task_ok 17 rfl
theorem d_T_task_33 : decode prog_1_method_5_code 33 = .ok (.invokevirtual 41, 3) := jx_dec c_T_task_ok 18 rfl
theorem d_T_task_36 : decode prog_1_method_5_code 36 = .ok (.bipush 16, 2) := jx_dec c_T_task_ok 19 rfl
theorem d_T_task_38 : decode prog_1_method_5_code 38 = .ok (.invokestatic 45, 3) := jx_dec c_T_task_ok 20 rfl
theorem d_T_task_41 : decode prog_1_method_5_code 41 = .ok (.new 98, 3) := jx_dec c_T_task_ok 21 rfl
theorem d_T_task_44 : decode prog_1_method_5_code 44 = .ok (.dup, 1) := jx_dec c_T_task_ok 22 rfl
theorem d_T_task_45 : decode prog_1_method_5_code 45 = .ok (.aload_n 0, 1) := jx_dec c_T_task_ok 23 rfl
theorem d_T_task_46 : decode prog_1_method_5_code 46 = .ok (.getfield 16, 3) := jx_dec c_T_task_ok 24 rfl
theorem d_T_task_49 : decode prog_1_method_5_code 49 = .ok (.invokevirtual 41, 3) := jx_dec c_T_task_ok 25 rfl
theorem d_T_task_52 : decode prog_1_method_5_code 52 = .ok (.iload_n 1, 1) := jx_dec c_T_task_ok 26 rfl
theorem d_T_task_53 : decode prog_1_method_5_code 53 = .ok (.iload_n 2, 1) := jx_dec c_T_task_ok 27 rfl
theorem d_T_task_54 : decode prog_1_method_5_code 54 = .ok (.iload_n 3, 1) := jx_dec c_T_task_ok 28 rfl
theorem d_T_task_55 : decode prog_1_method_5_code 55 = .ok (.iload 4, 2) := jx_dec c_T_task_ok 29 rfl
theorem d_T_task_57 : decode prog_1_method_5_code 57 = .ok (.invokespecial 100, 3) := jx_dec c_T_task_ok 30 rfl
theorem d_T_task_60 : decode prog_1_method_5_code 60 = .ok (.astore 5, 2) := jx_dec c_T_task_ok 31 rfl
theorem d_T_task_62 : decode prog_1_method_5_code 62 = .ok (.aload_n 0, 1) := jx_dec c_T_task_ok 32 rfl
theorem d_T_task_63 : decode prog_1_method_5_code 63 = .ok (.getfield 16, 3) := jx_dec c_T_task_ok 33 rfl
theorem d_T_task_66 : decode prog_1_method_5_code 66 = .ok (.aload 5, 2) := jx_dec c_T_task_ok 34 rfl
theorem d_T_task_68 : decode prog_1_method_5_code 68 = .ok (.invokevirtual 54, 3) := jx_dec c_T_task_ok 35 rfl
theorem d_T_task_71 : decode prog_1_method_5_code 71 = .ok (.pop, 1) := jx_dec c_T_task_ok 36 rfl
theorem d_T_task_72 : decode prog_1_method_5_code 72 = .ok (.aload 5, 2) := jx_dec c_T_task_ok 37 rfl
theorem d_T_task_74 : decode prog_1_method_5_code 74 = .ok (.getfield 101, 3) := jx_dec c_T_task_ok 38 rfl
theorem d_T_task_77 : decode prog_1_method_5_code 77 = .ok (.ireturn, 1) := jx_dec c_T_task_ok 39 rfl
def c_T_way : List (Nat × Instr × Nat) := [(0, .iload_n 1, 1), (1, .iconst 0, 1), (2, .iconst 3, 1), (3, .invokestatic 36, 3), (6, .iload_n 2, 1), (7, .iconst 0, 1), (8, .iconst 3, 1), (9, .invokestatic 36, 3), (12, .iload_n 3, 1), (13, .iconst 0, 1), (14, .sipush 1000, 3), (17, .invokestatic 36, 3), (20, .iload_n 1, 1), (21, .iload_n 2, 1), (22, .if_icmp .ne 13, 3), (25, .new 102, 3), (28, .dup, 1), (29, .ldc 104, 2), (31, .invokespecial 106, 3), (34, .athrow, 1), (35, .aload_n 0, 1), (36, .getfield 25, 3), (39, .iload_n 1, 1), (40, .iload_n 2, 1), (41, .iload_n 3, 1), (42, .invokevirtual 107, 3), (45, .return_, 1)]
theorem c_T_way_ok : (c_T_way).all (fun q => decide (decode prog_1_method_6_code q.1 = .ok q.2)) = true := by decide +kernel
theorem d_T_way_0 : decode prog_1_method_6_code 0 = .ok (.iload_n 1, 1) := jx_dec c_T_way_ok 0 rfl
theorem d_T_way_1 : decode prog_1_method_6_code 1 = .ok (.iconst 0, 1) := jx_dec c_T_way_ok 1 rfl
theorem d_T_way_2 : decode prog_1_method_6_code 2 = .ok (.iconst 3, 1) := jx_dec c_T_way_ok 2 rfl
theorem d_T_way_3 : decode prog_1_method_6_code 3 = .ok (.invokestatic 36, 3) := jx_dec c_T_way_ok 3 rfl
theorem d_T_way_6 : decode prog_1_method_6_code 6 = .ok (.iload_n 2, 1) := jx_dec c_T_way_ok 4 rfl
theorem d_T_way_7 : decode prog_1_method_6_code 7 = .ok (.iconst 0, 1) := jx_dec c_T_way_ok 5 rfl
theorem d_T_way_8 : decode prog_1_method_6_code 8 = .ok (.iconst 3, 1) := jx_dec c_T_way_ok 6 rfl
theorem d_T_way_9 : decode prog_1_method_6_code 9 = .ok (.invokestatic 36, 3) := jx_dec c_T_way_ok 7 rfl
theorem d_T_way_12 : decode prog_1_method_6_code 12 = .ok (.iload_n 3, 1) := jx_dec c_T_way_ok 8 rfl
theorem d_T_way_13 : decode prog_1_method_6_code 13 = .ok (.iconst 0, 1) := jx_dec c_T_way_ok 9 rfl
theorem d_T_way_14 : decode prog_1_method_6_code 14 = .ok (.sipush 1000, 3) := jx_dec c_T_way_ok 10 rfl
theorem d_T_way_17 : decode prog_1_method_6_code 17 = .ok (.invokestatic 36, 3) := jx_dec c_T_way_ok 11 rfl
theorem d_T_way_20 : decode prog_1_method_6_code 20 = .ok (.iload_n 1, 1) := jx_dec c_T_way_ok 12 rfl
theorem d_T_way_21 : decode prog_1_method_6_code 21 = .ok (.iload_n 2, 1) := jx_dec c_T_way_ok 13 rfl
theorem d_T_way_22 : decode prog_1_method_6_code 22 = .ok (.if_icmp .ne 13, 3) := jx_dec c_T_way_ok 14 rfl
theorem d_T_way_25 : decode prog_1_method_6_code 25 = .ok (.new 102, 3) := jx_dec c_T_way_ok 15 rfl
theorem d_T_way_28 : decode prog_1_method_6_code 28 = .ok (.dup, 1) := jx_dec c_T_way_ok 16 rfl
theorem d_T_way_29 : decode prog_1_method_6_code 29 = .ok (.ldc 104, 2) := jx_dec c_T_way_ok 17 rfl
theorem d_T_way_31 : decode prog_1_method_6_code 31 = .ok (.invokespecial 106, 3) := jx_dec c_T_way_ok 18 rfl
theorem d_T_way_34 : decode prog_1_method_6_code 34 = .ok (.athrow, 1) := jx_dec c_T_way_ok 19 rfl
theorem d_T_way_35 : decode prog_1_method_6_code 35 = .ok (.aload_n 0, 1) := jx_dec c_T_way_ok 20 rfl
theorem d_T_way_36 : decode prog_1_method_6_code 36 = .ok (.getfield 25, 3) := jx_dec c_T_way_ok 21 rfl
theorem d_T_way_39 : decode prog_1_method_6_code 39 = .ok (.iload_n 1, 1) := jx_dec c_T_way_ok 22 rfl
theorem d_T_way_40 : decode prog_1_method_6_code 40 = .ok (.iload_n 2, 1) := jx_dec c_T_way_ok 23 rfl
theorem d_T_way_41 : decode prog_1_method_6_code 41 = .ok (.iload_n 3, 1) := jx_dec c_T_way_ok 24 rfl
theorem d_T_way_42 : decode prog_1_method_6_code 42 = .ok (.invokevirtual 107, 3) := jx_dec c_T_way_ok 25 rfl
theorem d_T_way_45 : decode prog_1_method_6_code 45 = .ok (.return_, 1) := jx_dec c_T_way_ok 26 rfl
def c_T_refuse : List (Nat × Instr × Nat) := [(0, .aload_n 0, 1), (1, .iload_n 1, 1), (2, .invokevirtual 62, 3), (5, .astore_n 3, 1), (6, .aload_n 0, 1), (7, .iload_n 2, 1), (8, .invokevirtual 110, 3), (11, .astore 4, 2), (13, .aload 4, 2), (15, .invokestatic 114, 3), (18, .aload_n 3, 1), (19, .aload 4, 2), (21, .invokevirtual 118, 3), (24, .ifCond .eq 13, 3), (27, .new 82, 3), (30, .dup, 1), (31, .ldc 122, 2), (33, .invokespecial 86, 3), (36, .athrow, 1), (37, .aload_n 3, 1), (38, .dup, 1), (39, .getfield 124, 3), (42, .iconst 1, 1), (43, .aload 4, 2), (45, .getfield 101, 3), (48, .ishl, 1), (49, .ior, 1), (50, .putfield 124, 3), (53, .aload 4, 2), (55, .getfield 127, 3), (58, .aload_n 3, 1), (59, .getfield 58, 3), (62, .if_icmp .ne 7, 3), (65, .iconst 1, 1), (66, .goto 4, 3), (69, .iconst 0, 1), (70, .istore 5, 2), (72, .iload 5, 2), (74, .ifCond .eq 8, 3), (77, .aload 4, 2), (79, .invokevirtual 130, 3), (82, .iload 5, 2), (84, .ireturn, 1)]
theorem c_T_refuse_ok : (c_T_refuse).all (fun q => decide (decode prog_1_method_7_code q.1 = .ok q.2)) = true := by decide +kernel
theorem d_T_refuse_0 : decode prog_1_method_7_code 0 = .ok (.aload_n 0, 1) := jx_dec c_T_refuse_ok 0 rfl
theorem d_T_refuse_1 : decode prog_1_method_7_code 1 = .ok (.iload_n 1, 1) := jx_dec c_T_refuse_ok 1 rfl
theorem d_T_refuse_2 : decode prog_1_method_7_code 2 = .ok (.invokevirtual 62, 3) := jx_dec c_T_refuse_ok 2 rfl
theorem d_T_refuse_5 : decode prog_1_method_7_code 5 = .ok (.astore_n 3, 1) := jx_dec c_T_refuse_ok 3 rfl
theorem d_T_refuse_6 : decode prog_1_method_7_code 6 = .ok (.aload_n 0, 1) := jx_dec c_T_refuse_ok 4 rfl
theorem d_T_refuse_7 : decode prog_1_method_7_code 7 = .ok (.iload_n 2, 1) := jx_dec c_T_refuse_ok 5 rfl
theorem d_T_refuse_8 : decode prog_1_method_7_code 8 = .ok (.invokevirtual 110, 3) := jx_dec c_T_refuse_ok 6 rfl
theorem d_T_refuse_11 : decode prog_1_method_7_code 11 = .ok (.astore 4, 2) := jx_dec c_T_refuse_ok 7 rfl
theorem d_T_refuse_13 : decode prog_1_method_7_code 13 = .ok (.aload 4, 2) := jx_dec c_T_refuse_ok 8 rfl
theorem d_T_refuse_15 : decode prog_1_method_7_code 15 = .ok (.invokestatic 114, 3) := jx_dec c_T_refuse_ok 9 rfl
theorem d_T_refuse_18 : decode prog_1_method_7_code 18 = .ok (.aload_n 3, 1) := jx_dec c_T_refuse_ok 10 rfl
theorem d_T_refuse_19 : decode prog_1_method_7_code 19 = .ok (.aload 4, 2) := jx_dec c_T_refuse_ok 11 rfl
theorem d_T_refuse_21 : decode prog_1_method_7_code 21 = .ok (.invokevirtual 118, 3) := jx_dec c_T_refuse_ok 12 rfl
theorem d_T_refuse_24 : decode prog_1_method_7_code 24 = .ok (.ifCond .eq 13, 3) := jx_dec c_T_refuse_ok 13 rfl
theorem d_T_refuse_27 : decode prog_1_method_7_code 27 = .ok (.new 82, 3) := jx_dec c_T_refuse_ok 14 rfl
theorem d_T_refuse_30 : decode prog_1_method_7_code 30 = .ok (.dup, 1) := jx_dec c_T_refuse_ok 15 rfl
theorem d_T_refuse_31 : decode prog_1_method_7_code 31 = .ok (.ldc 122, 2) := jx_dec c_T_refuse_ok 16 rfl
theorem d_T_refuse_33 : decode prog_1_method_7_code 33 = .ok (.invokespecial 86, 3) := jx_dec c_T_refuse_ok 17 rfl
theorem d_T_refuse_36 : decode prog_1_method_7_code 36 = .ok (.athrow, 1) := jx_dec c_T_refuse_ok 18 rfl
theorem d_T_refuse_37 : decode prog_1_method_7_code 37 = .ok (.aload_n 3, 1) := jx_dec c_T_refuse_ok 19 rfl
theorem d_T_refuse_38 : decode prog_1_method_7_code 38 = .ok (.dup, 1) := jx_dec c_T_refuse_ok 20 rfl
theorem d_T_refuse_39 : decode prog_1_method_7_code 39 = .ok (.getfield 124, 3) := jx_dec c_T_refuse_ok 21 rfl
theorem d_T_refuse_42 : decode prog_1_method_7_code 42 = .ok (.iconst 1, 1) := jx_dec c_T_refuse_ok 22 rfl
theorem d_T_refuse_43 : decode prog_1_method_7_code 43 = .ok (.aload 4, 2) := jx_dec c_T_refuse_ok 23 rfl
theorem d_T_refuse_45 : decode prog_1_method_7_code 45 = .ok (.getfield 101, 3) := jx_dec c_T_refuse_ok 24 rfl
theorem d_T_refuse_48 : decode prog_1_method_7_code 48 = .ok (.ishl, 1) := jx_dec c_T_refuse_ok 25 rfl
theorem d_T_refuse_49 : decode prog_1_method_7_code 49 = .ok (.ior, 1) := jx_dec c_T_refuse_ok 26 rfl
theorem d_T_refuse_50 : decode prog_1_method_7_code 50 = .ok (.putfield 124, 3) := jx_dec c_T_refuse_ok 27 rfl
theorem d_T_refuse_53 : decode prog_1_method_7_code 53 = .ok (.aload 4, 2) := jx_dec c_T_refuse_ok 28 rfl
theorem d_T_refuse_55 : decode prog_1_method_7_code 55 = .ok (.getfield 127, 3) := jx_dec c_T_refuse_ok 29 rfl
theorem d_T_refuse_58 : decode prog_1_method_7_code 58 = .ok (.aload_n 3, 1) := jx_dec c_T_refuse_ok 30 rfl
theorem d_T_refuse_59 : decode prog_1_method_7_code 59 = .ok (.getfield 58, 3) := jx_dec c_T_refuse_ok 31 rfl
theorem d_T_refuse_62 : decode prog_1_method_7_code 62 = .ok (.if_icmp .ne 7, 3) := jx_dec c_T_refuse_ok 32 rfl
theorem d_T_refuse_65 : decode prog_1_method_7_code 65 = .ok (.iconst 1, 1) := jx_dec c_T_refuse_ok 33 rfl
theorem d_T_refuse_66 : decode prog_1_method_7_code 66 = .ok (.goto 4, 3) := jx_dec c_T_refuse_ok 34 rfl
theorem d_T_refuse_69 : decode prog_1_method_7_code 69 = .ok (.iconst 0, 1) := jx_dec c_T_refuse_ok 35 rfl
theorem d_T_refuse_70 : decode prog_1_method_7_code 70 = .ok (.istore 5, 2) := jx_dec c_T_refuse_ok 36 rfl
theorem d_T_refuse_72 : decode prog_1_method_7_code 72 = .ok (.iload 5, 2) := jx_dec c_T_refuse_ok 37 rfl
theorem d_T_refuse_74 : decode prog_1_method_7_code 74 = .ok (.ifCond .eq 8, 3) := jx_dec c_T_refuse_ok 38 rfl
theorem d_T_refuse_77 : decode prog_1_method_7_code 77 = .ok (.aload 4, 2) := jx_dec c_T_refuse_ok 39 rfl
theorem d_T_refuse_79 : decode prog_1_method_7_code 79 = .ok (.invokevirtual 130, 3) := jx_dec c_T_refuse_ok 40 rfl
theorem d_T_refuse_82 : decode prog_1_method_7_code 82 = .ok (.iload 5, 2) := jx_dec c_T_refuse_ok 41 rfl
theorem d_T_refuse_84 : decode prog_1_method_7_code 84 = .ok (.ireturn, 1) := jx_dec c_T_refuse_ok 42 rfl
def c_T_taskOf : List (Nat × Instr × Nat) := [(0, .iload_n 1, 1), (1, .ifCond .lt 14, 3), (4, .iload_n 1, 1), (5, .aload_n 0, 1), (6, .getfield 16, 3), (9, .invokevirtual 41, 3), (12, .if_icmp .lt 13, 3), (15, .new 217, 3), (18, .dup, 1), (19, .ldc 222, 2), (21, .invokespecial 221, 3), (24, .athrow, 1), (25, .aload_n 0, 1), (26, .getfield 16, 3), (29, .iload_n 1, 1), (30, .invokevirtual 166, 3), (33, .checkcast 98, 3), (36, .areturn, 1)]
theorem c_T_taskOf_ok : (c_T_taskOf).all (fun q => decide (decode prog_1_method_22_code q.1 = .ok q.2)) = true := by decide +kernel
theorem d_T_taskOf_0 : decode prog_1_method_22_code 0 = .ok (.iload_n 1, 1) := jx_dec c_T_taskOf_ok 0 rfl
theorem d_T_taskOf_1 : decode prog_1_method_22_code 1 = .ok (.ifCond .lt 14, 3) := jx_dec c_T_taskOf_ok 1 rfl
theorem d_T_taskOf_4 : decode prog_1_method_22_code 4 = .ok (.iload_n 1, 1) := jx_dec c_T_taskOf_ok 2 rfl
theorem d_T_taskOf_5 : decode prog_1_method_22_code 5 = .ok (.aload_n 0, 1) := jx_dec c_T_taskOf_ok 3 rfl
theorem d_T_taskOf_6 : decode prog_1_method_22_code 6 = .ok (.getfield 16, 3) := jx_dec c_T_taskOf_ok 4 rfl
theorem d_T_taskOf_9 : decode prog_1_method_22_code 9 = .ok (.invokevirtual 41, 3) := jx_dec c_T_taskOf_ok 5 rfl
theorem d_T_taskOf_12 : decode prog_1_method_22_code 12 = .ok (.if_icmp .lt 13, 3) := jx_dec c_T_taskOf_ok 6 rfl
theorem d_T_taskOf_15 : decode prog_1_method_22_code 15 = .ok (.new 217, 3) := jx_dec c_T_taskOf_ok 7 rfl
theorem d_T_taskOf_18 : decode prog_1_method_22_code 18 = .ok (.dup, 1) := jx_dec c_T_taskOf_ok 8 rfl
theorem d_T_taskOf_19 : decode prog_1_method_22_code 19 = .ok (.ldc 222, 2) := jx_dec c_T_taskOf_ok 9 rfl
theorem d_T_taskOf_21 : decode prog_1_method_22_code 21 = .ok (.invokespecial 221, 3) := jx_dec c_T_taskOf_ok 10 rfl
theorem d_T_taskOf_24 : decode prog_1_method_22_code 24 = .ok (.athrow, 1) := jx_dec c_T_taskOf_ok 11 rfl
theorem d_T_taskOf_25 : decode prog_1_method_22_code 25 = .ok (.aload_n 0, 1) := jx_dec c_T_taskOf_ok 12 rfl
theorem d_T_taskOf_26 : decode prog_1_method_22_code 26 = .ok (.getfield 16, 3) := jx_dec c_T_taskOf_ok 13 rfl
theorem d_T_taskOf_29 : decode prog_1_method_22_code 29 = .ok (.iload_n 1, 1) := jx_dec c_T_taskOf_ok 14 rfl
theorem d_T_taskOf_30 : decode prog_1_method_22_code 30 = .ok (.invokevirtual 166, 3) := jx_dec c_T_taskOf_ok 15 rfl
theorem d_T_taskOf_33 : decode prog_1_method_22_code 33 = .ok (.checkcast 98, 3) := jx_dec c_T_taskOf_ok 16 rfl
theorem d_T_taskOf_36 : decode prog_1_method_22_code 36 = .ok (.areturn, 1) := jx_dec c_T_taskOf_ok 17 rfl
def c_T_needOpen : List (Nat × Instr × Nat) := [(0, .aload_n 0, 1), (1, .getfield 170, 3), (4, .ifCond .eq 13, 3), (7, .new 82, 3), (10, .dup, 1), (11, .ldc 231, 2), (13, .invokespecial 86, 3), (16, .athrow, 1), (17, .return_, 1)]
theorem c_T_needOpen_ok : (c_T_needOpen).all (fun q => decide (decode prog_1_method_25_code q.1 = .ok q.2)) = true := by decide +kernel
theorem d_T_needOpen_0 : decode prog_1_method_25_code 0 = .ok (.aload_n 0, 1) := jx_dec c_T_needOpen_ok 0 rfl
theorem d_T_needOpen_1 : decode prog_1_method_25_code 1 = .ok (.getfield 170, 3) := jx_dec c_T_needOpen_ok 1 rfl
theorem d_T_needOpen_4 : decode prog_1_method_25_code 4 = .ok (.ifCond .eq 13, 3) := jx_dec c_T_needOpen_ok 2 rfl
theorem d_T_needOpen_7 : decode prog_1_method_25_code 7 = .ok (.new 82, 3) := jx_dec c_T_needOpen_ok 3 rfl
theorem d_T_needOpen_10 : decode prog_1_method_25_code 10 = .ok (.dup, 1) := jx_dec c_T_needOpen_ok 4 rfl
theorem d_T_needOpen_11 : decode prog_1_method_25_code 11 = .ok (.ldc 231, 2) := jx_dec c_T_needOpen_ok 5 rfl
theorem d_T_needOpen_13 : decode prog_1_method_25_code 13 = .ok (.invokespecial 86, 3) := jx_dec c_T_needOpen_ok 6 rfl
theorem d_T_needOpen_16 : decode prog_1_method_25_code 16 = .ok (.athrow, 1) := jx_dec c_T_needOpen_ok 7 rfl
theorem d_T_needOpen_17 : decode prog_1_method_25_code 17 = .ok (.return_, 1) := jx_dec c_T_needOpen_ok 8 rfl
def c_T_bar : List (Nat × Instr × Nat) := [(0, .aload_n 0, 1), (1, .iload_n 1, 1), (2, .invokevirtual 62, 3), (5, .astore_n 3, 1), (6, .aload_n 0, 1), (7, .iload_n 2, 1), (8, .invokevirtual 110, 3), (11, .astore 4, 2), (13, .aload 4, 2), (15, .invokestatic 114, 3), (18, .aload_n 3, 1), (19, .getfield 133, 3), (22, .ifCond .ne 5, 3), (25, .iconst 1, 1), (26, .ireturn, 1), (27, .aload_n 3, 1), (28, .aload 4, 2), (30, .getfield 137, 3), (33, .invokevirtual 78, 3), (36, .ifCond .ne 5, 3), (39, .iconst 2, 1), (40, .ireturn, 1), (41, .aload_n 3, 1), (42, .aload 4, 2), (44, .invokevirtual 118, 3), (47, .ifCond .eq 5, 3), (50, .iconst 3, 1), (51, .ireturn, 1), (52, .aload_n 0, 1), (53, .aload_n 3, 1), (54, .aload 4, 2), (56, .invokevirtual 140, 3), (59, .iconst (-1), 1), (60, .if_icmp .ne 7, 3), (63, .iconst 4, 1), (64, .goto 4, 3), (67, .iconst 0, 1), (68, .ireturn, 1)]
theorem c_T_bar_ok : (c_T_bar).all (fun q => decide (decode prog_1_method_8_code q.1 = .ok q.2)) = true := by decide +kernel
theorem d_T_bar_0 : decode prog_1_method_8_code 0 = .ok (.aload_n 0, 1) := jx_dec c_T_bar_ok 0 rfl
theorem d_T_bar_1 : decode prog_1_method_8_code 1 = .ok (.iload_n 1, 1) := jx_dec c_T_bar_ok 1 rfl
theorem d_T_bar_2 : decode prog_1_method_8_code 2 = .ok (.invokevirtual 62, 3) := jx_dec c_T_bar_ok 2 rfl
theorem d_T_bar_5 : decode prog_1_method_8_code 5 = .ok (.astore_n 3, 1) := jx_dec c_T_bar_ok 3 rfl
theorem d_T_bar_6 : decode prog_1_method_8_code 6 = .ok (.aload_n 0, 1) := jx_dec c_T_bar_ok 4 rfl
theorem d_T_bar_7 : decode prog_1_method_8_code 7 = .ok (.iload_n 2, 1) := jx_dec c_T_bar_ok 5 rfl
theorem d_T_bar_8 : decode prog_1_method_8_code 8 = .ok (.invokevirtual 110, 3) := jx_dec c_T_bar_ok 6 rfl
theorem d_T_bar_11 : decode prog_1_method_8_code 11 = .ok (.astore 4, 2) := jx_dec c_T_bar_ok 7 rfl
theorem d_T_bar_13 : decode prog_1_method_8_code 13 = .ok (.aload 4, 2) := jx_dec c_T_bar_ok 8 rfl
theorem d_T_bar_15 : decode prog_1_method_8_code 15 = .ok (.invokestatic 114, 3) := jx_dec c_T_bar_ok 9 rfl
theorem d_T_bar_18 : decode prog_1_method_8_code 18 = .ok (.aload_n 3, 1) := jx_dec c_T_bar_ok 10 rfl
theorem d_T_bar_19 : decode prog_1_method_8_code 19 = .ok (.getfield 133, 3) := jx_dec c_T_bar_ok 11 rfl
theorem d_T_bar_22 : decode prog_1_method_8_code 22 = .ok (.ifCond .ne 5, 3) := jx_dec c_T_bar_ok 12 rfl
theorem d_T_bar_25 : decode prog_1_method_8_code 25 = .ok (.iconst 1, 1) := jx_dec c_T_bar_ok 13 rfl
theorem d_T_bar_26 : decode prog_1_method_8_code 26 = .ok (.ireturn, 1) := jx_dec c_T_bar_ok 14 rfl
theorem d_T_bar_27 : decode prog_1_method_8_code 27 = .ok (.aload_n 3, 1) := jx_dec c_T_bar_ok 15 rfl
theorem d_T_bar_28 : decode prog_1_method_8_code 28 = .ok (.aload 4, 2) := jx_dec c_T_bar_ok 16 rfl
theorem d_T_bar_30 : decode prog_1_method_8_code 30 = .ok (.getfield 137, 3) := jx_dec c_T_bar_ok 17 rfl
theorem d_T_bar_33 : decode prog_1_method_8_code 33 = .ok (.invokevirtual 78, 3) := jx_dec c_T_bar_ok 18 rfl
theorem d_T_bar_36 : decode prog_1_method_8_code 36 = .ok (.ifCond .ne 5, 3) := jx_dec c_T_bar_ok 19 rfl
theorem d_T_bar_39 : decode prog_1_method_8_code 39 = .ok (.iconst 2, 1) := jx_dec c_T_bar_ok 20 rfl
theorem d_T_bar_40 : decode prog_1_method_8_code 40 = .ok (.ireturn, 1) := jx_dec c_T_bar_ok 21 rfl
theorem d_T_bar_41 : decode prog_1_method_8_code 41 = .ok (.aload_n 3, 1) := jx_dec c_T_bar_ok 22 rfl
theorem d_T_bar_42 : decode prog_1_method_8_code 42 = .ok (.aload 4, 2) := jx_dec c_T_bar_ok 23 rfl
theorem d_T_bar_44 : decode prog_1_method_8_code 44 = .ok (.invokevirtual 118, 3) := jx_dec c_T_bar_ok 24 rfl
theorem d_T_bar_47 : decode prog_1_method_8_code 47 = .ok (.ifCond .eq 5, 3) := jx_dec c_T_bar_ok 25 rfl
theorem d_T_bar_50 : decode prog_1_method_8_code 50 = .ok (.iconst 3, 1) := jx_dec c_T_bar_ok 26 rfl
theorem d_T_bar_51 : decode prog_1_method_8_code 51 = .ok (.ireturn, 1) := jx_dec c_T_bar_ok 27 rfl
theorem d_T_bar_52 : decode prog_1_method_8_code 52 = .ok (.aload_n 0, 1) := jx_dec c_T_bar_ok 28 rfl
theorem d_T_bar_53 : decode prog_1_method_8_code 53 = .ok (.aload_n 3, 1) := jx_dec c_T_bar_ok 29 rfl
theorem d_T_bar_54 : decode prog_1_method_8_code 54 = .ok (.aload 4, 2) := jx_dec c_T_bar_ok 30 rfl
theorem d_T_bar_56 : decode prog_1_method_8_code 56 = .ok (.invokevirtual 140, 3) := jx_dec c_T_bar_ok 31 rfl
theorem d_T_bar_59 : decode prog_1_method_8_code 59 = .ok (.iconst (-1), 1) := jx_dec c_T_bar_ok 32 rfl
theorem d_T_bar_60 : decode prog_1_method_8_code 60 = .ok (.if_icmp .ne 7, 3) := jx_dec c_T_bar_ok 33 rfl
theorem d_T_bar_63 : decode prog_1_method_8_code 63 = .ok (.iconst 4, 1) := jx_dec c_T_bar_ok 34 rfl
theorem d_T_bar_64 : decode prog_1_method_8_code 64 = .ok (.goto 4, 3) := jx_dec c_T_bar_ok 35 rfl
theorem d_T_bar_67 : decode prog_1_method_8_code 67 = .ok (.iconst 0, 1) := jx_dec c_T_bar_ok 36 rfl
theorem d_T_bar_68 : decode prog_1_method_8_code 68 = .ok (.ireturn, 1) := jx_dec c_T_bar_ok 37 rfl
def c_T_assign : List (Nat × Instr × Nat) := [(0, .iload_n 1, 1), (1, .iconst 0, 1), (2, .iconst 5, 1), (3, .invokestatic 36, 3), (6, .aload_n 0, 1), (7, .invokevirtual 144, 3), (10, .aload_n 0, 1), (11, .aload_n 0, 1), (12, .iconst 0, 1), (13, .invokevirtual 147, 3), (16, .iload_n 1, 1), (17, .if_icmp .gt 7, 3), (20, .iconst 1, 1), (21, .goto 4, 3), (24, .iconst 0, 1), (25, .putfield 150, 3), (28, .aload_n 0, 1), (29, .getfield 150, 3), (32, .ifCond .eq 29, 3), (35, .aload_n 0, 1), (36, .getfield 32, 3), (39, .aload_n 0, 1), (40, .getfield 10, 3), (43, .aload_n 0, 1), (44, .getfield 16, 3), (47, .aload_n 0, 1), (48, .getfield 25, 3), (51, .aload_n 0, 1), (52, .getfield 153, 3), (55, .invokevirtual 156, 3), (58, .goto 7, 3), (61, .aload_n 0, 1), (62, .invokevirtual 160, 3), (65, .aload_n 0, 1), (66, .invokevirtual 163, 3), (69, .ireturn, 1)]
theorem c_T_assign_ok : (c_T_assign).all (fun q => decide (decode prog_1_method_9_code q.1 = .ok q.2)) = true := by decide +kernel
theorem d_T_assign_0 : decode prog_1_method_9_code 0 = .ok (.iload_n 1, 1) := jx_dec c_T_assign_ok 0 rfl
theorem d_T_assign_1 : decode prog_1_method_9_code 1 = .ok (.iconst 0, 1) := jx_dec c_T_assign_ok 1 rfl
theorem d_T_assign_2 : decode prog_1_method_9_code 2 = .ok (.iconst 5, 1) := jx_dec c_T_assign_ok 2 rfl
theorem d_T_assign_3 : decode prog_1_method_9_code 3 = .ok (.invokestatic 36, 3) := jx_dec c_T_assign_ok 3 rfl
theorem d_T_assign_6 : decode prog_1_method_9_code 6 = .ok (.aload_n 0, 1) := jx_dec c_T_assign_ok 4 rfl
theorem d_T_assign_7 : decode prog_1_method_9_code 7 = .ok (.invokevirtual 144, 3) := jx_dec c_T_assign_ok 5 rfl
theorem d_T_assign_10 : decode prog_1_method_9_code 10 = .ok (.aload_n 0, 1) := jx_dec c_T_assign_ok 6 rfl
theorem d_T_assign_11 : decode prog_1_method_9_code 11 = .ok (.aload_n 0, 1) := jx_dec c_T_assign_ok 7 rfl
theorem d_T_assign_12 : decode prog_1_method_9_code 12 = .ok (.iconst 0, 1) := jx_dec c_T_assign_ok 8 rfl
theorem d_T_assign_13 : decode prog_1_method_9_code 13 = .ok (.invokevirtual 147, 3) := jx_dec c_T_assign_ok 9 rfl
theorem d_T_assign_16 : decode prog_1_method_9_code 16 = .ok (.iload_n 1, 1) := jx_dec c_T_assign_ok 10 rfl
theorem d_T_assign_17 : decode prog_1_method_9_code 17 = .ok (.if_icmp .gt 7, 3) := jx_dec c_T_assign_ok 11 rfl
theorem d_T_assign_20 : decode prog_1_method_9_code 20 = .ok (.iconst 1, 1) := jx_dec c_T_assign_ok 12 rfl
theorem d_T_assign_21 : decode prog_1_method_9_code 21 = .ok (.goto 4, 3) := jx_dec c_T_assign_ok 13 rfl
theorem d_T_assign_24 : decode prog_1_method_9_code 24 = .ok (.iconst 0, 1) := jx_dec c_T_assign_ok 14 rfl
theorem d_T_assign_25 : decode prog_1_method_9_code 25 = .ok (.putfield 150, 3) := jx_dec c_T_assign_ok 15 rfl
theorem d_T_assign_28 : decode prog_1_method_9_code 28 = .ok (.aload_n 0, 1) := jx_dec c_T_assign_ok 16 rfl
theorem d_T_assign_29 : decode prog_1_method_9_code 29 = .ok (.getfield 150, 3) := jx_dec c_T_assign_ok 17 rfl
theorem d_T_assign_32 : decode prog_1_method_9_code 32 = .ok (.ifCond .eq 29, 3) := jx_dec c_T_assign_ok 18 rfl
theorem d_T_assign_35 : decode prog_1_method_9_code 35 = .ok (.aload_n 0, 1) := jx_dec c_T_assign_ok 19 rfl
theorem d_T_assign_36 : decode prog_1_method_9_code 36 = .ok (.getfield 32, 3) := jx_dec c_T_assign_ok 20 rfl
theorem d_T_assign_39 : decode prog_1_method_9_code 39 = .ok (.aload_n 0, 1) := jx_dec c_T_assign_ok 21 rfl
theorem d_T_assign_40 : decode prog_1_method_9_code 40 = .ok (.getfield 10, 3) := jx_dec c_T_assign_ok 22 rfl
theorem d_T_assign_43 : decode prog_1_method_9_code 43 = .ok (.aload_n 0, 1) := jx_dec c_T_assign_ok 23 rfl
theorem d_T_assign_44 : decode prog_1_method_9_code 44 = .ok (.getfield 16, 3) := jx_dec c_T_assign_ok 24 rfl
theorem d_T_assign_47 : decode prog_1_method_9_code 47 = .ok (.aload_n 0, 1) := jx_dec c_T_assign_ok 25 rfl
theorem d_T_assign_48 : decode prog_1_method_9_code 48 = .ok (.getfield 25, 3) := jx_dec c_T_assign_ok 26 rfl
theorem d_T_assign_51 : decode prog_1_method_9_code 51 = .ok (.aload_n 0, 1) := jx_dec c_T_assign_ok 27 rfl
theorem d_T_assign_52 : decode prog_1_method_9_code 52 = .ok (.getfield 153, 3) := jx_dec c_T_assign_ok 28 rfl
theorem d_T_assign_55 : decode prog_1_method_9_code 55 = .ok (.invokevirtual 156, 3) := jx_dec c_T_assign_ok 29 rfl
theorem d_T_assign_58 : decode prog_1_method_9_code 58 = .ok (.goto 7, 3) := jx_dec c_T_assign_ok 30 rfl
theorem d_T_assign_61 : decode prog_1_method_9_code 61 = .ok (.aload_n 0, 1) := jx_dec c_T_assign_ok 31 rfl
theorem d_T_assign_62 : decode prog_1_method_9_code 62 = .ok (.invokevirtual 160, 3) := jx_dec c_T_assign_ok 32 rfl
theorem d_T_assign_65 : decode prog_1_method_9_code 65 = .ok (.aload_n 0, 1) := jx_dec c_T_assign_ok 33 rfl
theorem d_T_assign_66 : decode prog_1_method_9_code 66 = .ok (.invokevirtual 163, 3) := jx_dec c_T_assign_ok 34 rfl
theorem d_T_assign_69 : decode prog_1_method_9_code 69 = .ok (.ireturn, 1) := jx_dec c_T_assign_ok 35 rfl
def c_T_freeOpenTasks : List (Nat × Instr × Nat) := [(0, .iconst 0, 1), (1, .istore_n 1, 1), (2, .iload_n 1, 1), (3, .aload_n 0, 1), (4, .getfield 16, 3), (7, .invokevirtual 41, 3), (10, .if_icmp .ge 40, 3), (13, .aload_n 0, 1), (14, .getfield 16, 3), (17, .iload_n 1, 1), (18, .invokevirtual 166, 3), (21, .checkcast 98, 3), (24, .getfield 170, 3), (27, .ifCond .ne 17, 3), (30, .aload_n 0, 1), (31, .getfield 16, 3), (34, .iload_n 1, 1), (35, .invokevirtual 166, 3), (38, .checkcast 98, 3), (41, .invokevirtual 130, 3), (44, .iinc 1 1, 3), (47, .goto (-45), 3), (50, .return_, 1)]
theorem c_T_freeOpenTasks_ok : (c_T_freeOpenTasks).all (fun q => decide (decode prog_1_method_34_code q.1 = .ok q.2)) = true := by decide +kernel
theorem d_T_freeOpenTasks_0 : decode prog_1_method_34_code 0 = .ok (.iconst 0, 1) := jx_dec c_T_freeOpenTasks_ok 0 rfl
theorem d_T_freeOpenTasks_1 : decode prog_1_method_34_code 1 = .ok (.istore_n 1, 1) := jx_dec c_T_freeOpenTasks_ok 1 rfl
theorem d_T_freeOpenTasks_2 : decode prog_1_method_34_code 2 = .ok (.iload_n 1, 1) := jx_dec c_T_freeOpenTasks_ok 2 rfl
theorem d_T_freeOpenTasks_3 : decode prog_1_method_34_code 3 = .ok (.aload_n 0, 1) := jx_dec c_T_freeOpenTasks_ok 3 rfl
theorem d_T_freeOpenTasks_4 : decode prog_1_method_34_code 4 = .ok (.getfield 16, 3) := jx_dec c_T_freeOpenTasks_ok 4 rfl
theorem d_T_freeOpenTasks_7 : decode prog_1_method_34_code 7 = .ok (.invokevirtual 41, 3) := jx_dec c_T_freeOpenTasks_ok 5 rfl
theorem d_T_freeOpenTasks_10 : decode prog_1_method_34_code 10 = .ok (.if_icmp .ge 40, 3) := jx_dec c_T_freeOpenTasks_ok 6 rfl
theorem d_T_freeOpenTasks_13 : decode prog_1_method_34_code 13 = .ok (.aload_n 0, 1) := jx_dec c_T_freeOpenTasks_ok 7 rfl
theorem d_T_freeOpenTasks_14 : decode prog_1_method_34_code 14 = .ok (.getfield 16, 3) := jx_dec c_T_freeOpenTasks_ok 8 rfl
theorem d_T_freeOpenTasks_17 : decode prog_1_method_34_code 17 = .ok (.iload_n 1, 1) := jx_dec c_T_freeOpenTasks_ok 9 rfl
theorem d_T_freeOpenTasks_18 : decode prog_1_method_34_code 18 = .ok (.invokevirtual 166, 3) := jx_dec c_T_freeOpenTasks_ok 10 rfl
theorem d_T_freeOpenTasks_21 : decode prog_1_method_34_code 21 = .ok (.checkcast 98, 3) := jx_dec c_T_freeOpenTasks_ok 11 rfl
theorem d_T_freeOpenTasks_24 : decode prog_1_method_34_code 24 = .ok (.getfield 170, 3) := jx_dec c_T_freeOpenTasks_ok 12 rfl
theorem d_T_freeOpenTasks_27 : decode prog_1_method_34_code 27 = .ok (.ifCond .ne 17, 3) := jx_dec c_T_freeOpenTasks_ok 13 rfl
theorem d_T_freeOpenTasks_30 : decode prog_1_method_34_code 30 = .ok (.aload_n 0, 1) := jx_dec c_T_freeOpenTasks_ok 14 rfl
theorem d_T_freeOpenTasks_31 : decode prog_1_method_34_code 31 = .ok (.getfield 16, 3) := jx_dec c_T_freeOpenTasks_ok 15 rfl
theorem d_T_freeOpenTasks_34 : decode prog_1_method_34_code 34 = .ok (.iload_n 1, 1) := jx_dec c_T_freeOpenTasks_ok 16 rfl
theorem d_T_freeOpenTasks_35 : decode prog_1_method_34_code 35 = .ok (.invokevirtual 166, 3) := jx_dec c_T_freeOpenTasks_ok 17 rfl
theorem d_T_freeOpenTasks_38 : decode prog_1_method_34_code 38 = .ok (.checkcast 98, 3) := jx_dec c_T_freeOpenTasks_ok 18 rfl
theorem d_T_freeOpenTasks_41 : decode prog_1_method_34_code 41 = .ok (.invokevirtual 130, 3) := jx_dec c_T_freeOpenTasks_ok 19 rfl
theorem d_T_freeOpenTasks_44 : decode prog_1_method_34_code 44 = .ok (.iinc 1 1, 3) := jx_dec c_T_freeOpenTasks_ok 20 rfl
theorem d_T_freeOpenTasks_47 : decode prog_1_method_34_code 47 = .ok (.goto (-45), 3) := jx_dec c_T_freeOpenTasks_ok 21 rfl
theorem d_T_freeOpenTasks_50 : decode prog_1_method_34_code 50 = .ok (.return_, 1) := jx_dec c_T_freeOpenTasks_ok 22 rfl
def c_T_planByRule : List (Nat × Instr × Nat) := [(0, .aload_n 0, 1), (1, .invokevirtual 262, 3), (4, .iconst 0, 1), (5, .istore_n 1, 1), (6, .iload_n 1, 1), (7, .aload_n 0, 1), (8, .getfield 10, 3), (11, .invokevirtual 41, 3), (14, .if_icmp .ge 58, 3), (17, .aload_n 0, 1), (18, .getfield 10, 3), (21, .iload_n 1, 1), (22, .invokevirtual 166, 3), (25, .checkcast 49, 3), (28, .astore_n 2, 1), (29, .aload_n 2, 1), (30, .aload_n 2, 1), (31, .aload_n 0, 1), (32, .getfield 153, 3), (35, .invokevirtual 247, 3), (38, .putfield 265, 3), (41, .aload_n 2, 1), (42, .aload_n 2, 1), (43, .getfield 200, 3), (46, .putfield 268, 3), (49, .aload_n 2, 1), (50, .aload_n 0, 1), (51, .iload_n 1, 1), (52, .iconst 1, 1), (53, .invokevirtual 203, 3), (56, .aload_n 0, 1), (57, .iload_n 1, 1), (58, .iconst 2, 1), (59, .invokevirtual 203, 3), (62, .iadd, 1), (63, .putfield 271, 3), (66, .iinc 1 1, 3), (69, .goto (-63), 3), (72, .iconst 0, 1), (73, .istore_n 1, 1), (74, .iload_n 1, 1), (75, .aload_n 0, 1), (76, .getfield 19, 3), (79, .invokevirtual 41, 3), (82, .if_icmp .ge 24, 3), (85, .aload_n 0, 1), (86, .aload_n 0, 1), (87, .getfield 19, 3), (90, .iload_n 1, 1), (91, .invokevirtual 166, 3), (94, .checkcast 98, 3), (97, .invokevirtual 274, 3), (100, .iinc 1 1, 3), (103, .goto (-29), 3), (106, .return_, 1)]
theorem c_T_planByRule_ok : (c_T_planByRule).all (fun q => decide (decode prog_1_method_35_code q.1 = .ok q.2)) = true := by decide +kernel
theorem d_T_planByRule_0 : decode prog_1_method_35_code 0 = .ok (.aload_n 0, 1) := jx_dec c_T_planByRule_ok 0 rfl
theorem d_T_planByRule_1 : decode prog_1_method_35_code 1 = .ok (.invokevirtual 262, 3) := jx_dec c_T_planByRule_ok 1 rfl
theorem d_T_planByRule_4 : decode prog_1_method_35_code 4 = .ok (.iconst 0, 1) := jx_dec c_T_planByRule_ok 2 rfl
theorem d_T_planByRule_5 : decode prog_1_method_35_code 5 = .ok (.istore_n 1, 1) := jx_dec c_T_planByRule_ok 3 rfl
theorem d_T_planByRule_6 : decode prog_1_method_35_code 6 = .ok (.iload_n 1, 1) := jx_dec c_T_planByRule_ok 4 rfl
theorem d_T_planByRule_7 : decode prog_1_method_35_code 7 = .ok (.aload_n 0, 1) := jx_dec c_T_planByRule_ok 5 rfl
theorem d_T_planByRule_8 : decode prog_1_method_35_code 8 = .ok (.getfield 10, 3) := jx_dec c_T_planByRule_ok 6 rfl
theorem d_T_planByRule_11 : decode prog_1_method_35_code 11 = .ok (.invokevirtual 41, 3) := jx_dec c_T_planByRule_ok 7 rfl
theorem d_T_planByRule_14 : decode prog_1_method_35_code 14 = .ok (.if_icmp .ge 58, 3) := jx_dec c_T_planByRule_ok 8 rfl
theorem d_T_planByRule_17 : decode prog_1_method_35_code 17 = .ok (.aload_n 0, 1) := jx_dec c_T_planByRule_ok 9 rfl
theorem d_T_planByRule_18 : decode prog_1_method_35_code 18 = .ok (.getfield 10, 3) := jx_dec c_T_planByRule_ok 10 rfl
theorem d_T_planByRule_21 : decode prog_1_method_35_code 21 = .ok (.iload_n 1, 1) := jx_dec c_T_planByRule_ok 11 rfl
theorem d_T_planByRule_22 : decode prog_1_method_35_code 22 = .ok (.invokevirtual 166, 3) := jx_dec c_T_planByRule_ok 12 rfl
theorem d_T_planByRule_25 : decode prog_1_method_35_code 25 = .ok (.checkcast 49, 3) := jx_dec c_T_planByRule_ok 13 rfl
theorem d_T_planByRule_28 : decode prog_1_method_35_code 28 = .ok (.astore_n 2, 1) := jx_dec c_T_planByRule_ok 14 rfl
theorem d_T_planByRule_29 : decode prog_1_method_35_code 29 = .ok (.aload_n 2, 1) := jx_dec c_T_planByRule_ok 15 rfl
theorem d_T_planByRule_30 : decode prog_1_method_35_code 30 = .ok (.aload_n 2, 1) := jx_dec c_T_planByRule_ok 16 rfl
theorem d_T_planByRule_31 : decode prog_1_method_35_code 31 = .ok (.aload_n 0, 1) := jx_dec c_T_planByRule_ok 17 rfl
theorem d_T_planByRule_32 : decode prog_1_method_35_code 32 = .ok (.getfield 153, 3) := jx_dec c_T_planByRule_ok 18 rfl
theorem d_T_planByRule_35 : decode prog_1_method_35_code 35 = .ok (.invokevirtual 247, 3) := jx_dec c_T_planByRule_ok 19 rfl
theorem d_T_planByRule_38 : decode prog_1_method_35_code 38 = .ok (.putfield 265, 3) := jx_dec c_T_planByRule_ok 20 rfl
theorem d_T_planByRule_41 : decode prog_1_method_35_code 41 = .ok (.aload_n 2, 1) := jx_dec c_T_planByRule_ok 21 rfl
theorem d_T_planByRule_42 : decode prog_1_method_35_code 42 = .ok (.aload_n 2, 1) := jx_dec c_T_planByRule_ok 22 rfl
theorem d_T_planByRule_43 : decode prog_1_method_35_code 43 = .ok (.getfield 200, 3) := jx_dec c_T_planByRule_ok 23 rfl
theorem d_T_planByRule_46 : decode prog_1_method_35_code 46 = .ok (.putfield 268, 3) := jx_dec c_T_planByRule_ok 24 rfl
theorem d_T_planByRule_49 : decode prog_1_method_35_code 49 = .ok (.aload_n 2, 1) := jx_dec c_T_planByRule_ok 25 rfl
theorem d_T_planByRule_50 : decode prog_1_method_35_code 50 = .ok (.aload_n 0, 1) := jx_dec c_T_planByRule_ok 26 rfl
theorem d_T_planByRule_51 : decode prog_1_method_35_code 51 = .ok (.iload_n 1, 1) := jx_dec c_T_planByRule_ok 27 rfl
theorem d_T_planByRule_52 : decode prog_1_method_35_code 52 = .ok (.iconst 1, 1) := jx_dec c_T_planByRule_ok 28 rfl
theorem d_T_planByRule_53 : decode prog_1_method_35_code 53 = .ok (.invokevirtual 203, 3) := jx_dec c_T_planByRule_ok 29 rfl
theorem d_T_planByRule_56 : decode prog_1_method_35_code 56 = .ok (.aload_n 0, 1) := jx_dec c_T_planByRule_ok 30 rfl
theorem d_T_planByRule_57 : decode prog_1_method_35_code 57 = .ok (.iload_n 1, 1) := jx_dec c_T_planByRule_ok 31 rfl
theorem d_T_planByRule_58 : decode prog_1_method_35_code 58 = .ok (.iconst 2, 1) := jx_dec c_T_planByRule_ok 32 rfl
theorem d_T_planByRule_59 : decode prog_1_method_35_code 59 = .ok (.invokevirtual 203, 3) := jx_dec c_T_planByRule_ok 33 rfl
theorem d_T_planByRule_62 : decode prog_1_method_35_code 62 = .ok (.iadd, 1) := jx_dec c_T_planByRule_ok 34 rfl
theorem d_T_planByRule_63 : decode prog_1_method_35_code 63 = .ok (.putfield 271, 3) := jx_dec c_T_planByRule_ok 35 rfl
theorem d_T_planByRule_66 : decode prog_1_method_35_code 66 = .ok (.iinc 1 1, 3) := jx_dec c_T_planByRule_ok 36 rfl
theorem d_T_planByRule_69 : decode prog_1_method_35_code 69 = .ok (.goto (-63), 3) := jx_dec c_T_planByRule_ok 37 rfl
theorem d_T_planByRule_72 : decode prog_1_method_35_code 72 = .ok (.iconst 0, 1) := jx_dec c_T_planByRule_ok 38 rfl
theorem d_T_planByRule_73 : decode prog_1_method_35_code 73 = .ok (.istore_n 1, 1) := jx_dec c_T_planByRule_ok 39 rfl
theorem d_T_planByRule_74 : decode prog_1_method_35_code 74 = .ok (.iload_n 1, 1) := jx_dec c_T_planByRule_ok 40 rfl
theorem d_T_planByRule_75 : decode prog_1_method_35_code 75 = .ok (.aload_n 0, 1) := jx_dec c_T_planByRule_ok 41 rfl
theorem d_T_planByRule_76 : decode prog_1_method_35_code 76 = .ok (.getfield 19, 3) := jx_dec c_T_planByRule_ok 42 rfl
theorem d_T_planByRule_79 : decode prog_1_method_35_code 79 = .ok (.invokevirtual 41, 3) := jx_dec c_T_planByRule_ok 43 rfl
theorem d_T_planByRule_82 : decode prog_1_method_35_code 82 = .ok (.if_icmp .ge 24, 3) := jx_dec c_T_planByRule_ok 44 rfl
theorem d_T_planByRule_85 : decode prog_1_method_35_code 85 = .ok (.aload_n 0, 1) := jx_dec c_T_planByRule_ok 45 rfl
theorem d_T_planByRule_86 : decode prog_1_method_35_code 86 = .ok (.aload_n 0, 1) := jx_dec c_T_planByRule_ok 46 rfl
theorem d_T_planByRule_87 : decode prog_1_method_35_code 87 = .ok (.getfield 19, 3) := jx_dec c_T_planByRule_ok 47 rfl
theorem d_T_planByRule_90 : decode prog_1_method_35_code 90 = .ok (.iload_n 1, 1) := jx_dec c_T_planByRule_ok 48 rfl
theorem d_T_planByRule_91 : decode prog_1_method_35_code 91 = .ok (.invokevirtual 166, 3) := jx_dec c_T_planByRule_ok 49 rfl
theorem d_T_planByRule_94 : decode prog_1_method_35_code 94 = .ok (.checkcast 98, 3) := jx_dec c_T_planByRule_ok 50 rfl
theorem d_T_planByRule_97 : decode prog_1_method_35_code 97 = .ok (.invokevirtual 274, 3) := jx_dec c_T_planByRule_ok 51 rfl
theorem d_T_planByRule_100 : decode prog_1_method_35_code 100 = .ok (.iinc 1 1, 3) := jx_dec c_T_planByRule_ok 52 rfl
theorem d_T_planByRule_103 : decode prog_1_method_35_code 103 = .ok (.goto (-29), 3) := jx_dec c_T_planByRule_ok 53 rfl
theorem d_T_planByRule_106 : decode prog_1_method_35_code 106 = .ok (.return_, 1) := jx_dec c_T_planByRule_ok 54 rfl
def c_T_sortOpenByDue : List (Nat × Instr × Nat) := [(0, .aload_n 0, 1), (1, .getfield 19, 3), (4, .invokevirtual 277, 3), (7, .iconst 0, 1), (8, .istore_n 1, 1), (9, .iload_n 1, 1), (10, .aload_n 0, 1), (11, .getfield 16, 3), (14, .invokevirtual 41, 3), (17, .if_icmp .ge 78, 3), (20, .aload_n 0, 1), (21, .getfield 16, 3), (24, .iload_n 1, 1), (25, .invokevirtual 166, 3), (28, .checkcast 98, 3), (31, .astore_n 2, 1), (32, .aload_n 2, 1), (33, .getfield 170, 3), (36, .ifCond .ne 53, 3), (39, .aload_n 0, 1), (40, .getfield 19, 3), (43, .invokevirtual 41, 3), (46, .istore_n 3, 1), (47, .iload_n 3, 1), (48, .ifCond .le 32, 3), (51, .aload_n 0, 1), (52, .getfield 19, 3), (55, .iload_n 3, 1), (56, .iconst 1, 1), (57, .isub, 1), (58, .invokevirtual 166, 3), (61, .checkcast 98, 3), (64, .getfield 210, 3), (67, .aload_n 2, 1), (68, .getfield 210, 3), (71, .if_icmp .le 9, 3), (74, .iinc 3 (-1), 3), (77, .goto (-30), 3), (80, .aload_n 0, 1), (81, .getfield 19, 3), (84, .iload_n 3, 1), (85, .aload_n 2, 1), (86, .invokevirtual 280, 3), (89, .iinc 1 1, 3), (92, .goto (-83), 3), (95, .return_, 1)]
theorem c_T_sortOpenByDue_ok : (c_T_sortOpenByDue).all (fun q => decide (decode prog_1_method_36_code q.1 = .ok q.2)) = true := by decide +kernel
theorem d_T_sortOpenByDue_0 : decode prog_1_method_36_code 0 = .ok (.aload_n 0, 1) := jx_dec c_T_sortOpenByDue_ok 0 rfl
theorem d_T_sortOpenByDue_1 : decode prog_1_method_36_code 1 = .ok (.getfield 19, 3) := jx_dec c_T_sortOpenByDue_ok 1 rfl
theorem d_T_sortOpenByDue_4 : decode prog_1_method_36_code 4 = .ok (.invokevirtual 277, 3) := jx_dec c_T_sortOpenByDue_ok 2 rfl
theorem d_T_sortOpenByDue_7 : decode prog_1_method_36_code 7 = .ok (.iconst 0, 1) := jx_dec c_T_sortOpenByDue_ok 3 rfl
theorem d_T_sortOpenByDue_8 : decode prog_1_method_36_code 8 = .ok (.istore_n 1, 1) := jx_dec c_T_sortOpenByDue_ok 4 rfl
theorem d_T_sortOpenByDue_9 : decode prog_1_method_36_code 9 = .ok (.iload_n 1, 1) := jx_dec c_T_sortOpenByDue_ok 5 rfl
theorem d_T_sortOpenByDue_10 : decode prog_1_method_36_code 10 = .ok (.aload_n 0, 1) := jx_dec c_T_sortOpenByDue_ok 6 rfl
theorem d_T_sortOpenByDue_11 : decode prog_1_method_36_code 11 = .ok (.getfield 16, 3) := jx_dec c_T_sortOpenByDue_ok 7 rfl
theorem d_T_sortOpenByDue_14 : decode prog_1_method_36_code 14 = .ok (.invokevirtual 41, 3) := jx_dec c_T_sortOpenByDue_ok 8 rfl
theorem d_T_sortOpenByDue_17 : decode prog_1_method_36_code 17 = .ok (.if_icmp .ge 78, 3) := jx_dec c_T_sortOpenByDue_ok 9 rfl
theorem d_T_sortOpenByDue_20 : decode prog_1_method_36_code 20 = .ok (.aload_n 0, 1) := jx_dec c_T_sortOpenByDue_ok 10 rfl
theorem d_T_sortOpenByDue_21 : decode prog_1_method_36_code 21 = .ok (.getfield 16, 3) := jx_dec c_T_sortOpenByDue_ok 11 rfl
theorem d_T_sortOpenByDue_24 : decode prog_1_method_36_code 24 = .ok (.iload_n 1, 1) := jx_dec c_T_sortOpenByDue_ok 12 rfl
theorem d_T_sortOpenByDue_25 : decode prog_1_method_36_code 25 = .ok (.invokevirtual 166, 3) := jx_dec c_T_sortOpenByDue_ok 13 rfl
theorem d_T_sortOpenByDue_28 : decode prog_1_method_36_code 28 = .ok (.checkcast 98, 3) := jx_dec c_T_sortOpenByDue_ok 14 rfl
theorem d_T_sortOpenByDue_31 : decode prog_1_method_36_code 31 = .ok (.astore_n 2, 1) := jx_dec c_T_sortOpenByDue_ok 15 rfl
theorem d_T_sortOpenByDue_32 : decode prog_1_method_36_code 32 = .ok (.aload_n 2, 1) := jx_dec c_T_sortOpenByDue_ok 16 rfl
theorem d_T_sortOpenByDue_33 : decode prog_1_method_36_code 33 = .ok (.getfield 170, 3) := jx_dec c_T_sortOpenByDue_ok 17 rfl
theorem d_T_sortOpenByDue_36 : decode prog_1_method_36_code 36 = .ok (.ifCond .ne 53, 3) := jx_dec c_T_sortOpenByDue_ok 18 rfl
theorem d_T_sortOpenByDue_39 : decode prog_1_method_36_code 39 = .ok (.aload_n 0, 1) := jx_dec c_T_sortOpenByDue_ok 19 rfl
theorem d_T_sortOpenByDue_40 : decode prog_1_method_36_code 40 = .ok (.getfield 19, 3) := jx_dec c_T_sortOpenByDue_ok 20 rfl
theorem d_T_sortOpenByDue_43 : decode prog_1_method_36_code 43 = .ok (.invokevirtual 41, 3) := jx_dec c_T_sortOpenByDue_ok 21 rfl
theorem d_T_sortOpenByDue_46 : decode prog_1_method_36_code 46 = .ok (.istore_n 3, 1) := jx_dec c_T_sortOpenByDue_ok 22 rfl
theorem d_T_sortOpenByDue_47 : decode prog_1_method_36_code 47 = .ok (.iload_n 3, 1) := jx_dec c_T_sortOpenByDue_ok 23 rfl
theorem d_T_sortOpenByDue_48 : decode prog_1_method_36_code 48 = .ok (.ifCond .le 32, 3) := jx_dec c_T_sortOpenByDue_ok 24 rfl
theorem d_T_sortOpenByDue_51 : decode prog_1_method_36_code 51 = .ok (.aload_n 0, 1) := jx_dec c_T_sortOpenByDue_ok 25 rfl
theorem d_T_sortOpenByDue_52 : decode prog_1_method_36_code 52 = .ok (.getfield 19, 3) := jx_dec c_T_sortOpenByDue_ok 26 rfl
theorem d_T_sortOpenByDue_55 : decode prog_1_method_36_code 55 = .ok (.iload_n 3, 1) := jx_dec c_T_sortOpenByDue_ok 27 rfl
theorem d_T_sortOpenByDue_56 : decode prog_1_method_36_code 56 = .ok (.iconst 1, 1) := jx_dec c_T_sortOpenByDue_ok 28 rfl
theorem d_T_sortOpenByDue_57 : decode prog_1_method_36_code 57 = .ok (.isub, 1) := jx_dec c_T_sortOpenByDue_ok 29 rfl
theorem d_T_sortOpenByDue_58 : decode prog_1_method_36_code 58 = .ok (.invokevirtual 166, 3) := jx_dec c_T_sortOpenByDue_ok 30 rfl
theorem d_T_sortOpenByDue_61 : decode prog_1_method_36_code 61 = .ok (.checkcast 98, 3) := jx_dec c_T_sortOpenByDue_ok 31 rfl
theorem d_T_sortOpenByDue_64 : decode prog_1_method_36_code 64 = .ok (.getfield 210, 3) := jx_dec c_T_sortOpenByDue_ok 32 rfl
theorem d_T_sortOpenByDue_67 : decode prog_1_method_36_code 67 = .ok (.aload_n 2, 1) := jx_dec c_T_sortOpenByDue_ok 33 rfl
theorem d_T_sortOpenByDue_68 : decode prog_1_method_36_code 68 = .ok (.getfield 210, 3) := jx_dec c_T_sortOpenByDue_ok 34 rfl
theorem d_T_sortOpenByDue_71 : decode prog_1_method_36_code 71 = .ok (.if_icmp .le 9, 3) := jx_dec c_T_sortOpenByDue_ok 35 rfl
theorem d_T_sortOpenByDue_74 : decode prog_1_method_36_code 74 = .ok (.iinc 3 (-1), 3) := jx_dec c_T_sortOpenByDue_ok 36 rfl
theorem d_T_sortOpenByDue_77 : decode prog_1_method_36_code 77 = .ok (.goto (-30), 3) := jx_dec c_T_sortOpenByDue_ok 37 rfl
theorem d_T_sortOpenByDue_80 : decode prog_1_method_36_code 80 = .ok (.aload_n 0, 1) := jx_dec c_T_sortOpenByDue_ok 38 rfl
theorem d_T_sortOpenByDue_81 : decode prog_1_method_36_code 81 = .ok (.getfield 19, 3) := jx_dec c_T_sortOpenByDue_ok 39 rfl
theorem d_T_sortOpenByDue_84 : decode prog_1_method_36_code 84 = .ok (.iload_n 3, 1) := jx_dec c_T_sortOpenByDue_ok 40 rfl
theorem d_T_sortOpenByDue_85 : decode prog_1_method_36_code 85 = .ok (.aload_n 2, 1) := jx_dec c_T_sortOpenByDue_ok 41 rfl
theorem d_T_sortOpenByDue_86 : decode prog_1_method_36_code 86 = .ok (.invokevirtual 280, 3) := jx_dec c_T_sortOpenByDue_ok 42 rfl
theorem d_T_sortOpenByDue_89 : decode prog_1_method_36_code 89 = .ok (.iinc 1 1, 3) := jx_dec c_T_sortOpenByDue_ok 43 rfl
theorem d_T_sortOpenByDue_92 : decode prog_1_method_36_code 92 = .ok (.goto (-83), 3) := jx_dec c_T_sortOpenByDue_ok 44 rfl
theorem d_T_sortOpenByDue_95 : decode prog_1_method_36_code 95 = .ok (.return_, 1) := jx_dec c_T_sortOpenByDue_ok 45 rfl
def c_T_addToBestRow : List (Nat × Instr × Nat) := [(0, .iconst (-1), 1), (1, .istore_n 2, 1), (2, .iconst (-1), 1), (3, .istore_n 3, 1), (4, .iconst 0, 1), (5, .istore 4, 2), (7, .iconst 0, 1), (8, .istore 5, 2), (10, .iload 5, 2), (12, .aload_n 0, 1), (13, .getfield 10, 3), (16, .invokevirtual 41, 3), (19, .if_icmp .ge 107, 3), (22, .aload_n 0, 1), (23, .getfield 10, 3), (26, .iload 5, 2), (28, .invokevirtual 166, 3), (31, .checkcast 49, 3), (34, .astore 6, 2), (36, .aload 6, 2), (38, .aload_n 1, 1), (39, .invokevirtual 254, 3), (42, .ifCond .eq 26, 3), (45, .aload 6, 2), (47, .aload_n 1, 1), (48, .aload 6, 2), (50, .getfield 265, 3), (53, .aload 6, 2), (55, .getfield 268, 3), (58, .aload_n 0, 1), (59, .getfield 25, 3), (62, .invokevirtual 250, 3), (65, .goto 4, 3), (68, .iconst (-1), 1), (69, .istore 7, 2), (71, .iload 7, 2), (73, .iconst (-1), 1), (74, .if_icmp .ne 6, 3), (77, .goto 43, 3), (80, .iload_n 2, 1), (81, .iconst (-1), 1), (82, .if_icmp .eq 25, 3), (85, .iload 7, 2), (87, .iload_n 3, 1), (88, .if_icmp .lt 19, 3), (91, .iload 7, 2), (93, .iload_n 3, 1), (94, .if_icmp .ne 26, 3), (97, .aload 6, 2), (99, .getfield 271, 3), (102, .iload 4, 2), (104, .if_icmp .ge 16, 3), (107, .iload 5, 2), (109, .istore_n 2, 1), (110, .iload 7, 2), (112, .istore_n 3, 1), (113, .aload 6, 2), (115, .getfield 271, 3), (118, .istore 4, 2), (120, .iinc 5 1, 3), (123, .goto (-113), 3), (126, .iload_n 2, 1), (127, .iconst (-1), 1), (128, .if_icmp .eq 24, 3), (131, .aload_n 1, 1), (132, .iload_n 2, 1), (133, .iload_n 3, 1), (134, .invokevirtual 283, 3), (137, .aload_n 0, 1), (138, .getfield 10, 3), (141, .iload_n 2, 1), (142, .invokevirtual 166, 3), (145, .checkcast 49, 3), (148, .aload_n 1, 1), (149, .invokevirtual 286, 3), (152, .return_, 1)]
theorem c_T_addToBestRow_ok : (c_T_addToBestRow).all (fun q => decide (decode prog_1_method_37_code q.1 = .ok q.2)) = true := by decide +kernel
theorem d_T_addToBestRow_0 : decode prog_1_method_37_code 0 = .ok (.iconst (-1), 1) := jx_dec c_T_addToBestRow_ok 0 rfl
theorem d_T_addToBestRow_1 : decode prog_1_method_37_code 1 = .ok (.istore_n 2, 1) := jx_dec c_T_addToBestRow_ok 1 rfl
theorem d_T_addToBestRow_2 : decode prog_1_method_37_code 2 = .ok (.iconst (-1), 1) := jx_dec c_T_addToBestRow_ok 2 rfl
theorem d_T_addToBestRow_3 : decode prog_1_method_37_code 3 = .ok (.istore_n 3, 1) := jx_dec c_T_addToBestRow_ok 3 rfl
theorem d_T_addToBestRow_4 : decode prog_1_method_37_code 4 = .ok (.iconst 0, 1) := jx_dec c_T_addToBestRow_ok 4 rfl
theorem d_T_addToBestRow_5 : decode prog_1_method_37_code 5 = .ok (.istore 4, 2) := jx_dec c_T_addToBestRow_ok 5 rfl
theorem d_T_addToBestRow_7 : decode prog_1_method_37_code 7 = .ok (.iconst 0, 1) := jx_dec c_T_addToBestRow_ok 6 rfl
theorem d_T_addToBestRow_8 : decode prog_1_method_37_code 8 = .ok (.istore 5, 2) := jx_dec c_T_addToBestRow_ok 7 rfl
theorem d_T_addToBestRow_10 : decode prog_1_method_37_code 10 = .ok (.iload 5, 2) := jx_dec c_T_addToBestRow_ok 8 rfl
theorem d_T_addToBestRow_12 : decode prog_1_method_37_code 12 = .ok (.aload_n 0, 1) := jx_dec c_T_addToBestRow_ok 9 rfl
theorem d_T_addToBestRow_13 : decode prog_1_method_37_code 13 = .ok (.getfield 10, 3) := jx_dec c_T_addToBestRow_ok 10 rfl
theorem d_T_addToBestRow_16 : decode prog_1_method_37_code 16 = .ok (.invokevirtual 41, 3) := jx_dec c_T_addToBestRow_ok 11 rfl
theorem d_T_addToBestRow_19 : decode prog_1_method_37_code 19 = .ok (.if_icmp .ge 107, 3) := jx_dec c_T_addToBestRow_ok 12 rfl
theorem d_T_addToBestRow_22 : decode prog_1_method_37_code 22 = .ok (.aload_n 0, 1) := jx_dec c_T_addToBestRow_ok 13 rfl
theorem d_T_addToBestRow_23 : decode prog_1_method_37_code 23 = .ok (.getfield 10, 3) := jx_dec c_T_addToBestRow_ok 14 rfl
theorem d_T_addToBestRow_26 : decode prog_1_method_37_code 26 = .ok (.iload 5, 2) := jx_dec c_T_addToBestRow_ok 15 rfl
theorem d_T_addToBestRow_28 : decode prog_1_method_37_code 28 = .ok (.invokevirtual 166, 3) := jx_dec c_T_addToBestRow_ok 16 rfl
theorem d_T_addToBestRow_31 : decode prog_1_method_37_code 31 = .ok (.checkcast 49, 3) := jx_dec c_T_addToBestRow_ok 17 rfl
theorem d_T_addToBestRow_34 : decode prog_1_method_37_code 34 = .ok (.astore 6, 2) := jx_dec c_T_addToBestRow_ok 18 rfl
theorem d_T_addToBestRow_36 : decode prog_1_method_37_code 36 = .ok (.aload 6, 2) := jx_dec c_T_addToBestRow_ok 19 rfl
theorem d_T_addToBestRow_38 : decode prog_1_method_37_code 38 = .ok (.aload_n 1, 1) := jx_dec c_T_addToBestRow_ok 20 rfl
theorem d_T_addToBestRow_39 : decode prog_1_method_37_code 39 = .ok (.invokevirtual 254, 3) := jx_dec c_T_addToBestRow_ok 21 rfl
theorem d_T_addToBestRow_42 : decode prog_1_method_37_code 42 = .ok (.ifCond .eq 26, 3) := jx_dec c_T_addToBestRow_ok 22 rfl
theorem d_T_addToBestRow_45 : decode prog_1_method_37_code 45 = .ok (.aload 6, 2) := jx_dec c_T_addToBestRow_ok 23 rfl
theorem d_T_addToBestRow_47 : decode prog_1_method_37_code 47 = .ok (.aload_n 1, 1) := jx_dec c_T_addToBestRow_ok 24 rfl
theorem d_T_addToBestRow_48 : decode prog_1_method_37_code 48 = .ok (.aload 6, 2) := jx_dec c_T_addToBestRow_ok 25 rfl
theorem d_T_addToBestRow_50 : decode prog_1_method_37_code 50 = .ok (.getfield 265, 3) := jx_dec c_T_addToBestRow_ok 26 rfl
theorem d_T_addToBestRow_53 : decode prog_1_method_37_code 53 = .ok (.aload 6, 2) := jx_dec c_T_addToBestRow_ok 27 rfl
theorem d_T_addToBestRow_55 : decode prog_1_method_37_code 55 = .ok (.getfield 268, 3) := jx_dec c_T_addToBestRow_ok 28 rfl
theorem d_T_addToBestRow_58 : decode prog_1_method_37_code 58 = .ok (.aload_n 0, 1) := jx_dec c_T_addToBestRow_ok 29 rfl
theorem d_T_addToBestRow_59 : decode prog_1_method_37_code 59 = .ok (.getfield 25, 3) := jx_dec c_T_addToBestRow_ok 30 rfl
theorem d_T_addToBestRow_62 : decode prog_1_method_37_code 62 = .ok (.invokevirtual 250, 3) := jx_dec c_T_addToBestRow_ok 31 rfl
theorem d_T_addToBestRow_65 : decode prog_1_method_37_code 65 = .ok (.goto 4, 3) := jx_dec c_T_addToBestRow_ok 32 rfl
theorem d_T_addToBestRow_68 : decode prog_1_method_37_code 68 = .ok (.iconst (-1), 1) := jx_dec c_T_addToBestRow_ok 33 rfl
theorem d_T_addToBestRow_69 : decode prog_1_method_37_code 69 = .ok (.istore 7, 2) := jx_dec c_T_addToBestRow_ok 34 rfl
theorem d_T_addToBestRow_71 : decode prog_1_method_37_code 71 = .ok (.iload 7, 2) := jx_dec c_T_addToBestRow_ok 35 rfl
theorem d_T_addToBestRow_73 : decode prog_1_method_37_code 73 = .ok (.iconst (-1), 1) := jx_dec c_T_addToBestRow_ok 36 rfl
theorem d_T_addToBestRow_74 : decode prog_1_method_37_code 74 = .ok (.if_icmp .ne 6, 3) := jx_dec c_T_addToBestRow_ok 37 rfl
theorem d_T_addToBestRow_77 : decode prog_1_method_37_code 77 = .ok (.goto 43, 3) := jx_dec c_T_addToBestRow_ok 38 rfl
theorem d_T_addToBestRow_80 : decode prog_1_method_37_code 80 = .ok (.iload_n 2, 1) := jx_dec c_T_addToBestRow_ok 39 rfl
theorem d_T_addToBestRow_81 : decode prog_1_method_37_code 81 = .ok (.iconst (-1), 1) := jx_dec c_T_addToBestRow_ok 40 rfl
theorem d_T_addToBestRow_82 : decode prog_1_method_37_code 82 = .ok (.if_icmp .eq 25, 3) := jx_dec c_T_addToBestRow_ok 41 rfl
theorem d_T_addToBestRow_85 : decode prog_1_method_37_code 85 = .ok (.iload 7, 2) := jx_dec c_T_addToBestRow_ok 42 rfl
theorem d_T_addToBestRow_87 : decode prog_1_method_37_code 87 = .ok (.iload_n 3, 1) := jx_dec c_T_addToBestRow_ok 43 rfl
theorem d_T_addToBestRow_88 : decode prog_1_method_37_code 88 = .ok (.if_icmp .lt 19, 3) := jx_dec c_T_addToBestRow_ok 44 rfl
theorem d_T_addToBestRow_91 : decode prog_1_method_37_code 91 = .ok (.iload 7, 2) := jx_dec c_T_addToBestRow_ok 45 rfl
theorem d_T_addToBestRow_93 : decode prog_1_method_37_code 93 = .ok (.iload_n 3, 1) := jx_dec c_T_addToBestRow_ok 46 rfl
theorem d_T_addToBestRow_94 : decode prog_1_method_37_code 94 = .ok (.if_icmp .ne 26, 3) := jx_dec c_T_addToBestRow_ok 47 rfl
theorem d_T_addToBestRow_97 : decode prog_1_method_37_code 97 = .ok (.aload 6, 2) := jx_dec c_T_addToBestRow_ok 48 rfl
theorem d_T_addToBestRow_99 : decode prog_1_method_37_code 99 = .ok (.getfield 271, 3) := jx_dec c_T_addToBestRow_ok 49 rfl
theorem d_T_addToBestRow_102 : decode prog_1_method_37_code 102 = .ok (.iload 4, 2) := jx_dec c_T_addToBestRow_ok 50 rfl
theorem d_T_addToBestRow_104 : decode prog_1_method_37_code 104 = .ok (.if_icmp .ge 16, 3) := jx_dec c_T_addToBestRow_ok 51 rfl
theorem d_T_addToBestRow_107 : decode prog_1_method_37_code 107 = .ok (.iload 5, 2) := jx_dec c_T_addToBestRow_ok 52 rfl
theorem d_T_addToBestRow_109 : decode prog_1_method_37_code 109 = .ok (.istore_n 2, 1) := jx_dec c_T_addToBestRow_ok 53 rfl
theorem d_T_addToBestRow_110 : decode prog_1_method_37_code 110 = .ok (.iload 7, 2) := jx_dec c_T_addToBestRow_ok 54 rfl
theorem d_T_addToBestRow_112 : decode prog_1_method_37_code 112 = .ok (.istore_n 3, 1) := jx_dec c_T_addToBestRow_ok 55 rfl
theorem d_T_addToBestRow_113 : decode prog_1_method_37_code 113 = .ok (.aload 6, 2) := jx_dec c_T_addToBestRow_ok 56 rfl
theorem d_T_addToBestRow_115 : decode prog_1_method_37_code 115 = .ok (.getfield 271, 3) := jx_dec c_T_addToBestRow_ok 57 rfl
theorem d_T_addToBestRow_118 : decode prog_1_method_37_code 118 = .ok (.istore 4, 2) := jx_dec c_T_addToBestRow_ok 58 rfl
theorem d_T_addToBestRow_120 : decode prog_1_method_37_code 120 = .ok (.iinc 5 1, 3) := jx_dec c_T_addToBestRow_ok 59 rfl
theorem d_T_addToBestRow_123 : decode prog_1_method_37_code 123 = .ok (.goto (-113), 3) := jx_dec c_T_addToBestRow_ok 60 rfl
theorem d_T_addToBestRow_126 : decode prog_1_method_37_code 126 = .ok (.iload_n 2, 1) := jx_dec c_T_addToBestRow_ok 61 rfl
theorem d_T_addToBestRow_127 : decode prog_1_method_37_code 127 = .ok (.iconst (-1), 1) := jx_dec c_T_addToBestRow_ok 62 rfl
theorem d_T_addToBestRow_128 : decode prog_1_method_37_code 128 = .ok (.if_icmp .eq 24, 3) := jx_dec c_T_addToBestRow_ok 63 rfl
theorem d_T_addToBestRow_131 : decode prog_1_method_37_code 131 = .ok (.aload_n 1, 1) := jx_dec c_T_addToBestRow_ok 64 rfl
theorem d_T_addToBestRow_132 : decode prog_1_method_37_code 132 = .ok (.iload_n 2, 1) := jx_dec c_T_addToBestRow_ok 65 rfl
theorem d_T_addToBestRow_133 : decode prog_1_method_37_code 133 = .ok (.iload_n 3, 1) := jx_dec c_T_addToBestRow_ok 66 rfl
theorem d_T_addToBestRow_134 : decode prog_1_method_37_code 134 = .ok (.invokevirtual 283, 3) := jx_dec c_T_addToBestRow_ok 67 rfl
theorem d_T_addToBestRow_137 : decode prog_1_method_37_code 137 = .ok (.aload_n 0, 1) := jx_dec c_T_addToBestRow_ok 68 rfl
theorem d_T_addToBestRow_138 : decode prog_1_method_37_code 138 = .ok (.getfield 10, 3) := jx_dec c_T_addToBestRow_ok 69 rfl
theorem d_T_addToBestRow_141 : decode prog_1_method_37_code 141 = .ok (.iload_n 2, 1) := jx_dec c_T_addToBestRow_ok 70 rfl
theorem d_T_addToBestRow_142 : decode prog_1_method_37_code 142 = .ok (.invokevirtual 166, 3) := jx_dec c_T_addToBestRow_ok 71 rfl
theorem d_T_addToBestRow_145 : decode prog_1_method_37_code 145 = .ok (.checkcast 49, 3) := jx_dec c_T_addToBestRow_ok 72 rfl
theorem d_T_addToBestRow_148 : decode prog_1_method_37_code 148 = .ok (.aload_n 1, 1) := jx_dec c_T_addToBestRow_ok 73 rfl
theorem d_T_addToBestRow_149 : decode prog_1_method_37_code 149 = .ok (.invokevirtual 286, 3) := jx_dec c_T_addToBestRow_ok 74 rfl
theorem d_T_addToBestRow_152 : decode prog_1_method_37_code 152 = .ok (.return_, 1) := jx_dec c_T_addToBestRow_ok 75 rfl
def c_T_give : List (Nat × Instr × Nat) := [(0, .aload_n 0, 1), (1, .iload_n 1, 1), (2, .invokevirtual 62, 3), (5, .astore_n 2, 1), (6, .aload_n 0, 1), (7, .aload_n 2, 1), (8, .invokevirtual 177, 3), (11, .aload_n 0, 1), (12, .aload_n 2, 1), (13, .getfield 58, 3), (16, .iconst 0, 1), (17, .invokevirtual 181, 3), (20, .istore_n 3, 1), (21, .iload_n 3, 1), (22, .iconst (-1), 1), (23, .if_icmp .eq 24, 3), (26, .aload_n 0, 1), (27, .getfield 16, 3), (30, .iload_n 3, 1), (31, .invokevirtual 166, 3), (34, .checkcast 98, 3), (37, .getfield 185, 3), (40, .aload_n 0, 1), (41, .getfield 153, 3), (44, .if_icmp .le 5, 3), (47, .iconst (-1), 1), (48, .ireturn, 1), (49, .aload_n 0, 1), (50, .getfield 16, 3), (53, .iload_n 3, 1), (54, .invokevirtual 166, 3), (57, .checkcast 98, 3), (60, .astore 4, 2), (62, .aload 4, 2), (64, .iconst 1, 1), (65, .putfield 170, 3), (68, .aload 4, 2), (70, .aload_n 0, 1), (71, .getfield 153, 3), (74, .putfield 185, 3), (77, .aload_n 2, 1), (78, .iload_n 3, 1), (79, .putfield 188, 3), (82, .aload_n 2, 1), (83, .aload_n 0, 1), (84, .getfield 153, 3), (87, .aload 4, 2), (89, .getfield 191, 3), (92, .iadd, 1), (93, .putfield 194, 3), (96, .aload_n 2, 1), (97, .aload 4, 2), (99, .getfield 197, 3), (102, .putfield 200, 3), (105, .iload_n 3, 1), (106, .ireturn, 1)]
theorem c_T_give_ok : (c_T_give).all (fun q => decide (decode prog_1_method_12_code q.1 = .ok q.2)) = true := by decide +kernel
theorem d_T_give_0 : decode prog_1_method_12_code 0 = .ok (.aload_n 0, 1) := jx_dec c_T_give_ok 0 rfl
theorem d_T_give_1 : decode prog_1_method_12_code 1 = .ok (.iload_n 1, 1) := jx_dec c_T_give_ok 1 rfl
theorem d_T_give_2 : decode prog_1_method_12_code 2 = .ok (.invokevirtual 62, 3) := jx_dec c_T_give_ok 2 rfl
theorem d_T_give_5 : decode prog_1_method_12_code 5 = .ok (.astore_n 2, 1) := jx_dec c_T_give_ok 3 rfl
theorem d_T_give_6 : decode prog_1_method_12_code 6 = .ok (.aload_n 0, 1) := jx_dec c_T_give_ok 4 rfl
theorem d_T_give_7 : decode prog_1_method_12_code 7 = .ok (.aload_n 2, 1) := jx_dec c_T_give_ok 5 rfl
theorem d_T_give_8 : decode prog_1_method_12_code 8 = .ok (.invokevirtual 177, 3) := jx_dec c_T_give_ok 6 rfl
theorem d_T_give_11 : decode prog_1_method_12_code 11 = .ok (.aload_n 0, 1) := jx_dec c_T_give_ok 7 rfl
theorem d_T_give_12 : decode prog_1_method_12_code 12 = .ok (.aload_n 2, 1) := jx_dec c_T_give_ok 8 rfl
theorem d_T_give_13 : decode prog_1_method_12_code 13 = .ok (.getfield 58, 3) := jx_dec c_T_give_ok 9 rfl
theorem d_T_give_16 : decode prog_1_method_12_code 16 = .ok (.iconst 0, 1) := jx_dec c_T_give_ok 10 rfl
theorem d_T_give_17 : decode prog_1_method_12_code 17 = .ok (.invokevirtual 181, 3) := jx_dec c_T_give_ok 11 rfl
theorem d_T_give_20 : decode prog_1_method_12_code 20 = .ok (.istore_n 3, 1) := jx_dec c_T_give_ok 12 rfl
theorem d_T_give_21 : decode prog_1_method_12_code 21 = .ok (.iload_n 3, 1) := jx_dec c_T_give_ok 13 rfl
theorem d_T_give_22 : decode prog_1_method_12_code 22 = .ok (.iconst (-1), 1) := jx_dec c_T_give_ok 14 rfl
theorem d_T_give_23 : decode prog_1_method_12_code 23 = .ok (.if_icmp .eq 24, 3) := jx_dec c_T_give_ok 15 rfl
theorem d_T_give_26 : decode prog_1_method_12_code 26 = .ok (.aload_n 0, 1) := jx_dec c_T_give_ok 16 rfl
theorem d_T_give_27 : decode prog_1_method_12_code 27 = .ok (.getfield 16, 3) := jx_dec c_T_give_ok 17 rfl
theorem d_T_give_30 : decode prog_1_method_12_code 30 = .ok (.iload_n 3, 1) := jx_dec c_T_give_ok 18 rfl
theorem d_T_give_31 : decode prog_1_method_12_code 31 = .ok (.invokevirtual 166, 3) := jx_dec c_T_give_ok 19 rfl
theorem d_T_give_34 : decode prog_1_method_12_code 34 = .ok (.checkcast 98, 3) := jx_dec c_T_give_ok 20 rfl
theorem d_T_give_37 : decode prog_1_method_12_code 37 = .ok (.getfield 185, 3) := jx_dec c_T_give_ok 21 rfl
theorem d_T_give_40 : decode prog_1_method_12_code 40 = .ok (.aload_n 0, 1) := jx_dec c_T_give_ok 22 rfl
theorem d_T_give_41 : decode prog_1_method_12_code 41 = .ok (.getfield 153, 3) := jx_dec c_T_give_ok 23 rfl
theorem d_T_give_44 : decode prog_1_method_12_code 44 = .ok (.if_icmp .le 5, 3) := jx_dec c_T_give_ok 24 rfl
theorem d_T_give_47 : decode prog_1_method_12_code 47 = .ok (.iconst (-1), 1) := jx_dec c_T_give_ok 25 rfl
theorem d_T_give_48 : decode prog_1_method_12_code 48 = .ok (.ireturn, 1) := jx_dec c_T_give_ok 26 rfl
theorem d_T_give_49 : decode prog_1_method_12_code 49 = .ok (.aload_n 0, 1) := jx_dec c_T_give_ok 27 rfl
theorem d_T_give_50 : decode prog_1_method_12_code 50 = .ok (.getfield 16, 3) := jx_dec c_T_give_ok 28 rfl
theorem d_T_give_53 : decode prog_1_method_12_code 53 = .ok (.iload_n 3, 1) := jx_dec c_T_give_ok 29 rfl
theorem d_T_give_54 : decode prog_1_method_12_code 54 = .ok (.invokevirtual 166, 3) := jx_dec c_T_give_ok 30 rfl
theorem d_T_give_57 : decode prog_1_method_12_code 57 = .ok (.checkcast 98, 3) := jx_dec c_T_give_ok 31 rfl
theorem d_T_give_60 : decode prog_1_method_12_code 60 = .ok (.astore 4, 2) := jx_dec c_T_give_ok 32 rfl
theorem d_T_give_62 : decode prog_1_method_12_code 62 = .ok (.aload 4, 2) := jx_dec c_T_give_ok 33 rfl
theorem d_T_give_64 : decode prog_1_method_12_code 64 = .ok (.iconst 1, 1) := jx_dec c_T_give_ok 34 rfl
theorem d_T_give_65 : decode prog_1_method_12_code 65 = .ok (.putfield 170, 3) := jx_dec c_T_give_ok 35 rfl
theorem d_T_give_68 : decode prog_1_method_12_code 68 = .ok (.aload 4, 2) := jx_dec c_T_give_ok 36 rfl
theorem d_T_give_70 : decode prog_1_method_12_code 70 = .ok (.aload_n 0, 1) := jx_dec c_T_give_ok 37 rfl
theorem d_T_give_71 : decode prog_1_method_12_code 71 = .ok (.getfield 153, 3) := jx_dec c_T_give_ok 38 rfl
theorem d_T_give_74 : decode prog_1_method_12_code 74 = .ok (.putfield 185, 3) := jx_dec c_T_give_ok 39 rfl
theorem d_T_give_77 : decode prog_1_method_12_code 77 = .ok (.aload_n 2, 1) := jx_dec c_T_give_ok 40 rfl
theorem d_T_give_78 : decode prog_1_method_12_code 78 = .ok (.iload_n 3, 1) := jx_dec c_T_give_ok 41 rfl
theorem d_T_give_79 : decode prog_1_method_12_code 79 = .ok (.putfield 188, 3) := jx_dec c_T_give_ok 42 rfl
theorem d_T_give_82 : decode prog_1_method_12_code 82 = .ok (.aload_n 2, 1) := jx_dec c_T_give_ok 43 rfl
theorem d_T_give_83 : decode prog_1_method_12_code 83 = .ok (.aload_n 0, 1) := jx_dec c_T_give_ok 44 rfl
theorem d_T_give_84 : decode prog_1_method_12_code 84 = .ok (.getfield 153, 3) := jx_dec c_T_give_ok 45 rfl
theorem d_T_give_87 : decode prog_1_method_12_code 87 = .ok (.aload 4, 2) := jx_dec c_T_give_ok 46 rfl
theorem d_T_give_89 : decode prog_1_method_12_code 89 = .ok (.getfield 191, 3) := jx_dec c_T_give_ok 47 rfl
theorem d_T_give_92 : decode prog_1_method_12_code 92 = .ok (.iadd, 1) := jx_dec c_T_give_ok 48 rfl
theorem d_T_give_93 : decode prog_1_method_12_code 93 = .ok (.putfield 194, 3) := jx_dec c_T_give_ok 49 rfl
theorem d_T_give_96 : decode prog_1_method_12_code 96 = .ok (.aload_n 2, 1) := jx_dec c_T_give_ok 50 rfl
theorem d_T_give_97 : decode prog_1_method_12_code 97 = .ok (.aload 4, 2) := jx_dec c_T_give_ok 51 rfl
theorem d_T_give_99 : decode prog_1_method_12_code 99 = .ok (.getfield 197, 3) := jx_dec c_T_give_ok 52 rfl
theorem d_T_give_102 : decode prog_1_method_12_code 102 = .ok (.putfield 200, 3) := jx_dec c_T_give_ok 53 rfl
theorem d_T_give_105 : decode prog_1_method_12_code 105 = .ok (.iload_n 3, 1) := jx_dec c_T_give_ok 54 rfl
theorem d_T_give_106 : decode prog_1_method_12_code 106 = .ok (.ireturn, 1) := jx_dec c_T_give_ok 55 rfl
def c_T_needAtWork : List (Nat × Instr × Nat) := [(0, .aload_n 1, 1), (1, .getfield 133, 3), (4, .ifCond .eq 11, 3), (7, .aload_n 1, 1), (8, .getfield 188, 3), (11, .iconst (-1), 1), (12, .if_icmp .eq 13, 3), (15, .new 82, 3), (18, .dup, 1), (19, .ldc 233, 2), (21, .invokespecial 86, 3), (24, .athrow, 1), (25, .aload_n 0, 1), (26, .getfield 153, 3), (29, .aload_n 1, 1), (30, .getfield 66, 3), (33, .if_icmp .lt 14, 3), (36, .aload_n 0, 1), (37, .getfield 153, 3), (40, .aload_n 1, 1), (41, .getfield 69, 3), (44, .if_icmp .lt 7, 3), (47, .iconst 1, 1), (48, .goto 4, 3), (51, .iconst 0, 1), (52, .istore_n 2, 1), (53, .aload_n 0, 1), (54, .getfield 153, 3), (57, .aload_n 1, 1), (58, .getfield 72, 3), (61, .if_icmp .lt 18, 3), (64, .aload_n 0, 1), (65, .getfield 153, 3), (68, .aload_n 1, 1), (69, .getfield 75, 3), (72, .if_icmp .ge 7, 3), (75, .iconst 1, 1), (76, .goto 4, 3), (79, .iconst 0, 1), (80, .istore_n 3, 1), (81, .iload_n 2, 1), (82, .ifCond .ne 7, 3), (85, .iload_n 3, 1), (86, .ifCond .eq 13, 3), (89, .new 82, 3), (92, .dup, 1), (93, .ldc 235, 2), (95, .invokespecial 86, 3), (98, .athrow, 1), (99, .return_, 1)]
theorem c_T_needAtWork_ok : (c_T_needAtWork).all (fun q => decide (decode prog_1_method_26_code q.1 = .ok q.2)) = true := by decide +kernel
theorem d_T_needAtWork_0 : decode prog_1_method_26_code 0 = .ok (.aload_n 1, 1) := jx_dec c_T_needAtWork_ok 0 rfl
theorem d_T_needAtWork_1 : decode prog_1_method_26_code 1 = .ok (.getfield 133, 3) := jx_dec c_T_needAtWork_ok 1 rfl
theorem d_T_needAtWork_4 : decode prog_1_method_26_code 4 = .ok (.ifCond .eq 11, 3) := jx_dec c_T_needAtWork_ok 2 rfl
theorem d_T_needAtWork_7 : decode prog_1_method_26_code 7 = .ok (.aload_n 1, 1) := jx_dec c_T_needAtWork_ok 3 rfl
theorem d_T_needAtWork_8 : decode prog_1_method_26_code 8 = .ok (.getfield 188, 3) := jx_dec c_T_needAtWork_ok 4 rfl
theorem d_T_needAtWork_11 : decode prog_1_method_26_code 11 = .ok (.iconst (-1), 1) := jx_dec c_T_needAtWork_ok 5 rfl
theorem d_T_needAtWork_12 : decode prog_1_method_26_code 12 = .ok (.if_icmp .eq 13, 3) := jx_dec c_T_needAtWork_ok 6 rfl
theorem d_T_needAtWork_15 : decode prog_1_method_26_code 15 = .ok (.new 82, 3) := jx_dec c_T_needAtWork_ok 7 rfl
theorem d_T_needAtWork_18 : decode prog_1_method_26_code 18 = .ok (.dup, 1) := jx_dec c_T_needAtWork_ok 8 rfl
theorem d_T_needAtWork_19 : decode prog_1_method_26_code 19 = .ok (.ldc 233, 2) := jx_dec c_T_needAtWork_ok 9 rfl
theorem d_T_needAtWork_21 : decode prog_1_method_26_code 21 = .ok (.invokespecial 86, 3) := jx_dec c_T_needAtWork_ok 10 rfl
theorem d_T_needAtWork_24 : decode prog_1_method_26_code 24 = .ok (.athrow, 1) := jx_dec c_T_needAtWork_ok 11 rfl
theorem d_T_needAtWork_25 : decode prog_1_method_26_code 25 = .ok (.aload_n 0, 1) := jx_dec c_T_needAtWork_ok 12 rfl
theorem d_T_needAtWork_26 : decode prog_1_method_26_code 26 = .ok (.getfield 153, 3) := jx_dec c_T_needAtWork_ok 13 rfl
theorem d_T_needAtWork_29 : decode prog_1_method_26_code 29 = .ok (.aload_n 1, 1) := jx_dec c_T_needAtWork_ok 14 rfl
theorem d_T_needAtWork_30 : decode prog_1_method_26_code 30 = .ok (.getfield 66, 3) := jx_dec c_T_needAtWork_ok 15 rfl
theorem d_T_needAtWork_33 : decode prog_1_method_26_code 33 = .ok (.if_icmp .lt 14, 3) := jx_dec c_T_needAtWork_ok 16 rfl
theorem d_T_needAtWork_36 : decode prog_1_method_26_code 36 = .ok (.aload_n 0, 1) := jx_dec c_T_needAtWork_ok 17 rfl
theorem d_T_needAtWork_37 : decode prog_1_method_26_code 37 = .ok (.getfield 153, 3) := jx_dec c_T_needAtWork_ok 18 rfl
theorem d_T_needAtWork_40 : decode prog_1_method_26_code 40 = .ok (.aload_n 1, 1) := jx_dec c_T_needAtWork_ok 19 rfl
theorem d_T_needAtWork_41 : decode prog_1_method_26_code 41 = .ok (.getfield 69, 3) := jx_dec c_T_needAtWork_ok 20 rfl
theorem d_T_needAtWork_44 : decode prog_1_method_26_code 44 = .ok (.if_icmp .lt 7, 3) := jx_dec c_T_needAtWork_ok 21 rfl
theorem d_T_needAtWork_47 : decode prog_1_method_26_code 47 = .ok (.iconst 1, 1) := jx_dec c_T_needAtWork_ok 22 rfl
theorem d_T_needAtWork_48 : decode prog_1_method_26_code 48 = .ok (.goto 4, 3) := jx_dec c_T_needAtWork_ok 23 rfl
theorem d_T_needAtWork_51 : decode prog_1_method_26_code 51 = .ok (.iconst 0, 1) := jx_dec c_T_needAtWork_ok 24 rfl
theorem d_T_needAtWork_52 : decode prog_1_method_26_code 52 = .ok (.istore_n 2, 1) := jx_dec c_T_needAtWork_ok 25 rfl
theorem d_T_needAtWork_53 : decode prog_1_method_26_code 53 = .ok (.aload_n 0, 1) := jx_dec c_T_needAtWork_ok 26 rfl
theorem d_T_needAtWork_54 : decode prog_1_method_26_code 54 = .ok (.getfield 153, 3) := jx_dec c_T_needAtWork_ok 27 rfl
theorem d_T_needAtWork_57 : decode prog_1_method_26_code 57 = .ok (.aload_n 1, 1) := jx_dec c_T_needAtWork_ok 28 rfl
theorem d_T_needAtWork_58 : decode prog_1_method_26_code 58 = .ok (.getfield 72, 3) := jx_dec c_T_needAtWork_ok 29 rfl
theorem d_T_needAtWork_61 : decode prog_1_method_26_code 61 = .ok (.if_icmp .lt 18, 3) := jx_dec c_T_needAtWork_ok 30 rfl
theorem d_T_needAtWork_64 : decode prog_1_method_26_code 64 = .ok (.aload_n 0, 1) := jx_dec c_T_needAtWork_ok 31 rfl
theorem d_T_needAtWork_65 : decode prog_1_method_26_code 65 = .ok (.getfield 153, 3) := jx_dec c_T_needAtWork_ok 32 rfl
theorem d_T_needAtWork_68 : decode prog_1_method_26_code 68 = .ok (.aload_n 1, 1) := jx_dec c_T_needAtWork_ok 33 rfl
theorem d_T_needAtWork_69 : decode prog_1_method_26_code 69 = .ok (.getfield 75, 3) := jx_dec c_T_needAtWork_ok 34 rfl
theorem d_T_needAtWork_72 : decode prog_1_method_26_code 72 = .ok (.if_icmp .ge 7, 3) := jx_dec c_T_needAtWork_ok 35 rfl
theorem d_T_needAtWork_75 : decode prog_1_method_26_code 75 = .ok (.iconst 1, 1) := jx_dec c_T_needAtWork_ok 36 rfl
theorem d_T_needAtWork_76 : decode prog_1_method_26_code 76 = .ok (.goto 4, 3) := jx_dec c_T_needAtWork_ok 37 rfl
theorem d_T_needAtWork_79 : decode prog_1_method_26_code 79 = .ok (.iconst 0, 1) := jx_dec c_T_needAtWork_ok 38 rfl
theorem d_T_needAtWork_80 : decode prog_1_method_26_code 80 = .ok (.istore_n 3, 1) := jx_dec c_T_needAtWork_ok 39 rfl
theorem d_T_needAtWork_81 : decode prog_1_method_26_code 81 = .ok (.iload_n 2, 1) := jx_dec c_T_needAtWork_ok 40 rfl
theorem d_T_needAtWork_82 : decode prog_1_method_26_code 82 = .ok (.ifCond .ne 7, 3) := jx_dec c_T_needAtWork_ok 41 rfl
theorem d_T_needAtWork_85 : decode prog_1_method_26_code 85 = .ok (.iload_n 3, 1) := jx_dec c_T_needAtWork_ok 42 rfl
theorem d_T_needAtWork_86 : decode prog_1_method_26_code 86 = .ok (.ifCond .eq 13, 3) := jx_dec c_T_needAtWork_ok 43 rfl
theorem d_T_needAtWork_89 : decode prog_1_method_26_code 89 = .ok (.new 82, 3) := jx_dec c_T_needAtWork_ok 44 rfl
theorem d_T_needAtWork_92 : decode prog_1_method_26_code 92 = .ok (.dup, 1) := jx_dec c_T_needAtWork_ok 45 rfl
theorem d_T_needAtWork_93 : decode prog_1_method_26_code 93 = .ok (.ldc 235, 2) := jx_dec c_T_needAtWork_ok 46 rfl
theorem d_T_needAtWork_95 : decode prog_1_method_26_code 95 = .ok (.invokespecial 86, 3) := jx_dec c_T_needAtWork_ok 47 rfl
theorem d_T_needAtWork_98 : decode prog_1_method_26_code 98 = .ok (.athrow, 1) := jx_dec c_T_needAtWork_ok 48 rfl
theorem d_T_needAtWork_99 : decode prog_1_method_26_code 99 = .ok (.return_, 1) := jx_dec c_T_needAtWork_ok 49 rfl
def c_T_plannedTask : List (Nat × Instr × Nat) := [(0, .iconst 0, 1), (1, .istore_n 3, 1), (2, .iload_n 3, 1), (3, .aload_n 0, 1), (4, .getfield 16, 3), (7, .invokevirtual 41, 3), (10, .if_icmp .ge 49, 3), (13, .aload_n 0, 1), (14, .getfield 16, 3), (17, .iload_n 3, 1), (18, .invokevirtual 166, 3), (21, .checkcast 98, 3), (24, .iload_n 1, 1), (25, .iconst 0, 1), (26, .invokevirtual 237, 3), (29, .ifCond .eq 24, 3), (32, .aload_n 0, 1), (33, .aload_n 0, 1), (34, .getfield 16, 3), (37, .iload_n 3, 1), (38, .invokevirtual 166, 3), (41, .checkcast 98, 3), (44, .invokevirtual 244, 3), (47, .iload_n 2, 1), (48, .if_icmp .ne 5, 3), (51, .iload_n 3, 1), (52, .ireturn, 1), (53, .iinc 3 1, 3), (56, .goto (-54), 3), (59, .iconst (-1), 1), (60, .ireturn, 1)]
theorem c_T_plannedTask_ok : (c_T_plannedTask).all (fun q => decide (decode prog_1_method_30_code q.1 = .ok q.2)) = true := by decide +kernel
theorem d_T_plannedTask_0 : decode prog_1_method_30_code 0 = .ok (.iconst 0, 1) := jx_dec c_T_plannedTask_ok 0 rfl
theorem d_T_plannedTask_1 : decode prog_1_method_30_code 1 = .ok (.istore_n 3, 1) := jx_dec c_T_plannedTask_ok 1 rfl
theorem d_T_plannedTask_2 : decode prog_1_method_30_code 2 = .ok (.iload_n 3, 1) := jx_dec c_T_plannedTask_ok 2 rfl
theorem d_T_plannedTask_3 : decode prog_1_method_30_code 3 = .ok (.aload_n 0, 1) := jx_dec c_T_plannedTask_ok 3 rfl
theorem d_T_plannedTask_4 : decode prog_1_method_30_code 4 = .ok (.getfield 16, 3) := jx_dec c_T_plannedTask_ok 4 rfl
theorem d_T_plannedTask_7 : decode prog_1_method_30_code 7 = .ok (.invokevirtual 41, 3) := jx_dec c_T_plannedTask_ok 5 rfl
theorem d_T_plannedTask_10 : decode prog_1_method_30_code 10 = .ok (.if_icmp .ge 49, 3) := jx_dec c_T_plannedTask_ok 6 rfl
theorem d_T_plannedTask_13 : decode prog_1_method_30_code 13 = .ok (.aload_n 0, 1) := jx_dec c_T_plannedTask_ok 7 rfl
theorem d_T_plannedTask_14 : decode prog_1_method_30_code 14 = .ok (.getfield 16, 3) := jx_dec c_T_plannedTask_ok 8 rfl
theorem d_T_plannedTask_17 : decode prog_1_method_30_code 17 = .ok (.iload_n 3, 1) := jx_dec c_T_plannedTask_ok 9 rfl
theorem d_T_plannedTask_18 : decode prog_1_method_30_code 18 = .ok (.invokevirtual 166, 3) := jx_dec c_T_plannedTask_ok 10 rfl
theorem d_T_plannedTask_21 : decode prog_1_method_30_code 21 = .ok (.checkcast 98, 3) := jx_dec c_T_plannedTask_ok 11 rfl
theorem d_T_plannedTask_24 : decode prog_1_method_30_code 24 = .ok (.iload_n 1, 1) := jx_dec c_T_plannedTask_ok 12 rfl
theorem d_T_plannedTask_25 : decode prog_1_method_30_code 25 = .ok (.iconst 0, 1) := jx_dec c_T_plannedTask_ok 13 rfl
theorem d_T_plannedTask_26 : decode prog_1_method_30_code 26 = .ok (.invokevirtual 237, 3) := jx_dec c_T_plannedTask_ok 14 rfl
theorem d_T_plannedTask_29 : decode prog_1_method_30_code 29 = .ok (.ifCond .eq 24, 3) := jx_dec c_T_plannedTask_ok 15 rfl
theorem d_T_plannedTask_32 : decode prog_1_method_30_code 32 = .ok (.aload_n 0, 1) := jx_dec c_T_plannedTask_ok 16 rfl
theorem d_T_plannedTask_33 : decode prog_1_method_30_code 33 = .ok (.aload_n 0, 1) := jx_dec c_T_plannedTask_ok 17 rfl
theorem d_T_plannedTask_34 : decode prog_1_method_30_code 34 = .ok (.getfield 16, 3) := jx_dec c_T_plannedTask_ok 18 rfl
theorem d_T_plannedTask_37 : decode prog_1_method_30_code 37 = .ok (.iload_n 3, 1) := jx_dec c_T_plannedTask_ok 19 rfl
theorem d_T_plannedTask_38 : decode prog_1_method_30_code 38 = .ok (.invokevirtual 166, 3) := jx_dec c_T_plannedTask_ok 20 rfl
theorem d_T_plannedTask_41 : decode prog_1_method_30_code 41 = .ok (.checkcast 98, 3) := jx_dec c_T_plannedTask_ok 21 rfl
theorem d_T_plannedTask_44 : decode prog_1_method_30_code 44 = .ok (.invokevirtual 244, 3) := jx_dec c_T_plannedTask_ok 22 rfl
theorem d_T_plannedTask_47 : decode prog_1_method_30_code 47 = .ok (.iload_n 2, 1) := jx_dec c_T_plannedTask_ok 23 rfl
theorem d_T_plannedTask_48 : decode prog_1_method_30_code 48 = .ok (.if_icmp .ne 5, 3) := jx_dec c_T_plannedTask_ok 24 rfl
theorem d_T_plannedTask_51 : decode prog_1_method_30_code 51 = .ok (.iload_n 3, 1) := jx_dec c_T_plannedTask_ok 25 rfl
theorem d_T_plannedTask_52 : decode prog_1_method_30_code 52 = .ok (.ireturn, 1) := jx_dec c_T_plannedTask_ok 26 rfl
theorem d_T_plannedTask_53 : decode prog_1_method_30_code 53 = .ok (.iinc 3 1, 3) := jx_dec c_T_plannedTask_ok 27 rfl
theorem d_T_plannedTask_56 : decode prog_1_method_30_code 56 = .ok (.goto (-54), 3) := jx_dec c_T_plannedTask_ok 28 rfl
theorem d_T_plannedTask_59 : decode prog_1_method_30_code 59 = .ok (.iconst (-1), 1) := jx_dec c_T_plannedTask_ok 29 rfl
theorem d_T_plannedTask_60 : decode prog_1_method_30_code 60 = .ok (.ireturn, 1) := jx_dec c_T_plannedTask_ok 30 rfl
def c_T_plannedBefore : List (Nat × Instr × Nat) := [(0, .iconst 0, 1), (1, .istore_n 2, 1), (2, .iconst 0, 1), (3, .istore_n 3, 1), (4, .iload_n 3, 1), (5, .aload_n 0, 1), (6, .getfield 16, 3), (9, .invokevirtual 41, 3), (12, .if_icmp .ge 82, 3), (15, .aload_n 0, 1), (16, .getfield 16, 3), (19, .iload_n 3, 1), (20, .invokevirtual 166, 3), (23, .checkcast 98, 3), (26, .astore 4, 2), (28, .aload 4, 2), (30, .getfield 185, 3), (33, .aload_n 1, 1), (34, .getfield 185, 3), (37, .if_icmp .lt 23, 3), (40, .aload 4, 2), (42, .getfield 185, 3), (45, .aload_n 1, 1), (46, .getfield 185, 3), (49, .if_icmp .ne 15, 3), (52, .iload_n 3, 1), (53, .aload_n 1, 1), (54, .getfield 101, 3), (57, .if_icmp .ge 7, 3), (60, .iconst 1, 1), (61, .goto 4, 3), (64, .iconst 0, 1), (65, .istore 5, 2), (67, .iload 5, 2), (69, .ifCond .eq 19, 3), (72, .aload 4, 2), (74, .aload_n 1, 1), (75, .getfield 127, 3), (78, .iconst 0, 1), (79, .invokevirtual 237, 3), (82, .ifCond .eq 6, 3), (85, .iinc 2 1, 3), (88, .iinc 3 1, 3), (91, .goto (-87), 3), (94, .iload_n 2, 1), (95, .ireturn, 1)]
theorem c_T_plannedBefore_ok : (c_T_plannedBefore).all (fun q => decide (decode prog_1_method_31_code q.1 = .ok q.2)) = true := by decide +kernel
theorem d_T_plannedBefore_0 : decode prog_1_method_31_code 0 = .ok (.iconst 0, 1) := jx_dec c_T_plannedBefore_ok 0 rfl
theorem d_T_plannedBefore_1 : decode prog_1_method_31_code 1 = .ok (.istore_n 2, 1) := jx_dec c_T_plannedBefore_ok 1 rfl
theorem d_T_plannedBefore_2 : decode prog_1_method_31_code 2 = .ok (.iconst 0, 1) := jx_dec c_T_plannedBefore_ok 2 rfl
theorem d_T_plannedBefore_3 : decode prog_1_method_31_code 3 = .ok (.istore_n 3, 1) := jx_dec c_T_plannedBefore_ok 3 rfl
theorem d_T_plannedBefore_4 : decode prog_1_method_31_code 4 = .ok (.iload_n 3, 1) := jx_dec c_T_plannedBefore_ok 4 rfl
theorem d_T_plannedBefore_5 : decode prog_1_method_31_code 5 = .ok (.aload_n 0, 1) := jx_dec c_T_plannedBefore_ok 5 rfl
theorem d_T_plannedBefore_6 : decode prog_1_method_31_code 6 = .ok (.getfield 16, 3) := jx_dec c_T_plannedBefore_ok 6 rfl
theorem d_T_plannedBefore_9 : decode prog_1_method_31_code 9 = .ok (.invokevirtual 41, 3) := jx_dec c_T_plannedBefore_ok 7 rfl
theorem d_T_plannedBefore_12 : decode prog_1_method_31_code 12 = .ok (.if_icmp .ge 82, 3) := jx_dec c_T_plannedBefore_ok 8 rfl
theorem d_T_plannedBefore_15 : decode prog_1_method_31_code 15 = .ok (.aload_n 0, 1) := jx_dec c_T_plannedBefore_ok 9 rfl
theorem d_T_plannedBefore_16 : decode prog_1_method_31_code 16 = .ok (.getfield 16, 3) := jx_dec c_T_plannedBefore_ok 10 rfl
theorem d_T_plannedBefore_19 : decode prog_1_method_31_code 19 = .ok (.iload_n 3, 1) := jx_dec c_T_plannedBefore_ok 11 rfl
theorem d_T_plannedBefore_20 : decode prog_1_method_31_code 20 = .ok (.invokevirtual 166, 3) := jx_dec c_T_plannedBefore_ok 12 rfl
theorem d_T_plannedBefore_23 : decode prog_1_method_31_code 23 = .ok (.checkcast 98, 3) := jx_dec c_T_plannedBefore_ok 13 rfl
theorem d_T_plannedBefore_26 : decode prog_1_method_31_code 26 = .ok (.astore 4, 2) := jx_dec c_T_plannedBefore_ok 14 rfl
theorem d_T_plannedBefore_28 : decode prog_1_method_31_code 28 = .ok (.aload 4, 2) := jx_dec c_T_plannedBefore_ok 15 rfl
theorem d_T_plannedBefore_30 : decode prog_1_method_31_code 30 = .ok (.getfield 185, 3) := jx_dec c_T_plannedBefore_ok 16 rfl
theorem d_T_plannedBefore_33 : decode prog_1_method_31_code 33 = .ok (.aload_n 1, 1) := jx_dec c_T_plannedBefore_ok 17 rfl
theorem d_T_plannedBefore_34 : decode prog_1_method_31_code 34 = .ok (.getfield 185, 3) := jx_dec c_T_plannedBefore_ok 18 rfl
theorem d_T_plannedBefore_37 : decode prog_1_method_31_code 37 = .ok (.if_icmp .lt 23, 3) := jx_dec c_T_plannedBefore_ok 19 rfl
theorem d_T_plannedBefore_40 : decode prog_1_method_31_code 40 = .ok (.aload 4, 2) := jx_dec c_T_plannedBefore_ok 20 rfl
theorem d_T_plannedBefore_42 : decode prog_1_method_31_code 42 = .ok (.getfield 185, 3) := jx_dec c_T_plannedBefore_ok 21 rfl
theorem d_T_plannedBefore_45 : decode prog_1_method_31_code 45 = .ok (.aload_n 1, 1) := jx_dec c_T_plannedBefore_ok 22 rfl
theorem d_T_plannedBefore_46 : decode prog_1_method_31_code 46 = .ok (.getfield 185, 3) := jx_dec c_T_plannedBefore_ok 23 rfl
theorem d_T_plannedBefore_49 : decode prog_1_method_31_code 49 = .ok (.if_icmp .ne 15, 3) := jx_dec c_T_plannedBefore_ok 24 rfl
theorem d_T_plannedBefore_52 : decode prog_1_method_31_code 52 = .ok (.iload_n 3, 1) := jx_dec c_T_plannedBefore_ok 25 rfl
theorem d_T_plannedBefore_53 : decode prog_1_method_31_code 53 = .ok (.aload_n 1, 1) := jx_dec c_T_plannedBefore_ok 26 rfl
theorem d_T_plannedBefore_54 : decode prog_1_method_31_code 54 = .ok (.getfield 101, 3) := jx_dec c_T_plannedBefore_ok 27 rfl
theorem d_T_plannedBefore_57 : decode prog_1_method_31_code 57 = .ok (.if_icmp .ge 7, 3) := jx_dec c_T_plannedBefore_ok 28 rfl
theorem d_T_plannedBefore_60 : decode prog_1_method_31_code 60 = .ok (.iconst 1, 1) := jx_dec c_T_plannedBefore_ok 29 rfl
theorem d_T_plannedBefore_61 : decode prog_1_method_31_code 61 = .ok (.goto 4, 3) := jx_dec c_T_plannedBefore_ok 30 rfl
theorem d_T_plannedBefore_64 : decode prog_1_method_31_code 64 = .ok (.iconst 0, 1) := jx_dec c_T_plannedBefore_ok 31 rfl
theorem d_T_plannedBefore_65 : decode prog_1_method_31_code 65 = .ok (.istore 5, 2) := jx_dec c_T_plannedBefore_ok 32 rfl
theorem d_T_plannedBefore_67 : decode prog_1_method_31_code 67 = .ok (.iload 5, 2) := jx_dec c_T_plannedBefore_ok 33 rfl
theorem d_T_plannedBefore_69 : decode prog_1_method_31_code 69 = .ok (.ifCond .eq 19, 3) := jx_dec c_T_plannedBefore_ok 34 rfl
theorem d_T_plannedBefore_72 : decode prog_1_method_31_code 72 = .ok (.aload 4, 2) := jx_dec c_T_plannedBefore_ok 35 rfl
theorem d_T_plannedBefore_74 : decode prog_1_method_31_code 74 = .ok (.aload_n 1, 1) := jx_dec c_T_plannedBefore_ok 36 rfl
theorem d_T_plannedBefore_75 : decode prog_1_method_31_code 75 = .ok (.getfield 127, 3) := jx_dec c_T_plannedBefore_ok 37 rfl
theorem d_T_plannedBefore_78 : decode prog_1_method_31_code 78 = .ok (.iconst 0, 1) := jx_dec c_T_plannedBefore_ok 38 rfl
theorem d_T_plannedBefore_79 : decode prog_1_method_31_code 79 = .ok (.invokevirtual 237, 3) := jx_dec c_T_plannedBefore_ok 39 rfl
theorem d_T_plannedBefore_82 : decode prog_1_method_31_code 82 = .ok (.ifCond .eq 6, 3) := jx_dec c_T_plannedBefore_ok 40 rfl
theorem d_T_plannedBefore_85 : decode prog_1_method_31_code 85 = .ok (.iinc 2 1, 3) := jx_dec c_T_plannedBefore_ok 41 rfl
theorem d_T_plannedBefore_88 : decode prog_1_method_31_code 88 = .ok (.iinc 3 1, 3) := jx_dec c_T_plannedBefore_ok 42 rfl
theorem d_T_plannedBefore_91 : decode prog_1_method_31_code 91 = .ok (.goto (-87), 3) := jx_dec c_T_plannedBefore_ok 43 rfl
theorem d_T_plannedBefore_94 : decode prog_1_method_31_code 94 = .ok (.iload_n 2, 1) := jx_dec c_T_plannedBefore_ok 44 rfl
theorem d_T_plannedBefore_95 : decode prog_1_method_31_code 95 = .ok (.ireturn, 1) := jx_dec c_T_plannedBefore_ok 45 rfl
def c_T_done : List (Nat × Instr × Nat) := [(0, .aload_n 0, 1), (1, .iload_n 1, 1), (2, .invokevirtual 62, 3), (5, .astore_n 2, 1), (6, .aload_n 2, 1), (7, .getfield 188, 3), (10, .iconst (-1), 1), (11, .if_icmp .eq 14, 3), (14, .aload_n 0, 1), (15, .getfield 153, 3), (18, .aload_n 2, 1), (19, .getfield 194, 3), (22, .if_icmp .ge 13, 3), (25, .new 82, 3), (28, .dup, 1), (29, .ldc 201, 2), (31, .invokespecial 86, 3), (34, .athrow, 1), (35, .aload_n 0, 1), (36, .getfield 16, 3), (39, .aload_n 2, 1), (40, .getfield 188, 3), (43, .invokevirtual 166, 3), (46, .checkcast 98, 3), (49, .iconst 2, 1), (50, .putfield 170, 3), (53, .aload_n 2, 1), (54, .iconst (-1), 1), (55, .putfield 188, 3), (58, .aload_n 0, 1), (59, .aload_n 2, 1), (60, .getfield 58, 3), (63, .iconst 2, 1), (64, .invokevirtual 203, 3), (67, .ireturn, 1)]
theorem c_T_done_ok : (c_T_done).all (fun q => decide (decode prog_1_method_13_code q.1 = .ok q.2)) = true := by decide +kernel
theorem d_T_done_0 : decode prog_1_method_13_code 0 = .ok (.aload_n 0, 1) := jx_dec c_T_done_ok 0 rfl
theorem d_T_done_1 : decode prog_1_method_13_code 1 = .ok (.iload_n 1, 1) := jx_dec c_T_done_ok 1 rfl
theorem d_T_done_2 : decode prog_1_method_13_code 2 = .ok (.invokevirtual 62, 3) := jx_dec c_T_done_ok 2 rfl
theorem d_T_done_5 : decode prog_1_method_13_code 5 = .ok (.astore_n 2, 1) := jx_dec c_T_done_ok 3 rfl
theorem d_T_done_6 : decode prog_1_method_13_code 6 = .ok (.aload_n 2, 1) := jx_dec c_T_done_ok 4 rfl
theorem d_T_done_7 : decode prog_1_method_13_code 7 = .ok (.getfield 188, 3) := jx_dec c_T_done_ok 5 rfl
theorem d_T_done_10 : decode prog_1_method_13_code 10 = .ok (.iconst (-1), 1) := jx_dec c_T_done_ok 6 rfl
theorem d_T_done_11 : decode prog_1_method_13_code 11 = .ok (.if_icmp .eq 14, 3) := jx_dec c_T_done_ok 7 rfl
theorem d_T_done_14 : decode prog_1_method_13_code 14 = .ok (.aload_n 0, 1) := jx_dec c_T_done_ok 8 rfl
theorem d_T_done_15 : decode prog_1_method_13_code 15 = .ok (.getfield 153, 3) := jx_dec c_T_done_ok 9 rfl
theorem d_T_done_18 : decode prog_1_method_13_code 18 = .ok (.aload_n 2, 1) := jx_dec c_T_done_ok 10 rfl
theorem d_T_done_19 : decode prog_1_method_13_code 19 = .ok (.getfield 194, 3) := jx_dec c_T_done_ok 11 rfl
theorem d_T_done_22 : decode prog_1_method_13_code 22 = .ok (.if_icmp .ge 13, 3) := jx_dec c_T_done_ok 12 rfl
theorem d_T_done_25 : decode prog_1_method_13_code 25 = .ok (.new 82, 3) := jx_dec c_T_done_ok 13 rfl
theorem d_T_done_28 : decode prog_1_method_13_code 28 = .ok (.dup, 1) := jx_dec c_T_done_ok 14 rfl
theorem d_T_done_29 : decode prog_1_method_13_code 29 = .ok (.ldc 201, 2) := jx_dec c_T_done_ok 15 rfl
theorem d_T_done_31 : decode prog_1_method_13_code 31 = .ok (.invokespecial 86, 3) := jx_dec c_T_done_ok 16 rfl
theorem d_T_done_34 : decode prog_1_method_13_code 34 = .ok (.athrow, 1) := jx_dec c_T_done_ok 17 rfl
theorem d_T_done_35 : decode prog_1_method_13_code 35 = .ok (.aload_n 0, 1) := jx_dec c_T_done_ok 18 rfl
theorem d_T_done_36 : decode prog_1_method_13_code 36 = .ok (.getfield 16, 3) := jx_dec c_T_done_ok 19 rfl
theorem d_T_done_39 : decode prog_1_method_13_code 39 = .ok (.aload_n 2, 1) := jx_dec c_T_done_ok 20 rfl
theorem d_T_done_40 : decode prog_1_method_13_code 40 = .ok (.getfield 188, 3) := jx_dec c_T_done_ok 21 rfl
theorem d_T_done_43 : decode prog_1_method_13_code 43 = .ok (.invokevirtual 166, 3) := jx_dec c_T_done_ok 22 rfl
theorem d_T_done_46 : decode prog_1_method_13_code 46 = .ok (.checkcast 98, 3) := jx_dec c_T_done_ok 23 rfl
theorem d_T_done_49 : decode prog_1_method_13_code 49 = .ok (.iconst 2, 1) := jx_dec c_T_done_ok 24 rfl
theorem d_T_done_50 : decode prog_1_method_13_code 50 = .ok (.putfield 170, 3) := jx_dec c_T_done_ok 25 rfl
theorem d_T_done_53 : decode prog_1_method_13_code 53 = .ok (.aload_n 2, 1) := jx_dec c_T_done_ok 26 rfl
theorem d_T_done_54 : decode prog_1_method_13_code 54 = .ok (.iconst (-1), 1) := jx_dec c_T_done_ok 27 rfl
theorem d_T_done_55 : decode prog_1_method_13_code 55 = .ok (.putfield 188, 3) := jx_dec c_T_done_ok 28 rfl
theorem d_T_done_58 : decode prog_1_method_13_code 58 = .ok (.aload_n 0, 1) := jx_dec c_T_done_ok 29 rfl
theorem d_T_done_59 : decode prog_1_method_13_code 59 = .ok (.aload_n 2, 1) := jx_dec c_T_done_ok 30 rfl
theorem d_T_done_60 : decode prog_1_method_13_code 60 = .ok (.getfield 58, 3) := jx_dec c_T_done_ok 31 rfl
theorem d_T_done_63 : decode prog_1_method_13_code 63 = .ok (.iconst 2, 1) := jx_dec c_T_done_ok 32 rfl
theorem d_T_done_64 : decode prog_1_method_13_code 64 = .ok (.invokevirtual 203, 3) := jx_dec c_T_done_ok 33 rfl
theorem d_T_done_67 : decode prog_1_method_13_code 67 = .ok (.ireturn, 1) := jx_dec c_T_done_ok 34 rfl
def c_T_leaves : List (Nat × Instr × Nat) := [(0, .aload_n 0, 1), (1, .iload_n 1, 1), (2, .invokevirtual 62, 3), (5, .astore_n 2, 1), (6, .aload_n 2, 1), (7, .getfield 133, 3), (10, .ifCond .ne 13, 3), (13, .new 82, 3), (16, .dup, 1), (17, .ldc 206, 2), (19, .invokespecial 86, 3), (22, .athrow, 1), (23, .aload_n 2, 1), (24, .iconst 0, 1), (25, .putfield 133, 3), (28, .aload_n 2, 1), (29, .iconst (-1), 1), (30, .putfield 188, 3), (33, .iconst 0, 1), (34, .istore_n 3, 1), (35, .iconst 0, 1), (36, .istore 4, 2), (38, .iload 4, 2), (40, .aload_n 0, 1), (41, .getfield 16, 3), (44, .invokevirtual 41, 3), (47, .if_icmp .ge 52, 3), (50, .aload_n 0, 1), (51, .getfield 16, 3), (54, .iload 4, 2), (56, .invokevirtual 166, 3), (59, .checkcast 98, 3), (62, .astore 5, 2), (64, .aload 5, 2), (66, .getfield 127, 3), (69, .aload_n 2, 1), (70, .getfield 58, 3), (73, .if_icmp .ne 20, 3), (76, .aload 5, 2), (78, .getfield 170, 3), (81, .iconst 2, 1), (82, .if_icmp .eq 11, 3), (85, .aload 5, 2), (87, .invokevirtual 130, 3), (90, .iinc 3 1, 3), (93, .iinc 4 1, 3), (96, .goto (-58), 3), (99, .iload_n 3, 1), (100, .ireturn, 1)]
theorem c_T_leaves_ok : (c_T_leaves).all (fun q => decide (decode prog_1_method_14_code q.1 = .ok q.2)) = true := by decide +kernel
theorem d_T_leaves_0 : decode prog_1_method_14_code 0 = .ok (.aload_n 0, 1) := jx_dec c_T_leaves_ok 0 rfl
theorem d_T_leaves_1 : decode prog_1_method_14_code 1 = .ok (.iload_n 1, 1) := jx_dec c_T_leaves_ok 1 rfl
theorem d_T_leaves_2 : decode prog_1_method_14_code 2 = .ok (.invokevirtual 62, 3) := jx_dec c_T_leaves_ok 2 rfl
theorem d_T_leaves_5 : decode prog_1_method_14_code 5 = .ok (.astore_n 2, 1) := jx_dec c_T_leaves_ok 3 rfl
theorem d_T_leaves_6 : decode prog_1_method_14_code 6 = .ok (.aload_n 2, 1) := jx_dec c_T_leaves_ok 4 rfl
theorem d_T_leaves_7 : decode prog_1_method_14_code 7 = .ok (.getfield 133, 3) := jx_dec c_T_leaves_ok 5 rfl
theorem d_T_leaves_10 : decode prog_1_method_14_code 10 = .ok (.ifCond .ne 13, 3) := jx_dec c_T_leaves_ok 6 rfl
theorem d_T_leaves_13 : decode prog_1_method_14_code 13 = .ok (.new 82, 3) := jx_dec c_T_leaves_ok 7 rfl
theorem d_T_leaves_16 : decode prog_1_method_14_code 16 = .ok (.dup, 1) := jx_dec c_T_leaves_ok 8 rfl
theorem d_T_leaves_17 : decode prog_1_method_14_code 17 = .ok (.ldc 206, 2) := jx_dec c_T_leaves_ok 9 rfl
theorem d_T_leaves_19 : decode prog_1_method_14_code 19 = .ok (.invokespecial 86, 3) := jx_dec c_T_leaves_ok 10 rfl
theorem d_T_leaves_22 : decode prog_1_method_14_code 22 = .ok (.athrow, 1) := jx_dec c_T_leaves_ok 11 rfl
theorem d_T_leaves_23 : decode prog_1_method_14_code 23 = .ok (.aload_n 2, 1) := jx_dec c_T_leaves_ok 12 rfl
theorem d_T_leaves_24 : decode prog_1_method_14_code 24 = .ok (.iconst 0, 1) := jx_dec c_T_leaves_ok 13 rfl
theorem d_T_leaves_25 : decode prog_1_method_14_code 25 = .ok (.putfield 133, 3) := jx_dec c_T_leaves_ok 14 rfl
theorem d_T_leaves_28 : decode prog_1_method_14_code 28 = .ok (.aload_n 2, 1) := jx_dec c_T_leaves_ok 15 rfl
theorem d_T_leaves_29 : decode prog_1_method_14_code 29 = .ok (.iconst (-1), 1) := jx_dec c_T_leaves_ok 16 rfl
theorem d_T_leaves_30 : decode prog_1_method_14_code 30 = .ok (.putfield 188, 3) := jx_dec c_T_leaves_ok 17 rfl
theorem d_T_leaves_33 : decode prog_1_method_14_code 33 = .ok (.iconst 0, 1) := jx_dec c_T_leaves_ok 18 rfl
theorem d_T_leaves_34 : decode prog_1_method_14_code 34 = .ok (.istore_n 3, 1) := jx_dec c_T_leaves_ok 19 rfl
theorem d_T_leaves_35 : decode prog_1_method_14_code 35 = .ok (.iconst 0, 1) := jx_dec c_T_leaves_ok 20 rfl
theorem d_T_leaves_36 : decode prog_1_method_14_code 36 = .ok (.istore 4, 2) := jx_dec c_T_leaves_ok 21 rfl
theorem d_T_leaves_38 : decode prog_1_method_14_code 38 = .ok (.iload 4, 2) := jx_dec c_T_leaves_ok 22 rfl
theorem d_T_leaves_40 : decode prog_1_method_14_code 40 = .ok (.aload_n 0, 1) := jx_dec c_T_leaves_ok 23 rfl
theorem d_T_leaves_41 : decode prog_1_method_14_code 41 = .ok (.getfield 16, 3) := jx_dec c_T_leaves_ok 24 rfl
theorem d_T_leaves_44 : decode prog_1_method_14_code 44 = .ok (.invokevirtual 41, 3) := jx_dec c_T_leaves_ok 25 rfl
theorem d_T_leaves_47 : decode prog_1_method_14_code 47 = .ok (.if_icmp .ge 52, 3) := jx_dec c_T_leaves_ok 26 rfl
theorem d_T_leaves_50 : decode prog_1_method_14_code 50 = .ok (.aload_n 0, 1) := jx_dec c_T_leaves_ok 27 rfl
theorem d_T_leaves_51 : decode prog_1_method_14_code 51 = .ok (.getfield 16, 3) := jx_dec c_T_leaves_ok 28 rfl
theorem d_T_leaves_54 : decode prog_1_method_14_code 54 = .ok (.iload 4, 2) := jx_dec c_T_leaves_ok 29 rfl
theorem d_T_leaves_56 : decode prog_1_method_14_code 56 = .ok (.invokevirtual 166, 3) := jx_dec c_T_leaves_ok 30 rfl
theorem d_T_leaves_59 : decode prog_1_method_14_code 59 = .ok (.checkcast 98, 3) := jx_dec c_T_leaves_ok 31 rfl
theorem d_T_leaves_62 : decode prog_1_method_14_code 62 = .ok (.astore 5, 2) := jx_dec c_T_leaves_ok 32 rfl
theorem d_T_leaves_64 : decode prog_1_method_14_code 64 = .ok (.aload 5, 2) := jx_dec c_T_leaves_ok 33 rfl
theorem d_T_leaves_66 : decode prog_1_method_14_code 66 = .ok (.getfield 127, 3) := jx_dec c_T_leaves_ok 34 rfl
theorem d_T_leaves_69 : decode prog_1_method_14_code 69 = .ok (.aload_n 2, 1) := jx_dec c_T_leaves_ok 35 rfl
theorem d_T_leaves_70 : decode prog_1_method_14_code 70 = .ok (.getfield 58, 3) := jx_dec c_T_leaves_ok 36 rfl
theorem d_T_leaves_73 : decode prog_1_method_14_code 73 = .ok (.if_icmp .ne 20, 3) := jx_dec c_T_leaves_ok 37 rfl
theorem d_T_leaves_76 : decode prog_1_method_14_code 76 = .ok (.aload 5, 2) := jx_dec c_T_leaves_ok 38 rfl
theorem d_T_leaves_78 : decode prog_1_method_14_code 78 = .ok (.getfield 170, 3) := jx_dec c_T_leaves_ok 39 rfl
theorem d_T_leaves_81 : decode prog_1_method_14_code 81 = .ok (.iconst 2, 1) := jx_dec c_T_leaves_ok 40 rfl
theorem d_T_leaves_82 : decode prog_1_method_14_code 82 = .ok (.if_icmp .eq 11, 3) := jx_dec c_T_leaves_ok 41 rfl
theorem d_T_leaves_85 : decode prog_1_method_14_code 85 = .ok (.aload 5, 2) := jx_dec c_T_leaves_ok 42 rfl
theorem d_T_leaves_87 : decode prog_1_method_14_code 87 = .ok (.invokevirtual 130, 3) := jx_dec c_T_leaves_ok 43 rfl
theorem d_T_leaves_90 : decode prog_1_method_14_code 90 = .ok (.iinc 3 1, 3) := jx_dec c_T_leaves_ok 44 rfl
theorem d_T_leaves_93 : decode prog_1_method_14_code 93 = .ok (.iinc 4 1, 3) := jx_dec c_T_leaves_ok 45 rfl
theorem d_T_leaves_96 : decode prog_1_method_14_code 96 = .ok (.goto (-58), 3) := jx_dec c_T_leaves_ok 46 rfl
theorem d_T_leaves_99 : decode prog_1_method_14_code 99 = .ok (.iload_n 3, 1) := jx_dec c_T_leaves_ok 47 rfl
theorem d_T_leaves_100 : decode prog_1_method_14_code 100 = .ok (.ireturn, 1) := jx_dec c_T_leaves_ok 48 rfl
def c_T_fair : List (Nat × Instr × Nat) := [(0, .aload_n 0, 1), (1, .iload_n 1, 1), (2, .invokevirtual 62, 3), (5, .astore_n 2, 1), (6, .aload_n 0, 1), (7, .iconst 2, 1), (8, .invokevirtual 147, 3), (11, .istore_n 3, 1), (12, .iload_n 3, 1), (13, .ifCond .ne 7, 3), (16, .iconst 0, 1), (17, .goto 17, 3), (20, .bipush 100, 2), (22, .aload_n 0, 1), (23, .aload_n 2, 1), (24, .getfield 58, 3), (27, .iconst 2, 1), (28, .invokevirtual 203, 3), (31, .imul, 1), (32, .iload_n 3, 1), (33, .idiv, 1), (34, .ireturn, 1)]
theorem c_T_fair_ok : (c_T_fair).all (fun q => decide (decode prog_1_method_15_code q.1 = .ok q.2)) = true := by decide +kernel
theorem d_T_fair_0 : decode prog_1_method_15_code 0 = .ok (.aload_n 0, 1) := jx_dec c_T_fair_ok 0 rfl
theorem d_T_fair_1 : decode prog_1_method_15_code 1 = .ok (.iload_n 1, 1) := jx_dec c_T_fair_ok 1 rfl
theorem d_T_fair_2 : decode prog_1_method_15_code 2 = .ok (.invokevirtual 62, 3) := jx_dec c_T_fair_ok 2 rfl
theorem d_T_fair_5 : decode prog_1_method_15_code 5 = .ok (.astore_n 2, 1) := jx_dec c_T_fair_ok 3 rfl
theorem d_T_fair_6 : decode prog_1_method_15_code 6 = .ok (.aload_n 0, 1) := jx_dec c_T_fair_ok 4 rfl
theorem d_T_fair_7 : decode prog_1_method_15_code 7 = .ok (.iconst 2, 1) := jx_dec c_T_fair_ok 5 rfl
theorem d_T_fair_8 : decode prog_1_method_15_code 8 = .ok (.invokevirtual 147, 3) := jx_dec c_T_fair_ok 6 rfl
theorem d_T_fair_11 : decode prog_1_method_15_code 11 = .ok (.istore_n 3, 1) := jx_dec c_T_fair_ok 7 rfl
theorem d_T_fair_12 : decode prog_1_method_15_code 12 = .ok (.iload_n 3, 1) := jx_dec c_T_fair_ok 8 rfl
theorem d_T_fair_13 : decode prog_1_method_15_code 13 = .ok (.ifCond .ne 7, 3) := jx_dec c_T_fair_ok 9 rfl
theorem d_T_fair_16 : decode prog_1_method_15_code 16 = .ok (.iconst 0, 1) := jx_dec c_T_fair_ok 10 rfl
theorem d_T_fair_17 : decode prog_1_method_15_code 17 = .ok (.goto 17, 3) := jx_dec c_T_fair_ok 11 rfl
theorem d_T_fair_20 : decode prog_1_method_15_code 20 = .ok (.bipush 100, 2) := jx_dec c_T_fair_ok 12 rfl
theorem d_T_fair_22 : decode prog_1_method_15_code 22 = .ok (.aload_n 0, 1) := jx_dec c_T_fair_ok 13 rfl
theorem d_T_fair_23 : decode prog_1_method_15_code 23 = .ok (.aload_n 2, 1) := jx_dec c_T_fair_ok 14 rfl
theorem d_T_fair_24 : decode prog_1_method_15_code 24 = .ok (.getfield 58, 3) := jx_dec c_T_fair_ok 15 rfl
theorem d_T_fair_27 : decode prog_1_method_15_code 27 = .ok (.iconst 2, 1) := jx_dec c_T_fair_ok 16 rfl
theorem d_T_fair_28 : decode prog_1_method_15_code 28 = .ok (.invokevirtual 203, 3) := jx_dec c_T_fair_ok 17 rfl
theorem d_T_fair_31 : decode prog_1_method_15_code 31 = .ok (.imul, 1) := jx_dec c_T_fair_ok 18 rfl
theorem d_T_fair_32 : decode prog_1_method_15_code 32 = .ok (.iload_n 3, 1) := jx_dec c_T_fair_ok 19 rfl
theorem d_T_fair_33 : decode prog_1_method_15_code 33 = .ok (.idiv, 1) := jx_dec c_T_fair_ok 20 rfl
theorem d_T_fair_34 : decode prog_1_method_15_code 34 = .ok (.ireturn, 1) := jx_dec c_T_fair_ok 21 rfl
def c_T_pass : List (Nat × Instr × Nat) := [(0, .iload_n 1, 1), (1, .aload_n 0, 1), (2, .getfield 153, 3), (5, .ldc 40, 2), (7, .invokestatic 36, 3), (10, .aload_n 0, 1), (11, .iload_n 1, 1), (12, .putfield 153, 3), (15, .return_, 1)]
theorem c_T_pass_ok : (c_T_pass).all (fun q => decide (decode prog_1_method_16_code q.1 = .ok q.2)) = true := by decide +kernel
theorem d_T_pass_0 : decode prog_1_method_16_code 0 = .ok (.iload_n 1, 1) := jx_dec c_T_pass_ok 0 rfl
theorem d_T_pass_1 : decode prog_1_method_16_code 1 = .ok (.aload_n 0, 1) := jx_dec c_T_pass_ok 1 rfl
theorem d_T_pass_2 : decode prog_1_method_16_code 2 = .ok (.getfield 153, 3) := jx_dec c_T_pass_ok 2 rfl
theorem d_T_pass_5 : decode prog_1_method_16_code 5 = .ok (.ldc 40, 2) := jx_dec c_T_pass_ok 3 rfl
theorem d_T_pass_7 : decode prog_1_method_16_code 7 = .ok (.invokestatic 36, 3) := jx_dec c_T_pass_ok 4 rfl
theorem d_T_pass_10 : decode prog_1_method_16_code 10 = .ok (.aload_n 0, 1) := jx_dec c_T_pass_ok 5 rfl
theorem d_T_pass_11 : decode prog_1_method_16_code 11 = .ok (.iload_n 1, 1) := jx_dec c_T_pass_ok 6 rfl
theorem d_T_pass_12 : decode prog_1_method_16_code 12 = .ok (.putfield 153, 3) := jx_dec c_T_pass_ok 7 rfl
theorem d_T_pass_15 : decode prog_1_method_16_code 15 = .ok (.return_, 1) := jx_dec c_T_pass_ok 8 rfl
def c_T_order : List (Nat × Instr × Nat) := [(0, .aload_n 0, 1), (1, .iload_n 1, 1), (2, .invokevirtual 62, 3), (5, .astore_n 3, 1), (6, .iload_n 2, 1), (7, .ifCond .ge 13, 3), (10, .new 102, 3), (13, .dup, 1), (14, .ldc 208, 2), (16, .invokespecial 106, 3), (19, .athrow, 1), (20, .aload_n 0, 1), (21, .aload_n 3, 1), (22, .getfield 58, 3), (25, .iload_n 2, 1), (26, .invokevirtual 181, 3), (29, .ireturn, 1)]
theorem c_T_order_ok : (c_T_order).all (fun q => decide (decode prog_1_method_17_code q.1 = .ok q.2)) = true := by decide +kernel
theorem d_T_order_0 : decode prog_1_method_17_code 0 = .ok (.aload_n 0, 1) := jx_dec c_T_order_ok 0 rfl
theorem d_T_order_1 : decode prog_1_method_17_code 1 = .ok (.iload_n 1, 1) := jx_dec c_T_order_ok 1 rfl
theorem d_T_order_2 : decode prog_1_method_17_code 2 = .ok (.invokevirtual 62, 3) := jx_dec c_T_order_ok 2 rfl
theorem d_T_order_5 : decode prog_1_method_17_code 5 = .ok (.astore_n 3, 1) := jx_dec c_T_order_ok 3 rfl
theorem d_T_order_6 : decode prog_1_method_17_code 6 = .ok (.iload_n 2, 1) := jx_dec c_T_order_ok 4 rfl
theorem d_T_order_7 : decode prog_1_method_17_code 7 = .ok (.ifCond .ge 13, 3) := jx_dec c_T_order_ok 5 rfl
theorem d_T_order_10 : decode prog_1_method_17_code 10 = .ok (.new 102, 3) := jx_dec c_T_order_ok 6 rfl
theorem d_T_order_13 : decode prog_1_method_17_code 13 = .ok (.dup, 1) := jx_dec c_T_order_ok 7 rfl
theorem d_T_order_14 : decode prog_1_method_17_code 14 = .ok (.ldc 208, 2) := jx_dec c_T_order_ok 8 rfl
theorem d_T_order_16 : decode prog_1_method_17_code 16 = .ok (.invokespecial 106, 3) := jx_dec c_T_order_ok 9 rfl
theorem d_T_order_19 : decode prog_1_method_17_code 19 = .ok (.athrow, 1) := jx_dec c_T_order_ok 10 rfl
theorem d_T_order_20 : decode prog_1_method_17_code 20 = .ok (.aload_n 0, 1) := jx_dec c_T_order_ok 11 rfl
theorem d_T_order_21 : decode prog_1_method_17_code 21 = .ok (.aload_n 3, 1) := jx_dec c_T_order_ok 12 rfl
theorem d_T_order_22 : decode prog_1_method_17_code 22 = .ok (.getfield 58, 3) := jx_dec c_T_order_ok 13 rfl
theorem d_T_order_25 : decode prog_1_method_17_code 25 = .ok (.iload_n 2, 1) := jx_dec c_T_order_ok 14 rfl
theorem d_T_order_26 : decode prog_1_method_17_code 26 = .ok (.invokevirtual 181, 3) := jx_dec c_T_order_ok 15 rfl
theorem d_T_order_29 : decode prog_1_method_17_code 29 = .ok (.ireturn, 1) := jx_dec c_T_order_ok 16 rfl
def c_T_told : List (Nat × Instr × Nat) := [(0, .aload_n 0, 1), (1, .iload_n 1, 1), (2, .invokevirtual 110, 3), (5, .astore_n 3, 1), (6, .iload_n 2, 1), (7, .tableswitch 76 0 6 #[41, 46, 51, 56, 61, 66, 71], 41), (48, .aload_n 3, 1), (49, .getfield 170, 3), (52, .ireturn, 1), (53, .aload_n 3, 1), (54, .getfield 127, 3), (57, .ireturn, 1), (58, .aload_n 3, 1), (59, .getfield 185, 3), (62, .ireturn, 1), (63, .aload_n 3, 1), (64, .getfield 137, 3), (67, .ireturn, 1), (68, .aload_n 3, 1), (69, .getfield 191, 3), (72, .ireturn, 1), (73, .aload_n 3, 1), (74, .getfield 210, 3), (77, .ireturn, 1), (78, .aload_n 3, 1), (79, .getfield 197, 3), (82, .ireturn, 1), (83, .new 102, 3), (86, .dup, 1), (87, .ldc 213, 2), (89, .invokespecial 106, 3), (92, .athrow, 1)]
theorem c_T_told_ok : (c_T_told).all (fun q => decide (decode prog_1_method_18_code q.1 = .ok q.2)) = true := by decide +kernel
theorem d_T_told_0 : decode prog_1_method_18_code 0 = .ok (.aload_n 0, 1) := jx_dec c_T_told_ok 0 rfl
theorem d_T_told_1 : decode prog_1_method_18_code 1 = .ok (.iload_n 1, 1) := jx_dec c_T_told_ok 1 rfl
theorem d_T_told_2 : decode prog_1_method_18_code 2 = .ok (.invokevirtual 110, 3) := jx_dec c_T_told_ok 2 rfl
theorem d_T_told_5 : decode prog_1_method_18_code 5 = .ok (.astore_n 3, 1) := jx_dec c_T_told_ok 3 rfl
theorem d_T_told_6 : decode prog_1_method_18_code 6 = .ok (.iload_n 2, 1) := jx_dec c_T_told_ok 4 rfl
theorem d_T_told_7 : decode prog_1_method_18_code 7 = .ok (.tableswitch 76 0 6 #[41, 46, 51, 56, 61, 66, 71], 41) := jx_dec c_T_told_ok 5 rfl
theorem d_T_told_48 : decode prog_1_method_18_code 48 = .ok (.aload_n 3, 1) := jx_dec c_T_told_ok 6 rfl
theorem d_T_told_49 : decode prog_1_method_18_code 49 = .ok (.getfield 170, 3) := jx_dec c_T_told_ok 7 rfl
theorem d_T_told_52 : decode prog_1_method_18_code 52 = .ok (.ireturn, 1) := jx_dec c_T_told_ok 8 rfl
theorem d_T_told_53 : decode prog_1_method_18_code 53 = .ok (.aload_n 3, 1) := jx_dec c_T_told_ok 9 rfl
theorem d_T_told_54 : decode prog_1_method_18_code 54 = .ok (.getfield 127, 3) := jx_dec c_T_told_ok 10 rfl
theorem d_T_told_57 : decode prog_1_method_18_code 57 = .ok (.ireturn, 1) := jx_dec c_T_told_ok 11 rfl
theorem d_T_told_58 : decode prog_1_method_18_code 58 = .ok (.aload_n 3, 1) := jx_dec c_T_told_ok 12 rfl
theorem d_T_told_59 : decode prog_1_method_18_code 59 = .ok (.getfield 185, 3) := jx_dec c_T_told_ok 13 rfl
theorem d_T_told_62 : decode prog_1_method_18_code 62 = .ok (.ireturn, 1) := jx_dec c_T_told_ok 14 rfl
theorem d_T_told_63 : decode prog_1_method_18_code 63 = .ok (.aload_n 3, 1) := jx_dec c_T_told_ok 15 rfl
theorem d_T_told_64 : decode prog_1_method_18_code 64 = .ok (.getfield 137, 3) := jx_dec c_T_told_ok 16 rfl
theorem d_T_told_67 : decode prog_1_method_18_code 67 = .ok (.ireturn, 1) := jx_dec c_T_told_ok 17 rfl
theorem d_T_told_68 : decode prog_1_method_18_code 68 = .ok (.aload_n 3, 1) := jx_dec c_T_told_ok 18 rfl
theorem d_T_told_69 : decode prog_1_method_18_code 69 = .ok (.getfield 191, 3) := jx_dec c_T_told_ok 19 rfl
theorem d_T_told_72 : decode prog_1_method_18_code 72 = .ok (.ireturn, 1) := jx_dec c_T_told_ok 20 rfl
theorem d_T_told_73 : decode prog_1_method_18_code 73 = .ok (.aload_n 3, 1) := jx_dec c_T_told_ok 21 rfl
theorem d_T_told_74 : decode prog_1_method_18_code 74 = .ok (.getfield 210, 3) := jx_dec c_T_told_ok 22 rfl
theorem d_T_told_77 : decode prog_1_method_18_code 77 = .ok (.ireturn, 1) := jx_dec c_T_told_ok 23 rfl
theorem d_T_told_78 : decode prog_1_method_18_code 78 = .ok (.aload_n 3, 1) := jx_dec c_T_told_ok 24 rfl
theorem d_T_told_79 : decode prog_1_method_18_code 79 = .ok (.getfield 197, 3) := jx_dec c_T_told_ok 25 rfl
theorem d_T_told_82 : decode prog_1_method_18_code 82 = .ok (.ireturn, 1) := jx_dec c_T_told_ok 26 rfl
theorem d_T_told_83 : decode prog_1_method_18_code 83 = .ok (.new 102, 3) := jx_dec c_T_told_ok 27 rfl
theorem d_T_told_86 : decode prog_1_method_18_code 86 = .ok (.dup, 1) := jx_dec c_T_told_ok 28 rfl
theorem d_T_told_87 : decode prog_1_method_18_code 87 = .ok (.ldc 213, 2) := jx_dec c_T_told_ok 29 rfl
theorem d_T_told_89 : decode prog_1_method_18_code 89 = .ok (.invokespecial 106, 3) := jx_dec c_T_told_ok 30 rfl
theorem d_T_told_92 : decode prog_1_method_18_code 92 = .ok (.athrow, 1) := jx_dec c_T_told_ok 31 rfl
def c_T_known : List (Nat × Instr × Nat) := [(0, .aload_n 0, 1), (1, .iload_n 1, 1), (2, .invokevirtual 62, 3), (5, .astore_n 3, 1), (6, .iload_n 2, 1), (7, .tableswitch 85 0 5 #[37, 50, 55, 60, 65, 75], 37), (44, .aload_n 3, 1), (45, .getfield 133, 3), (48, .ifCond .eq 7, 3), (51, .iconst 1, 1), (52, .goto 4, 3), (55, .iconst 0, 1), (56, .ireturn, 1), (57, .aload_n 3, 1), (58, .getfield 89, 3), (61, .ireturn, 1), (62, .aload_n 3, 1), (63, .getfield 200, 3), (66, .ireturn, 1), (67, .aload_n 3, 1), (68, .getfield 188, 3), (71, .ireturn, 1), (72, .aload_n 0, 1), (73, .aload_n 3, 1), (74, .getfield 58, 3), (77, .iconst 2, 1), (78, .invokevirtual 203, 3), (81, .ireturn, 1), (82, .aload_n 0, 1), (83, .aload_n 3, 1), (84, .getfield 58, 3), (87, .iconst 0, 1), (88, .invokevirtual 203, 3), (91, .ireturn, 1), (92, .new 102, 3), (95, .dup, 1), (96, .ldc 215, 2), (98, .invokespecial 106, 3), (101, .athrow, 1)]
theorem c_T_known_ok : (c_T_known).all (fun q => decide (decode prog_1_method_19_code q.1 = .ok q.2)) = true := by decide +kernel
theorem d_T_known_0 : decode prog_1_method_19_code 0 = .ok (.aload_n 0, 1) := jx_dec c_T_known_ok 0 rfl
theorem d_T_known_1 : decode prog_1_method_19_code 1 = .ok (.iload_n 1, 1) := jx_dec c_T_known_ok 1 rfl
theorem d_T_known_2 : decode prog_1_method_19_code 2 = .ok (.invokevirtual 62, 3) := jx_dec c_T_known_ok 2 rfl
theorem d_T_known_5 : decode prog_1_method_19_code 5 = .ok (.astore_n 3, 1) := jx_dec c_T_known_ok 3 rfl
theorem d_T_known_6 : decode prog_1_method_19_code 6 = .ok (.iload_n 2, 1) := jx_dec c_T_known_ok 4 rfl
theorem d_T_known_7 : decode prog_1_method_19_code 7 = .ok (.tableswitch 85 0 5 #[37, 50, 55, 60, 65, 75], 37) := jx_dec c_T_known_ok 5 rfl
theorem d_T_known_44 : decode prog_1_method_19_code 44 = .ok (.aload_n 3, 1) := jx_dec c_T_known_ok 6 rfl
theorem d_T_known_45 : decode prog_1_method_19_code 45 = .ok (.getfield 133, 3) := jx_dec c_T_known_ok 7 rfl
theorem d_T_known_48 : decode prog_1_method_19_code 48 = .ok (.ifCond .eq 7, 3) := jx_dec c_T_known_ok 8 rfl
theorem d_T_known_51 : decode prog_1_method_19_code 51 = .ok (.iconst 1, 1) := jx_dec c_T_known_ok 9 rfl
theorem d_T_known_52 : decode prog_1_method_19_code 52 = .ok (.goto 4, 3) := jx_dec c_T_known_ok 10 rfl
theorem d_T_known_55 : decode prog_1_method_19_code 55 = .ok (.iconst 0, 1) := jx_dec c_T_known_ok 11 rfl
theorem d_T_known_56 : decode prog_1_method_19_code 56 = .ok (.ireturn, 1) := jx_dec c_T_known_ok 12 rfl
theorem d_T_known_57 : decode prog_1_method_19_code 57 = .ok (.aload_n 3, 1) := jx_dec c_T_known_ok 13 rfl
theorem d_T_known_58 : decode prog_1_method_19_code 58 = .ok (.getfield 89, 3) := jx_dec c_T_known_ok 14 rfl
theorem d_T_known_61 : decode prog_1_method_19_code 61 = .ok (.ireturn, 1) := jx_dec c_T_known_ok 15 rfl
theorem d_T_known_62 : decode prog_1_method_19_code 62 = .ok (.aload_n 3, 1) := jx_dec c_T_known_ok 16 rfl
theorem d_T_known_63 : decode prog_1_method_19_code 63 = .ok (.getfield 200, 3) := jx_dec c_T_known_ok 17 rfl
theorem d_T_known_66 : decode prog_1_method_19_code 66 = .ok (.ireturn, 1) := jx_dec c_T_known_ok 18 rfl
theorem d_T_known_67 : decode prog_1_method_19_code 67 = .ok (.aload_n 3, 1) := jx_dec c_T_known_ok 19 rfl
theorem d_T_known_68 : decode prog_1_method_19_code 68 = .ok (.getfield 188, 3) := jx_dec c_T_known_ok 20 rfl
theorem d_T_known_71 : decode prog_1_method_19_code 71 = .ok (.ireturn, 1) := jx_dec c_T_known_ok 21 rfl
theorem d_T_known_72 : decode prog_1_method_19_code 72 = .ok (.aload_n 0, 1) := jx_dec c_T_known_ok 22 rfl
theorem d_T_known_73 : decode prog_1_method_19_code 73 = .ok (.aload_n 3, 1) := jx_dec c_T_known_ok 23 rfl
theorem d_T_known_74 : decode prog_1_method_19_code 74 = .ok (.getfield 58, 3) := jx_dec c_T_known_ok 24 rfl
theorem d_T_known_77 : decode prog_1_method_19_code 77 = .ok (.iconst 2, 1) := jx_dec c_T_known_ok 25 rfl
theorem d_T_known_78 : decode prog_1_method_19_code 78 = .ok (.invokevirtual 203, 3) := jx_dec c_T_known_ok 26 rfl
theorem d_T_known_81 : decode prog_1_method_19_code 81 = .ok (.ireturn, 1) := jx_dec c_T_known_ok 27 rfl
theorem d_T_known_82 : decode prog_1_method_19_code 82 = .ok (.aload_n 0, 1) := jx_dec c_T_known_ok 28 rfl
theorem d_T_known_83 : decode prog_1_method_19_code 83 = .ok (.aload_n 3, 1) := jx_dec c_T_known_ok 29 rfl
theorem d_T_known_84 : decode prog_1_method_19_code 84 = .ok (.getfield 58, 3) := jx_dec c_T_known_ok 30 rfl
theorem d_T_known_87 : decode prog_1_method_19_code 87 = .ok (.iconst 0, 1) := jx_dec c_T_known_ok 31 rfl
theorem d_T_known_88 : decode prog_1_method_19_code 88 = .ok (.invokevirtual 203, 3) := jx_dec c_T_known_ok 32 rfl
theorem d_T_known_91 : decode prog_1_method_19_code 91 = .ok (.ireturn, 1) := jx_dec c_T_known_ok 33 rfl
theorem d_T_known_92 : decode prog_1_method_19_code 92 = .ok (.new 102, 3) := jx_dec c_T_known_ok 34 rfl
theorem d_T_known_95 : decode prog_1_method_19_code 95 = .ok (.dup, 1) := jx_dec c_T_known_ok 35 rfl
theorem d_T_known_96 : decode prog_1_method_19_code 96 = .ok (.ldc 215, 2) := jx_dec c_T_known_ok 36 rfl
theorem d_T_known_98 : decode prog_1_method_19_code 98 = .ok (.invokespecial 106, 3) := jx_dec c_T_known_ok 37 rfl
theorem d_T_known_101 : decode prog_1_method_19_code 101 = .ok (.athrow, 1) := jx_dec c_T_known_ok 38 rfl
end
section
/-! 04.7M: the instructions -/
def c_M_init : List (Nat × Instr × Nat) := [(0, .aload_n 0, 1), (1, .invokespecial 1, 3), (4, .aload_n 0, 1), (5, .iconst 4, 1), (6, .newarray .int, 2), (8, .putfield 7, 3), (11, .aload_n 0, 1), (12, .iconst 4, 1), (13, .newarray .int, 2), (15, .putfield 13, 3), (18, .aload_n 0, 1), (19, .iconst 4, 1), (20, .newarray .int, 2), (22, .putfield 16, 3), (25, .aload_n 0, 1), (26, .iconst 4, 1), (27, .newarray .int, 2), (29, .putfield 19, 3), (32, .aload_n 0, 1), (33, .iconst 4, 1), (34, .newarray .int, 2), (36, .putfield 22, 3), (39, .aload_n 0, 1), (40, .iconst 4, 1), (41, .newarray .int, 2), (43, .putfield 25, 3), (46, .aload_n 0, 1), (47, .iconst 4, 1), (48, .newarray .boolean, 2), (50, .putfield 28, 3), (53, .aload_n 0, 1), (54, .iconst 4, 1), (55, .newarray .int, 2), (57, .putfield 32, 3), (60, .aload_n 0, 1), (61, .bipush 16, 2), (63, .newarray .int, 2), (65, .putfield 35, 3), (68, .aload_n 0, 1), (69, .bipush 16, 2), (71, .newarray .int, 2), (73, .putfield 38, 3), (76, .aload_n 0, 1), (77, .bipush 16, 2), (79, .newarray .int, 2), (81, .putfield 41, 3), (84, .aload_n 0, 1), (85, .bipush 16, 2), (87, .newarray .int, 2), (89, .putfield 44, 3), (92, .aload_n 0, 1), (93, .bipush 16, 2), (95, .newarray .int, 2), (97, .putfield 47, 3), (100, .aload_n 0, 1), (101, .bipush 16, 2), (103, .newarray .int, 2), (105, .putfield 50, 3), (108, .aload_n 0, 1), (109, .bipush 16, 2), (111, .newarray .int, 2), (113, .putfield 53, 3), (116, .aload_n 0, 1), (117, .bipush 16, 2), (119, .newarray .int, 2), (121, .putfield 56, 3), (124, .aload_n 0, 1), (125, .bipush 16, 2), (127, .newarray .int, 2), (129, .putfield 59, 3), (132, .aload_n 0, 1), (133, .iconst 5, 1), (134, .newarray .int, 2), (136, .putfield 62, 3), (139, .aload_n 0, 1), (140, .sipush 128, 3), (143, .newarray .int, 2), (145, .putfield 65, 3), (148, .aload_n 0, 1), (149, .sipush 640, 3), (152, .newarray .int, 2), (154, .putfield 68, 3), (157, .aload_n 0, 1), (158, .iconst 5, 1), (159, .newarray .int, 2), (161, .putfield 71, 3), (164, .aload_n 0, 1), (165, .iconst 5, 1), (166, .newarray .int, 2), (168, .putfield 74, 3), (171, .aload_n 0, 1), (172, .iconst 5, 1), (173, .newarray .int, 2), (175, .putfield 77, 3), (178, .aload_n 0, 1), (179, .iconst 5, 1), (180, .newarray .int, 2), (182, .putfield 80, 3), (185, .return_, 1)]
theorem c_M_init_ok : (c_M_init).all (fun q => decide (decode prog_7_method_1_code q.1 = .ok q.2)) = true := by decide +kernel
theorem d_M_init_0 : decode prog_7_method_1_code 0 = .ok (.aload_n 0, 1) := jx_dec c_M_init_ok 0 rfl
theorem d_M_init_1 : decode prog_7_method_1_code 1 = .ok (.invokespecial 1, 3) := jx_dec c_M_init_ok 1 rfl
theorem d_M_init_4 : decode prog_7_method_1_code 4 = .ok (.aload_n 0, 1) := jx_dec c_M_init_ok 2 rfl
theorem d_M_init_5 : decode prog_7_method_1_code 5 = .ok (.iconst 4, 1) := jx_dec c_M_init_ok 3 rfl
theorem d_M_init_6 : decode prog_7_method_1_code 6 = .ok (.newarray .int, 2) := jx_dec c_M_init_ok 4 rfl
theorem d_M_init_8 : decode prog_7_method_1_code 8 = .ok (.putfield 7, 3) := jx_dec c_M_init_ok 5 rfl
theorem d_M_init_11 : decode prog_7_method_1_code 11 = .ok (.aload_n 0, 1) := jx_dec c_M_init_ok 6 rfl
theorem d_M_init_12 : decode prog_7_method_1_code 12 = .ok (.iconst 4, 1) := jx_dec c_M_init_ok 7 rfl
theorem d_M_init_13 : decode prog_7_method_1_code 13 = .ok (.newarray .int, 2) := jx_dec c_M_init_ok 8 rfl
theorem d_M_init_15 : decode prog_7_method_1_code 15 = .ok (.putfield 13, 3) := jx_dec c_M_init_ok 9 rfl
theorem d_M_init_18 : decode prog_7_method_1_code 18 = .ok (.aload_n 0, 1) := jx_dec c_M_init_ok 10 rfl
theorem d_M_init_19 : decode prog_7_method_1_code 19 = .ok (.iconst 4, 1) := jx_dec c_M_init_ok 11 rfl
theorem d_M_init_20 : decode prog_7_method_1_code 20 = .ok (.newarray .int, 2) := jx_dec c_M_init_ok 12 rfl
theorem d_M_init_22 : decode prog_7_method_1_code 22 = .ok (.putfield 16, 3) := jx_dec c_M_init_ok 13 rfl
theorem d_M_init_25 : decode prog_7_method_1_code 25 = .ok (.aload_n 0, 1) := jx_dec c_M_init_ok 14 rfl
theorem d_M_init_26 : decode prog_7_method_1_code 26 = .ok (.iconst 4, 1) := jx_dec c_M_init_ok 15 rfl
theorem d_M_init_27 : decode prog_7_method_1_code 27 = .ok (.newarray .int, 2) := jx_dec c_M_init_ok 16 rfl
theorem d_M_init_29 : decode prog_7_method_1_code 29 = .ok (.putfield 19, 3) := jx_dec c_M_init_ok 17 rfl
theorem d_M_init_32 : decode prog_7_method_1_code 32 = .ok (.aload_n 0, 1) := jx_dec c_M_init_ok 18 rfl
theorem d_M_init_33 : decode prog_7_method_1_code 33 = .ok (.iconst 4, 1) := jx_dec c_M_init_ok 19 rfl
theorem d_M_init_34 : decode prog_7_method_1_code 34 = .ok (.newarray .int, 2) := jx_dec c_M_init_ok 20 rfl
theorem d_M_init_36 : decode prog_7_method_1_code 36 = .ok (.putfield 22, 3) := jx_dec c_M_init_ok 21 rfl
theorem d_M_init_39 : decode prog_7_method_1_code 39 = .ok (.aload_n 0, 1) := jx_dec c_M_init_ok 22 rfl
theorem d_M_init_40 : decode prog_7_method_1_code 40 = .ok (.iconst 4, 1) := jx_dec c_M_init_ok 23 rfl
theorem d_M_init_41 : decode prog_7_method_1_code 41 = .ok (.newarray .int, 2) := jx_dec c_M_init_ok 24 rfl
theorem d_M_init_43 : decode prog_7_method_1_code 43 = .ok (.putfield 25, 3) := jx_dec c_M_init_ok 25 rfl
theorem d_M_init_46 : decode prog_7_method_1_code 46 = .ok (.aload_n 0, 1) := jx_dec c_M_init_ok 26 rfl
theorem d_M_init_47 : decode prog_7_method_1_code 47 = .ok (.iconst 4, 1) := jx_dec c_M_init_ok 27 rfl
theorem d_M_init_48 : decode prog_7_method_1_code 48 = .ok (.newarray .boolean, 2) := jx_dec c_M_init_ok 28 rfl
theorem d_M_init_50 : decode prog_7_method_1_code 50 = .ok (.putfield 28, 3) := jx_dec c_M_init_ok 29 rfl
theorem d_M_init_53 : decode prog_7_method_1_code 53 = .ok (.aload_n 0, 1) := jx_dec c_M_init_ok 30 rfl
theorem d_M_init_54 : decode prog_7_method_1_code 54 = .ok (.iconst 4, 1) := jx_dec c_M_init_ok 31 rfl
theorem d_M_init_55 : decode prog_7_method_1_code 55 = .ok (.newarray .int, 2) := jx_dec c_M_init_ok 32 rfl
theorem d_M_init_57 : decode prog_7_method_1_code 57 = .ok (.putfield 32, 3) := jx_dec c_M_init_ok 33 rfl
theorem d_M_init_60 : decode prog_7_method_1_code 60 = .ok (.aload_n 0, 1) := jx_dec c_M_init_ok 34 rfl
theorem d_M_init_61 : decode prog_7_method_1_code 61 = .ok (.bipush 16, 2) := jx_dec c_M_init_ok 35 rfl
theorem d_M_init_63 : decode prog_7_method_1_code 63 = .ok (.newarray .int, 2) := jx_dec c_M_init_ok 36 rfl
theorem d_M_init_65 : decode prog_7_method_1_code 65 = .ok (.putfield 35, 3) := jx_dec c_M_init_ok 37 rfl
theorem d_M_init_68 : decode prog_7_method_1_code 68 = .ok (.aload_n 0, 1) := jx_dec c_M_init_ok 38 rfl
theorem d_M_init_69 : decode prog_7_method_1_code 69 = .ok (.bipush 16, 2) := jx_dec c_M_init_ok 39 rfl
theorem d_M_init_71 : decode prog_7_method_1_code 71 = .ok (.newarray .int, 2) := jx_dec c_M_init_ok 40 rfl
theorem d_M_init_73 : decode prog_7_method_1_code 73 = .ok (.putfield 38, 3) := jx_dec c_M_init_ok 41 rfl
theorem d_M_init_76 : decode prog_7_method_1_code 76 = .ok (.aload_n 0, 1) := jx_dec c_M_init_ok 42 rfl
theorem d_M_init_77 : decode prog_7_method_1_code 77 = .ok (.bipush 16, 2) := jx_dec c_M_init_ok 43 rfl
theorem d_M_init_79 : decode prog_7_method_1_code 79 = .ok (.newarray .int, 2) := jx_dec c_M_init_ok 44 rfl
theorem d_M_init_81 : decode prog_7_method_1_code 81 = .ok (.putfield 41, 3) := jx_dec c_M_init_ok 45 rfl
theorem d_M_init_84 : decode prog_7_method_1_code 84 = .ok (.aload_n 0, 1) := jx_dec c_M_init_ok 46 rfl
theorem d_M_init_85 : decode prog_7_method_1_code 85 = .ok (.bipush 16, 2) := jx_dec c_M_init_ok 47 rfl
theorem d_M_init_87 : decode prog_7_method_1_code 87 = .ok (.newarray .int, 2) := jx_dec c_M_init_ok 48 rfl
theorem d_M_init_89 : decode prog_7_method_1_code 89 = .ok (.putfield 44, 3) := jx_dec c_M_init_ok 49 rfl
theorem d_M_init_92 : decode prog_7_method_1_code 92 = .ok (.aload_n 0, 1) := jx_dec c_M_init_ok 50 rfl
theorem d_M_init_93 : decode prog_7_method_1_code 93 = .ok (.bipush 16, 2) := jx_dec c_M_init_ok 51 rfl
theorem d_M_init_95 : decode prog_7_method_1_code 95 = .ok (.newarray .int, 2) := jx_dec c_M_init_ok 52 rfl
theorem d_M_init_97 : decode prog_7_method_1_code 97 = .ok (.putfield 47, 3) := jx_dec c_M_init_ok 53 rfl
theorem d_M_init_100 : decode prog_7_method_1_code 100 = .ok (.aload_n 0, 1) := jx_dec c_M_init_ok 54 rfl
theorem d_M_init_101 : decode prog_7_method_1_code 101 = .ok (.bipush 16, 2) := jx_dec c_M_init_ok 55 rfl
theorem d_M_init_103 : decode prog_7_method_1_code 103 = .ok (.newarray .int, 2) := jx_dec c_M_init_ok 56 rfl
theorem d_M_init_105 : decode prog_7_method_1_code 105 = .ok (.putfield 50, 3) := jx_dec c_M_init_ok 57 rfl
theorem d_M_init_108 : decode prog_7_method_1_code 108 = .ok (.aload_n 0, 1) := jx_dec c_M_init_ok 58 rfl
theorem d_M_init_109 : decode prog_7_method_1_code 109 = .ok (.bipush 16, 2) := jx_dec c_M_init_ok 59 rfl
theorem d_M_init_111 : decode prog_7_method_1_code 111 = .ok (.newarray .int, 2) := jx_dec c_M_init_ok 60 rfl
theorem d_M_init_113 : decode prog_7_method_1_code 113 = .ok (.putfield 53, 3) := jx_dec c_M_init_ok 61 rfl
theorem d_M_init_116 : decode prog_7_method_1_code 116 = .ok (.aload_n 0, 1) := jx_dec c_M_init_ok 62 rfl
theorem d_M_init_117 : decode prog_7_method_1_code 117 = .ok (.bipush 16, 2) := jx_dec c_M_init_ok 63 rfl
theorem d_M_init_119 : decode prog_7_method_1_code 119 = .ok (.newarray .int, 2) := jx_dec c_M_init_ok 64 rfl
theorem d_M_init_121 : decode prog_7_method_1_code 121 = .ok (.putfield 56, 3) := jx_dec c_M_init_ok 65 rfl
theorem d_M_init_124 : decode prog_7_method_1_code 124 = .ok (.aload_n 0, 1) := jx_dec c_M_init_ok 66 rfl
theorem d_M_init_125 : decode prog_7_method_1_code 125 = .ok (.bipush 16, 2) := jx_dec c_M_init_ok 67 rfl
theorem d_M_init_127 : decode prog_7_method_1_code 127 = .ok (.newarray .int, 2) := jx_dec c_M_init_ok 68 rfl
theorem d_M_init_129 : decode prog_7_method_1_code 129 = .ok (.putfield 59, 3) := jx_dec c_M_init_ok 69 rfl
theorem d_M_init_132 : decode prog_7_method_1_code 132 = .ok (.aload_n 0, 1) := jx_dec c_M_init_ok 70 rfl
theorem d_M_init_133 : decode prog_7_method_1_code 133 = .ok (.iconst 5, 1) := jx_dec c_M_init_ok 71 rfl
theorem d_M_init_134 : decode prog_7_method_1_code 134 = .ok (.newarray .int, 2) := jx_dec c_M_init_ok 72 rfl
theorem d_M_init_136 : decode prog_7_method_1_code 136 = .ok (.putfield 62, 3) := jx_dec c_M_init_ok 73 rfl
theorem d_M_init_139 : decode prog_7_method_1_code 139 = .ok (.aload_n 0, 1) := jx_dec c_M_init_ok 74 rfl
theorem d_M_init_140 : decode prog_7_method_1_code 140 = .ok (.sipush 128, 3) := jx_dec c_M_init_ok 75 rfl
theorem d_M_init_143 : decode prog_7_method_1_code 143 = .ok (.newarray .int, 2) := jx_dec c_M_init_ok 76 rfl
theorem d_M_init_145 : decode prog_7_method_1_code 145 = .ok (.putfield 65, 3) := jx_dec c_M_init_ok 77 rfl
theorem d_M_init_148 : decode prog_7_method_1_code 148 = .ok (.aload_n 0, 1) := jx_dec c_M_init_ok 78 rfl
theorem d_M_init_149 : decode prog_7_method_1_code 149 = .ok (.sipush 640, 3) := jx_dec c_M_init_ok 79 rfl
theorem d_M_init_152 : decode prog_7_method_1_code 152 = .ok (.newarray .int, 2) := jx_dec c_M_init_ok 80 rfl
theorem d_M_init_154 : decode prog_7_method_1_code 154 = .ok (.putfield 68, 3) := jx_dec c_M_init_ok 81 rfl
theorem d_M_init_157 : decode prog_7_method_1_code 157 = .ok (.aload_n 0, 1) := jx_dec c_M_init_ok 82 rfl
theorem d_M_init_158 : decode prog_7_method_1_code 158 = .ok (.iconst 5, 1) := jx_dec c_M_init_ok 83 rfl
theorem d_M_init_159 : decode prog_7_method_1_code 159 = .ok (.newarray .int, 2) := jx_dec c_M_init_ok 84 rfl
theorem d_M_init_161 : decode prog_7_method_1_code 161 = .ok (.putfield 71, 3) := jx_dec c_M_init_ok 85 rfl
theorem d_M_init_164 : decode prog_7_method_1_code 164 = .ok (.aload_n 0, 1) := jx_dec c_M_init_ok 86 rfl
theorem d_M_init_165 : decode prog_7_method_1_code 165 = .ok (.iconst 5, 1) := jx_dec c_M_init_ok 87 rfl
theorem d_M_init_166 : decode prog_7_method_1_code 166 = .ok (.newarray .int, 2) := jx_dec c_M_init_ok 88 rfl
theorem d_M_init_168 : decode prog_7_method_1_code 168 = .ok (.putfield 74, 3) := jx_dec c_M_init_ok 89 rfl
theorem d_M_init_171 : decode prog_7_method_1_code 171 = .ok (.aload_n 0, 1) := jx_dec c_M_init_ok 90 rfl
theorem d_M_init_172 : decode prog_7_method_1_code 172 = .ok (.iconst 5, 1) := jx_dec c_M_init_ok 91 rfl
theorem d_M_init_173 : decode prog_7_method_1_code 173 = .ok (.newarray .int, 2) := jx_dec c_M_init_ok 92 rfl
theorem d_M_init_175 : decode prog_7_method_1_code 175 = .ok (.putfield 77, 3) := jx_dec c_M_init_ok 93 rfl
theorem d_M_init_178 : decode prog_7_method_1_code 178 = .ok (.aload_n 0, 1) := jx_dec c_M_init_ok 94 rfl
theorem d_M_init_179 : decode prog_7_method_1_code 179 = .ok (.iconst 5, 1) := jx_dec c_M_init_ok 95 rfl
theorem d_M_init_180 : decode prog_7_method_1_code 180 = .ok (.newarray .int, 2) := jx_dec c_M_init_ok 96 rfl
theorem d_M_init_182 : decode prog_7_method_1_code 182 = .ok (.putfield 80, 3) := jx_dec c_M_init_ok 97 rfl
theorem d_M_init_185 : decode prog_7_method_1_code 185 = .ok (.return_, 1) := jx_dec c_M_init_ok 98 rfl
def c_M_thrown : List (Nat × Instr × Nat) := [(0, .aload_n 0, 1), (1, .getfield 83, 3), (4, .ireturn, 1)]
theorem c_M_thrown_ok : (c_M_thrown).all (fun q => decide (decode prog_7_method_2_code q.1 = .ok q.2)) = true := by decide +kernel
theorem d_M_thrown_0 : decode prog_7_method_2_code 0 = .ok (.aload_n 0, 1) := jx_dec c_M_thrown_ok 0 rfl
theorem d_M_thrown_1 : decode prog_7_method_2_code 1 = .ok (.getfield 83, 3) := jx_dec c_M_thrown_ok 1 rfl
theorem d_M_thrown_4 : decode prog_7_method_2_code 4 = .ok (.ireturn, 1) := jx_dec c_M_thrown_ok 2 rfl
def c_M_person : List (Nat × Instr × Nat) := [(0, .iload_n 1, 1), (1, .iconst 0, 1), (2, .sipush 255, 3), (5, .invokestatic 90, 3), (8, .ifCond .eq 42, 3), (11, .iload_n 2, 1), (12, .iconst 0, 1), (13, .ldc 97, 2), (15, .invokestatic 90, 3), (18, .ifCond .eq 32, 3), (21, .iload_n 3, 1), (22, .iconst 0, 1), (23, .ldc 97, 2), (25, .invokestatic 90, 3), (28, .ifCond .eq 22, 3), (31, .iload_n 2, 1), (32, .iload_n 3, 1), (33, .if_icmp .ge 17, 3), (36, .iload 4, 2), (38, .iconst 0, 1), (39, .iconst 3, 1), (40, .invokestatic 90, 3), (43, .ifCond .eq 7, 3), (46, .iconst 1, 1), (47, .goto 4, 3), (50, .iconst 0, 1), (51, .istore 5, 2), (53, .aload_n 0, 1), (54, .iload 5, 2), (56, .ifCond .ne 7, 3), (59, .iconst 1, 1), (60, .goto 16, 3), (63, .aload_n 0, 1), (64, .getfield 87, 3), (67, .iconst 4, 1), (68, .if_icmp .ne 7, 3), (71, .iconst 2, 1), (72, .goto 4, 3), (75, .iconst 0, 1), (76, .putfield 83, 3), (79, .aload_n 0, 1), (80, .getfield 83, 3), (83, .ifCond .eq 5, 3), (86, .iconst 0, 1), (87, .ireturn, 1), (88, .aload_n 0, 1), (89, .getfield 7, 3), (92, .aload_n 0, 1), (93, .getfield 87, 3), (96, .iload_n 1, 1), (97, .iastore, 1), (98, .aload_n 0, 1), (99, .getfield 13, 3), (102, .aload_n 0, 1), (103, .getfield 87, 3), (106, .iload_n 2, 1), (107, .iastore, 1), (108, .aload_n 0, 1), (109, .getfield 16, 3), (112, .aload_n 0, 1), (113, .getfield 87, 3), (116, .iload_n 3, 1), (117, .iastore, 1), (118, .aload_n 0, 1), (119, .getfield 19, 3), (122, .aload_n 0, 1), (123, .getfield 87, 3), (126, .iconst 0, 1), (127, .iastore, 1), (128, .aload_n 0, 1), (129, .getfield 22, 3), (132, .aload_n 0, 1), (133, .getfield 87, 3), (136, .iconst 0, 1), (137, .iastore, 1), (138, .aload_n 0, 1), (139, .getfield 25, 3), (142, .aload_n 0, 1), (143, .getfield 87, 3), (146, .iload 4, 2), (148, .iastore, 1), (149, .aload_n 0, 1), (150, .getfield 28, 3), (153, .aload_n 0, 1), (154, .getfield 87, 3), (157, .iconst 1, 1), (158, .bastore, 1), (159, .aload_n 0, 1), (160, .getfield 32, 3), (163, .aload_n 0, 1), (164, .getfield 87, 3), (167, .iconst (-1), 1), (168, .iastore, 1), (169, .aload_n 0, 1), (170, .dup, 1), (171, .getfield 87, 3), (174, .iconst 1, 1), (175, .iadd, 1), (176, .putfield 87, 3), (179, .aload_n 0, 1), (180, .getfield 87, 3), (183, .iconst 1, 1), (184, .isub, 1), (185, .ireturn, 1)]
theorem c_M_person_ok : (c_M_person).all (fun q => decide (decode prog_7_method_6_code q.1 = .ok q.2)) = true := by decide +kernel
theorem d_M_person_0 : decode prog_7_method_6_code 0 = .ok (.iload_n 1, 1) := jx_dec c_M_person_ok 0 rfl
theorem d_M_person_1 : decode prog_7_method_6_code 1 = .ok (.iconst 0, 1) := jx_dec c_M_person_ok 1 rfl
theorem d_M_person_2 : decode prog_7_method_6_code 2 = .ok (.sipush 255, 3) := jx_dec c_M_person_ok 2 rfl
theorem d_M_person_5 : decode prog_7_method_6_code 5 = .ok (.invokestatic 90, 3) := jx_dec c_M_person_ok 3 rfl
theorem d_M_person_8 : decode prog_7_method_6_code 8 = .ok (.ifCond .eq 42, 3) := jx_dec c_M_person_ok 4 rfl
theorem d_M_person_11 : decode prog_7_method_6_code 11 = .ok (.iload_n 2, 1) := jx_dec c_M_person_ok 5 rfl
theorem d_M_person_12 : decode prog_7_method_6_code 12 = .ok (.iconst 0, 1) := jx_dec c_M_person_ok 6 rfl
theorem d_M_person_13 : decode prog_7_method_6_code 13 = .ok (.ldc 97, 2) := jx_dec c_M_person_ok 7 rfl
theorem d_M_person_15 : decode prog_7_method_6_code 15 = .ok (.invokestatic 90, 3) := jx_dec c_M_person_ok 8 rfl
theorem d_M_person_18 : decode prog_7_method_6_code 18 = .ok (.ifCond .eq 32, 3) := jx_dec c_M_person_ok 9 rfl
theorem d_M_person_21 : decode prog_7_method_6_code 21 = .ok (.iload_n 3, 1) := jx_dec c_M_person_ok 10 rfl
theorem d_M_person_22 : decode prog_7_method_6_code 22 = .ok (.iconst 0, 1) := jx_dec c_M_person_ok 11 rfl
theorem d_M_person_23 : decode prog_7_method_6_code 23 = .ok (.ldc 97, 2) := jx_dec c_M_person_ok 12 rfl
theorem d_M_person_25 : decode prog_7_method_6_code 25 = .ok (.invokestatic 90, 3) := jx_dec c_M_person_ok 13 rfl
theorem d_M_person_28 : decode prog_7_method_6_code 28 = .ok (.ifCond .eq 22, 3) := jx_dec c_M_person_ok 14 rfl
theorem d_M_person_31 : decode prog_7_method_6_code 31 = .ok (.iload_n 2, 1) := jx_dec c_M_person_ok 15 rfl
theorem d_M_person_32 : decode prog_7_method_6_code 32 = .ok (.iload_n 3, 1) := jx_dec c_M_person_ok 16 rfl
theorem d_M_person_33 : decode prog_7_method_6_code 33 = .ok (.if_icmp .ge 17, 3) := jx_dec c_M_person_ok 17 rfl
theorem d_M_person_36 : decode prog_7_method_6_code 36 = .ok (.iload 4, 2) := jx_dec c_M_person_ok 18 rfl
theorem d_M_person_38 : decode prog_7_method_6_code 38 = .ok (.iconst 0, 1) := jx_dec c_M_person_ok 19 rfl
theorem d_M_person_39 : decode prog_7_method_6_code 39 = .ok (.iconst 3, 1) := jx_dec c_M_person_ok 20 rfl
theorem d_M_person_40 : decode prog_7_method_6_code 40 = .ok (.invokestatic 90, 3) := jx_dec c_M_person_ok 21 rfl
theorem d_M_person_43 : decode prog_7_method_6_code 43 = .ok (.ifCond .eq 7, 3) := jx_dec c_M_person_ok 22 rfl
theorem d_M_person_46 : decode prog_7_method_6_code 46 = .ok (.iconst 1, 1) := jx_dec c_M_person_ok 23 rfl
theorem d_M_person_47 : decode prog_7_method_6_code 47 = .ok (.goto 4, 3) := jx_dec c_M_person_ok 24 rfl
theorem d_M_person_50 : decode prog_7_method_6_code 50 = .ok (.iconst 0, 1) := jx_dec c_M_person_ok 25 rfl
theorem d_M_person_51 : decode prog_7_method_6_code 51 = .ok (.istore 5, 2) := jx_dec c_M_person_ok 26 rfl
theorem d_M_person_53 : decode prog_7_method_6_code 53 = .ok (.aload_n 0, 1) := jx_dec c_M_person_ok 27 rfl
theorem d_M_person_54 : decode prog_7_method_6_code 54 = .ok (.iload 5, 2) := jx_dec c_M_person_ok 28 rfl
theorem d_M_person_56 : decode prog_7_method_6_code 56 = .ok (.ifCond .ne 7, 3) := jx_dec c_M_person_ok 29 rfl
theorem d_M_person_59 : decode prog_7_method_6_code 59 = .ok (.iconst 1, 1) := jx_dec c_M_person_ok 30 rfl
theorem d_M_person_60 : decode prog_7_method_6_code 60 = .ok (.goto 16, 3) := jx_dec c_M_person_ok 31 rfl
theorem d_M_person_63 : decode prog_7_method_6_code 63 = .ok (.aload_n 0, 1) := jx_dec c_M_person_ok 32 rfl
theorem d_M_person_64 : decode prog_7_method_6_code 64 = .ok (.getfield 87, 3) := jx_dec c_M_person_ok 33 rfl
theorem d_M_person_67 : decode prog_7_method_6_code 67 = .ok (.iconst 4, 1) := jx_dec c_M_person_ok 34 rfl
theorem d_M_person_68 : decode prog_7_method_6_code 68 = .ok (.if_icmp .ne 7, 3) := jx_dec c_M_person_ok 35 rfl
theorem d_M_person_71 : decode prog_7_method_6_code 71 = .ok (.iconst 2, 1) := jx_dec c_M_person_ok 36 rfl
theorem d_M_person_72 : decode prog_7_method_6_code 72 = .ok (.goto 4, 3) := jx_dec c_M_person_ok 37 rfl
theorem d_M_person_75 : decode prog_7_method_6_code 75 = .ok (.iconst 0, 1) := jx_dec c_M_person_ok 38 rfl
theorem d_M_person_76 : decode prog_7_method_6_code 76 = .ok (.putfield 83, 3) := jx_dec c_M_person_ok 39 rfl
theorem d_M_person_79 : decode prog_7_method_6_code 79 = .ok (.aload_n 0, 1) := jx_dec c_M_person_ok 40 rfl
theorem d_M_person_80 : decode prog_7_method_6_code 80 = .ok (.getfield 83, 3) := jx_dec c_M_person_ok 41 rfl
theorem d_M_person_83 : decode prog_7_method_6_code 83 = .ok (.ifCond .eq 5, 3) := jx_dec c_M_person_ok 42 rfl
theorem d_M_person_86 : decode prog_7_method_6_code 86 = .ok (.iconst 0, 1) := jx_dec c_M_person_ok 43 rfl
theorem d_M_person_87 : decode prog_7_method_6_code 87 = .ok (.ireturn, 1) := jx_dec c_M_person_ok 44 rfl
theorem d_M_person_88 : decode prog_7_method_6_code 88 = .ok (.aload_n 0, 1) := jx_dec c_M_person_ok 45 rfl
theorem d_M_person_89 : decode prog_7_method_6_code 89 = .ok (.getfield 7, 3) := jx_dec c_M_person_ok 46 rfl
theorem d_M_person_92 : decode prog_7_method_6_code 92 = .ok (.aload_n 0, 1) := jx_dec c_M_person_ok 47 rfl
theorem d_M_person_93 : decode prog_7_method_6_code 93 = .ok (.getfield 87, 3) := jx_dec c_M_person_ok 48 rfl
theorem d_M_person_96 : decode prog_7_method_6_code 96 = .ok (.iload_n 1, 1) := jx_dec c_M_person_ok 49 rfl
theorem d_M_person_97 : decode prog_7_method_6_code 97 = .ok (.iastore, 1) := jx_dec c_M_person_ok 50 rfl
theorem d_M_person_98 : decode prog_7_method_6_code 98 = .ok (.aload_n 0, 1) := jx_dec c_M_person_ok 51 rfl
theorem d_M_person_99 : decode prog_7_method_6_code 99 = .ok (.getfield 13, 3) := jx_dec c_M_person_ok 52 rfl
theorem d_M_person_102 : decode prog_7_method_6_code 102 = .ok (.aload_n 0, 1) := jx_dec c_M_person_ok 53 rfl
theorem d_M_person_103 : decode prog_7_method_6_code 103 = .ok (.getfield 87, 3) := jx_dec c_M_person_ok 54 rfl
theorem d_M_person_106 : decode prog_7_method_6_code 106 = .ok (.iload_n 2, 1) := jx_dec c_M_person_ok 55 rfl
theorem d_M_person_107 : decode prog_7_method_6_code 107 = .ok (.iastore, 1) := jx_dec c_M_person_ok 56 rfl
theorem d_M_person_108 : decode prog_7_method_6_code 108 = .ok (.aload_n 0, 1) := jx_dec c_M_person_ok 57 rfl
theorem d_M_person_109 : decode prog_7_method_6_code 109 = .ok (.getfield 16, 3) := jx_dec c_M_person_ok 58 rfl
theorem d_M_person_112 : decode prog_7_method_6_code 112 = .ok (.aload_n 0, 1) := jx_dec c_M_person_ok 59 rfl
theorem d_M_person_113 : decode prog_7_method_6_code 113 = .ok (.getfield 87, 3) := jx_dec c_M_person_ok 60 rfl
theorem d_M_person_116 : decode prog_7_method_6_code 116 = .ok (.iload_n 3, 1) := jx_dec c_M_person_ok 61 rfl
theorem d_M_person_117 : decode prog_7_method_6_code 117 = .ok (.iastore, 1) := jx_dec c_M_person_ok 62 rfl
theorem d_M_person_118 : decode prog_7_method_6_code 118 = .ok (.aload_n 0, 1) := jx_dec c_M_person_ok 63 rfl
theorem d_M_person_119 : decode prog_7_method_6_code 119 = .ok (.getfield 19, 3) := jx_dec c_M_person_ok 64 rfl
theorem d_M_person_122 : decode prog_7_method_6_code 122 = .ok (.aload_n 0, 1) := jx_dec c_M_person_ok 65 rfl
theorem d_M_person_123 : decode prog_7_method_6_code 123 = .ok (.getfield 87, 3) := jx_dec c_M_person_ok 66 rfl
theorem d_M_person_126 : decode prog_7_method_6_code 126 = .ok (.iconst 0, 1) := jx_dec c_M_person_ok 67 rfl
theorem d_M_person_127 : decode prog_7_method_6_code 127 = .ok (.iastore, 1) := jx_dec c_M_person_ok 68 rfl
theorem d_M_person_128 : decode prog_7_method_6_code 128 = .ok (.aload_n 0, 1) := jx_dec c_M_person_ok 69 rfl
theorem d_M_person_129 : decode prog_7_method_6_code 129 = .ok (.getfield 22, 3) := jx_dec c_M_person_ok 70 rfl
theorem d_M_person_132 : decode prog_7_method_6_code 132 = .ok (.aload_n 0, 1) := jx_dec c_M_person_ok 71 rfl
theorem d_M_person_133 : decode prog_7_method_6_code 133 = .ok (.getfield 87, 3) := jx_dec c_M_person_ok 72 rfl
theorem d_M_person_136 : decode prog_7_method_6_code 136 = .ok (.iconst 0, 1) := jx_dec c_M_person_ok 73 rfl
theorem d_M_person_137 : decode prog_7_method_6_code 137 = .ok (.iastore, 1) := jx_dec c_M_person_ok 74 rfl
theorem d_M_person_138 : decode prog_7_method_6_code 138 = .ok (.aload_n 0, 1) := jx_dec c_M_person_ok 75 rfl
theorem d_M_person_139 : decode prog_7_method_6_code 139 = .ok (.getfield 25, 3) := jx_dec c_M_person_ok 76 rfl
theorem d_M_person_142 : decode prog_7_method_6_code 142 = .ok (.aload_n 0, 1) := jx_dec c_M_person_ok 77 rfl
theorem d_M_person_143 : decode prog_7_method_6_code 143 = .ok (.getfield 87, 3) := jx_dec c_M_person_ok 78 rfl
theorem d_M_person_146 : decode prog_7_method_6_code 146 = .ok (.iload 4, 2) := jx_dec c_M_person_ok 79 rfl
theorem d_M_person_148 : decode prog_7_method_6_code 148 = .ok (.iastore, 1) := jx_dec c_M_person_ok 80 rfl
theorem d_M_person_149 : decode prog_7_method_6_code 149 = .ok (.aload_n 0, 1) := jx_dec c_M_person_ok 81 rfl
theorem d_M_person_150 : decode prog_7_method_6_code 150 = .ok (.getfield 28, 3) := jx_dec c_M_person_ok 82 rfl
theorem d_M_person_153 : decode prog_7_method_6_code 153 = .ok (.aload_n 0, 1) := jx_dec c_M_person_ok 83 rfl
theorem d_M_person_154 : decode prog_7_method_6_code 154 = .ok (.getfield 87, 3) := jx_dec c_M_person_ok 84 rfl
theorem d_M_person_157 : decode prog_7_method_6_code 157 = .ok (.iconst 1, 1) := jx_dec c_M_person_ok 85 rfl
theorem d_M_person_158 : decode prog_7_method_6_code 158 = .ok (.bastore, 1) := jx_dec c_M_person_ok 86 rfl
theorem d_M_person_159 : decode prog_7_method_6_code 159 = .ok (.aload_n 0, 1) := jx_dec c_M_person_ok 87 rfl
theorem d_M_person_160 : decode prog_7_method_6_code 160 = .ok (.getfield 32, 3) := jx_dec c_M_person_ok 88 rfl
theorem d_M_person_163 : decode prog_7_method_6_code 163 = .ok (.aload_n 0, 1) := jx_dec c_M_person_ok 89 rfl
theorem d_M_person_164 : decode prog_7_method_6_code 164 = .ok (.getfield 87, 3) := jx_dec c_M_person_ok 90 rfl
theorem d_M_person_167 : decode prog_7_method_6_code 167 = .ok (.iconst (-1), 1) := jx_dec c_M_person_ok 91 rfl
theorem d_M_person_168 : decode prog_7_method_6_code 168 = .ok (.iastore, 1) := jx_dec c_M_person_ok 92 rfl
theorem d_M_person_169 : decode prog_7_method_6_code 169 = .ok (.aload_n 0, 1) := jx_dec c_M_person_ok 93 rfl
theorem d_M_person_170 : decode prog_7_method_6_code 170 = .ok (.dup, 1) := jx_dec c_M_person_ok 94 rfl
theorem d_M_person_171 : decode prog_7_method_6_code 171 = .ok (.getfield 87, 3) := jx_dec c_M_person_ok 95 rfl
theorem d_M_person_174 : decode prog_7_method_6_code 174 = .ok (.iconst 1, 1) := jx_dec c_M_person_ok 96 rfl
theorem d_M_person_175 : decode prog_7_method_6_code 175 = .ok (.iadd, 1) := jx_dec c_M_person_ok 97 rfl
theorem d_M_person_176 : decode prog_7_method_6_code 176 = .ok (.putfield 87, 3) := jx_dec c_M_person_ok 98 rfl
theorem d_M_person_179 : decode prog_7_method_6_code 179 = .ok (.aload_n 0, 1) := jx_dec c_M_person_ok 99 rfl
theorem d_M_person_180 : decode prog_7_method_6_code 180 = .ok (.getfield 87, 3) := jx_dec c_M_person_ok 100 rfl
theorem d_M_person_183 : decode prog_7_method_6_code 183 = .ok (.iconst 1, 1) := jx_dec c_M_person_ok 101 rfl
theorem d_M_person_184 : decode prog_7_method_6_code 184 = .ok (.isub, 1) := jx_dec c_M_person_ok 102 rfl
theorem d_M_person_185 : decode prog_7_method_6_code 185 = .ok (.ireturn, 1) := jx_dec c_M_person_ok 103 rfl
def c_M_within : List (Nat × Instr × Nat) := [(0, .iload_n 0, 1), (1, .iload_n 1, 1), (2, .if_icmp .lt 12, 3), (5, .iload_n 0, 1), (6, .iload_n 2, 1), (7, .if_icmp .gt 7, 3), (10, .iconst 1, 1), (11, .goto 4, 3), (14, .iconst 0, 1), (15, .ireturn, 1)]
theorem c_M_within_ok : (c_M_within).all (fun q => decide (decode prog_7_method_3_code q.1 = .ok q.2)) = true := by decide +kernel
theorem d_M_within_0 : decode prog_7_method_3_code 0 = .ok (.iload_n 0, 1) := jx_dec c_M_within_ok 0 rfl
theorem d_M_within_1 : decode prog_7_method_3_code 1 = .ok (.iload_n 1, 1) := jx_dec c_M_within_ok 1 rfl
theorem d_M_within_2 : decode prog_7_method_3_code 2 = .ok (.if_icmp .lt 12, 3) := jx_dec c_M_within_ok 2 rfl
theorem d_M_within_5 : decode prog_7_method_3_code 5 = .ok (.iload_n 0, 1) := jx_dec c_M_within_ok 3 rfl
theorem d_M_within_6 : decode prog_7_method_3_code 6 = .ok (.iload_n 2, 1) := jx_dec c_M_within_ok 4 rfl
theorem d_M_within_7 : decode prog_7_method_3_code 7 = .ok (.if_icmp .gt 7, 3) := jx_dec c_M_within_ok 5 rfl
theorem d_M_within_10 : decode prog_7_method_3_code 10 = .ok (.iconst 1, 1) := jx_dec c_M_within_ok 6 rfl
theorem d_M_within_11 : decode prog_7_method_3_code 11 = .ok (.goto 4, 3) := jx_dec c_M_within_ok 7 rfl
theorem d_M_within_14 : decode prog_7_method_3_code 14 = .ok (.iconst 0, 1) := jx_dec c_M_within_ok 8 rfl
theorem d_M_within_15 : decode prog_7_method_3_code 15 = .ok (.ireturn, 1) := jx_dec c_M_within_ok 9 rfl
def c_M_rest : List (Nat × Instr × Nat) := [(0, .aload_n 0, 1), (1, .aload_n 0, 1), (2, .iload_n 1, 1), (3, .invokevirtual 98, 3), (6, .ifCond .ne 7, 3), (9, .iconst 1, 1), (10, .goto 33, 3), (13, .iload_n 2, 1), (14, .aload_n 0, 1), (15, .getfield 13, 3), (18, .iload_n 1, 1), (19, .iaload, 1), (20, .if_icmp .lt 18, 3), (23, .iload_n 3, 1), (24, .aload_n 0, 1), (25, .getfield 16, 3), (28, .iload_n 1, 1), (29, .iaload, 1), (30, .if_icmp .gt 8, 3), (33, .iload_n 2, 1), (34, .iload_n 3, 1), (35, .if_icmp .le 7, 3), (38, .iconst 2, 1), (39, .goto 4, 3), (42, .iconst 0, 1), (43, .putfield 83, 3), (46, .aload_n 0, 1), (47, .getfield 83, 3), (50, .ifCond .eq 4, 3), (53, .return_, 1), (54, .aload_n 0, 1), (55, .getfield 19, 3), (58, .iload_n 1, 1), (59, .iload_n 2, 1), (60, .iastore, 1), (61, .aload_n 0, 1), (62, .getfield 22, 3), (65, .iload_n 1, 1), (66, .iload_n 3, 1), (67, .iastore, 1), (68, .return_, 1)]
theorem c_M_rest_ok : (c_M_rest).all (fun q => decide (decode prog_7_method_7_code q.1 = .ok q.2)) = true := by decide +kernel
theorem d_M_rest_0 : decode prog_7_method_7_code 0 = .ok (.aload_n 0, 1) := jx_dec c_M_rest_ok 0 rfl
theorem d_M_rest_1 : decode prog_7_method_7_code 1 = .ok (.aload_n 0, 1) := jx_dec c_M_rest_ok 1 rfl
theorem d_M_rest_2 : decode prog_7_method_7_code 2 = .ok (.iload_n 1, 1) := jx_dec c_M_rest_ok 2 rfl
theorem d_M_rest_3 : decode prog_7_method_7_code 3 = .ok (.invokevirtual 98, 3) := jx_dec c_M_rest_ok 3 rfl
theorem d_M_rest_6 : decode prog_7_method_7_code 6 = .ok (.ifCond .ne 7, 3) := jx_dec c_M_rest_ok 4 rfl
theorem d_M_rest_9 : decode prog_7_method_7_code 9 = .ok (.iconst 1, 1) := jx_dec c_M_rest_ok 5 rfl
theorem d_M_rest_10 : decode prog_7_method_7_code 10 = .ok (.goto 33, 3) := jx_dec c_M_rest_ok 6 rfl
theorem d_M_rest_13 : decode prog_7_method_7_code 13 = .ok (.iload_n 2, 1) := jx_dec c_M_rest_ok 7 rfl
theorem d_M_rest_14 : decode prog_7_method_7_code 14 = .ok (.aload_n 0, 1) := jx_dec c_M_rest_ok 8 rfl
theorem d_M_rest_15 : decode prog_7_method_7_code 15 = .ok (.getfield 13, 3) := jx_dec c_M_rest_ok 9 rfl
theorem d_M_rest_18 : decode prog_7_method_7_code 18 = .ok (.iload_n 1, 1) := jx_dec c_M_rest_ok 10 rfl
theorem d_M_rest_19 : decode prog_7_method_7_code 19 = .ok (.iaload, 1) := jx_dec c_M_rest_ok 11 rfl
theorem d_M_rest_20 : decode prog_7_method_7_code 20 = .ok (.if_icmp .lt 18, 3) := jx_dec c_M_rest_ok 12 rfl
theorem d_M_rest_23 : decode prog_7_method_7_code 23 = .ok (.iload_n 3, 1) := jx_dec c_M_rest_ok 13 rfl
theorem d_M_rest_24 : decode prog_7_method_7_code 24 = .ok (.aload_n 0, 1) := jx_dec c_M_rest_ok 14 rfl
theorem d_M_rest_25 : decode prog_7_method_7_code 25 = .ok (.getfield 16, 3) := jx_dec c_M_rest_ok 15 rfl
theorem d_M_rest_28 : decode prog_7_method_7_code 28 = .ok (.iload_n 1, 1) := jx_dec c_M_rest_ok 16 rfl
theorem d_M_rest_29 : decode prog_7_method_7_code 29 = .ok (.iaload, 1) := jx_dec c_M_rest_ok 17 rfl
theorem d_M_rest_30 : decode prog_7_method_7_code 30 = .ok (.if_icmp .gt 8, 3) := jx_dec c_M_rest_ok 18 rfl
theorem d_M_rest_33 : decode prog_7_method_7_code 33 = .ok (.iload_n 2, 1) := jx_dec c_M_rest_ok 19 rfl
theorem d_M_rest_34 : decode prog_7_method_7_code 34 = .ok (.iload_n 3, 1) := jx_dec c_M_rest_ok 20 rfl
theorem d_M_rest_35 : decode prog_7_method_7_code 35 = .ok (.if_icmp .le 7, 3) := jx_dec c_M_rest_ok 21 rfl
theorem d_M_rest_38 : decode prog_7_method_7_code 38 = .ok (.iconst 2, 1) := jx_dec c_M_rest_ok 22 rfl
theorem d_M_rest_39 : decode prog_7_method_7_code 39 = .ok (.goto 4, 3) := jx_dec c_M_rest_ok 23 rfl
theorem d_M_rest_42 : decode prog_7_method_7_code 42 = .ok (.iconst 0, 1) := jx_dec c_M_rest_ok 24 rfl
theorem d_M_rest_43 : decode prog_7_method_7_code 43 = .ok (.putfield 83, 3) := jx_dec c_M_rest_ok 25 rfl
theorem d_M_rest_46 : decode prog_7_method_7_code 46 = .ok (.aload_n 0, 1) := jx_dec c_M_rest_ok 26 rfl
theorem d_M_rest_47 : decode prog_7_method_7_code 47 = .ok (.getfield 83, 3) := jx_dec c_M_rest_ok 27 rfl
theorem d_M_rest_50 : decode prog_7_method_7_code 50 = .ok (.ifCond .eq 4, 3) := jx_dec c_M_rest_ok 28 rfl
theorem d_M_rest_53 : decode prog_7_method_7_code 53 = .ok (.return_, 1) := jx_dec c_M_rest_ok 29 rfl
theorem d_M_rest_54 : decode prog_7_method_7_code 54 = .ok (.aload_n 0, 1) := jx_dec c_M_rest_ok 30 rfl
theorem d_M_rest_55 : decode prog_7_method_7_code 55 = .ok (.getfield 19, 3) := jx_dec c_M_rest_ok 31 rfl
theorem d_M_rest_58 : decode prog_7_method_7_code 58 = .ok (.iload_n 1, 1) := jx_dec c_M_rest_ok 32 rfl
theorem d_M_rest_59 : decode prog_7_method_7_code 59 = .ok (.iload_n 2, 1) := jx_dec c_M_rest_ok 33 rfl
theorem d_M_rest_60 : decode prog_7_method_7_code 60 = .ok (.iastore, 1) := jx_dec c_M_rest_ok 34 rfl
theorem d_M_rest_61 : decode prog_7_method_7_code 61 = .ok (.aload_n 0, 1) := jx_dec c_M_rest_ok 35 rfl
theorem d_M_rest_62 : decode prog_7_method_7_code 62 = .ok (.getfield 22, 3) := jx_dec c_M_rest_ok 36 rfl
theorem d_M_rest_65 : decode prog_7_method_7_code 65 = .ok (.iload_n 1, 1) := jx_dec c_M_rest_ok 37 rfl
theorem d_M_rest_66 : decode prog_7_method_7_code 66 = .ok (.iload_n 3, 1) := jx_dec c_M_rest_ok 38 rfl
theorem d_M_rest_67 : decode prog_7_method_7_code 67 = .ok (.iastore, 1) := jx_dec c_M_rest_ok 39 rfl
theorem d_M_rest_68 : decode prog_7_method_7_code 68 = .ok (.return_, 1) := jx_dec c_M_rest_ok 40 rfl
def c_M_isPerson : List (Nat × Instr × Nat) := [(0, .iload_n 1, 1), (1, .iconst 0, 1), (2, .aload_n 0, 1), (3, .getfield 87, 3), (6, .iconst 1, 1), (7, .isub, 1), (8, .invokestatic 90, 3), (11, .ireturn, 1)]
theorem c_M_isPerson_ok : (c_M_isPerson).all (fun q => decide (decode prog_7_method_4_code q.1 = .ok q.2)) = true := by decide +kernel
theorem d_M_isPerson_0 : decode prog_7_method_4_code 0 = .ok (.iload_n 1, 1) := jx_dec c_M_isPerson_ok 0 rfl
theorem d_M_isPerson_1 : decode prog_7_method_4_code 1 = .ok (.iconst 0, 1) := jx_dec c_M_isPerson_ok 1 rfl
theorem d_M_isPerson_2 : decode prog_7_method_4_code 2 = .ok (.aload_n 0, 1) := jx_dec c_M_isPerson_ok 2 rfl
theorem d_M_isPerson_3 : decode prog_7_method_4_code 3 = .ok (.getfield 87, 3) := jx_dec c_M_isPerson_ok 3 rfl
theorem d_M_isPerson_6 : decode prog_7_method_4_code 6 = .ok (.iconst 1, 1) := jx_dec c_M_isPerson_ok 4 rfl
theorem d_M_isPerson_7 : decode prog_7_method_4_code 7 = .ok (.isub, 1) := jx_dec c_M_isPerson_ok 5 rfl
theorem d_M_isPerson_8 : decode prog_7_method_4_code 8 = .ok (.invokestatic 90, 3) := jx_dec c_M_isPerson_ok 6 rfl
theorem d_M_isPerson_11 : decode prog_7_method_4_code 11 = .ok (.ireturn, 1) := jx_dec c_M_isPerson_ok 7 rfl
def c_M_train : List (Nat × Instr × Nat) := [(0, .aload_n 0, 1), (1, .aload_n 0, 1), (2, .iload_n 1, 1), (3, .invokevirtual 98, 3), (6, .ifCond .ne 7, 3), (9, .iconst 1, 1), (10, .goto 36, 3), (13, .iload_n 2, 1), (14, .iconst 0, 1), (15, .bipush 7, 2), (17, .invokestatic 90, 3), (20, .ifCond .ne 7, 3), (23, .iconst 2, 1), (24, .goto 22, 3), (27, .aload_n 0, 1), (28, .getfield 7, 3), (31, .iload_n 1, 1), (32, .iaload, 1), (33, .iload_n 2, 1), (34, .ishr, 1), (35, .iconst 1, 1), (36, .iand, 1), (37, .iconst 1, 1), (38, .if_icmp .ne 7, 3), (41, .iconst 3, 1), (42, .goto 4, 3), (45, .iconst 0, 1), (46, .putfield 83, 3), (49, .aload_n 0, 1), (50, .getfield 83, 3), (53, .ifCond .eq 5, 3), (56, .iconst 0, 1), (57, .ireturn, 1), (58, .aload_n 0, 1), (59, .getfield 7, 3), (62, .iload_n 1, 1), (63, .dup2, 1), (64, .iaload, 1), (65, .iconst 1, 1), (66, .iload_n 2, 1), (67, .ishl, 1), (68, .ior, 1), (69, .iastore, 1), (70, .aload_n 0, 1), (71, .getfield 7, 3), (74, .iload_n 1, 1), (75, .iaload, 1), (76, .invokestatic 102, 3), (79, .ireturn, 1)]
theorem c_M_train_ok : (c_M_train).all (fun q => decide (decode prog_7_method_9_code q.1 = .ok q.2)) = true := by decide +kernel
theorem d_M_train_0 : decode prog_7_method_9_code 0 = .ok (.aload_n 0, 1) := jx_dec c_M_train_ok 0 rfl
theorem d_M_train_1 : decode prog_7_method_9_code 1 = .ok (.aload_n 0, 1) := jx_dec c_M_train_ok 1 rfl
theorem d_M_train_2 : decode prog_7_method_9_code 2 = .ok (.iload_n 1, 1) := jx_dec c_M_train_ok 2 rfl
theorem d_M_train_3 : decode prog_7_method_9_code 3 = .ok (.invokevirtual 98, 3) := jx_dec c_M_train_ok 3 rfl
theorem d_M_train_6 : decode prog_7_method_9_code 6 = .ok (.ifCond .ne 7, 3) := jx_dec c_M_train_ok 4 rfl
theorem d_M_train_9 : decode prog_7_method_9_code 9 = .ok (.iconst 1, 1) := jx_dec c_M_train_ok 5 rfl
theorem d_M_train_10 : decode prog_7_method_9_code 10 = .ok (.goto 36, 3) := jx_dec c_M_train_ok 6 rfl
theorem d_M_train_13 : decode prog_7_method_9_code 13 = .ok (.iload_n 2, 1) := jx_dec c_M_train_ok 7 rfl
theorem d_M_train_14 : decode prog_7_method_9_code 14 = .ok (.iconst 0, 1) := jx_dec c_M_train_ok 8 rfl
theorem d_M_train_15 : decode prog_7_method_9_code 15 = .ok (.bipush 7, 2) := jx_dec c_M_train_ok 9 rfl
theorem d_M_train_17 : decode prog_7_method_9_code 17 = .ok (.invokestatic 90, 3) := jx_dec c_M_train_ok 10 rfl
theorem d_M_train_20 : decode prog_7_method_9_code 20 = .ok (.ifCond .ne 7, 3) := jx_dec c_M_train_ok 11 rfl
theorem d_M_train_23 : decode prog_7_method_9_code 23 = .ok (.iconst 2, 1) := jx_dec c_M_train_ok 12 rfl
theorem d_M_train_24 : decode prog_7_method_9_code 24 = .ok (.goto 22, 3) := jx_dec c_M_train_ok 13 rfl
theorem d_M_train_27 : decode prog_7_method_9_code 27 = .ok (.aload_n 0, 1) := jx_dec c_M_train_ok 14 rfl
theorem d_M_train_28 : decode prog_7_method_9_code 28 = .ok (.getfield 7, 3) := jx_dec c_M_train_ok 15 rfl
theorem d_M_train_31 : decode prog_7_method_9_code 31 = .ok (.iload_n 1, 1) := jx_dec c_M_train_ok 16 rfl
theorem d_M_train_32 : decode prog_7_method_9_code 32 = .ok (.iaload, 1) := jx_dec c_M_train_ok 17 rfl
theorem d_M_train_33 : decode prog_7_method_9_code 33 = .ok (.iload_n 2, 1) := jx_dec c_M_train_ok 18 rfl
theorem d_M_train_34 : decode prog_7_method_9_code 34 = .ok (.ishr, 1) := jx_dec c_M_train_ok 19 rfl
theorem d_M_train_35 : decode prog_7_method_9_code 35 = .ok (.iconst 1, 1) := jx_dec c_M_train_ok 20 rfl
theorem d_M_train_36 : decode prog_7_method_9_code 36 = .ok (.iand, 1) := jx_dec c_M_train_ok 21 rfl
theorem d_M_train_37 : decode prog_7_method_9_code 37 = .ok (.iconst 1, 1) := jx_dec c_M_train_ok 22 rfl
theorem d_M_train_38 : decode prog_7_method_9_code 38 = .ok (.if_icmp .ne 7, 3) := jx_dec c_M_train_ok 23 rfl
theorem d_M_train_41 : decode prog_7_method_9_code 41 = .ok (.iconst 3, 1) := jx_dec c_M_train_ok 24 rfl
theorem d_M_train_42 : decode prog_7_method_9_code 42 = .ok (.goto 4, 3) := jx_dec c_M_train_ok 25 rfl
theorem d_M_train_45 : decode prog_7_method_9_code 45 = .ok (.iconst 0, 1) := jx_dec c_M_train_ok 26 rfl
theorem d_M_train_46 : decode prog_7_method_9_code 46 = .ok (.putfield 83, 3) := jx_dec c_M_train_ok 27 rfl
theorem d_M_train_49 : decode prog_7_method_9_code 49 = .ok (.aload_n 0, 1) := jx_dec c_M_train_ok 28 rfl
theorem d_M_train_50 : decode prog_7_method_9_code 50 = .ok (.getfield 83, 3) := jx_dec c_M_train_ok 29 rfl
theorem d_M_train_53 : decode prog_7_method_9_code 53 = .ok (.ifCond .eq 5, 3) := jx_dec c_M_train_ok 30 rfl
theorem d_M_train_56 : decode prog_7_method_9_code 56 = .ok (.iconst 0, 1) := jx_dec c_M_train_ok 31 rfl
theorem d_M_train_57 : decode prog_7_method_9_code 57 = .ok (.ireturn, 1) := jx_dec c_M_train_ok 32 rfl
theorem d_M_train_58 : decode prog_7_method_9_code 58 = .ok (.aload_n 0, 1) := jx_dec c_M_train_ok 33 rfl
theorem d_M_train_59 : decode prog_7_method_9_code 59 = .ok (.getfield 7, 3) := jx_dec c_M_train_ok 34 rfl
theorem d_M_train_62 : decode prog_7_method_9_code 62 = .ok (.iload_n 1, 1) := jx_dec c_M_train_ok 35 rfl
theorem d_M_train_63 : decode prog_7_method_9_code 63 = .ok (.dup2, 1) := jx_dec c_M_train_ok 36 rfl
theorem d_M_train_64 : decode prog_7_method_9_code 64 = .ok (.iaload, 1) := jx_dec c_M_train_ok 37 rfl
theorem d_M_train_65 : decode prog_7_method_9_code 65 = .ok (.iconst 1, 1) := jx_dec c_M_train_ok 38 rfl
theorem d_M_train_66 : decode prog_7_method_9_code 66 = .ok (.iload_n 2, 1) := jx_dec c_M_train_ok 39 rfl
theorem d_M_train_67 : decode prog_7_method_9_code 67 = .ok (.ishl, 1) := jx_dec c_M_train_ok 40 rfl
theorem d_M_train_68 : decode prog_7_method_9_code 68 = .ok (.ior, 1) := jx_dec c_M_train_ok 41 rfl
theorem d_M_train_69 : decode prog_7_method_9_code 69 = .ok (.iastore, 1) := jx_dec c_M_train_ok 42 rfl
theorem d_M_train_70 : decode prog_7_method_9_code 70 = .ok (.aload_n 0, 1) := jx_dec c_M_train_ok 43 rfl
theorem d_M_train_71 : decode prog_7_method_9_code 71 = .ok (.getfield 7, 3) := jx_dec c_M_train_ok 44 rfl
theorem d_M_train_74 : decode prog_7_method_9_code 74 = .ok (.iload_n 1, 1) := jx_dec c_M_train_ok 45 rfl
theorem d_M_train_75 : decode prog_7_method_9_code 75 = .ok (.iaload, 1) := jx_dec c_M_train_ok 46 rfl
theorem d_M_train_76 : decode prog_7_method_9_code 76 = .ok (.invokestatic 102, 3) := jx_dec c_M_train_ok 47 rfl
theorem d_M_train_79 : decode prog_7_method_9_code 79 = .ok (.ireturn, 1) := jx_dec c_M_train_ok 48 rfl
def c_M_bits : List (Nat × Instr × Nat) := [(0, .iconst 0, 1), (1, .istore_n 1, 1), (2, .iconst 0, 1), (3, .istore_n 2, 1), (4, .iload_n 2, 1), (5, .bipush 8, 2), (7, .if_icmp .ge 17, 3), (10, .iload_n 1, 1), (11, .iload_n 0, 1), (12, .iload_n 2, 1), (13, .ishr, 1), (14, .iconst 1, 1), (15, .iand, 1), (16, .iadd, 1), (17, .istore_n 1, 1), (18, .iinc 2 1, 3), (21, .goto (-17), 3), (24, .iload_n 1, 1), (25, .ireturn, 1)]
theorem c_M_bits_ok : (c_M_bits).all (fun q => decide (decode prog_7_method_8_code q.1 = .ok q.2)) = true := by decide +kernel
theorem d_M_bits_0 : decode prog_7_method_8_code 0 = .ok (.iconst 0, 1) := jx_dec c_M_bits_ok 0 rfl
theorem d_M_bits_1 : decode prog_7_method_8_code 1 = .ok (.istore_n 1, 1) := jx_dec c_M_bits_ok 1 rfl
theorem d_M_bits_2 : decode prog_7_method_8_code 2 = .ok (.iconst 0, 1) := jx_dec c_M_bits_ok 2 rfl
theorem d_M_bits_3 : decode prog_7_method_8_code 3 = .ok (.istore_n 2, 1) := jx_dec c_M_bits_ok 3 rfl
theorem d_M_bits_4 : decode prog_7_method_8_code 4 = .ok (.iload_n 2, 1) := jx_dec c_M_bits_ok 4 rfl
theorem d_M_bits_5 : decode prog_7_method_8_code 5 = .ok (.bipush 8, 2) := jx_dec c_M_bits_ok 5 rfl
theorem d_M_bits_7 : decode prog_7_method_8_code 7 = .ok (.if_icmp .ge 17, 3) := jx_dec c_M_bits_ok 6 rfl
theorem d_M_bits_10 : decode prog_7_method_8_code 10 = .ok (.iload_n 1, 1) := jx_dec c_M_bits_ok 7 rfl
theorem d_M_bits_11 : decode prog_7_method_8_code 11 = .ok (.iload_n 0, 1) := jx_dec c_M_bits_ok 8 rfl
theorem d_M_bits_12 : decode prog_7_method_8_code 12 = .ok (.iload_n 2, 1) := jx_dec c_M_bits_ok 9 rfl
theorem d_M_bits_13 : decode prog_7_method_8_code 13 = .ok (.ishr, 1) := jx_dec c_M_bits_ok 10 rfl
theorem d_M_bits_14 : decode prog_7_method_8_code 14 = .ok (.iconst 1, 1) := jx_dec c_M_bits_ok 11 rfl
theorem d_M_bits_15 : decode prog_7_method_8_code 15 = .ok (.iand, 1) := jx_dec c_M_bits_ok 12 rfl
theorem d_M_bits_16 : decode prog_7_method_8_code 16 = .ok (.iadd, 1) := jx_dec c_M_bits_ok 13 rfl
theorem d_M_bits_17 : decode prog_7_method_8_code 17 = .ok (.istore_n 1, 1) := jx_dec c_M_bits_ok 14 rfl
theorem d_M_bits_18 : decode prog_7_method_8_code 18 = .ok (.iinc 2 1, 3) := jx_dec c_M_bits_ok 15 rfl
theorem d_M_bits_21 : decode prog_7_method_8_code 21 = .ok (.goto (-17), 3) := jx_dec c_M_bits_ok 16 rfl
theorem d_M_bits_24 : decode prog_7_method_8_code 24 = .ok (.iload_n 1, 1) := jx_dec c_M_bits_ok 17 rfl
theorem d_M_bits_25 : decode prog_7_method_8_code 25 = .ok (.ireturn, 1) := jx_dec c_M_bits_ok 18 rfl
def c_M_task : List (Nat × Instr × Nat) := [(0, .iload_n 1, 1), (1, .iconst 0, 1), (2, .bipush 7, 2), (4, .invokestatic 90, 3), (7, .ifCond .eq 38, 3), (10, .iload_n 2, 1), (11, .iconst 1, 1), (12, .sipush 5000, 3), (15, .invokestatic 90, 3), (18, .ifCond .eq 27, 3), (21, .iload_n 3, 1), (22, .iconst 0, 1), (23, .ldc 97, 2), (25, .invokestatic 90, 3), (28, .ifCond .eq 17, 3), (31, .iload 4, 2), (33, .iconst 0, 1), (34, .iconst 3, 1), (35, .invokestatic 90, 3), (38, .ifCond .eq 7, 3), (41, .iconst 1, 1), (42, .goto 4, 3), (45, .iconst 0, 1), (46, .istore 5, 2), (48, .aload_n 0, 1), (49, .iload 5, 2), (51, .ifCond .ne 7, 3), (54, .iconst 1, 1), (55, .goto 17, 3), (58, .aload_n 0, 1), (59, .getfield 94, 3), (62, .bipush 16, 2), (64, .if_icmp .ne 7, 3), (67, .iconst 2, 1), (68, .goto 4, 3), (71, .iconst 0, 1), (72, .putfield 83, 3), (75, .aload_n 0, 1), (76, .getfield 83, 3), (79, .ifCond .eq 5, 3), (82, .iconst 0, 1), (83, .ireturn, 1), (84, .aload_n 0, 1), (85, .getfield 38, 3), (88, .aload_n 0, 1), (89, .getfield 94, 3), (92, .iconst 0, 1), (93, .iastore, 1), (94, .aload_n 0, 1), (95, .getfield 41, 3), (98, .aload_n 0, 1), (99, .getfield 94, 3), (102, .iload_n 1, 1), (103, .iastore, 1), (104, .aload_n 0, 1), (105, .getfield 44, 3), (108, .aload_n 0, 1), (109, .getfield 94, 3), (112, .iload_n 2, 1), (113, .iastore, 1), (114, .aload_n 0, 1), (115, .getfield 47, 3), (118, .aload_n 0, 1), (119, .getfield 94, 3), (122, .iload_n 3, 1), (123, .iastore, 1), (124, .aload_n 0, 1), (125, .getfield 50, 3), (128, .aload_n 0, 1), (129, .getfield 94, 3), (132, .iload 4, 2), (134, .iastore, 1), (135, .aload_n 0, 1), (136, .getfield 53, 3), (139, .aload_n 0, 1), (140, .getfield 94, 3), (143, .iconst 0, 1), (144, .iastore, 1), (145, .aload_n 0, 1), (146, .getfield 56, 3), (149, .aload_n 0, 1), (150, .getfield 94, 3), (153, .iconst (-1), 1), (154, .iastore, 1), (155, .aload_n 0, 1), (156, .getfield 59, 3), (159, .aload_n 0, 1), (160, .getfield 94, 3), (163, .iconst (-1), 1), (164, .iastore, 1), (165, .aload_n 0, 1), (166, .dup, 1), (167, .getfield 94, 3), (170, .iconst 1, 1), (171, .iadd, 1), (172, .putfield 94, 3), (175, .aload_n 0, 1), (176, .getfield 94, 3), (179, .iconst 1, 1), (180, .isub, 1), (181, .ireturn, 1)]
theorem c_M_task_ok : (c_M_task).all (fun q => decide (decode prog_7_method_10_code q.1 = .ok q.2)) = true := by decide +kernel
theorem d_M_task_0 : decode prog_7_method_10_code 0 = .ok (.iload_n 1, 1) := jx_dec c_M_task_ok 0 rfl
theorem d_M_task_1 : decode prog_7_method_10_code 1 = .ok (.iconst 0, 1) := jx_dec c_M_task_ok 1 rfl
theorem d_M_task_2 : decode prog_7_method_10_code 2 = .ok (.bipush 7, 2) := jx_dec c_M_task_ok 2 rfl
theorem d_M_task_4 : decode prog_7_method_10_code 4 = .ok (.invokestatic 90, 3) := jx_dec c_M_task_ok 3 rfl
theorem d_M_task_7 : decode prog_7_method_10_code 7 = .ok (.ifCond .eq 38, 3) := jx_dec c_M_task_ok 4 rfl
theorem d_M_task_10 : decode prog_7_method_10_code 10 = .ok (.iload_n 2, 1) := jx_dec c_M_task_ok 5 rfl
theorem d_M_task_11 : decode prog_7_method_10_code 11 = .ok (.iconst 1, 1) := jx_dec c_M_task_ok 6 rfl
theorem d_M_task_12 : decode prog_7_method_10_code 12 = .ok (.sipush 5000, 3) := jx_dec c_M_task_ok 7 rfl
theorem d_M_task_15 : decode prog_7_method_10_code 15 = .ok (.invokestatic 90, 3) := jx_dec c_M_task_ok 8 rfl
theorem d_M_task_18 : decode prog_7_method_10_code 18 = .ok (.ifCond .eq 27, 3) := jx_dec c_M_task_ok 9 rfl
theorem d_M_task_21 : decode prog_7_method_10_code 21 = .ok (.iload_n 3, 1) := jx_dec c_M_task_ok 10 rfl
theorem d_M_task_22 : decode prog_7_method_10_code 22 = .ok (.iconst 0, 1) := jx_dec c_M_task_ok 11 rfl
theorem d_M_task_23 : decode prog_7_method_10_code 23 = .ok (.ldc 97, 2) := jx_dec c_M_task_ok 12 rfl
theorem d_M_task_25 : decode prog_7_method_10_code 25 = .ok (.invokestatic 90, 3) := jx_dec c_M_task_ok 13 rfl
theorem d_M_task_28 : decode prog_7_method_10_code 28 = .ok (.ifCond .eq 17, 3) := jx_dec c_M_task_ok 14 rfl
theorem d_M_task_31 : decode prog_7_method_10_code 31 = .ok (.iload 4, 2) := jx_dec c_M_task_ok 15 rfl
theorem d_M_task_33 : decode prog_7_method_10_code 33 = .ok (.iconst 0, 1) := jx_dec c_M_task_ok 16 rfl
theorem d_M_task_34 : decode prog_7_method_10_code 34 = .ok (.iconst 3, 1) := jx_dec c_M_task_ok 17 rfl
theorem d_M_task_35 : decode prog_7_method_10_code 35 = .ok (.invokestatic 90, 3) := jx_dec c_M_task_ok 18 rfl
theorem d_M_task_38 : decode prog_7_method_10_code 38 = .ok (.ifCond .eq 7, 3) := jx_dec c_M_task_ok 19 rfl
theorem d_M_task_41 : decode prog_7_method_10_code 41 = .ok (.iconst 1, 1) := jx_dec c_M_task_ok 20 rfl
theorem d_M_task_42 : decode prog_7_method_10_code 42 = .ok (.goto 4, 3) := jx_dec c_M_task_ok 21 rfl
theorem d_M_task_45 : decode prog_7_method_10_code 45 = .ok (.iconst 0, 1) := jx_dec c_M_task_ok 22 rfl
theorem d_M_task_46 : decode prog_7_method_10_code 46 = .ok (.istore 5, 2) := jx_dec c_M_task_ok 23 rfl
theorem d_M_task_48 : decode prog_7_method_10_code 48 = .ok (.aload_n 0, 1) := jx_dec c_M_task_ok 24 rfl
theorem d_M_task_49 : decode prog_7_method_10_code 49 = .ok (.iload 5, 2) := jx_dec c_M_task_ok 25 rfl
theorem d_M_task_51 : decode prog_7_method_10_code 51 = .ok (.ifCond .ne 7, 3) := jx_dec c_M_task_ok 26 rfl
theorem d_M_task_54 : decode prog_7_method_10_code 54 = .ok (.iconst 1, 1) := jx_dec c_M_task_ok 27 rfl
theorem d_M_task_55 : decode prog_7_method_10_code 55 = .ok (.goto 17, 3) := jx_dec c_M_task_ok 28 rfl
theorem d_M_task_58 : decode prog_7_method_10_code 58 = .ok (.aload_n 0, 1) := jx_dec c_M_task_ok 29 rfl
theorem d_M_task_59 : decode prog_7_method_10_code 59 = .ok (.getfield 94, 3) := jx_dec c_M_task_ok 30 rfl
theorem d_M_task_62 : decode prog_7_method_10_code 62 = .ok (.bipush 16, 2) := jx_dec c_M_task_ok 31 rfl
theorem d_M_task_64 : decode prog_7_method_10_code 64 = .ok (.if_icmp .ne 7, 3) := jx_dec c_M_task_ok 32 rfl
theorem d_M_task_67 : decode prog_7_method_10_code 67 = .ok (.iconst 2, 1) := jx_dec c_M_task_ok 33 rfl
theorem d_M_task_68 : decode prog_7_method_10_code 68 = .ok (.goto 4, 3) := jx_dec c_M_task_ok 34 rfl
theorem d_M_task_71 : decode prog_7_method_10_code 71 = .ok (.iconst 0, 1) := jx_dec c_M_task_ok 35 rfl
theorem d_M_task_72 : decode prog_7_method_10_code 72 = .ok (.putfield 83, 3) := jx_dec c_M_task_ok 36 rfl
theorem d_M_task_75 : decode prog_7_method_10_code 75 = .ok (.aload_n 0, 1) := jx_dec c_M_task_ok 37 rfl
theorem d_M_task_76 : decode prog_7_method_10_code 76 = .ok (.getfield 83, 3) := jx_dec c_M_task_ok 38 rfl
theorem d_M_task_79 : decode prog_7_method_10_code 79 = .ok (.ifCond .eq 5, 3) := jx_dec c_M_task_ok 39 rfl
theorem d_M_task_82 : decode prog_7_method_10_code 82 = .ok (.iconst 0, 1) := jx_dec c_M_task_ok 40 rfl
theorem d_M_task_83 : decode prog_7_method_10_code 83 = .ok (.ireturn, 1) := jx_dec c_M_task_ok 41 rfl
theorem d_M_task_84 : decode prog_7_method_10_code 84 = .ok (.aload_n 0, 1) := jx_dec c_M_task_ok 42 rfl
theorem d_M_task_85 : decode prog_7_method_10_code 85 = .ok (.getfield 38, 3) := jx_dec c_M_task_ok 43 rfl
theorem d_M_task_88 : decode prog_7_method_10_code 88 = .ok (.aload_n 0, 1) := jx_dec c_M_task_ok 44 rfl
theorem d_M_task_89 : decode prog_7_method_10_code 89 = .ok (.getfield 94, 3) := jx_dec c_M_task_ok 45 rfl
theorem d_M_task_92 : decode prog_7_method_10_code 92 = .ok (.iconst 0, 1) := jx_dec c_M_task_ok 46 rfl
theorem d_M_task_93 : decode prog_7_method_10_code 93 = .ok (.iastore, 1) := jx_dec c_M_task_ok 47 rfl
theorem d_M_task_94 : decode prog_7_method_10_code 94 = .ok (.aload_n 0, 1) := jx_dec c_M_task_ok 48 rfl
theorem d_M_task_95 : decode prog_7_method_10_code 95 = .ok (.getfield 41, 3) := jx_dec c_M_task_ok 49 rfl
theorem d_M_task_98 : decode prog_7_method_10_code 98 = .ok (.aload_n 0, 1) := jx_dec c_M_task_ok 50 rfl
theorem d_M_task_99 : decode prog_7_method_10_code 99 = .ok (.getfield 94, 3) := jx_dec c_M_task_ok 51 rfl
theorem d_M_task_102 : decode prog_7_method_10_code 102 = .ok (.iload_n 1, 1) := jx_dec c_M_task_ok 52 rfl
theorem d_M_task_103 : decode prog_7_method_10_code 103 = .ok (.iastore, 1) := jx_dec c_M_task_ok 53 rfl
theorem d_M_task_104 : decode prog_7_method_10_code 104 = .ok (.aload_n 0, 1) := jx_dec c_M_task_ok 54 rfl
theorem d_M_task_105 : decode prog_7_method_10_code 105 = .ok (.getfield 44, 3) := jx_dec c_M_task_ok 55 rfl
theorem d_M_task_108 : decode prog_7_method_10_code 108 = .ok (.aload_n 0, 1) := jx_dec c_M_task_ok 56 rfl
theorem d_M_task_109 : decode prog_7_method_10_code 109 = .ok (.getfield 94, 3) := jx_dec c_M_task_ok 57 rfl
theorem d_M_task_112 : decode prog_7_method_10_code 112 = .ok (.iload_n 2, 1) := jx_dec c_M_task_ok 58 rfl
theorem d_M_task_113 : decode prog_7_method_10_code 113 = .ok (.iastore, 1) := jx_dec c_M_task_ok 59 rfl
theorem d_M_task_114 : decode prog_7_method_10_code 114 = .ok (.aload_n 0, 1) := jx_dec c_M_task_ok 60 rfl
theorem d_M_task_115 : decode prog_7_method_10_code 115 = .ok (.getfield 47, 3) := jx_dec c_M_task_ok 61 rfl
theorem d_M_task_118 : decode prog_7_method_10_code 118 = .ok (.aload_n 0, 1) := jx_dec c_M_task_ok 62 rfl
theorem d_M_task_119 : decode prog_7_method_10_code 119 = .ok (.getfield 94, 3) := jx_dec c_M_task_ok 63 rfl
theorem d_M_task_122 : decode prog_7_method_10_code 122 = .ok (.iload_n 3, 1) := jx_dec c_M_task_ok 64 rfl
theorem d_M_task_123 : decode prog_7_method_10_code 123 = .ok (.iastore, 1) := jx_dec c_M_task_ok 65 rfl
theorem d_M_task_124 : decode prog_7_method_10_code 124 = .ok (.aload_n 0, 1) := jx_dec c_M_task_ok 66 rfl
theorem d_M_task_125 : decode prog_7_method_10_code 125 = .ok (.getfield 50, 3) := jx_dec c_M_task_ok 67 rfl
theorem d_M_task_128 : decode prog_7_method_10_code 128 = .ok (.aload_n 0, 1) := jx_dec c_M_task_ok 68 rfl
theorem d_M_task_129 : decode prog_7_method_10_code 129 = .ok (.getfield 94, 3) := jx_dec c_M_task_ok 69 rfl
theorem d_M_task_132 : decode prog_7_method_10_code 132 = .ok (.iload 4, 2) := jx_dec c_M_task_ok 70 rfl
theorem d_M_task_134 : decode prog_7_method_10_code 134 = .ok (.iastore, 1) := jx_dec c_M_task_ok 71 rfl
theorem d_M_task_135 : decode prog_7_method_10_code 135 = .ok (.aload_n 0, 1) := jx_dec c_M_task_ok 72 rfl
theorem d_M_task_136 : decode prog_7_method_10_code 136 = .ok (.getfield 53, 3) := jx_dec c_M_task_ok 73 rfl
theorem d_M_task_139 : decode prog_7_method_10_code 139 = .ok (.aload_n 0, 1) := jx_dec c_M_task_ok 74 rfl
theorem d_M_task_140 : decode prog_7_method_10_code 140 = .ok (.getfield 94, 3) := jx_dec c_M_task_ok 75 rfl
theorem d_M_task_143 : decode prog_7_method_10_code 143 = .ok (.iconst 0, 1) := jx_dec c_M_task_ok 76 rfl
theorem d_M_task_144 : decode prog_7_method_10_code 144 = .ok (.iastore, 1) := jx_dec c_M_task_ok 77 rfl
theorem d_M_task_145 : decode prog_7_method_10_code 145 = .ok (.aload_n 0, 1) := jx_dec c_M_task_ok 78 rfl
theorem d_M_task_146 : decode prog_7_method_10_code 146 = .ok (.getfield 56, 3) := jx_dec c_M_task_ok 79 rfl
theorem d_M_task_149 : decode prog_7_method_10_code 149 = .ok (.aload_n 0, 1) := jx_dec c_M_task_ok 80 rfl
theorem d_M_task_150 : decode prog_7_method_10_code 150 = .ok (.getfield 94, 3) := jx_dec c_M_task_ok 81 rfl
theorem d_M_task_153 : decode prog_7_method_10_code 153 = .ok (.iconst (-1), 1) := jx_dec c_M_task_ok 82 rfl
theorem d_M_task_154 : decode prog_7_method_10_code 154 = .ok (.iastore, 1) := jx_dec c_M_task_ok 83 rfl
theorem d_M_task_155 : decode prog_7_method_10_code 155 = .ok (.aload_n 0, 1) := jx_dec c_M_task_ok 84 rfl
theorem d_M_task_156 : decode prog_7_method_10_code 156 = .ok (.getfield 59, 3) := jx_dec c_M_task_ok 85 rfl
theorem d_M_task_159 : decode prog_7_method_10_code 159 = .ok (.aload_n 0, 1) := jx_dec c_M_task_ok 86 rfl
theorem d_M_task_160 : decode prog_7_method_10_code 160 = .ok (.getfield 94, 3) := jx_dec c_M_task_ok 87 rfl
theorem d_M_task_163 : decode prog_7_method_10_code 163 = .ok (.iconst (-1), 1) := jx_dec c_M_task_ok 88 rfl
theorem d_M_task_164 : decode prog_7_method_10_code 164 = .ok (.iastore, 1) := jx_dec c_M_task_ok 89 rfl
theorem d_M_task_165 : decode prog_7_method_10_code 165 = .ok (.aload_n 0, 1) := jx_dec c_M_task_ok 90 rfl
theorem d_M_task_166 : decode prog_7_method_10_code 166 = .ok (.dup, 1) := jx_dec c_M_task_ok 91 rfl
theorem d_M_task_167 : decode prog_7_method_10_code 167 = .ok (.getfield 94, 3) := jx_dec c_M_task_ok 92 rfl
theorem d_M_task_170 : decode prog_7_method_10_code 170 = .ok (.iconst 1, 1) := jx_dec c_M_task_ok 93 rfl
theorem d_M_task_171 : decode prog_7_method_10_code 171 = .ok (.iadd, 1) := jx_dec c_M_task_ok 94 rfl
theorem d_M_task_172 : decode prog_7_method_10_code 172 = .ok (.putfield 94, 3) := jx_dec c_M_task_ok 95 rfl
theorem d_M_task_175 : decode prog_7_method_10_code 175 = .ok (.aload_n 0, 1) := jx_dec c_M_task_ok 96 rfl
theorem d_M_task_176 : decode prog_7_method_10_code 176 = .ok (.getfield 94, 3) := jx_dec c_M_task_ok 97 rfl
theorem d_M_task_179 : decode prog_7_method_10_code 179 = .ok (.iconst 1, 1) := jx_dec c_M_task_ok 98 rfl
theorem d_M_task_180 : decode prog_7_method_10_code 180 = .ok (.isub, 1) := jx_dec c_M_task_ok 99 rfl
theorem d_M_task_181 : decode prog_7_method_10_code 181 = .ok (.ireturn, 1) := jx_dec c_M_task_ok 100 rfl
def c_M_way : List (Nat × Instr × Nat) := [(0, .aload_n 0, 1), (1, .iload_n 1, 1), (2, .iconst 0, 1), (3, .iconst 3, 1), (4, .invokestatic 90, 3), (7, .ifCond .eq 32, 3), (10, .iload_n 2, 1), (11, .iconst 0, 1), (12, .iconst 3, 1), (13, .invokestatic 90, 3), (16, .ifCond .eq 23, 3), (19, .iload_n 1, 1), (20, .iload_n 2, 1), (21, .if_icmp .eq 18, 3), (24, .iload_n 3, 1), (25, .iconst 0, 1), (26, .sipush 1000, 3), (29, .invokestatic 90, 3), (32, .ifCond .eq 7, 3), (35, .iconst 0, 1), (36, .goto 4, 3), (39, .iconst 1, 1), (40, .putfield 83, 3), (43, .aload_n 0, 1), (44, .getfield 83, 3), (47, .ifCond .eq 4, 3), (50, .return_, 1), (51, .aload_n 0, 1), (52, .getfield 35, 3), (55, .iconst 4, 1), (56, .iload_n 1, 1), (57, .imul, 1), (58, .iload_n 2, 1), (59, .iadd, 1), (60, .iload_n 3, 1), (61, .iastore, 1), (62, .aload_n 0, 1), (63, .getfield 35, 3), (66, .iconst 4, 1), (67, .iload_n 2, 1), (68, .imul, 1), (69, .iload_n 1, 1), (70, .iadd, 1), (71, .iload_n 3, 1), (72, .iastore, 1), (73, .return_, 1)]
theorem c_M_way_ok : (c_M_way).all (fun q => decide (decode prog_7_method_11_code q.1 = .ok q.2)) = true := by decide +kernel
theorem d_M_way_0 : decode prog_7_method_11_code 0 = .ok (.aload_n 0, 1) := jx_dec c_M_way_ok 0 rfl
theorem d_M_way_1 : decode prog_7_method_11_code 1 = .ok (.iload_n 1, 1) := jx_dec c_M_way_ok 1 rfl
theorem d_M_way_2 : decode prog_7_method_11_code 2 = .ok (.iconst 0, 1) := jx_dec c_M_way_ok 2 rfl
theorem d_M_way_3 : decode prog_7_method_11_code 3 = .ok (.iconst 3, 1) := jx_dec c_M_way_ok 3 rfl
theorem d_M_way_4 : decode prog_7_method_11_code 4 = .ok (.invokestatic 90, 3) := jx_dec c_M_way_ok 4 rfl
theorem d_M_way_7 : decode prog_7_method_11_code 7 = .ok (.ifCond .eq 32, 3) := jx_dec c_M_way_ok 5 rfl
theorem d_M_way_10 : decode prog_7_method_11_code 10 = .ok (.iload_n 2, 1) := jx_dec c_M_way_ok 6 rfl
theorem d_M_way_11 : decode prog_7_method_11_code 11 = .ok (.iconst 0, 1) := jx_dec c_M_way_ok 7 rfl
theorem d_M_way_12 : decode prog_7_method_11_code 12 = .ok (.iconst 3, 1) := jx_dec c_M_way_ok 8 rfl
theorem d_M_way_13 : decode prog_7_method_11_code 13 = .ok (.invokestatic 90, 3) := jx_dec c_M_way_ok 9 rfl
theorem d_M_way_16 : decode prog_7_method_11_code 16 = .ok (.ifCond .eq 23, 3) := jx_dec c_M_way_ok 10 rfl
theorem d_M_way_19 : decode prog_7_method_11_code 19 = .ok (.iload_n 1, 1) := jx_dec c_M_way_ok 11 rfl
theorem d_M_way_20 : decode prog_7_method_11_code 20 = .ok (.iload_n 2, 1) := jx_dec c_M_way_ok 12 rfl
theorem d_M_way_21 : decode prog_7_method_11_code 21 = .ok (.if_icmp .eq 18, 3) := jx_dec c_M_way_ok 13 rfl
theorem d_M_way_24 : decode prog_7_method_11_code 24 = .ok (.iload_n 3, 1) := jx_dec c_M_way_ok 14 rfl
theorem d_M_way_25 : decode prog_7_method_11_code 25 = .ok (.iconst 0, 1) := jx_dec c_M_way_ok 15 rfl
theorem d_M_way_26 : decode prog_7_method_11_code 26 = .ok (.sipush 1000, 3) := jx_dec c_M_way_ok 16 rfl
theorem d_M_way_29 : decode prog_7_method_11_code 29 = .ok (.invokestatic 90, 3) := jx_dec c_M_way_ok 17 rfl
theorem d_M_way_32 : decode prog_7_method_11_code 32 = .ok (.ifCond .eq 7, 3) := jx_dec c_M_way_ok 18 rfl
theorem d_M_way_35 : decode prog_7_method_11_code 35 = .ok (.iconst 0, 1) := jx_dec c_M_way_ok 19 rfl
theorem d_M_way_36 : decode prog_7_method_11_code 36 = .ok (.goto 4, 3) := jx_dec c_M_way_ok 20 rfl
theorem d_M_way_39 : decode prog_7_method_11_code 39 = .ok (.iconst 1, 1) := jx_dec c_M_way_ok 21 rfl
theorem d_M_way_40 : decode prog_7_method_11_code 40 = .ok (.putfield 83, 3) := jx_dec c_M_way_ok 22 rfl
theorem d_M_way_43 : decode prog_7_method_11_code 43 = .ok (.aload_n 0, 1) := jx_dec c_M_way_ok 23 rfl
theorem d_M_way_44 : decode prog_7_method_11_code 44 = .ok (.getfield 83, 3) := jx_dec c_M_way_ok 24 rfl
theorem d_M_way_47 : decode prog_7_method_11_code 47 = .ok (.ifCond .eq 4, 3) := jx_dec c_M_way_ok 25 rfl
theorem d_M_way_50 : decode prog_7_method_11_code 50 = .ok (.return_, 1) := jx_dec c_M_way_ok 26 rfl
theorem d_M_way_51 : decode prog_7_method_11_code 51 = .ok (.aload_n 0, 1) := jx_dec c_M_way_ok 27 rfl
theorem d_M_way_52 : decode prog_7_method_11_code 52 = .ok (.getfield 35, 3) := jx_dec c_M_way_ok 28 rfl
theorem d_M_way_55 : decode prog_7_method_11_code 55 = .ok (.iconst 4, 1) := jx_dec c_M_way_ok 29 rfl
theorem d_M_way_56 : decode prog_7_method_11_code 56 = .ok (.iload_n 1, 1) := jx_dec c_M_way_ok 30 rfl
theorem d_M_way_57 : decode prog_7_method_11_code 57 = .ok (.imul, 1) := jx_dec c_M_way_ok 31 rfl
theorem d_M_way_58 : decode prog_7_method_11_code 58 = .ok (.iload_n 2, 1) := jx_dec c_M_way_ok 32 rfl
theorem d_M_way_59 : decode prog_7_method_11_code 59 = .ok (.iadd, 1) := jx_dec c_M_way_ok 33 rfl
theorem d_M_way_60 : decode prog_7_method_11_code 60 = .ok (.iload_n 3, 1) := jx_dec c_M_way_ok 34 rfl
theorem d_M_way_61 : decode prog_7_method_11_code 61 = .ok (.iastore, 1) := jx_dec c_M_way_ok 35 rfl
theorem d_M_way_62 : decode prog_7_method_11_code 62 = .ok (.aload_n 0, 1) := jx_dec c_M_way_ok 36 rfl
theorem d_M_way_63 : decode prog_7_method_11_code 63 = .ok (.getfield 35, 3) := jx_dec c_M_way_ok 37 rfl
theorem d_M_way_66 : decode prog_7_method_11_code 66 = .ok (.iconst 4, 1) := jx_dec c_M_way_ok 38 rfl
theorem d_M_way_67 : decode prog_7_method_11_code 67 = .ok (.iload_n 2, 1) := jx_dec c_M_way_ok 39 rfl
theorem d_M_way_68 : decode prog_7_method_11_code 68 = .ok (.imul, 1) := jx_dec c_M_way_ok 40 rfl
theorem d_M_way_69 : decode prog_7_method_11_code 69 = .ok (.iload_n 1, 1) := jx_dec c_M_way_ok 41 rfl
theorem d_M_way_70 : decode prog_7_method_11_code 70 = .ok (.iadd, 1) := jx_dec c_M_way_ok 42 rfl
theorem d_M_way_71 : decode prog_7_method_11_code 71 = .ok (.iload_n 3, 1) := jx_dec c_M_way_ok 43 rfl
theorem d_M_way_72 : decode prog_7_method_11_code 72 = .ok (.iastore, 1) := jx_dec c_M_way_ok 44 rfl
theorem d_M_way_73 : decode prog_7_method_11_code 73 = .ok (.return_, 1) := jx_dec c_M_way_ok 45 rfl
def c_M_refuse : List (Nat × Instr × Nat) := [(0, .aload_n 0, 1), (1, .aload_n 0, 1), (2, .iload_n 1, 1), (3, .invokevirtual 98, 3), (6, .ifCond .eq 11, 3), (9, .aload_n 0, 1), (10, .iload_n 2, 1), (11, .invokevirtual 106, 3), (14, .ifCond .ne 7, 3), (17, .iconst 1, 1), (18, .goto 26, 3), (21, .aload_n 0, 1), (22, .getfield 38, 3), (25, .iload_n 2, 1), (26, .iaload, 1), (27, .ifCond .ne 12, 3), (30, .aload_n 0, 1), (31, .iload_n 1, 1), (32, .iload_n 2, 1), (33, .invokevirtual 109, 3), (36, .ifCond .eq 7, 3), (39, .iconst 2, 1), (40, .goto 4, 3), (43, .iconst 0, 1), (44, .putfield 83, 3), (47, .aload_n 0, 1), (48, .getfield 83, 3), (51, .ifCond .eq 5, 3), (54, .iconst 0, 1), (55, .ireturn, 1), (56, .aload_n 0, 1), (57, .getfield 53, 3), (60, .iload_n 2, 1), (61, .dup2, 1), (62, .iaload, 1), (63, .iconst 1, 1), (64, .iload_n 1, 1), (65, .ishl, 1), (66, .ior, 1), (67, .iastore, 1), (68, .aload_n 0, 1), (69, .getfield 56, 3), (72, .iload_n 2, 1), (73, .iaload, 1), (74, .iload_n 1, 1), (75, .if_icmp .eq 5, 3), (78, .iconst 0, 1), (79, .ireturn, 1), (80, .aload_n 0, 1), (81, .iload_n 2, 1), (82, .invokevirtual 113, 3), (85, .iconst 1, 1), (86, .ireturn, 1)]
theorem c_M_refuse_ok : (c_M_refuse).all (fun q => decide (decode prog_7_method_14_code q.1 = .ok q.2)) = true := by decide +kernel
theorem d_M_refuse_0 : decode prog_7_method_14_code 0 = .ok (.aload_n 0, 1) := jx_dec c_M_refuse_ok 0 rfl
theorem d_M_refuse_1 : decode prog_7_method_14_code 1 = .ok (.aload_n 0, 1) := jx_dec c_M_refuse_ok 1 rfl
theorem d_M_refuse_2 : decode prog_7_method_14_code 2 = .ok (.iload_n 1, 1) := jx_dec c_M_refuse_ok 2 rfl
theorem d_M_refuse_3 : decode prog_7_method_14_code 3 = .ok (.invokevirtual 98, 3) := jx_dec c_M_refuse_ok 3 rfl
theorem d_M_refuse_6 : decode prog_7_method_14_code 6 = .ok (.ifCond .eq 11, 3) := jx_dec c_M_refuse_ok 4 rfl
theorem d_M_refuse_9 : decode prog_7_method_14_code 9 = .ok (.aload_n 0, 1) := jx_dec c_M_refuse_ok 5 rfl
theorem d_M_refuse_10 : decode prog_7_method_14_code 10 = .ok (.iload_n 2, 1) := jx_dec c_M_refuse_ok 6 rfl
theorem d_M_refuse_11 : decode prog_7_method_14_code 11 = .ok (.invokevirtual 106, 3) := jx_dec c_M_refuse_ok 7 rfl
theorem d_M_refuse_14 : decode prog_7_method_14_code 14 = .ok (.ifCond .ne 7, 3) := jx_dec c_M_refuse_ok 8 rfl
theorem d_M_refuse_17 : decode prog_7_method_14_code 17 = .ok (.iconst 1, 1) := jx_dec c_M_refuse_ok 9 rfl
theorem d_M_refuse_18 : decode prog_7_method_14_code 18 = .ok (.goto 26, 3) := jx_dec c_M_refuse_ok 10 rfl
theorem d_M_refuse_21 : decode prog_7_method_14_code 21 = .ok (.aload_n 0, 1) := jx_dec c_M_refuse_ok 11 rfl
theorem d_M_refuse_22 : decode prog_7_method_14_code 22 = .ok (.getfield 38, 3) := jx_dec c_M_refuse_ok 12 rfl
theorem d_M_refuse_25 : decode prog_7_method_14_code 25 = .ok (.iload_n 2, 1) := jx_dec c_M_refuse_ok 13 rfl
theorem d_M_refuse_26 : decode prog_7_method_14_code 26 = .ok (.iaload, 1) := jx_dec c_M_refuse_ok 14 rfl
theorem d_M_refuse_27 : decode prog_7_method_14_code 27 = .ok (.ifCond .ne 12, 3) := jx_dec c_M_refuse_ok 15 rfl
theorem d_M_refuse_30 : decode prog_7_method_14_code 30 = .ok (.aload_n 0, 1) := jx_dec c_M_refuse_ok 16 rfl
theorem d_M_refuse_31 : decode prog_7_method_14_code 31 = .ok (.iload_n 1, 1) := jx_dec c_M_refuse_ok 17 rfl
theorem d_M_refuse_32 : decode prog_7_method_14_code 32 = .ok (.iload_n 2, 1) := jx_dec c_M_refuse_ok 18 rfl
theorem d_M_refuse_33 : decode prog_7_method_14_code 33 = .ok (.invokevirtual 109, 3) := jx_dec c_M_refuse_ok 19 rfl
theorem d_M_refuse_36 : decode prog_7_method_14_code 36 = .ok (.ifCond .eq 7, 3) := jx_dec c_M_refuse_ok 20 rfl
theorem d_M_refuse_39 : decode prog_7_method_14_code 39 = .ok (.iconst 2, 1) := jx_dec c_M_refuse_ok 21 rfl
theorem d_M_refuse_40 : decode prog_7_method_14_code 40 = .ok (.goto 4, 3) := jx_dec c_M_refuse_ok 22 rfl
theorem d_M_refuse_43 : decode prog_7_method_14_code 43 = .ok (.iconst 0, 1) := jx_dec c_M_refuse_ok 23 rfl
theorem d_M_refuse_44 : decode prog_7_method_14_code 44 = .ok (.putfield 83, 3) := jx_dec c_M_refuse_ok 24 rfl
theorem d_M_refuse_47 : decode prog_7_method_14_code 47 = .ok (.aload_n 0, 1) := jx_dec c_M_refuse_ok 25 rfl
theorem d_M_refuse_48 : decode prog_7_method_14_code 48 = .ok (.getfield 83, 3) := jx_dec c_M_refuse_ok 26 rfl
theorem d_M_refuse_51 : decode prog_7_method_14_code 51 = .ok (.ifCond .eq 5, 3) := jx_dec c_M_refuse_ok 27 rfl
theorem d_M_refuse_54 : decode prog_7_method_14_code 54 = .ok (.iconst 0, 1) := jx_dec c_M_refuse_ok 28 rfl
theorem d_M_refuse_55 : decode prog_7_method_14_code 55 = .ok (.ireturn, 1) := jx_dec c_M_refuse_ok 29 rfl
theorem d_M_refuse_56 : decode prog_7_method_14_code 56 = .ok (.aload_n 0, 1) := jx_dec c_M_refuse_ok 30 rfl
theorem d_M_refuse_57 : decode prog_7_method_14_code 57 = .ok (.getfield 53, 3) := jx_dec c_M_refuse_ok 31 rfl
theorem d_M_refuse_60 : decode prog_7_method_14_code 60 = .ok (.iload_n 2, 1) := jx_dec c_M_refuse_ok 32 rfl
theorem d_M_refuse_61 : decode prog_7_method_14_code 61 = .ok (.dup2, 1) := jx_dec c_M_refuse_ok 33 rfl
theorem d_M_refuse_62 : decode prog_7_method_14_code 62 = .ok (.iaload, 1) := jx_dec c_M_refuse_ok 34 rfl
theorem d_M_refuse_63 : decode prog_7_method_14_code 63 = .ok (.iconst 1, 1) := jx_dec c_M_refuse_ok 35 rfl
theorem d_M_refuse_64 : decode prog_7_method_14_code 64 = .ok (.iload_n 1, 1) := jx_dec c_M_refuse_ok 36 rfl
theorem d_M_refuse_65 : decode prog_7_method_14_code 65 = .ok (.ishl, 1) := jx_dec c_M_refuse_ok 37 rfl
theorem d_M_refuse_66 : decode prog_7_method_14_code 66 = .ok (.ior, 1) := jx_dec c_M_refuse_ok 38 rfl
theorem d_M_refuse_67 : decode prog_7_method_14_code 67 = .ok (.iastore, 1) := jx_dec c_M_refuse_ok 39 rfl
theorem d_M_refuse_68 : decode prog_7_method_14_code 68 = .ok (.aload_n 0, 1) := jx_dec c_M_refuse_ok 40 rfl
theorem d_M_refuse_69 : decode prog_7_method_14_code 69 = .ok (.getfield 56, 3) := jx_dec c_M_refuse_ok 41 rfl
theorem d_M_refuse_72 : decode prog_7_method_14_code 72 = .ok (.iload_n 2, 1) := jx_dec c_M_refuse_ok 42 rfl
theorem d_M_refuse_73 : decode prog_7_method_14_code 73 = .ok (.iaload, 1) := jx_dec c_M_refuse_ok 43 rfl
theorem d_M_refuse_74 : decode prog_7_method_14_code 74 = .ok (.iload_n 1, 1) := jx_dec c_M_refuse_ok 44 rfl
theorem d_M_refuse_75 : decode prog_7_method_14_code 75 = .ok (.if_icmp .eq 5, 3) := jx_dec c_M_refuse_ok 45 rfl
theorem d_M_refuse_78 : decode prog_7_method_14_code 78 = .ok (.iconst 0, 1) := jx_dec c_M_refuse_ok 46 rfl
theorem d_M_refuse_79 : decode prog_7_method_14_code 79 = .ok (.ireturn, 1) := jx_dec c_M_refuse_ok 47 rfl
theorem d_M_refuse_80 : decode prog_7_method_14_code 80 = .ok (.aload_n 0, 1) := jx_dec c_M_refuse_ok 48 rfl
theorem d_M_refuse_81 : decode prog_7_method_14_code 81 = .ok (.iload_n 2, 1) := jx_dec c_M_refuse_ok 49 rfl
theorem d_M_refuse_82 : decode prog_7_method_14_code 82 = .ok (.invokevirtual 113, 3) := jx_dec c_M_refuse_ok 50 rfl
theorem d_M_refuse_85 : decode prog_7_method_14_code 85 = .ok (.iconst 1, 1) := jx_dec c_M_refuse_ok 51 rfl
theorem d_M_refuse_86 : decode prog_7_method_14_code 86 = .ok (.ireturn, 1) := jx_dec c_M_refuse_ok 52 rfl
def c_M_isTask : List (Nat × Instr × Nat) := [(0, .iload_n 1, 1), (1, .iconst 0, 1), (2, .aload_n 0, 1), (3, .getfield 94, 3), (6, .iconst 1, 1), (7, .isub, 1), (8, .invokestatic 90, 3), (11, .ireturn, 1)]
theorem c_M_isTask_ok : (c_M_isTask).all (fun q => decide (decode prog_7_method_5_code q.1 = .ok q.2)) = true := by decide +kernel
theorem d_M_isTask_0 : decode prog_7_method_5_code 0 = .ok (.iload_n 1, 1) := jx_dec c_M_isTask_ok 0 rfl
theorem d_M_isTask_1 : decode prog_7_method_5_code 1 = .ok (.iconst 0, 1) := jx_dec c_M_isTask_ok 1 rfl
theorem d_M_isTask_2 : decode prog_7_method_5_code 2 = .ok (.aload_n 0, 1) := jx_dec c_M_isTask_ok 2 rfl
theorem d_M_isTask_3 : decode prog_7_method_5_code 3 = .ok (.getfield 94, 3) := jx_dec c_M_isTask_ok 3 rfl
theorem d_M_isTask_6 : decode prog_7_method_5_code 6 = .ok (.iconst 1, 1) := jx_dec c_M_isTask_ok 4 rfl
theorem d_M_isTask_7 : decode prog_7_method_5_code 7 = .ok (.isub, 1) := jx_dec c_M_isTask_ok 5 rfl
theorem d_M_isTask_8 : decode prog_7_method_5_code 8 = .ok (.invokestatic 90, 3) := jx_dec c_M_isTask_ok 6 rfl
theorem d_M_isTask_11 : decode prog_7_method_5_code 11 = .ok (.ireturn, 1) := jx_dec c_M_isTask_ok 7 rfl
def c_M_hasRefused : List (Nat × Instr × Nat) := [(0, .aload_n 0, 1), (1, .getfield 53, 3), (4, .iload_n 2, 1), (5, .iaload, 1), (6, .iload_n 1, 1), (7, .ishr, 1), (8, .iconst 1, 1), (9, .iand, 1), (10, .iconst 1, 1), (11, .if_icmp .ne 7, 3), (14, .iconst 1, 1), (15, .goto 4, 3), (18, .iconst 0, 1), (19, .ireturn, 1)]
theorem c_M_hasRefused_ok : (c_M_hasRefused).all (fun q => decide (decode prog_7_method_13_code q.1 = .ok q.2)) = true := by decide +kernel
theorem d_M_hasRefused_0 : decode prog_7_method_13_code 0 = .ok (.aload_n 0, 1) := jx_dec c_M_hasRefused_ok 0 rfl
theorem d_M_hasRefused_1 : decode prog_7_method_13_code 1 = .ok (.getfield 53, 3) := jx_dec c_M_hasRefused_ok 1 rfl
theorem d_M_hasRefused_4 : decode prog_7_method_13_code 4 = .ok (.iload_n 2, 1) := jx_dec c_M_hasRefused_ok 2 rfl
theorem d_M_hasRefused_5 : decode prog_7_method_13_code 5 = .ok (.iaload, 1) := jx_dec c_M_hasRefused_ok 3 rfl
theorem d_M_hasRefused_6 : decode prog_7_method_13_code 6 = .ok (.iload_n 1, 1) := jx_dec c_M_hasRefused_ok 4 rfl
theorem d_M_hasRefused_7 : decode prog_7_method_13_code 7 = .ok (.ishr, 1) := jx_dec c_M_hasRefused_ok 5 rfl
theorem d_M_hasRefused_8 : decode prog_7_method_13_code 8 = .ok (.iconst 1, 1) := jx_dec c_M_hasRefused_ok 6 rfl
theorem d_M_hasRefused_9 : decode prog_7_method_13_code 9 = .ok (.iand, 1) := jx_dec c_M_hasRefused_ok 7 rfl
theorem d_M_hasRefused_10 : decode prog_7_method_13_code 10 = .ok (.iconst 1, 1) := jx_dec c_M_hasRefused_ok 8 rfl
theorem d_M_hasRefused_11 : decode prog_7_method_13_code 11 = .ok (.if_icmp .ne 7, 3) := jx_dec c_M_hasRefused_ok 9 rfl
theorem d_M_hasRefused_14 : decode prog_7_method_13_code 14 = .ok (.iconst 1, 1) := jx_dec c_M_hasRefused_ok 10 rfl
theorem d_M_hasRefused_15 : decode prog_7_method_13_code 15 = .ok (.goto 4, 3) := jx_dec c_M_hasRefused_ok 11 rfl
theorem d_M_hasRefused_18 : decode prog_7_method_13_code 18 = .ok (.iconst 0, 1) := jx_dec c_M_hasRefused_ok 12 rfl
theorem d_M_hasRefused_19 : decode prog_7_method_13_code 19 = .ok (.ireturn, 1) := jx_dec c_M_hasRefused_ok 13 rfl
def c_M_free : List (Nat × Instr × Nat) := [(0, .aload_n 0, 1), (1, .getfield 38, 3), (4, .iload_n 1, 1), (5, .iconst 0, 1), (6, .iastore, 1), (7, .aload_n 0, 1), (8, .getfield 56, 3), (11, .iload_n 1, 1), (12, .iconst (-1), 1), (13, .iastore, 1), (14, .aload_n 0, 1), (15, .getfield 59, 3), (18, .iload_n 1, 1), (19, .iconst (-1), 1), (20, .iastore, 1), (21, .return_, 1)]
theorem c_M_free_ok : (c_M_free).all (fun q => decide (decode prog_7_method_12_code q.1 = .ok q.2)) = true := by decide +kernel
theorem d_M_free_0 : decode prog_7_method_12_code 0 = .ok (.aload_n 0, 1) := jx_dec c_M_free_ok 0 rfl
theorem d_M_free_1 : decode prog_7_method_12_code 1 = .ok (.getfield 38, 3) := jx_dec c_M_free_ok 1 rfl
theorem d_M_free_4 : decode prog_7_method_12_code 4 = .ok (.iload_n 1, 1) := jx_dec c_M_free_ok 2 rfl
theorem d_M_free_5 : decode prog_7_method_12_code 5 = .ok (.iconst 0, 1) := jx_dec c_M_free_ok 3 rfl
theorem d_M_free_6 : decode prog_7_method_12_code 6 = .ok (.iastore, 1) := jx_dec c_M_free_ok 4 rfl
theorem d_M_free_7 : decode prog_7_method_12_code 7 = .ok (.aload_n 0, 1) := jx_dec c_M_free_ok 5 rfl
theorem d_M_free_8 : decode prog_7_method_12_code 8 = .ok (.getfield 56, 3) := jx_dec c_M_free_ok 6 rfl
theorem d_M_free_11 : decode prog_7_method_12_code 11 = .ok (.iload_n 1, 1) := jx_dec c_M_free_ok 7 rfl
theorem d_M_free_12 : decode prog_7_method_12_code 12 = .ok (.iconst (-1), 1) := jx_dec c_M_free_ok 8 rfl
theorem d_M_free_13 : decode prog_7_method_12_code 13 = .ok (.iastore, 1) := jx_dec c_M_free_ok 9 rfl
theorem d_M_free_14 : decode prog_7_method_12_code 14 = .ok (.aload_n 0, 1) := jx_dec c_M_free_ok 10 rfl
theorem d_M_free_15 : decode prog_7_method_12_code 15 = .ok (.getfield 59, 3) := jx_dec c_M_free_ok 11 rfl
theorem d_M_free_18 : decode prog_7_method_12_code 18 = .ok (.iload_n 1, 1) := jx_dec c_M_free_ok 12 rfl
theorem d_M_free_19 : decode prog_7_method_12_code 19 = .ok (.iconst (-1), 1) := jx_dec c_M_free_ok 13 rfl
theorem d_M_free_20 : decode prog_7_method_12_code 20 = .ok (.iastore, 1) := jx_dec c_M_free_ok 14 rfl
theorem d_M_free_21 : decode prog_7_method_12_code 21 = .ok (.return_, 1) := jx_dec c_M_free_ok 15 rfl
def c_M_bar : List (Nat × Instr × Nat) := [(0, .aload_n 0, 1), (1, .aload_n 0, 1), (2, .iload_n 1, 1), (3, .invokevirtual 98, 3), (6, .ifCond .eq 11, 3), (9, .aload_n 0, 1), (10, .iload_n 2, 1), (11, .invokevirtual 106, 3), (14, .ifCond .ne 7, 3), (17, .iconst 1, 1), (18, .goto 17, 3), (21, .aload_n 0, 1), (22, .getfield 38, 3), (25, .iload_n 2, 1), (26, .iaload, 1), (27, .ifCond .eq 7, 3), (30, .iconst 2, 1), (31, .goto 4, 3), (34, .iconst 0, 1), (35, .putfield 83, 3), (38, .aload_n 0, 1), (39, .getfield 83, 3), (42, .ifCond .eq 5, 3), (45, .iconst 0, 1), (46, .ireturn, 1), (47, .aload_n 0, 1), (48, .getfield 28, 3), (51, .iload_n 1, 1), (52, .baload, 1), (53, .ifCond .ne 5, 3), (56, .iconst 1, 1), (57, .ireturn, 1), (58, .aload_n 0, 1), (59, .getfield 7, 3), (62, .iload_n 1, 1), (63, .iaload, 1), (64, .aload_n 0, 1), (65, .getfield 41, 3), (68, .iload_n 2, 1), (69, .iaload, 1), (70, .ishr, 1), (71, .iconst 1, 1), (72, .iand, 1), (73, .ifCond .ne 5, 3), (76, .iconst 2, 1), (77, .ireturn, 1), (78, .aload_n 0, 1), (79, .iload_n 1, 1), (80, .iload_n 2, 1), (81, .invokevirtual 109, 3), (84, .ifCond .eq 5, 3), (87, .iconst 3, 1), (88, .ireturn, 1), (89, .aload_n 0, 1), (90, .iload_n 1, 1), (91, .iload_n 2, 1), (92, .invokevirtual 131, 3), (95, .iconst (-1), 1), (96, .if_icmp .ne 7, 3), (99, .iconst 4, 1), (100, .goto 4, 3), (103, .iconst 0, 1), (104, .ireturn, 1)]
theorem c_M_bar_ok : (c_M_bar).all (fun q => decide (decode prog_7_method_21_code q.1 = .ok q.2)) = true := by decide +kernel
theorem d_M_bar_0 : decode prog_7_method_21_code 0 = .ok (.aload_n 0, 1) := jx_dec c_M_bar_ok 0 rfl
theorem d_M_bar_1 : decode prog_7_method_21_code 1 = .ok (.aload_n 0, 1) := jx_dec c_M_bar_ok 1 rfl
theorem d_M_bar_2 : decode prog_7_method_21_code 2 = .ok (.iload_n 1, 1) := jx_dec c_M_bar_ok 2 rfl
theorem d_M_bar_3 : decode prog_7_method_21_code 3 = .ok (.invokevirtual 98, 3) := jx_dec c_M_bar_ok 3 rfl
theorem d_M_bar_6 : decode prog_7_method_21_code 6 = .ok (.ifCond .eq 11, 3) := jx_dec c_M_bar_ok 4 rfl
theorem d_M_bar_9 : decode prog_7_method_21_code 9 = .ok (.aload_n 0, 1) := jx_dec c_M_bar_ok 5 rfl
theorem d_M_bar_10 : decode prog_7_method_21_code 10 = .ok (.iload_n 2, 1) := jx_dec c_M_bar_ok 6 rfl
theorem d_M_bar_11 : decode prog_7_method_21_code 11 = .ok (.invokevirtual 106, 3) := jx_dec c_M_bar_ok 7 rfl
theorem d_M_bar_14 : decode prog_7_method_21_code 14 = .ok (.ifCond .ne 7, 3) := jx_dec c_M_bar_ok 8 rfl
theorem d_M_bar_17 : decode prog_7_method_21_code 17 = .ok (.iconst 1, 1) := jx_dec c_M_bar_ok 9 rfl
theorem d_M_bar_18 : decode prog_7_method_21_code 18 = .ok (.goto 17, 3) := jx_dec c_M_bar_ok 10 rfl
theorem d_M_bar_21 : decode prog_7_method_21_code 21 = .ok (.aload_n 0, 1) := jx_dec c_M_bar_ok 11 rfl
theorem d_M_bar_22 : decode prog_7_method_21_code 22 = .ok (.getfield 38, 3) := jx_dec c_M_bar_ok 12 rfl
theorem d_M_bar_25 : decode prog_7_method_21_code 25 = .ok (.iload_n 2, 1) := jx_dec c_M_bar_ok 13 rfl
theorem d_M_bar_26 : decode prog_7_method_21_code 26 = .ok (.iaload, 1) := jx_dec c_M_bar_ok 14 rfl
theorem d_M_bar_27 : decode prog_7_method_21_code 27 = .ok (.ifCond .eq 7, 3) := jx_dec c_M_bar_ok 15 rfl
theorem d_M_bar_30 : decode prog_7_method_21_code 30 = .ok (.iconst 2, 1) := jx_dec c_M_bar_ok 16 rfl
theorem d_M_bar_31 : decode prog_7_method_21_code 31 = .ok (.goto 4, 3) := jx_dec c_M_bar_ok 17 rfl
theorem d_M_bar_34 : decode prog_7_method_21_code 34 = .ok (.iconst 0, 1) := jx_dec c_M_bar_ok 18 rfl
theorem d_M_bar_35 : decode prog_7_method_21_code 35 = .ok (.putfield 83, 3) := jx_dec c_M_bar_ok 19 rfl
theorem d_M_bar_38 : decode prog_7_method_21_code 38 = .ok (.aload_n 0, 1) := jx_dec c_M_bar_ok 20 rfl
theorem d_M_bar_39 : decode prog_7_method_21_code 39 = .ok (.getfield 83, 3) := jx_dec c_M_bar_ok 21 rfl
theorem d_M_bar_42 : decode prog_7_method_21_code 42 = .ok (.ifCond .eq 5, 3) := jx_dec c_M_bar_ok 22 rfl
theorem d_M_bar_45 : decode prog_7_method_21_code 45 = .ok (.iconst 0, 1) := jx_dec c_M_bar_ok 23 rfl
theorem d_M_bar_46 : decode prog_7_method_21_code 46 = .ok (.ireturn, 1) := jx_dec c_M_bar_ok 24 rfl
theorem d_M_bar_47 : decode prog_7_method_21_code 47 = .ok (.aload_n 0, 1) := jx_dec c_M_bar_ok 25 rfl
theorem d_M_bar_48 : decode prog_7_method_21_code 48 = .ok (.getfield 28, 3) := jx_dec c_M_bar_ok 26 rfl
theorem d_M_bar_51 : decode prog_7_method_21_code 51 = .ok (.iload_n 1, 1) := jx_dec c_M_bar_ok 27 rfl
theorem d_M_bar_52 : decode prog_7_method_21_code 52 = .ok (.baload, 1) := jx_dec c_M_bar_ok 28 rfl
theorem d_M_bar_53 : decode prog_7_method_21_code 53 = .ok (.ifCond .ne 5, 3) := jx_dec c_M_bar_ok 29 rfl
theorem d_M_bar_56 : decode prog_7_method_21_code 56 = .ok (.iconst 1, 1) := jx_dec c_M_bar_ok 30 rfl
theorem d_M_bar_57 : decode prog_7_method_21_code 57 = .ok (.ireturn, 1) := jx_dec c_M_bar_ok 31 rfl
theorem d_M_bar_58 : decode prog_7_method_21_code 58 = .ok (.aload_n 0, 1) := jx_dec c_M_bar_ok 32 rfl
theorem d_M_bar_59 : decode prog_7_method_21_code 59 = .ok (.getfield 7, 3) := jx_dec c_M_bar_ok 33 rfl
theorem d_M_bar_62 : decode prog_7_method_21_code 62 = .ok (.iload_n 1, 1) := jx_dec c_M_bar_ok 34 rfl
theorem d_M_bar_63 : decode prog_7_method_21_code 63 = .ok (.iaload, 1) := jx_dec c_M_bar_ok 35 rfl
theorem d_M_bar_64 : decode prog_7_method_21_code 64 = .ok (.aload_n 0, 1) := jx_dec c_M_bar_ok 36 rfl
theorem d_M_bar_65 : decode prog_7_method_21_code 65 = .ok (.getfield 41, 3) := jx_dec c_M_bar_ok 37 rfl
theorem d_M_bar_68 : decode prog_7_method_21_code 68 = .ok (.iload_n 2, 1) := jx_dec c_M_bar_ok 38 rfl
theorem d_M_bar_69 : decode prog_7_method_21_code 69 = .ok (.iaload, 1) := jx_dec c_M_bar_ok 39 rfl
theorem d_M_bar_70 : decode prog_7_method_21_code 70 = .ok (.ishr, 1) := jx_dec c_M_bar_ok 40 rfl
theorem d_M_bar_71 : decode prog_7_method_21_code 71 = .ok (.iconst 1, 1) := jx_dec c_M_bar_ok 41 rfl
theorem d_M_bar_72 : decode prog_7_method_21_code 72 = .ok (.iand, 1) := jx_dec c_M_bar_ok 42 rfl
theorem d_M_bar_73 : decode prog_7_method_21_code 73 = .ok (.ifCond .ne 5, 3) := jx_dec c_M_bar_ok 43 rfl
theorem d_M_bar_76 : decode prog_7_method_21_code 76 = .ok (.iconst 2, 1) := jx_dec c_M_bar_ok 44 rfl
theorem d_M_bar_77 : decode prog_7_method_21_code 77 = .ok (.ireturn, 1) := jx_dec c_M_bar_ok 45 rfl
theorem d_M_bar_78 : decode prog_7_method_21_code 78 = .ok (.aload_n 0, 1) := jx_dec c_M_bar_ok 46 rfl
theorem d_M_bar_79 : decode prog_7_method_21_code 79 = .ok (.iload_n 1, 1) := jx_dec c_M_bar_ok 47 rfl
theorem d_M_bar_80 : decode prog_7_method_21_code 80 = .ok (.iload_n 2, 1) := jx_dec c_M_bar_ok 48 rfl
theorem d_M_bar_81 : decode prog_7_method_21_code 81 = .ok (.invokevirtual 109, 3) := jx_dec c_M_bar_ok 49 rfl
theorem d_M_bar_84 : decode prog_7_method_21_code 84 = .ok (.ifCond .eq 5, 3) := jx_dec c_M_bar_ok 50 rfl
theorem d_M_bar_87 : decode prog_7_method_21_code 87 = .ok (.iconst 3, 1) := jx_dec c_M_bar_ok 51 rfl
theorem d_M_bar_88 : decode prog_7_method_21_code 88 = .ok (.ireturn, 1) := jx_dec c_M_bar_ok 52 rfl
theorem d_M_bar_89 : decode prog_7_method_21_code 89 = .ok (.aload_n 0, 1) := jx_dec c_M_bar_ok 53 rfl
theorem d_M_bar_90 : decode prog_7_method_21_code 90 = .ok (.iload_n 1, 1) := jx_dec c_M_bar_ok 54 rfl
theorem d_M_bar_91 : decode prog_7_method_21_code 91 = .ok (.iload_n 2, 1) := jx_dec c_M_bar_ok 55 rfl
theorem d_M_bar_92 : decode prog_7_method_21_code 92 = .ok (.invokevirtual 131, 3) := jx_dec c_M_bar_ok 56 rfl
theorem d_M_bar_95 : decode prog_7_method_21_code 95 = .ok (.iconst (-1), 1) := jx_dec c_M_bar_ok 57 rfl
theorem d_M_bar_96 : decode prog_7_method_21_code 96 = .ok (.if_icmp .ne 7, 3) := jx_dec c_M_bar_ok 58 rfl
theorem d_M_bar_99 : decode prog_7_method_21_code 99 = .ok (.iconst 4, 1) := jx_dec c_M_bar_ok 59 rfl
theorem d_M_bar_100 : decode prog_7_method_21_code 100 = .ok (.goto 4, 3) := jx_dec c_M_bar_ok 60 rfl
theorem d_M_bar_103 : decode prog_7_method_21_code 103 = .ok (.iconst 0, 1) := jx_dec c_M_bar_ok 61 rfl
theorem d_M_bar_104 : decode prog_7_method_21_code 104 = .ok (.ireturn, 1) := jx_dec c_M_bar_ok 62 rfl
def c_M_aloneAt : List (Nat × Instr × Nat) := [(0, .aload_n 0, 1), (1, .iload_n 1, 1), (2, .iload_n 2, 1), (3, .aload_n 0, 1), (4, .iload_n 1, 1), (5, .invokevirtual 124, 3), (8, .aload_n 0, 1), (9, .getfield 25, 3), (12, .iload_n 1, 1), (13, .iaload, 1), (14, .invokevirtual 127, 3), (17, .ireturn, 1)]
theorem c_M_aloneAt_ok : (c_M_aloneAt).all (fun q => decide (decode prog_7_method_20_code q.1 = .ok q.2)) = true := by decide +kernel
theorem d_M_aloneAt_0 : decode prog_7_method_20_code 0 = .ok (.aload_n 0, 1) := jx_dec c_M_aloneAt_ok 0 rfl
theorem d_M_aloneAt_1 : decode prog_7_method_20_code 1 = .ok (.iload_n 1, 1) := jx_dec c_M_aloneAt_ok 1 rfl
theorem d_M_aloneAt_2 : decode prog_7_method_20_code 2 = .ok (.iload_n 2, 1) := jx_dec c_M_aloneAt_ok 2 rfl
theorem d_M_aloneAt_3 : decode prog_7_method_20_code 3 = .ok (.aload_n 0, 1) := jx_dec c_M_aloneAt_ok 3 rfl
theorem d_M_aloneAt_4 : decode prog_7_method_20_code 4 = .ok (.iload_n 1, 1) := jx_dec c_M_aloneAt_ok 4 rfl
theorem d_M_aloneAt_5 : decode prog_7_method_20_code 5 = .ok (.invokevirtual 124, 3) := jx_dec c_M_aloneAt_ok 5 rfl
theorem d_M_aloneAt_8 : decode prog_7_method_20_code 8 = .ok (.aload_n 0, 1) := jx_dec c_M_aloneAt_ok 6 rfl
theorem d_M_aloneAt_9 : decode prog_7_method_20_code 9 = .ok (.getfield 25, 3) := jx_dec c_M_aloneAt_ok 7 rfl
theorem d_M_aloneAt_12 : decode prog_7_method_20_code 12 = .ok (.iload_n 1, 1) := jx_dec c_M_aloneAt_ok 8 rfl
theorem d_M_aloneAt_13 : decode prog_7_method_20_code 13 = .ok (.iaload, 1) := jx_dec c_M_aloneAt_ok 9 rfl
theorem d_M_aloneAt_14 : decode prog_7_method_20_code 14 = .ok (.invokevirtual 127, 3) := jx_dec c_M_aloneAt_ok 10 rfl
theorem d_M_aloneAt_17 : decode prog_7_method_20_code 17 = .ok (.ireturn, 1) := jx_dec c_M_aloneAt_ok 11 rfl
def c_M_readyAt : List (Nat × Instr × Nat) := [(0, .aload_n 0, 1), (1, .getfield 117, 3), (4, .aload_n 0, 1), (5, .getfield 13, 3), (8, .iload_n 1, 1), (9, .iaload, 1), (10, .invokestatic 120, 3), (13, .istore_n 2, 1), (14, .aload_n 0, 1), (15, .getfield 32, 3), (18, .iload_n 1, 1), (19, .iaload, 1), (20, .iconst (-1), 1), (21, .if_icmp .ne 7, 3), (24, .iload_n 2, 1), (25, .goto 30, 3), (28, .iload_n 2, 1), (29, .aload_n 0, 1), (30, .getfield 59, 3), (33, .aload_n 0, 1), (34, .getfield 32, 3), (37, .iload_n 1, 1), (38, .iaload, 1), (39, .iaload, 1), (40, .aload_n 0, 1), (41, .getfield 44, 3), (44, .aload_n 0, 1), (45, .getfield 32, 3), (48, .iload_n 1, 1), (49, .iaload, 1), (50, .iaload, 1), (51, .iadd, 1), (52, .invokestatic 120, 3), (55, .ireturn, 1)]
theorem c_M_readyAt_ok : (c_M_readyAt).all (fun q => decide (decode prog_7_method_16_code q.1 = .ok q.2)) = true := by decide +kernel
theorem d_M_readyAt_0 : decode prog_7_method_16_code 0 = .ok (.aload_n 0, 1) := jx_dec c_M_readyAt_ok 0 rfl
theorem d_M_readyAt_1 : decode prog_7_method_16_code 1 = .ok (.getfield 117, 3) := jx_dec c_M_readyAt_ok 1 rfl
theorem d_M_readyAt_4 : decode prog_7_method_16_code 4 = .ok (.aload_n 0, 1) := jx_dec c_M_readyAt_ok 2 rfl
theorem d_M_readyAt_5 : decode prog_7_method_16_code 5 = .ok (.getfield 13, 3) := jx_dec c_M_readyAt_ok 3 rfl
theorem d_M_readyAt_8 : decode prog_7_method_16_code 8 = .ok (.iload_n 1, 1) := jx_dec c_M_readyAt_ok 4 rfl
theorem d_M_readyAt_9 : decode prog_7_method_16_code 9 = .ok (.iaload, 1) := jx_dec c_M_readyAt_ok 5 rfl
theorem d_M_readyAt_10 : decode prog_7_method_16_code 10 = .ok (.invokestatic 120, 3) := jx_dec c_M_readyAt_ok 6 rfl
theorem d_M_readyAt_13 : decode prog_7_method_16_code 13 = .ok (.istore_n 2, 1) := jx_dec c_M_readyAt_ok 7 rfl
theorem d_M_readyAt_14 : decode prog_7_method_16_code 14 = .ok (.aload_n 0, 1) := jx_dec c_M_readyAt_ok 8 rfl
theorem d_M_readyAt_15 : decode prog_7_method_16_code 15 = .ok (.getfield 32, 3) := jx_dec c_M_readyAt_ok 9 rfl
theorem d_M_readyAt_18 : decode prog_7_method_16_code 18 = .ok (.iload_n 1, 1) := jx_dec c_M_readyAt_ok 10 rfl
theorem d_M_readyAt_19 : decode prog_7_method_16_code 19 = .ok (.iaload, 1) := jx_dec c_M_readyAt_ok 11 rfl
theorem d_M_readyAt_20 : decode prog_7_method_16_code 20 = .ok (.iconst (-1), 1) := jx_dec c_M_readyAt_ok 12 rfl
theorem d_M_readyAt_21 : decode prog_7_method_16_code 21 = .ok (.if_icmp .ne 7, 3) := jx_dec c_M_readyAt_ok 13 rfl
theorem d_M_readyAt_24 : decode prog_7_method_16_code 24 = .ok (.iload_n 2, 1) := jx_dec c_M_readyAt_ok 14 rfl
theorem d_M_readyAt_25 : decode prog_7_method_16_code 25 = .ok (.goto 30, 3) := jx_dec c_M_readyAt_ok 15 rfl
theorem d_M_readyAt_28 : decode prog_7_method_16_code 28 = .ok (.iload_n 2, 1) := jx_dec c_M_readyAt_ok 16 rfl
theorem d_M_readyAt_29 : decode prog_7_method_16_code 29 = .ok (.aload_n 0, 1) := jx_dec c_M_readyAt_ok 17 rfl
theorem d_M_readyAt_30 : decode prog_7_method_16_code 30 = .ok (.getfield 59, 3) := jx_dec c_M_readyAt_ok 18 rfl
theorem d_M_readyAt_33 : decode prog_7_method_16_code 33 = .ok (.aload_n 0, 1) := jx_dec c_M_readyAt_ok 19 rfl
theorem d_M_readyAt_34 : decode prog_7_method_16_code 34 = .ok (.getfield 32, 3) := jx_dec c_M_readyAt_ok 20 rfl
theorem d_M_readyAt_37 : decode prog_7_method_16_code 37 = .ok (.iload_n 1, 1) := jx_dec c_M_readyAt_ok 21 rfl
theorem d_M_readyAt_38 : decode prog_7_method_16_code 38 = .ok (.iaload, 1) := jx_dec c_M_readyAt_ok 22 rfl
theorem d_M_readyAt_39 : decode prog_7_method_16_code 39 = .ok (.iaload, 1) := jx_dec c_M_readyAt_ok 23 rfl
theorem d_M_readyAt_40 : decode prog_7_method_16_code 40 = .ok (.aload_n 0, 1) := jx_dec c_M_readyAt_ok 24 rfl
theorem d_M_readyAt_41 : decode prog_7_method_16_code 41 = .ok (.getfield 44, 3) := jx_dec c_M_readyAt_ok 25 rfl
theorem d_M_readyAt_44 : decode prog_7_method_16_code 44 = .ok (.aload_n 0, 1) := jx_dec c_M_readyAt_ok 26 rfl
theorem d_M_readyAt_45 : decode prog_7_method_16_code 45 = .ok (.getfield 32, 3) := jx_dec c_M_readyAt_ok 27 rfl
theorem d_M_readyAt_48 : decode prog_7_method_16_code 48 = .ok (.iload_n 1, 1) := jx_dec c_M_readyAt_ok 28 rfl
theorem d_M_readyAt_49 : decode prog_7_method_16_code 49 = .ok (.iaload, 1) := jx_dec c_M_readyAt_ok 29 rfl
theorem d_M_readyAt_50 : decode prog_7_method_16_code 50 = .ok (.iaload, 1) := jx_dec c_M_readyAt_ok 30 rfl
theorem d_M_readyAt_51 : decode prog_7_method_16_code 51 = .ok (.iadd, 1) := jx_dec c_M_readyAt_ok 31 rfl
theorem d_M_readyAt_52 : decode prog_7_method_16_code 52 = .ok (.invokestatic 120, 3) := jx_dec c_M_readyAt_ok 32 rfl
theorem d_M_readyAt_55 : decode prog_7_method_16_code 55 = .ok (.ireturn, 1) := jx_dec c_M_readyAt_ok 33 rfl
def c_M_greater : List (Nat × Instr × Nat) := [(0, .iload_n 0, 1), (1, .iload_n 1, 1), (2, .if_icmp .le 7, 3), (5, .iload_n 0, 1), (6, .goto 4, 3), (9, .iload_n 1, 1), (10, .ireturn, 1)]
theorem c_M_greater_ok : (c_M_greater).all (fun q => decide (decode prog_7_method_15_code q.1 = .ok q.2)) = true := by decide +kernel
theorem d_M_greater_0 : decode prog_7_method_15_code 0 = .ok (.iload_n 0, 1) := jx_dec c_M_greater_ok 0 rfl
theorem d_M_greater_1 : decode prog_7_method_15_code 1 = .ok (.iload_n 1, 1) := jx_dec c_M_greater_ok 1 rfl
theorem d_M_greater_2 : decode prog_7_method_15_code 2 = .ok (.if_icmp .le 7, 3) := jx_dec c_M_greater_ok 2 rfl
theorem d_M_greater_5 : decode prog_7_method_15_code 5 = .ok (.iload_n 0, 1) := jx_dec c_M_greater_ok 3 rfl
theorem d_M_greater_6 : decode prog_7_method_15_code 6 = .ok (.goto 4, 3) := jx_dec c_M_greater_ok 4 rfl
theorem d_M_greater_9 : decode prog_7_method_15_code 9 = .ok (.iload_n 1, 1) := jx_dec c_M_greater_ok 5 rfl
theorem d_M_greater_10 : decode prog_7_method_15_code 10 = .ok (.ireturn, 1) := jx_dec c_M_greater_ok 6 rfl
def c_M_startOf : List (Nat × Instr × Nat) := [(0, .iload_n 3, 1), (1, .aload_n 0, 1), (2, .getfield 35, 3), (5, .iconst 4, 1), (6, .iload 4, 2), (8, .imul, 1), (9, .aload_n 0, 1), (10, .getfield 50, 3), (13, .iload_n 2, 1), (14, .iaload, 1), (15, .iadd, 1), (16, .iaload, 1), (17, .iadd, 1), (18, .istore 5, 2), (20, .iload 5, 2), (22, .aload_n 0, 1), (23, .getfield 22, 3), (26, .iload_n 1, 1), (27, .iaload, 1), (28, .if_icmp .ge 44, 3), (31, .iload 5, 2), (33, .aload_n 0, 1), (34, .getfield 44, 3), (37, .iload_n 2, 1), (38, .iaload, 1), (39, .iadd, 1), (40, .aload_n 0, 1), (41, .getfield 19, 3), (44, .iload_n 1, 1), (45, .iaload, 1), (46, .if_icmp .le 26, 3), (49, .aload_n 0, 1), (50, .getfield 19, 3), (53, .iload_n 1, 1), (54, .iaload, 1), (55, .aload_n 0, 1), (56, .getfield 22, 3), (59, .iload_n 1, 1), (60, .iaload, 1), (61, .if_icmp .ge 11, 3), (64, .aload_n 0, 1), (65, .getfield 22, 3), (68, .iload_n 1, 1), (69, .iaload, 1), (70, .istore 5, 2), (72, .iload 5, 2), (74, .aload_n 0, 1), (75, .getfield 44, 3), (78, .iload_n 2, 1), (79, .iaload, 1), (80, .iadd, 1), (81, .aload_n 0, 1), (82, .getfield 16, 3), (85, .iload_n 1, 1), (86, .iaload, 1), (87, .if_icmp .le 7, 3), (90, .iconst (-1), 1), (91, .goto 5, 3), (94, .iload 5, 2), (96, .ireturn, 1)]
theorem c_M_startOf_ok : (c_M_startOf).all (fun q => decide (decode prog_7_method_17_code q.1 = .ok q.2)) = true := by decide +kernel
theorem d_M_startOf_0 : decode prog_7_method_17_code 0 = .ok (.iload_n 3, 1) := jx_dec c_M_startOf_ok 0 rfl
theorem d_M_startOf_1 : decode prog_7_method_17_code 1 = .ok (.aload_n 0, 1) := jx_dec c_M_startOf_ok 1 rfl
theorem d_M_startOf_2 : decode prog_7_method_17_code 2 = .ok (.getfield 35, 3) := jx_dec c_M_startOf_ok 2 rfl
theorem d_M_startOf_5 : decode prog_7_method_17_code 5 = .ok (.iconst 4, 1) := jx_dec c_M_startOf_ok 3 rfl
theorem d_M_startOf_6 : decode prog_7_method_17_code 6 = .ok (.iload 4, 2) := jx_dec c_M_startOf_ok 4 rfl
theorem d_M_startOf_8 : decode prog_7_method_17_code 8 = .ok (.imul, 1) := jx_dec c_M_startOf_ok 5 rfl
theorem d_M_startOf_9 : decode prog_7_method_17_code 9 = .ok (.aload_n 0, 1) := jx_dec c_M_startOf_ok 6 rfl
theorem d_M_startOf_10 : decode prog_7_method_17_code 10 = .ok (.getfield 50, 3) := jx_dec c_M_startOf_ok 7 rfl
theorem d_M_startOf_13 : decode prog_7_method_17_code 13 = .ok (.iload_n 2, 1) := jx_dec c_M_startOf_ok 8 rfl
theorem d_M_startOf_14 : decode prog_7_method_17_code 14 = .ok (.iaload, 1) := jx_dec c_M_startOf_ok 9 rfl
theorem d_M_startOf_15 : decode prog_7_method_17_code 15 = .ok (.iadd, 1) := jx_dec c_M_startOf_ok 10 rfl
theorem d_M_startOf_16 : decode prog_7_method_17_code 16 = .ok (.iaload, 1) := jx_dec c_M_startOf_ok 11 rfl
theorem d_M_startOf_17 : decode prog_7_method_17_code 17 = .ok (.iadd, 1) := jx_dec c_M_startOf_ok 12 rfl
theorem d_M_startOf_18 : decode prog_7_method_17_code 18 = .ok (.istore 5, 2) := jx_dec c_M_startOf_ok 13 rfl
theorem d_M_startOf_20 : decode prog_7_method_17_code 20 = .ok (.iload 5, 2) := jx_dec c_M_startOf_ok 14 rfl
theorem d_M_startOf_22 : decode prog_7_method_17_code 22 = .ok (.aload_n 0, 1) := jx_dec c_M_startOf_ok 15 rfl
theorem d_M_startOf_23 : decode prog_7_method_17_code 23 = .ok (.getfield 22, 3) := jx_dec c_M_startOf_ok 16 rfl
theorem d_M_startOf_26 : decode prog_7_method_17_code 26 = .ok (.iload_n 1, 1) := jx_dec c_M_startOf_ok 17 rfl
theorem d_M_startOf_27 : decode prog_7_method_17_code 27 = .ok (.iaload, 1) := jx_dec c_M_startOf_ok 18 rfl
theorem d_M_startOf_28 : decode prog_7_method_17_code 28 = .ok (.if_icmp .ge 44, 3) := jx_dec c_M_startOf_ok 19 rfl
theorem d_M_startOf_31 : decode prog_7_method_17_code 31 = .ok (.iload 5, 2) := jx_dec c_M_startOf_ok 20 rfl
theorem d_M_startOf_33 : decode prog_7_method_17_code 33 = .ok (.aload_n 0, 1) := jx_dec c_M_startOf_ok 21 rfl
theorem d_M_startOf_34 : decode prog_7_method_17_code 34 = .ok (.getfield 44, 3) := jx_dec c_M_startOf_ok 22 rfl
theorem d_M_startOf_37 : decode prog_7_method_17_code 37 = .ok (.iload_n 2, 1) := jx_dec c_M_startOf_ok 23 rfl
theorem d_M_startOf_38 : decode prog_7_method_17_code 38 = .ok (.iaload, 1) := jx_dec c_M_startOf_ok 24 rfl
theorem d_M_startOf_39 : decode prog_7_method_17_code 39 = .ok (.iadd, 1) := jx_dec c_M_startOf_ok 25 rfl
theorem d_M_startOf_40 : decode prog_7_method_17_code 40 = .ok (.aload_n 0, 1) := jx_dec c_M_startOf_ok 26 rfl
theorem d_M_startOf_41 : decode prog_7_method_17_code 41 = .ok (.getfield 19, 3) := jx_dec c_M_startOf_ok 27 rfl
theorem d_M_startOf_44 : decode prog_7_method_17_code 44 = .ok (.iload_n 1, 1) := jx_dec c_M_startOf_ok 28 rfl
theorem d_M_startOf_45 : decode prog_7_method_17_code 45 = .ok (.iaload, 1) := jx_dec c_M_startOf_ok 29 rfl
theorem d_M_startOf_46 : decode prog_7_method_17_code 46 = .ok (.if_icmp .le 26, 3) := jx_dec c_M_startOf_ok 30 rfl
theorem d_M_startOf_49 : decode prog_7_method_17_code 49 = .ok (.aload_n 0, 1) := jx_dec c_M_startOf_ok 31 rfl
theorem d_M_startOf_50 : decode prog_7_method_17_code 50 = .ok (.getfield 19, 3) := jx_dec c_M_startOf_ok 32 rfl
theorem d_M_startOf_53 : decode prog_7_method_17_code 53 = .ok (.iload_n 1, 1) := jx_dec c_M_startOf_ok 33 rfl
theorem d_M_startOf_54 : decode prog_7_method_17_code 54 = .ok (.iaload, 1) := jx_dec c_M_startOf_ok 34 rfl
theorem d_M_startOf_55 : decode prog_7_method_17_code 55 = .ok (.aload_n 0, 1) := jx_dec c_M_startOf_ok 35 rfl
theorem d_M_startOf_56 : decode prog_7_method_17_code 56 = .ok (.getfield 22, 3) := jx_dec c_M_startOf_ok 36 rfl
theorem d_M_startOf_59 : decode prog_7_method_17_code 59 = .ok (.iload_n 1, 1) := jx_dec c_M_startOf_ok 37 rfl
theorem d_M_startOf_60 : decode prog_7_method_17_code 60 = .ok (.iaload, 1) := jx_dec c_M_startOf_ok 38 rfl
theorem d_M_startOf_61 : decode prog_7_method_17_code 61 = .ok (.if_icmp .ge 11, 3) := jx_dec c_M_startOf_ok 39 rfl
theorem d_M_startOf_64 : decode prog_7_method_17_code 64 = .ok (.aload_n 0, 1) := jx_dec c_M_startOf_ok 40 rfl
theorem d_M_startOf_65 : decode prog_7_method_17_code 65 = .ok (.getfield 22, 3) := jx_dec c_M_startOf_ok 41 rfl
theorem d_M_startOf_68 : decode prog_7_method_17_code 68 = .ok (.iload_n 1, 1) := jx_dec c_M_startOf_ok 42 rfl
theorem d_M_startOf_69 : decode prog_7_method_17_code 69 = .ok (.iaload, 1) := jx_dec c_M_startOf_ok 43 rfl
theorem d_M_startOf_70 : decode prog_7_method_17_code 70 = .ok (.istore 5, 2) := jx_dec c_M_startOf_ok 44 rfl
theorem d_M_startOf_72 : decode prog_7_method_17_code 72 = .ok (.iload 5, 2) := jx_dec c_M_startOf_ok 45 rfl
theorem d_M_startOf_74 : decode prog_7_method_17_code 74 = .ok (.aload_n 0, 1) := jx_dec c_M_startOf_ok 46 rfl
theorem d_M_startOf_75 : decode prog_7_method_17_code 75 = .ok (.getfield 44, 3) := jx_dec c_M_startOf_ok 47 rfl
theorem d_M_startOf_78 : decode prog_7_method_17_code 78 = .ok (.iload_n 2, 1) := jx_dec c_M_startOf_ok 48 rfl
theorem d_M_startOf_79 : decode prog_7_method_17_code 79 = .ok (.iaload, 1) := jx_dec c_M_startOf_ok 49 rfl
theorem d_M_startOf_80 : decode prog_7_method_17_code 80 = .ok (.iadd, 1) := jx_dec c_M_startOf_ok 50 rfl
theorem d_M_startOf_81 : decode prog_7_method_17_code 81 = .ok (.aload_n 0, 1) := jx_dec c_M_startOf_ok 51 rfl
theorem d_M_startOf_82 : decode prog_7_method_17_code 82 = .ok (.getfield 16, 3) := jx_dec c_M_startOf_ok 52 rfl
theorem d_M_startOf_85 : decode prog_7_method_17_code 85 = .ok (.iload_n 1, 1) := jx_dec c_M_startOf_ok 53 rfl
theorem d_M_startOf_86 : decode prog_7_method_17_code 86 = .ok (.iaload, 1) := jx_dec c_M_startOf_ok 54 rfl
theorem d_M_startOf_87 : decode prog_7_method_17_code 87 = .ok (.if_icmp .le 7, 3) := jx_dec c_M_startOf_ok 55 rfl
theorem d_M_startOf_90 : decode prog_7_method_17_code 90 = .ok (.iconst (-1), 1) := jx_dec c_M_startOf_ok 56 rfl
theorem d_M_startOf_91 : decode prog_7_method_17_code 91 = .ok (.goto 5, 3) := jx_dec c_M_startOf_ok 57 rfl
theorem d_M_startOf_94 : decode prog_7_method_17_code 94 = .ok (.iload 5, 2) := jx_dec c_M_startOf_ok 58 rfl
theorem d_M_startOf_96 : decode prog_7_method_17_code 96 = .ok (.ireturn, 1) := jx_dec c_M_startOf_ok 59 rfl
def c_M_assign : List (Nat × Instr × Nat) := [(0, .aload_n 0, 1), (1, .iload_n 1, 1), (2, .iconst 0, 1), (3, .iconst 5, 1), (4, .invokestatic 90, 3), (7, .ifCond .eq 7, 3), (10, .iconst 0, 1), (11, .goto 4, 3), (14, .iconst 1, 1), (15, .putfield 83, 3), (18, .aload_n 0, 1), (19, .getfield 83, 3), (22, .ifCond .eq 5, 3), (25, .iconst 0, 1), (26, .ireturn, 1), (27, .iconst 0, 1), (28, .istore_n 2, 1), (29, .iload_n 2, 1), (30, .aload_n 0, 1), (31, .getfield 94, 3), (34, .if_icmp .ge 23, 3), (37, .aload_n 0, 1), (38, .getfield 38, 3), (41, .iload_n 2, 1), (42, .iaload, 1), (43, .ifCond .ne 8, 3), (46, .aload_n 0, 1), (47, .iload_n 2, 1), (48, .invokevirtual 113, 3), (51, .iinc 2 1, 3), (54, .goto (-25), 3), (57, .aload_n 0, 1), (58, .aload_n 0, 1), (59, .iconst 2, 1), (60, .invokevirtual 175, 3), (63, .iload_n 1, 1), (64, .if_icmp .gt 7, 3), (67, .iconst 1, 1), (68, .goto 4, 3), (71, .iconst 0, 1), (72, .putfield 178, 3), (75, .aload_n 0, 1), (76, .getfield 178, 3), (79, .ifCond .ne 10, 3), (82, .aload_n 0, 1), (83, .invokevirtual 182, 3), (86, .goto 57, 3), (89, .aload_n 0, 1), (90, .iconst 0, 1), (91, .putfield 141, 3), (94, .iconst 0, 1), (95, .istore_n 2, 1), (96, .iload_n 2, 1), (97, .aload_n 0, 1), (98, .getfield 94, 3), (101, .if_icmp .ge 38, 3), (104, .aload_n 0, 1), (105, .getfield 38, 3), (108, .iload_n 2, 1), (109, .iaload, 1), (110, .ifCond .ne 23, 3), (113, .aload_n 0, 1), (114, .getfield 62, 3), (117, .aload_n 0, 1), (118, .getfield 141, 3), (121, .iload_n 2, 1), (122, .iastore, 1), (123, .aload_n 0, 1), (124, .dup, 1), (125, .getfield 141, 3), (128, .iconst 1, 1), (129, .iadd, 1), (130, .putfield 141, 3), (133, .iinc 2 1, 3), (136, .goto (-40), 3), (139, .aload_n 0, 1), (140, .invokevirtual 185, 3), (143, .aload_n 0, 1), (144, .bipush 7, 2), (146, .invokevirtual 175, 3), (149, .ireturn, 1)]
theorem c_M_assign_ok : (c_M_assign).all (fun q => decide (decode prog_7_method_34_code q.1 = .ok q.2)) = true := by decide +kernel
theorem d_M_assign_0 : decode prog_7_method_34_code 0 = .ok (.aload_n 0, 1) := jx_dec c_M_assign_ok 0 rfl
theorem d_M_assign_1 : decode prog_7_method_34_code 1 = .ok (.iload_n 1, 1) := jx_dec c_M_assign_ok 1 rfl
theorem d_M_assign_2 : decode prog_7_method_34_code 2 = .ok (.iconst 0, 1) := jx_dec c_M_assign_ok 2 rfl
theorem d_M_assign_3 : decode prog_7_method_34_code 3 = .ok (.iconst 5, 1) := jx_dec c_M_assign_ok 3 rfl
theorem d_M_assign_4 : decode prog_7_method_34_code 4 = .ok (.invokestatic 90, 3) := jx_dec c_M_assign_ok 4 rfl
theorem d_M_assign_7 : decode prog_7_method_34_code 7 = .ok (.ifCond .eq 7, 3) := jx_dec c_M_assign_ok 5 rfl
theorem d_M_assign_10 : decode prog_7_method_34_code 10 = .ok (.iconst 0, 1) := jx_dec c_M_assign_ok 6 rfl
theorem d_M_assign_11 : decode prog_7_method_34_code 11 = .ok (.goto 4, 3) := jx_dec c_M_assign_ok 7 rfl
theorem d_M_assign_14 : decode prog_7_method_34_code 14 = .ok (.iconst 1, 1) := jx_dec c_M_assign_ok 8 rfl
theorem d_M_assign_15 : decode prog_7_method_34_code 15 = .ok (.putfield 83, 3) := jx_dec c_M_assign_ok 9 rfl
theorem d_M_assign_18 : decode prog_7_method_34_code 18 = .ok (.aload_n 0, 1) := jx_dec c_M_assign_ok 10 rfl
theorem d_M_assign_19 : decode prog_7_method_34_code 19 = .ok (.getfield 83, 3) := jx_dec c_M_assign_ok 11 rfl
theorem d_M_assign_22 : decode prog_7_method_34_code 22 = .ok (.ifCond .eq 5, 3) := jx_dec c_M_assign_ok 12 rfl
theorem d_M_assign_25 : decode prog_7_method_34_code 25 = .ok (.iconst 0, 1) := jx_dec c_M_assign_ok 13 rfl
theorem d_M_assign_26 : decode prog_7_method_34_code 26 = .ok (.ireturn, 1) := jx_dec c_M_assign_ok 14 rfl
theorem d_M_assign_27 : decode prog_7_method_34_code 27 = .ok (.iconst 0, 1) := jx_dec c_M_assign_ok 15 rfl
theorem d_M_assign_28 : decode prog_7_method_34_code 28 = .ok (.istore_n 2, 1) := jx_dec c_M_assign_ok 16 rfl
theorem d_M_assign_29 : decode prog_7_method_34_code 29 = .ok (.iload_n 2, 1) := jx_dec c_M_assign_ok 17 rfl
theorem d_M_assign_30 : decode prog_7_method_34_code 30 = .ok (.aload_n 0, 1) := jx_dec c_M_assign_ok 18 rfl
theorem d_M_assign_31 : decode prog_7_method_34_code 31 = .ok (.getfield 94, 3) := jx_dec c_M_assign_ok 19 rfl
theorem d_M_assign_34 : decode prog_7_method_34_code 34 = .ok (.if_icmp .ge 23, 3) := jx_dec c_M_assign_ok 20 rfl
theorem d_M_assign_37 : decode prog_7_method_34_code 37 = .ok (.aload_n 0, 1) := jx_dec c_M_assign_ok 21 rfl
theorem d_M_assign_38 : decode prog_7_method_34_code 38 = .ok (.getfield 38, 3) := jx_dec c_M_assign_ok 22 rfl
theorem d_M_assign_41 : decode prog_7_method_34_code 41 = .ok (.iload_n 2, 1) := jx_dec c_M_assign_ok 23 rfl
theorem d_M_assign_42 : decode prog_7_method_34_code 42 = .ok (.iaload, 1) := jx_dec c_M_assign_ok 24 rfl
theorem d_M_assign_43 : decode prog_7_method_34_code 43 = .ok (.ifCond .ne 8, 3) := jx_dec c_M_assign_ok 25 rfl
theorem d_M_assign_46 : decode prog_7_method_34_code 46 = .ok (.aload_n 0, 1) := jx_dec c_M_assign_ok 26 rfl
theorem d_M_assign_47 : decode prog_7_method_34_code 47 = .ok (.iload_n 2, 1) := jx_dec c_M_assign_ok 27 rfl
theorem d_M_assign_48 : decode prog_7_method_34_code 48 = .ok (.invokevirtual 113, 3) := jx_dec c_M_assign_ok 28 rfl
theorem d_M_assign_51 : decode prog_7_method_34_code 51 = .ok (.iinc 2 1, 3) := jx_dec c_M_assign_ok 29 rfl
theorem d_M_assign_54 : decode prog_7_method_34_code 54 = .ok (.goto (-25), 3) := jx_dec c_M_assign_ok 30 rfl
theorem d_M_assign_57 : decode prog_7_method_34_code 57 = .ok (.aload_n 0, 1) := jx_dec c_M_assign_ok 31 rfl
theorem d_M_assign_58 : decode prog_7_method_34_code 58 = .ok (.aload_n 0, 1) := jx_dec c_M_assign_ok 32 rfl
theorem d_M_assign_59 : decode prog_7_method_34_code 59 = .ok (.iconst 2, 1) := jx_dec c_M_assign_ok 33 rfl
theorem d_M_assign_60 : decode prog_7_method_34_code 60 = .ok (.invokevirtual 175, 3) := jx_dec c_M_assign_ok 34 rfl
theorem d_M_assign_63 : decode prog_7_method_34_code 63 = .ok (.iload_n 1, 1) := jx_dec c_M_assign_ok 35 rfl
theorem d_M_assign_64 : decode prog_7_method_34_code 64 = .ok (.if_icmp .gt 7, 3) := jx_dec c_M_assign_ok 36 rfl
theorem d_M_assign_67 : decode prog_7_method_34_code 67 = .ok (.iconst 1, 1) := jx_dec c_M_assign_ok 37 rfl
theorem d_M_assign_68 : decode prog_7_method_34_code 68 = .ok (.goto 4, 3) := jx_dec c_M_assign_ok 38 rfl
theorem d_M_assign_71 : decode prog_7_method_34_code 71 = .ok (.iconst 0, 1) := jx_dec c_M_assign_ok 39 rfl
theorem d_M_assign_72 : decode prog_7_method_34_code 72 = .ok (.putfield 178, 3) := jx_dec c_M_assign_ok 40 rfl
theorem d_M_assign_75 : decode prog_7_method_34_code 75 = .ok (.aload_n 0, 1) := jx_dec c_M_assign_ok 41 rfl
theorem d_M_assign_76 : decode prog_7_method_34_code 76 = .ok (.getfield 178, 3) := jx_dec c_M_assign_ok 42 rfl
theorem d_M_assign_79 : decode prog_7_method_34_code 79 = .ok (.ifCond .ne 10, 3) := jx_dec c_M_assign_ok 43 rfl
theorem d_M_assign_82 : decode prog_7_method_34_code 82 = .ok (.aload_n 0, 1) := jx_dec c_M_assign_ok 44 rfl
theorem d_M_assign_83 : decode prog_7_method_34_code 83 = .ok (.invokevirtual 182, 3) := jx_dec c_M_assign_ok 45 rfl
theorem d_M_assign_86 : decode prog_7_method_34_code 86 = .ok (.goto 57, 3) := jx_dec c_M_assign_ok 46 rfl
theorem d_M_assign_89 : decode prog_7_method_34_code 89 = .ok (.aload_n 0, 1) := jx_dec c_M_assign_ok 47 rfl
theorem d_M_assign_90 : decode prog_7_method_34_code 90 = .ok (.iconst 0, 1) := jx_dec c_M_assign_ok 48 rfl
theorem d_M_assign_91 : decode prog_7_method_34_code 91 = .ok (.putfield 141, 3) := jx_dec c_M_assign_ok 49 rfl
theorem d_M_assign_94 : decode prog_7_method_34_code 94 = .ok (.iconst 0, 1) := jx_dec c_M_assign_ok 50 rfl
theorem d_M_assign_95 : decode prog_7_method_34_code 95 = .ok (.istore_n 2, 1) := jx_dec c_M_assign_ok 51 rfl
theorem d_M_assign_96 : decode prog_7_method_34_code 96 = .ok (.iload_n 2, 1) := jx_dec c_M_assign_ok 52 rfl
theorem d_M_assign_97 : decode prog_7_method_34_code 97 = .ok (.aload_n 0, 1) := jx_dec c_M_assign_ok 53 rfl
theorem d_M_assign_98 : decode prog_7_method_34_code 98 = .ok (.getfield 94, 3) := jx_dec c_M_assign_ok 54 rfl
theorem d_M_assign_101 : decode prog_7_method_34_code 101 = .ok (.if_icmp .ge 38, 3) := jx_dec c_M_assign_ok 55 rfl
theorem d_M_assign_104 : decode prog_7_method_34_code 104 = .ok (.aload_n 0, 1) := jx_dec c_M_assign_ok 56 rfl
theorem d_M_assign_105 : decode prog_7_method_34_code 105 = .ok (.getfield 38, 3) := jx_dec c_M_assign_ok 57 rfl
theorem d_M_assign_108 : decode prog_7_method_34_code 108 = .ok (.iload_n 2, 1) := jx_dec c_M_assign_ok 58 rfl
theorem d_M_assign_109 : decode prog_7_method_34_code 109 = .ok (.iaload, 1) := jx_dec c_M_assign_ok 59 rfl
theorem d_M_assign_110 : decode prog_7_method_34_code 110 = .ok (.ifCond .ne 23, 3) := jx_dec c_M_assign_ok 60 rfl
theorem d_M_assign_113 : decode prog_7_method_34_code 113 = .ok (.aload_n 0, 1) := jx_dec c_M_assign_ok 61 rfl
theorem d_M_assign_114 : decode prog_7_method_34_code 114 = .ok (.getfield 62, 3) := jx_dec c_M_assign_ok 62 rfl
theorem d_M_assign_117 : decode prog_7_method_34_code 117 = .ok (.aload_n 0, 1) := jx_dec c_M_assign_ok 63 rfl
theorem d_M_assign_118 : decode prog_7_method_34_code 118 = .ok (.getfield 141, 3) := jx_dec c_M_assign_ok 64 rfl
theorem d_M_assign_121 : decode prog_7_method_34_code 121 = .ok (.iload_n 2, 1) := jx_dec c_M_assign_ok 65 rfl
theorem d_M_assign_122 : decode prog_7_method_34_code 122 = .ok (.iastore, 1) := jx_dec c_M_assign_ok 66 rfl
theorem d_M_assign_123 : decode prog_7_method_34_code 123 = .ok (.aload_n 0, 1) := jx_dec c_M_assign_ok 67 rfl
theorem d_M_assign_124 : decode prog_7_method_34_code 124 = .ok (.dup, 1) := jx_dec c_M_assign_ok 68 rfl
theorem d_M_assign_125 : decode prog_7_method_34_code 125 = .ok (.getfield 141, 3) := jx_dec c_M_assign_ok 69 rfl
theorem d_M_assign_128 : decode prog_7_method_34_code 128 = .ok (.iconst 1, 1) := jx_dec c_M_assign_ok 70 rfl
theorem d_M_assign_129 : decode prog_7_method_34_code 129 = .ok (.iadd, 1) := jx_dec c_M_assign_ok 71 rfl
theorem d_M_assign_130 : decode prog_7_method_34_code 130 = .ok (.putfield 141, 3) := jx_dec c_M_assign_ok 72 rfl
theorem d_M_assign_133 : decode prog_7_method_34_code 133 = .ok (.iinc 2 1, 3) := jx_dec c_M_assign_ok 73 rfl
theorem d_M_assign_136 : decode prog_7_method_34_code 136 = .ok (.goto (-40), 3) := jx_dec c_M_assign_ok 74 rfl
theorem d_M_assign_139 : decode prog_7_method_34_code 139 = .ok (.aload_n 0, 1) := jx_dec c_M_assign_ok 75 rfl
theorem d_M_assign_140 : decode prog_7_method_34_code 140 = .ok (.invokevirtual 185, 3) := jx_dec c_M_assign_ok 76 rfl
theorem d_M_assign_143 : decode prog_7_method_34_code 143 = .ok (.aload_n 0, 1) := jx_dec c_M_assign_ok 77 rfl
theorem d_M_assign_144 : decode prog_7_method_34_code 144 = .ok (.bipush 7, 2) := jx_dec c_M_assign_ok 78 rfl
theorem d_M_assign_146 : decode prog_7_method_34_code 146 = .ok (.invokevirtual 175, 3) := jx_dec c_M_assign_ok 79 rfl
theorem d_M_assign_149 : decode prog_7_method_34_code 149 = .ok (.ireturn, 1) := jx_dec c_M_assign_ok 80 rfl
def c_M_count : List (Nat × Instr × Nat) := [(0, .aload_n 0, 1), (1, .iconst 0, 1), (2, .putfield 83, 3), (5, .iconst 0, 1), (6, .istore_n 2, 1), (7, .iload_n 1, 1), (8, .tableswitch 167 0 7 #[48, 53, 58, 58, 58, 66, 106, 111], 48), (56, .aload_n 0, 1), (57, .getfield 87, 3), (60, .ireturn, 1), (61, .aload_n 0, 1), (62, .getfield 94, 3), (65, .ireturn, 1), (66, .aload_n 0, 1), (67, .iload_n 1, 1), (68, .iconst 2, 1), (69, .isub, 1), (70, .invokevirtual 194, 3), (73, .ireturn, 1), (74, .iconst 0, 1), (75, .istore_n 3, 1), (76, .iload_n 3, 1), (77, .aload_n 0, 1), (78, .getfield 94, 3), (81, .if_icmp .ge 31, 3), (84, .aload_n 0, 1), (85, .getfield 38, 3), (88, .iload_n 3, 1), (89, .iaload, 1), (90, .ifCond .ne 16, 3), (93, .aload_n 0, 1), (94, .getfield 56, 3), (97, .iload_n 3, 1), (98, .iaload, 1), (99, .iconst (-1), 1), (100, .if_icmp .ne 6, 3), (103, .iinc 2 1, 3), (106, .iinc 3 1, 3), (109, .goto (-33), 3), (112, .iload_n 2, 1), (113, .ireturn, 1), (114, .aload_n 0, 1), (115, .getfield 117, 3), (118, .ireturn, 1), (119, .iconst 0, 1), (120, .istore_n 3, 1), (121, .iload_n 3, 1), (122, .aload_n 0, 1), (123, .getfield 94, 3), (126, .if_icmp .ge 47, 3), (129, .aload_n 0, 1), (130, .getfield 38, 3), (133, .iload_n 3, 1), (134, .iaload, 1), (135, .ifCond .ne 32, 3), (138, .iload_n 2, 1), (139, .aload_n 0, 1), (140, .getfield 56, 3), (143, .iload_n 3, 1), (144, .iaload, 1), (145, .iconst (-1), 1), (146, .if_icmp .ne 8, 3), (149, .ldc 97, 2), (151, .goto 14, 3), (154, .aload_n 0, 1), (155, .iload_n 3, 1), (156, .aload_n 0, 1), (157, .getfield 59, 3), (160, .iload_n 3, 1), (161, .iaload, 1), (162, .invokevirtual 134, 3), (165, .iadd, 1), (166, .istore_n 2, 1), (167, .iinc 3 1, 3), (170, .goto (-49), 3), (173, .iload_n 2, 1), (174, .ireturn, 1), (175, .iconst (-1), 1), (176, .ireturn, 1)]
theorem c_M_count_ok : (c_M_count).all (fun q => decide (decode prog_7_method_48_code q.1 = .ok q.2)) = true := by decide +kernel
theorem d_M_count_0 : decode prog_7_method_48_code 0 = .ok (.aload_n 0, 1) := jx_dec c_M_count_ok 0 rfl
theorem d_M_count_1 : decode prog_7_method_48_code 1 = .ok (.iconst 0, 1) := jx_dec c_M_count_ok 1 rfl
theorem d_M_count_2 : decode prog_7_method_48_code 2 = .ok (.putfield 83, 3) := jx_dec c_M_count_ok 2 rfl
theorem d_M_count_5 : decode prog_7_method_48_code 5 = .ok (.iconst 0, 1) := jx_dec c_M_count_ok 3 rfl
theorem d_M_count_6 : decode prog_7_method_48_code 6 = .ok (.istore_n 2, 1) := jx_dec c_M_count_ok 4 rfl
theorem d_M_count_7 : decode prog_7_method_48_code 7 = .ok (.iload_n 1, 1) := jx_dec c_M_count_ok 5 rfl
theorem d_M_count_8 : decode prog_7_method_48_code 8 = .ok (.tableswitch 167 0 7 #[48, 53, 58, 58, 58, 66, 106, 111], 48) := jx_dec c_M_count_ok 6 rfl
theorem d_M_count_56 : decode prog_7_method_48_code 56 = .ok (.aload_n 0, 1) := jx_dec c_M_count_ok 7 rfl
theorem d_M_count_57 : decode prog_7_method_48_code 57 = .ok (.getfield 87, 3) := jx_dec c_M_count_ok 8 rfl
theorem d_M_count_60 : decode prog_7_method_48_code 60 = .ok (.ireturn, 1) := jx_dec c_M_count_ok 9 rfl
theorem d_M_count_61 : decode prog_7_method_48_code 61 = .ok (.aload_n 0, 1) := jx_dec c_M_count_ok 10 rfl
theorem d_M_count_62 : decode prog_7_method_48_code 62 = .ok (.getfield 94, 3) := jx_dec c_M_count_ok 11 rfl
theorem d_M_count_65 : decode prog_7_method_48_code 65 = .ok (.ireturn, 1) := jx_dec c_M_count_ok 12 rfl
theorem d_M_count_66 : decode prog_7_method_48_code 66 = .ok (.aload_n 0, 1) := jx_dec c_M_count_ok 13 rfl
theorem d_M_count_67 : decode prog_7_method_48_code 67 = .ok (.iload_n 1, 1) := jx_dec c_M_count_ok 14 rfl
theorem d_M_count_68 : decode prog_7_method_48_code 68 = .ok (.iconst 2, 1) := jx_dec c_M_count_ok 15 rfl
theorem d_M_count_69 : decode prog_7_method_48_code 69 = .ok (.isub, 1) := jx_dec c_M_count_ok 16 rfl
theorem d_M_count_70 : decode prog_7_method_48_code 70 = .ok (.invokevirtual 194, 3) := jx_dec c_M_count_ok 17 rfl
theorem d_M_count_73 : decode prog_7_method_48_code 73 = .ok (.ireturn, 1) := jx_dec c_M_count_ok 18 rfl
theorem d_M_count_74 : decode prog_7_method_48_code 74 = .ok (.iconst 0, 1) := jx_dec c_M_count_ok 19 rfl
theorem d_M_count_75 : decode prog_7_method_48_code 75 = .ok (.istore_n 3, 1) := jx_dec c_M_count_ok 20 rfl
theorem d_M_count_76 : decode prog_7_method_48_code 76 = .ok (.iload_n 3, 1) := jx_dec c_M_count_ok 21 rfl
theorem d_M_count_77 : decode prog_7_method_48_code 77 = .ok (.aload_n 0, 1) := jx_dec c_M_count_ok 22 rfl
theorem d_M_count_78 : decode prog_7_method_48_code 78 = .ok (.getfield 94, 3) := jx_dec c_M_count_ok 23 rfl
theorem d_M_count_81 : decode prog_7_method_48_code 81 = .ok (.if_icmp .ge 31, 3) := jx_dec c_M_count_ok 24 rfl
theorem d_M_count_84 : decode prog_7_method_48_code 84 = .ok (.aload_n 0, 1) := jx_dec c_M_count_ok 25 rfl
theorem d_M_count_85 : decode prog_7_method_48_code 85 = .ok (.getfield 38, 3) := jx_dec c_M_count_ok 26 rfl
theorem d_M_count_88 : decode prog_7_method_48_code 88 = .ok (.iload_n 3, 1) := jx_dec c_M_count_ok 27 rfl
theorem d_M_count_89 : decode prog_7_method_48_code 89 = .ok (.iaload, 1) := jx_dec c_M_count_ok 28 rfl
theorem d_M_count_90 : decode prog_7_method_48_code 90 = .ok (.ifCond .ne 16, 3) := jx_dec c_M_count_ok 29 rfl
theorem d_M_count_93 : decode prog_7_method_48_code 93 = .ok (.aload_n 0, 1) := jx_dec c_M_count_ok 30 rfl
theorem d_M_count_94 : decode prog_7_method_48_code 94 = .ok (.getfield 56, 3) := jx_dec c_M_count_ok 31 rfl
theorem d_M_count_97 : decode prog_7_method_48_code 97 = .ok (.iload_n 3, 1) := jx_dec c_M_count_ok 32 rfl
theorem d_M_count_98 : decode prog_7_method_48_code 98 = .ok (.iaload, 1) := jx_dec c_M_count_ok 33 rfl
theorem d_M_count_99 : decode prog_7_method_48_code 99 = .ok (.iconst (-1), 1) := jx_dec c_M_count_ok 34 rfl
theorem d_M_count_100 : decode prog_7_method_48_code 100 = .ok (.if_icmp .ne 6, 3) := jx_dec c_M_count_ok 35 rfl
theorem d_M_count_103 : decode prog_7_method_48_code 103 = .ok (.iinc 2 1, 3) := jx_dec c_M_count_ok 36 rfl
theorem d_M_count_106 : decode prog_7_method_48_code 106 = .ok (.iinc 3 1, 3) := jx_dec c_M_count_ok 37 rfl
theorem d_M_count_109 : decode prog_7_method_48_code 109 = .ok (.goto (-33), 3) := jx_dec c_M_count_ok 38 rfl
theorem d_M_count_112 : decode prog_7_method_48_code 112 = .ok (.iload_n 2, 1) := jx_dec c_M_count_ok 39 rfl
theorem d_M_count_113 : decode prog_7_method_48_code 113 = .ok (.ireturn, 1) := jx_dec c_M_count_ok 40 rfl
theorem d_M_count_114 : decode prog_7_method_48_code 114 = .ok (.aload_n 0, 1) := jx_dec c_M_count_ok 41 rfl
theorem d_M_count_115 : decode prog_7_method_48_code 115 = .ok (.getfield 117, 3) := jx_dec c_M_count_ok 42 rfl
theorem d_M_count_118 : decode prog_7_method_48_code 118 = .ok (.ireturn, 1) := jx_dec c_M_count_ok 43 rfl
theorem d_M_count_119 : decode prog_7_method_48_code 119 = .ok (.iconst 0, 1) := jx_dec c_M_count_ok 44 rfl
theorem d_M_count_120 : decode prog_7_method_48_code 120 = .ok (.istore_n 3, 1) := jx_dec c_M_count_ok 45 rfl
theorem d_M_count_121 : decode prog_7_method_48_code 121 = .ok (.iload_n 3, 1) := jx_dec c_M_count_ok 46 rfl
theorem d_M_count_122 : decode prog_7_method_48_code 122 = .ok (.aload_n 0, 1) := jx_dec c_M_count_ok 47 rfl
theorem d_M_count_123 : decode prog_7_method_48_code 123 = .ok (.getfield 94, 3) := jx_dec c_M_count_ok 48 rfl
theorem d_M_count_126 : decode prog_7_method_48_code 126 = .ok (.if_icmp .ge 47, 3) := jx_dec c_M_count_ok 49 rfl
theorem d_M_count_129 : decode prog_7_method_48_code 129 = .ok (.aload_n 0, 1) := jx_dec c_M_count_ok 50 rfl
theorem d_M_count_130 : decode prog_7_method_48_code 130 = .ok (.getfield 38, 3) := jx_dec c_M_count_ok 51 rfl
theorem d_M_count_133 : decode prog_7_method_48_code 133 = .ok (.iload_n 3, 1) := jx_dec c_M_count_ok 52 rfl
theorem d_M_count_134 : decode prog_7_method_48_code 134 = .ok (.iaload, 1) := jx_dec c_M_count_ok 53 rfl
theorem d_M_count_135 : decode prog_7_method_48_code 135 = .ok (.ifCond .ne 32, 3) := jx_dec c_M_count_ok 54 rfl
theorem d_M_count_138 : decode prog_7_method_48_code 138 = .ok (.iload_n 2, 1) := jx_dec c_M_count_ok 55 rfl
theorem d_M_count_139 : decode prog_7_method_48_code 139 = .ok (.aload_n 0, 1) := jx_dec c_M_count_ok 56 rfl
theorem d_M_count_140 : decode prog_7_method_48_code 140 = .ok (.getfield 56, 3) := jx_dec c_M_count_ok 57 rfl
theorem d_M_count_143 : decode prog_7_method_48_code 143 = .ok (.iload_n 3, 1) := jx_dec c_M_count_ok 58 rfl
theorem d_M_count_144 : decode prog_7_method_48_code 144 = .ok (.iaload, 1) := jx_dec c_M_count_ok 59 rfl
theorem d_M_count_145 : decode prog_7_method_48_code 145 = .ok (.iconst (-1), 1) := jx_dec c_M_count_ok 60 rfl
theorem d_M_count_146 : decode prog_7_method_48_code 146 = .ok (.if_icmp .ne 8, 3) := jx_dec c_M_count_ok 61 rfl
theorem d_M_count_149 : decode prog_7_method_48_code 149 = .ok (.ldc 97, 2) := jx_dec c_M_count_ok 62 rfl
theorem d_M_count_151 : decode prog_7_method_48_code 151 = .ok (.goto 14, 3) := jx_dec c_M_count_ok 63 rfl
theorem d_M_count_154 : decode prog_7_method_48_code 154 = .ok (.aload_n 0, 1) := jx_dec c_M_count_ok 64 rfl
theorem d_M_count_155 : decode prog_7_method_48_code 155 = .ok (.iload_n 3, 1) := jx_dec c_M_count_ok 65 rfl
theorem d_M_count_156 : decode prog_7_method_48_code 156 = .ok (.aload_n 0, 1) := jx_dec c_M_count_ok 66 rfl
theorem d_M_count_157 : decode prog_7_method_48_code 157 = .ok (.getfield 59, 3) := jx_dec c_M_count_ok 67 rfl
theorem d_M_count_160 : decode prog_7_method_48_code 160 = .ok (.iload_n 3, 1) := jx_dec c_M_count_ok 68 rfl
theorem d_M_count_161 : decode prog_7_method_48_code 161 = .ok (.iaload, 1) := jx_dec c_M_count_ok 69 rfl
theorem d_M_count_162 : decode prog_7_method_48_code 162 = .ok (.invokevirtual 134, 3) := jx_dec c_M_count_ok 70 rfl
theorem d_M_count_165 : decode prog_7_method_48_code 165 = .ok (.iadd, 1) := jx_dec c_M_count_ok 71 rfl
theorem d_M_count_166 : decode prog_7_method_48_code 166 = .ok (.istore_n 2, 1) := jx_dec c_M_count_ok 72 rfl
theorem d_M_count_167 : decode prog_7_method_48_code 167 = .ok (.iinc 3 1, 3) := jx_dec c_M_count_ok 73 rfl
theorem d_M_count_170 : decode prog_7_method_48_code 170 = .ok (.goto (-49), 3) := jx_dec c_M_count_ok 74 rfl
theorem d_M_count_173 : decode prog_7_method_48_code 173 = .ok (.iload_n 2, 1) := jx_dec c_M_count_ok 75 rfl
theorem d_M_count_174 : decode prog_7_method_48_code 174 = .ok (.ireturn, 1) := jx_dec c_M_count_ok 76 rfl
theorem d_M_count_175 : decode prog_7_method_48_code 175 = .ok (.iconst (-1), 1) := jx_dec c_M_count_ok 77 rfl
theorem d_M_count_176 : decode prog_7_method_48_code 176 = .ok (.ireturn, 1) := jx_dec c_M_count_ok 78 rfl
def c_M_inState : List (Nat × Instr × Nat) := [(0, .iconst 0, 1), (1, .istore_n 2, 1), (2, .iconst 0, 1), (3, .istore_n 3, 1), (4, .iload_n 3, 1), (5, .aload_n 0, 1), (6, .getfield 94, 3), (9, .if_icmp .ge 22, 3), (12, .aload_n 0, 1), (13, .getfield 38, 3), (16, .iload_n 3, 1), (17, .iaload, 1), (18, .iload_n 1, 1), (19, .if_icmp .ne 6, 3), (22, .iinc 2 1, 3), (25, .iinc 3 1, 3), (28, .goto (-24), 3), (31, .iload_n 2, 1), (32, .ireturn, 1)]
theorem c_M_inState_ok : (c_M_inState).all (fun q => decide (decode prog_7_method_47_code q.1 = .ok q.2)) = true := by decide +kernel
theorem d_M_inState_0 : decode prog_7_method_47_code 0 = .ok (.iconst 0, 1) := jx_dec c_M_inState_ok 0 rfl
theorem d_M_inState_1 : decode prog_7_method_47_code 1 = .ok (.istore_n 2, 1) := jx_dec c_M_inState_ok 1 rfl
theorem d_M_inState_2 : decode prog_7_method_47_code 2 = .ok (.iconst 0, 1) := jx_dec c_M_inState_ok 2 rfl
theorem d_M_inState_3 : decode prog_7_method_47_code 3 = .ok (.istore_n 3, 1) := jx_dec c_M_inState_ok 3 rfl
theorem d_M_inState_4 : decode prog_7_method_47_code 4 = .ok (.iload_n 3, 1) := jx_dec c_M_inState_ok 4 rfl
theorem d_M_inState_5 : decode prog_7_method_47_code 5 = .ok (.aload_n 0, 1) := jx_dec c_M_inState_ok 5 rfl
theorem d_M_inState_6 : decode prog_7_method_47_code 6 = .ok (.getfield 94, 3) := jx_dec c_M_inState_ok 6 rfl
theorem d_M_inState_9 : decode prog_7_method_47_code 9 = .ok (.if_icmp .ge 22, 3) := jx_dec c_M_inState_ok 7 rfl
theorem d_M_inState_12 : decode prog_7_method_47_code 12 = .ok (.aload_n 0, 1) := jx_dec c_M_inState_ok 8 rfl
theorem d_M_inState_13 : decode prog_7_method_47_code 13 = .ok (.getfield 38, 3) := jx_dec c_M_inState_ok 9 rfl
theorem d_M_inState_16 : decode prog_7_method_47_code 16 = .ok (.iload_n 3, 1) := jx_dec c_M_inState_ok 10 rfl
theorem d_M_inState_17 : decode prog_7_method_47_code 17 = .ok (.iaload, 1) := jx_dec c_M_inState_ok 11 rfl
theorem d_M_inState_18 : decode prog_7_method_47_code 18 = .ok (.iload_n 1, 1) := jx_dec c_M_inState_ok 12 rfl
theorem d_M_inState_19 : decode prog_7_method_47_code 19 = .ok (.if_icmp .ne 6, 3) := jx_dec c_M_inState_ok 13 rfl
theorem d_M_inState_22 : decode prog_7_method_47_code 22 = .ok (.iinc 2 1, 3) := jx_dec c_M_inState_ok 14 rfl
theorem d_M_inState_25 : decode prog_7_method_47_code 25 = .ok (.iinc 3 1, 3) := jx_dec c_M_inState_ok 15 rfl
theorem d_M_inState_28 : decode prog_7_method_47_code 28 = .ok (.goto (-24), 3) := jx_dec c_M_inState_ok 16 rfl
theorem d_M_inState_31 : decode prog_7_method_47_code 31 = .ok (.iload_n 2, 1) := jx_dec c_M_inState_ok 17 rfl
theorem d_M_inState_32 : decode prog_7_method_47_code 32 = .ok (.ireturn, 1) := jx_dec c_M_inState_ok 18 rfl
def c_M_lateBy : List (Nat × Instr × Nat) := [(0, .iload_n 2, 1), (1, .aload_n 0, 1), (2, .getfield 44, 3), (5, .iload_n 1, 1), (6, .iaload, 1), (7, .iadd, 1), (8, .aload_n 0, 1), (9, .getfield 47, 3), (12, .iload_n 1, 1), (13, .iaload, 1), (14, .isub, 1), (15, .iconst 0, 1), (16, .invokestatic 120, 3), (19, .ireturn, 1)]
theorem c_M_lateBy_ok : (c_M_lateBy).all (fun q => decide (decode prog_7_method_18_code q.1 = .ok q.2)) = true := by decide +kernel
theorem d_M_lateBy_0 : decode prog_7_method_18_code 0 = .ok (.iload_n 2, 1) := jx_dec c_M_lateBy_ok 0 rfl
theorem d_M_lateBy_1 : decode prog_7_method_18_code 1 = .ok (.aload_n 0, 1) := jx_dec c_M_lateBy_ok 1 rfl
theorem d_M_lateBy_2 : decode prog_7_method_18_code 2 = .ok (.getfield 44, 3) := jx_dec c_M_lateBy_ok 2 rfl
theorem d_M_lateBy_5 : decode prog_7_method_18_code 5 = .ok (.iload_n 1, 1) := jx_dec c_M_lateBy_ok 3 rfl
theorem d_M_lateBy_6 : decode prog_7_method_18_code 6 = .ok (.iaload, 1) := jx_dec c_M_lateBy_ok 4 rfl
theorem d_M_lateBy_7 : decode prog_7_method_18_code 7 = .ok (.iadd, 1) := jx_dec c_M_lateBy_ok 5 rfl
theorem d_M_lateBy_8 : decode prog_7_method_18_code 8 = .ok (.aload_n 0, 1) := jx_dec c_M_lateBy_ok 6 rfl
theorem d_M_lateBy_9 : decode prog_7_method_18_code 9 = .ok (.getfield 47, 3) := jx_dec c_M_lateBy_ok 7 rfl
theorem d_M_lateBy_12 : decode prog_7_method_18_code 12 = .ok (.iload_n 1, 1) := jx_dec c_M_lateBy_ok 8 rfl
theorem d_M_lateBy_13 : decode prog_7_method_18_code 13 = .ok (.iaload, 1) := jx_dec c_M_lateBy_ok 9 rfl
theorem d_M_lateBy_14 : decode prog_7_method_18_code 14 = .ok (.isub, 1) := jx_dec c_M_lateBy_ok 10 rfl
theorem d_M_lateBy_15 : decode prog_7_method_18_code 15 = .ok (.iconst 0, 1) := jx_dec c_M_lateBy_ok 11 rfl
theorem d_M_lateBy_16 : decode prog_7_method_18_code 16 = .ok (.invokestatic 120, 3) := jx_dec c_M_lateBy_ok 12 rfl
theorem d_M_lateBy_19 : decode prog_7_method_18_code 19 = .ok (.ireturn, 1) := jx_dec c_M_lateBy_ok 13 rfl
def c_M_planByRule : List (Nat × Instr × Nat) := [(0, .iconst 0, 1), (1, .istore_n 1, 1), (2, .iconst 0, 1), (3, .istore_n 2, 1), (4, .iload_n 2, 1), (5, .aload_n 0, 1), (6, .getfield 94, 3), (9, .if_icmp .ge 89, 3), (12, .iconst (-1), 1), (13, .istore_n 3, 1), (14, .iconst 0, 1), (15, .istore 4, 2), (17, .iload 4, 2), (19, .aload_n 0, 1), (20, .getfield 94, 3), (23, .if_icmp .ge 52, 3), (26, .aload_n 0, 1), (27, .getfield 38, 3), (30, .iload 4, 2), (32, .iaload, 1), (33, .ifCond .ne 36, 3), (36, .iload_n 1, 1), (37, .iload 4, 2), (39, .ishr, 1), (40, .iconst 1, 1), (41, .iand, 1), (42, .ifCond .ne 27, 3), (45, .iload_n 3, 1), (46, .iconst (-1), 1), (47, .if_icmp .eq 19, 3), (50, .aload_n 0, 1), (51, .getfield 47, 3), (54, .iload 4, 2), (56, .iaload, 1), (57, .aload_n 0, 1), (58, .getfield 47, 3), (61, .iload_n 3, 1), (62, .iaload, 1), (63, .if_icmp .ge 6, 3), (66, .iload 4, 2), (68, .istore_n 3, 1), (69, .iinc 4 1, 3), (72, .goto (-55), 3), (75, .iload_n 3, 1), (76, .iconst (-1), 1), (77, .if_icmp .ne 4, 3), (80, .return_, 1), (81, .iload_n 1, 1), (82, .iconst 1, 1), (83, .iload_n 3, 1), (84, .ishl, 1), (85, .ior, 1), (86, .istore_n 1, 1), (87, .aload_n 0, 1), (88, .iload_n 3, 1), (89, .invokevirtual 172, 3), (92, .iinc 2 1, 3), (95, .goto (-91), 3), (98, .return_, 1)]
theorem c_M_planByRule_ok : (c_M_planByRule).all (fun q => decide (decode prog_7_method_33_code q.1 = .ok q.2)) = true := by decide +kernel
theorem d_M_planByRule_0 : decode prog_7_method_33_code 0 = .ok (.iconst 0, 1) := jx_dec c_M_planByRule_ok 0 rfl
theorem d_M_planByRule_1 : decode prog_7_method_33_code 1 = .ok (.istore_n 1, 1) := jx_dec c_M_planByRule_ok 1 rfl
theorem d_M_planByRule_2 : decode prog_7_method_33_code 2 = .ok (.iconst 0, 1) := jx_dec c_M_planByRule_ok 2 rfl
theorem d_M_planByRule_3 : decode prog_7_method_33_code 3 = .ok (.istore_n 2, 1) := jx_dec c_M_planByRule_ok 3 rfl
theorem d_M_planByRule_4 : decode prog_7_method_33_code 4 = .ok (.iload_n 2, 1) := jx_dec c_M_planByRule_ok 4 rfl
theorem d_M_planByRule_5 : decode prog_7_method_33_code 5 = .ok (.aload_n 0, 1) := jx_dec c_M_planByRule_ok 5 rfl
theorem d_M_planByRule_6 : decode prog_7_method_33_code 6 = .ok (.getfield 94, 3) := jx_dec c_M_planByRule_ok 6 rfl
theorem d_M_planByRule_9 : decode prog_7_method_33_code 9 = .ok (.if_icmp .ge 89, 3) := jx_dec c_M_planByRule_ok 7 rfl
theorem d_M_planByRule_12 : decode prog_7_method_33_code 12 = .ok (.iconst (-1), 1) := jx_dec c_M_planByRule_ok 8 rfl
theorem d_M_planByRule_13 : decode prog_7_method_33_code 13 = .ok (.istore_n 3, 1) := jx_dec c_M_planByRule_ok 9 rfl
theorem d_M_planByRule_14 : decode prog_7_method_33_code 14 = .ok (.iconst 0, 1) := jx_dec c_M_planByRule_ok 10 rfl
theorem d_M_planByRule_15 : decode prog_7_method_33_code 15 = .ok (.istore 4, 2) := jx_dec c_M_planByRule_ok 11 rfl
theorem d_M_planByRule_17 : decode prog_7_method_33_code 17 = .ok (.iload 4, 2) := jx_dec c_M_planByRule_ok 12 rfl
theorem d_M_planByRule_19 : decode prog_7_method_33_code 19 = .ok (.aload_n 0, 1) := jx_dec c_M_planByRule_ok 13 rfl
theorem d_M_planByRule_20 : decode prog_7_method_33_code 20 = .ok (.getfield 94, 3) := jx_dec c_M_planByRule_ok 14 rfl
theorem d_M_planByRule_23 : decode prog_7_method_33_code 23 = .ok (.if_icmp .ge 52, 3) := jx_dec c_M_planByRule_ok 15 rfl
theorem d_M_planByRule_26 : decode prog_7_method_33_code 26 = .ok (.aload_n 0, 1) := jx_dec c_M_planByRule_ok 16 rfl
theorem d_M_planByRule_27 : decode prog_7_method_33_code 27 = .ok (.getfield 38, 3) := jx_dec c_M_planByRule_ok 17 rfl
theorem d_M_planByRule_30 : decode prog_7_method_33_code 30 = .ok (.iload 4, 2) := jx_dec c_M_planByRule_ok 18 rfl
theorem d_M_planByRule_32 : decode prog_7_method_33_code 32 = .ok (.iaload, 1) := jx_dec c_M_planByRule_ok 19 rfl
theorem d_M_planByRule_33 : decode prog_7_method_33_code 33 = .ok (.ifCond .ne 36, 3) := jx_dec c_M_planByRule_ok 20 rfl
theorem d_M_planByRule_36 : decode prog_7_method_33_code 36 = .ok (.iload_n 1, 1) := jx_dec c_M_planByRule_ok 21 rfl
theorem d_M_planByRule_37 : decode prog_7_method_33_code 37 = .ok (.iload 4, 2) := jx_dec c_M_planByRule_ok 22 rfl
theorem d_M_planByRule_39 : decode prog_7_method_33_code 39 = .ok (.ishr, 1) := jx_dec c_M_planByRule_ok 23 rfl
theorem d_M_planByRule_40 : decode prog_7_method_33_code 40 = .ok (.iconst 1, 1) := jx_dec c_M_planByRule_ok 24 rfl
theorem d_M_planByRule_41 : decode prog_7_method_33_code 41 = .ok (.iand, 1) := jx_dec c_M_planByRule_ok 25 rfl
theorem d_M_planByRule_42 : decode prog_7_method_33_code 42 = .ok (.ifCond .ne 27, 3) := jx_dec c_M_planByRule_ok 26 rfl
theorem d_M_planByRule_45 : decode prog_7_method_33_code 45 = .ok (.iload_n 3, 1) := jx_dec c_M_planByRule_ok 27 rfl
theorem d_M_planByRule_46 : decode prog_7_method_33_code 46 = .ok (.iconst (-1), 1) := jx_dec c_M_planByRule_ok 28 rfl
theorem d_M_planByRule_47 : decode prog_7_method_33_code 47 = .ok (.if_icmp .eq 19, 3) := jx_dec c_M_planByRule_ok 29 rfl
theorem d_M_planByRule_50 : decode prog_7_method_33_code 50 = .ok (.aload_n 0, 1) := jx_dec c_M_planByRule_ok 30 rfl
theorem d_M_planByRule_51 : decode prog_7_method_33_code 51 = .ok (.getfield 47, 3) := jx_dec c_M_planByRule_ok 31 rfl
theorem d_M_planByRule_54 : decode prog_7_method_33_code 54 = .ok (.iload 4, 2) := jx_dec c_M_planByRule_ok 32 rfl
theorem d_M_planByRule_56 : decode prog_7_method_33_code 56 = .ok (.iaload, 1) := jx_dec c_M_planByRule_ok 33 rfl
theorem d_M_planByRule_57 : decode prog_7_method_33_code 57 = .ok (.aload_n 0, 1) := jx_dec c_M_planByRule_ok 34 rfl
theorem d_M_planByRule_58 : decode prog_7_method_33_code 58 = .ok (.getfield 47, 3) := jx_dec c_M_planByRule_ok 35 rfl
theorem d_M_planByRule_61 : decode prog_7_method_33_code 61 = .ok (.iload_n 3, 1) := jx_dec c_M_planByRule_ok 36 rfl
theorem d_M_planByRule_62 : decode prog_7_method_33_code 62 = .ok (.iaload, 1) := jx_dec c_M_planByRule_ok 37 rfl
theorem d_M_planByRule_63 : decode prog_7_method_33_code 63 = .ok (.if_icmp .ge 6, 3) := jx_dec c_M_planByRule_ok 38 rfl
theorem d_M_planByRule_66 : decode prog_7_method_33_code 66 = .ok (.iload 4, 2) := jx_dec c_M_planByRule_ok 39 rfl
theorem d_M_planByRule_68 : decode prog_7_method_33_code 68 = .ok (.istore_n 3, 1) := jx_dec c_M_planByRule_ok 40 rfl
theorem d_M_planByRule_69 : decode prog_7_method_33_code 69 = .ok (.iinc 4 1, 3) := jx_dec c_M_planByRule_ok 41 rfl
theorem d_M_planByRule_72 : decode prog_7_method_33_code 72 = .ok (.goto (-55), 3) := jx_dec c_M_planByRule_ok 42 rfl
theorem d_M_planByRule_75 : decode prog_7_method_33_code 75 = .ok (.iload_n 3, 1) := jx_dec c_M_planByRule_ok 43 rfl
theorem d_M_planByRule_76 : decode prog_7_method_33_code 76 = .ok (.iconst (-1), 1) := jx_dec c_M_planByRule_ok 44 rfl
theorem d_M_planByRule_77 : decode prog_7_method_33_code 77 = .ok (.if_icmp .ne 4, 3) := jx_dec c_M_planByRule_ok 45 rfl
theorem d_M_planByRule_80 : decode prog_7_method_33_code 80 = .ok (.return_, 1) := jx_dec c_M_planByRule_ok 46 rfl
theorem d_M_planByRule_81 : decode prog_7_method_33_code 81 = .ok (.iload_n 1, 1) := jx_dec c_M_planByRule_ok 47 rfl
theorem d_M_planByRule_82 : decode prog_7_method_33_code 82 = .ok (.iconst 1, 1) := jx_dec c_M_planByRule_ok 48 rfl
theorem d_M_planByRule_83 : decode prog_7_method_33_code 83 = .ok (.iload_n 3, 1) := jx_dec c_M_planByRule_ok 49 rfl
theorem d_M_planByRule_84 : decode prog_7_method_33_code 84 = .ok (.ishl, 1) := jx_dec c_M_planByRule_ok 50 rfl
theorem d_M_planByRule_85 : decode prog_7_method_33_code 85 = .ok (.ior, 1) := jx_dec c_M_planByRule_ok 51 rfl
theorem d_M_planByRule_86 : decode prog_7_method_33_code 86 = .ok (.istore_n 1, 1) := jx_dec c_M_planByRule_ok 52 rfl
theorem d_M_planByRule_87 : decode prog_7_method_33_code 87 = .ok (.aload_n 0, 1) := jx_dec c_M_planByRule_ok 53 rfl
theorem d_M_planByRule_88 : decode prog_7_method_33_code 88 = .ok (.iload_n 3, 1) := jx_dec c_M_planByRule_ok 54 rfl
theorem d_M_planByRule_89 : decode prog_7_method_33_code 89 = .ok (.invokevirtual 172, 3) := jx_dec c_M_planByRule_ok 55 rfl
theorem d_M_planByRule_92 : decode prog_7_method_33_code 92 = .ok (.iinc 2 1, 3) := jx_dec c_M_planByRule_ok 56 rfl
theorem d_M_planByRule_95 : decode prog_7_method_33_code 95 = .ok (.goto (-91), 3) := jx_dec c_M_planByRule_ok 57 rfl
theorem d_M_planByRule_98 : decode prog_7_method_33_code 98 = .ok (.return_, 1) := jx_dec c_M_planByRule_ok 58 rfl
def c_M_planOne : List (Nat × Instr × Nat) := [(0, .iconst (-1), 1), (1, .istore_n 2, 1), (2, .iconst (-1), 1), (3, .istore_n 3, 1), (4, .iconst 0, 1), (5, .istore 4, 2), (7, .iload 4, 2), (9, .aload_n 0, 1), (10, .getfield 87, 3), (13, .if_icmp .ge 75, 3), (16, .aload_n 0, 1), (17, .iload 4, 2), (19, .iload_n 1, 1), (20, .invokevirtual 144, 3), (23, .ifCond .eq 13, 3), (26, .aload_n 0, 1), (27, .iload 4, 2), (29, .iload_n 1, 1), (30, .invokevirtual 166, 3), (33, .goto 4, 3), (36, .iconst (-1), 1), (37, .istore 5, 2), (39, .iload 5, 2), (41, .iconst (-1), 1), (42, .if_icmp .eq 40, 3), (45, .iload_n 2, 1), (46, .iconst (-1), 1), (47, .if_icmp .eq 29, 3), (50, .iload 5, 2), (52, .iload_n 3, 1), (53, .if_icmp .lt 23, 3), (56, .iload 5, 2), (58, .iload_n 3, 1), (59, .if_icmp .ne 23, 3), (62, .aload_n 0, 1), (63, .iload 4, 2), (65, .invokevirtual 169, 3), (68, .aload_n 0, 1), (69, .iload_n 2, 1), (70, .invokevirtual 169, 3), (73, .if_icmp .ge 9, 3), (76, .iload 4, 2), (78, .istore_n 2, 1), (79, .iload 5, 2), (81, .istore_n 3, 1), (82, .iinc 4 1, 3), (85, .goto (-78), 3), (88, .aload_n 0, 1), (89, .getfield 56, 3), (92, .iload_n 1, 1), (93, .iload_n 2, 1), (94, .iastore, 1), (95, .aload_n 0, 1), (96, .getfield 59, 3), (99, .iload_n 1, 1), (100, .iload_n 3, 1), (101, .iastore, 1), (102, .return_, 1)]
theorem c_M_planOne_ok : (c_M_planOne).all (fun q => decide (decode prog_7_method_32_code q.1 = .ok q.2)) = true := by decide +kernel
theorem d_M_planOne_0 : decode prog_7_method_32_code 0 = .ok (.iconst (-1), 1) := jx_dec c_M_planOne_ok 0 rfl
theorem d_M_planOne_1 : decode prog_7_method_32_code 1 = .ok (.istore_n 2, 1) := jx_dec c_M_planOne_ok 1 rfl
theorem d_M_planOne_2 : decode prog_7_method_32_code 2 = .ok (.iconst (-1), 1) := jx_dec c_M_planOne_ok 2 rfl
theorem d_M_planOne_3 : decode prog_7_method_32_code 3 = .ok (.istore_n 3, 1) := jx_dec c_M_planOne_ok 3 rfl
theorem d_M_planOne_4 : decode prog_7_method_32_code 4 = .ok (.iconst 0, 1) := jx_dec c_M_planOne_ok 4 rfl
theorem d_M_planOne_5 : decode prog_7_method_32_code 5 = .ok (.istore 4, 2) := jx_dec c_M_planOne_ok 5 rfl
theorem d_M_planOne_7 : decode prog_7_method_32_code 7 = .ok (.iload 4, 2) := jx_dec c_M_planOne_ok 6 rfl
theorem d_M_planOne_9 : decode prog_7_method_32_code 9 = .ok (.aload_n 0, 1) := jx_dec c_M_planOne_ok 7 rfl
theorem d_M_planOne_10 : decode prog_7_method_32_code 10 = .ok (.getfield 87, 3) := jx_dec c_M_planOne_ok 8 rfl
theorem d_M_planOne_13 : decode prog_7_method_32_code 13 = .ok (.if_icmp .ge 75, 3) := jx_dec c_M_planOne_ok 9 rfl
theorem d_M_planOne_16 : decode prog_7_method_32_code 16 = .ok (.aload_n 0, 1) := jx_dec c_M_planOne_ok 10 rfl
theorem d_M_planOne_17 : decode prog_7_method_32_code 17 = .ok (.iload 4, 2) := jx_dec c_M_planOne_ok 11 rfl
theorem d_M_planOne_19 : decode prog_7_method_32_code 19 = .ok (.iload_n 1, 1) := jx_dec c_M_planOne_ok 12 rfl
theorem d_M_planOne_20 : decode prog_7_method_32_code 20 = .ok (.invokevirtual 144, 3) := jx_dec c_M_planOne_ok 13 rfl
theorem d_M_planOne_23 : decode prog_7_method_32_code 23 = .ok (.ifCond .eq 13, 3) := jx_dec c_M_planOne_ok 14 rfl
theorem d_M_planOne_26 : decode prog_7_method_32_code 26 = .ok (.aload_n 0, 1) := jx_dec c_M_planOne_ok 15 rfl
theorem d_M_planOne_27 : decode prog_7_method_32_code 27 = .ok (.iload 4, 2) := jx_dec c_M_planOne_ok 16 rfl
theorem d_M_planOne_29 : decode prog_7_method_32_code 29 = .ok (.iload_n 1, 1) := jx_dec c_M_planOne_ok 17 rfl
theorem d_M_planOne_30 : decode prog_7_method_32_code 30 = .ok (.invokevirtual 166, 3) := jx_dec c_M_planOne_ok 18 rfl
theorem d_M_planOne_33 : decode prog_7_method_32_code 33 = .ok (.goto 4, 3) := jx_dec c_M_planOne_ok 19 rfl
theorem d_M_planOne_36 : decode prog_7_method_32_code 36 = .ok (.iconst (-1), 1) := jx_dec c_M_planOne_ok 20 rfl
theorem d_M_planOne_37 : decode prog_7_method_32_code 37 = .ok (.istore 5, 2) := jx_dec c_M_planOne_ok 21 rfl
theorem d_M_planOne_39 : decode prog_7_method_32_code 39 = .ok (.iload 5, 2) := jx_dec c_M_planOne_ok 22 rfl
theorem d_M_planOne_41 : decode prog_7_method_32_code 41 = .ok (.iconst (-1), 1) := jx_dec c_M_planOne_ok 23 rfl
theorem d_M_planOne_42 : decode prog_7_method_32_code 42 = .ok (.if_icmp .eq 40, 3) := jx_dec c_M_planOne_ok 24 rfl
theorem d_M_planOne_45 : decode prog_7_method_32_code 45 = .ok (.iload_n 2, 1) := jx_dec c_M_planOne_ok 25 rfl
theorem d_M_planOne_46 : decode prog_7_method_32_code 46 = .ok (.iconst (-1), 1) := jx_dec c_M_planOne_ok 26 rfl
theorem d_M_planOne_47 : decode prog_7_method_32_code 47 = .ok (.if_icmp .eq 29, 3) := jx_dec c_M_planOne_ok 27 rfl
theorem d_M_planOne_50 : decode prog_7_method_32_code 50 = .ok (.iload 5, 2) := jx_dec c_M_planOne_ok 28 rfl
theorem d_M_planOne_52 : decode prog_7_method_32_code 52 = .ok (.iload_n 3, 1) := jx_dec c_M_planOne_ok 29 rfl
theorem d_M_planOne_53 : decode prog_7_method_32_code 53 = .ok (.if_icmp .lt 23, 3) := jx_dec c_M_planOne_ok 30 rfl
theorem d_M_planOne_56 : decode prog_7_method_32_code 56 = .ok (.iload 5, 2) := jx_dec c_M_planOne_ok 31 rfl
theorem d_M_planOne_58 : decode prog_7_method_32_code 58 = .ok (.iload_n 3, 1) := jx_dec c_M_planOne_ok 32 rfl
theorem d_M_planOne_59 : decode prog_7_method_32_code 59 = .ok (.if_icmp .ne 23, 3) := jx_dec c_M_planOne_ok 33 rfl
theorem d_M_planOne_62 : decode prog_7_method_32_code 62 = .ok (.aload_n 0, 1) := jx_dec c_M_planOne_ok 34 rfl
theorem d_M_planOne_63 : decode prog_7_method_32_code 63 = .ok (.iload 4, 2) := jx_dec c_M_planOne_ok 35 rfl
theorem d_M_planOne_65 : decode prog_7_method_32_code 65 = .ok (.invokevirtual 169, 3) := jx_dec c_M_planOne_ok 36 rfl
theorem d_M_planOne_68 : decode prog_7_method_32_code 68 = .ok (.aload_n 0, 1) := jx_dec c_M_planOne_ok 37 rfl
theorem d_M_planOne_69 : decode prog_7_method_32_code 69 = .ok (.iload_n 2, 1) := jx_dec c_M_planOne_ok 38 rfl
theorem d_M_planOne_70 : decode prog_7_method_32_code 70 = .ok (.invokevirtual 169, 3) := jx_dec c_M_planOne_ok 39 rfl
theorem d_M_planOne_73 : decode prog_7_method_32_code 73 = .ok (.if_icmp .ge 9, 3) := jx_dec c_M_planOne_ok 40 rfl
theorem d_M_planOne_76 : decode prog_7_method_32_code 76 = .ok (.iload 4, 2) := jx_dec c_M_planOne_ok 41 rfl
theorem d_M_planOne_78 : decode prog_7_method_32_code 78 = .ok (.istore_n 2, 1) := jx_dec c_M_planOne_ok 42 rfl
theorem d_M_planOne_79 : decode prog_7_method_32_code 79 = .ok (.iload 5, 2) := jx_dec c_M_planOne_ok 43 rfl
theorem d_M_planOne_81 : decode prog_7_method_32_code 81 = .ok (.istore_n 3, 1) := jx_dec c_M_planOne_ok 44 rfl
theorem d_M_planOne_82 : decode prog_7_method_32_code 82 = .ok (.iinc 4 1, 3) := jx_dec c_M_planOne_ok 45 rfl
theorem d_M_planOne_85 : decode prog_7_method_32_code 85 = .ok (.goto (-78), 3) := jx_dec c_M_planOne_ok 46 rfl
theorem d_M_planOne_88 : decode prog_7_method_32_code 88 = .ok (.aload_n 0, 1) := jx_dec c_M_planOne_ok 47 rfl
theorem d_M_planOne_89 : decode prog_7_method_32_code 89 = .ok (.getfield 56, 3) := jx_dec c_M_planOne_ok 48 rfl
theorem d_M_planOne_92 : decode prog_7_method_32_code 92 = .ok (.iload_n 1, 1) := jx_dec c_M_planOne_ok 49 rfl
theorem d_M_planOne_93 : decode prog_7_method_32_code 93 = .ok (.iload_n 2, 1) := jx_dec c_M_planOne_ok 50 rfl
theorem d_M_planOne_94 : decode prog_7_method_32_code 94 = .ok (.iastore, 1) := jx_dec c_M_planOne_ok 51 rfl
theorem d_M_planOne_95 : decode prog_7_method_32_code 95 = .ok (.aload_n 0, 1) := jx_dec c_M_planOne_ok 52 rfl
theorem d_M_planOne_96 : decode prog_7_method_32_code 96 = .ok (.getfield 59, 3) := jx_dec c_M_planOne_ok 53 rfl
theorem d_M_planOne_99 : decode prog_7_method_32_code 99 = .ok (.iload_n 1, 1) := jx_dec c_M_planOne_ok 54 rfl
theorem d_M_planOne_100 : decode prog_7_method_32_code 100 = .ok (.iload_n 3, 1) := jx_dec c_M_planOne_ok 55 rfl
theorem d_M_planOne_101 : decode prog_7_method_32_code 101 = .ok (.iastore, 1) := jx_dec c_M_planOne_ok 56 rfl
theorem d_M_planOne_102 : decode prog_7_method_32_code 102 = .ok (.return_, 1) := jx_dec c_M_planOne_ok 57 rfl
def c_M_may : List (Nat × Instr × Nat) := [(0, .aload_n 0, 1), (1, .getfield 28, 3), (4, .iload_n 1, 1), (5, .baload, 1), (6, .ifCond .eq 35, 3), (9, .aload_n 0, 1), (10, .getfield 7, 3), (13, .iload_n 1, 1), (14, .iaload, 1), (15, .aload_n 0, 1), (16, .getfield 41, 3), (19, .iload_n 2, 1), (20, .iaload, 1), (21, .ishr, 1), (22, .iconst 1, 1), (23, .iand, 1), (24, .iconst 1, 1), (25, .if_icmp .ne 16, 3), (28, .aload_n 0, 1), (29, .iload_n 1, 1), (30, .iload_n 2, 1), (31, .invokevirtual 109, 3), (34, .ifCond .ne 7, 3), (37, .iconst 1, 1), (38, .goto 4, 3), (41, .iconst 0, 1), (42, .ireturn, 1)]
theorem c_M_may_ok : (c_M_may).all (fun q => decide (decode prog_7_method_19_code q.1 = .ok q.2)) = true := by decide +kernel
theorem d_M_may_0 : decode prog_7_method_19_code 0 = .ok (.aload_n 0, 1) := jx_dec c_M_may_ok 0 rfl
theorem d_M_may_1 : decode prog_7_method_19_code 1 = .ok (.getfield 28, 3) := jx_dec c_M_may_ok 1 rfl
theorem d_M_may_4 : decode prog_7_method_19_code 4 = .ok (.iload_n 1, 1) := jx_dec c_M_may_ok 2 rfl
theorem d_M_may_5 : decode prog_7_method_19_code 5 = .ok (.baload, 1) := jx_dec c_M_may_ok 3 rfl
theorem d_M_may_6 : decode prog_7_method_19_code 6 = .ok (.ifCond .eq 35, 3) := jx_dec c_M_may_ok 4 rfl
theorem d_M_may_9 : decode prog_7_method_19_code 9 = .ok (.aload_n 0, 1) := jx_dec c_M_may_ok 5 rfl
theorem d_M_may_10 : decode prog_7_method_19_code 10 = .ok (.getfield 7, 3) := jx_dec c_M_may_ok 6 rfl
theorem d_M_may_13 : decode prog_7_method_19_code 13 = .ok (.iload_n 1, 1) := jx_dec c_M_may_ok 7 rfl
theorem d_M_may_14 : decode prog_7_method_19_code 14 = .ok (.iaload, 1) := jx_dec c_M_may_ok 8 rfl
theorem d_M_may_15 : decode prog_7_method_19_code 15 = .ok (.aload_n 0, 1) := jx_dec c_M_may_ok 9 rfl
theorem d_M_may_16 : decode prog_7_method_19_code 16 = .ok (.getfield 41, 3) := jx_dec c_M_may_ok 10 rfl
theorem d_M_may_19 : decode prog_7_method_19_code 19 = .ok (.iload_n 2, 1) := jx_dec c_M_may_ok 11 rfl
theorem d_M_may_20 : decode prog_7_method_19_code 20 = .ok (.iaload, 1) := jx_dec c_M_may_ok 12 rfl
theorem d_M_may_21 : decode prog_7_method_19_code 21 = .ok (.ishr, 1) := jx_dec c_M_may_ok 13 rfl
theorem d_M_may_22 : decode prog_7_method_19_code 22 = .ok (.iconst 1, 1) := jx_dec c_M_may_ok 14 rfl
theorem d_M_may_23 : decode prog_7_method_19_code 23 = .ok (.iand, 1) := jx_dec c_M_may_ok 15 rfl
theorem d_M_may_24 : decode prog_7_method_19_code 24 = .ok (.iconst 1, 1) := jx_dec c_M_may_ok 16 rfl
theorem d_M_may_25 : decode prog_7_method_19_code 25 = .ok (.if_icmp .ne 16, 3) := jx_dec c_M_may_ok 17 rfl
theorem d_M_may_28 : decode prog_7_method_19_code 28 = .ok (.aload_n 0, 1) := jx_dec c_M_may_ok 18 rfl
theorem d_M_may_29 : decode prog_7_method_19_code 29 = .ok (.iload_n 1, 1) := jx_dec c_M_may_ok 19 rfl
theorem d_M_may_30 : decode prog_7_method_19_code 30 = .ok (.iload_n 2, 1) := jx_dec c_M_may_ok 20 rfl
theorem d_M_may_31 : decode prog_7_method_19_code 31 = .ok (.invokevirtual 109, 3) := jx_dec c_M_may_ok 21 rfl
theorem d_M_may_34 : decode prog_7_method_19_code 34 = .ok (.ifCond .ne 7, 3) := jx_dec c_M_may_ok 22 rfl
theorem d_M_may_37 : decode prog_7_method_19_code 37 = .ok (.iconst 1, 1) := jx_dec c_M_may_ok 23 rfl
theorem d_M_may_38 : decode prog_7_method_19_code 38 = .ok (.goto 4, 3) := jx_dec c_M_may_ok 24 rfl
theorem d_M_may_41 : decode prog_7_method_19_code 41 = .ok (.iconst 0, 1) := jx_dec c_M_may_ok 25 rfl
theorem d_M_may_42 : decode prog_7_method_19_code 42 = .ok (.ireturn, 1) := jx_dec c_M_may_ok 26 rfl
def c_M_behind : List (Nat × Instr × Nat) := [(0, .iconst (-1), 1), (1, .istore_n 3, 1), (2, .iconst 0, 1), (3, .istore 4, 2), (5, .iload 4, 2), (7, .aload_n 0, 1), (8, .getfield 94, 3), (11, .if_icmp .ge 54, 3), (14, .aload_n 0, 1), (15, .getfield 38, 3), (18, .iload 4, 2), (20, .iaload, 1), (21, .ifCond .ne 38, 3), (24, .aload_n 0, 1), (25, .getfield 56, 3), (28, .iload 4, 2), (30, .iaload, 1), (31, .iload_n 1, 1), (32, .if_icmp .ne 27, 3), (35, .iload_n 3, 1), (36, .iconst (-1), 1), (37, .if_icmp .eq 19, 3), (40, .aload_n 0, 1), (41, .getfield 59, 3), (44, .iload 4, 2), (46, .iaload, 1), (47, .aload_n 0, 1), (48, .getfield 59, 3), (51, .iload_n 3, 1), (52, .iaload, 1), (53, .if_icmp .le 6, 3), (56, .iload 4, 2), (58, .istore_n 3, 1), (59, .iinc 4 1, 3), (62, .goto (-57), 3), (65, .iload_n 3, 1), (66, .iconst (-1), 1), (67, .if_icmp .ne 12, 3), (70, .aload_n 0, 1), (71, .iload_n 1, 1), (72, .iload_n 2, 1), (73, .invokevirtual 131, 3), (76, .goto 28, 3), (79, .aload_n 0, 1), (80, .iload_n 1, 1), (81, .iload_n 2, 1), (82, .aload_n 0, 1), (83, .getfield 59, 3), (86, .iload_n 3, 1), (87, .iaload, 1), (88, .aload_n 0, 1), (89, .getfield 44, 3), (92, .iload_n 3, 1), (93, .iaload, 1), (94, .iadd, 1), (95, .aload_n 0, 1), (96, .getfield 50, 3), (99, .iload_n 3, 1), (100, .iaload, 1), (101, .invokevirtual 127, 3), (104, .ireturn, 1)]
theorem c_M_behind_ok : (c_M_behind).all (fun q => decide (decode prog_7_method_31_code q.1 = .ok q.2)) = true := by decide +kernel
theorem d_M_behind_0 : decode prog_7_method_31_code 0 = .ok (.iconst (-1), 1) := jx_dec c_M_behind_ok 0 rfl
theorem d_M_behind_1 : decode prog_7_method_31_code 1 = .ok (.istore_n 3, 1) := jx_dec c_M_behind_ok 1 rfl
theorem d_M_behind_2 : decode prog_7_method_31_code 2 = .ok (.iconst 0, 1) := jx_dec c_M_behind_ok 2 rfl
theorem d_M_behind_3 : decode prog_7_method_31_code 3 = .ok (.istore 4, 2) := jx_dec c_M_behind_ok 3 rfl
theorem d_M_behind_5 : decode prog_7_method_31_code 5 = .ok (.iload 4, 2) := jx_dec c_M_behind_ok 4 rfl
theorem d_M_behind_7 : decode prog_7_method_31_code 7 = .ok (.aload_n 0, 1) := jx_dec c_M_behind_ok 5 rfl
theorem d_M_behind_8 : decode prog_7_method_31_code 8 = .ok (.getfield 94, 3) := jx_dec c_M_behind_ok 6 rfl
theorem d_M_behind_11 : decode prog_7_method_31_code 11 = .ok (.if_icmp .ge 54, 3) := jx_dec c_M_behind_ok 7 rfl
theorem d_M_behind_14 : decode prog_7_method_31_code 14 = .ok (.aload_n 0, 1) := jx_dec c_M_behind_ok 8 rfl
theorem d_M_behind_15 : decode prog_7_method_31_code 15 = .ok (.getfield 38, 3) := jx_dec c_M_behind_ok 9 rfl
theorem d_M_behind_18 : decode prog_7_method_31_code 18 = .ok (.iload 4, 2) := jx_dec c_M_behind_ok 10 rfl
theorem d_M_behind_20 : decode prog_7_method_31_code 20 = .ok (.iaload, 1) := jx_dec c_M_behind_ok 11 rfl
theorem d_M_behind_21 : decode prog_7_method_31_code 21 = .ok (.ifCond .ne 38, 3) := jx_dec c_M_behind_ok 12 rfl
theorem d_M_behind_24 : decode prog_7_method_31_code 24 = .ok (.aload_n 0, 1) := jx_dec c_M_behind_ok 13 rfl
theorem d_M_behind_25 : decode prog_7_method_31_code 25 = .ok (.getfield 56, 3) := jx_dec c_M_behind_ok 14 rfl
theorem d_M_behind_28 : decode prog_7_method_31_code 28 = .ok (.iload 4, 2) := jx_dec c_M_behind_ok 15 rfl
theorem d_M_behind_30 : decode prog_7_method_31_code 30 = .ok (.iaload, 1) := jx_dec c_M_behind_ok 16 rfl
theorem d_M_behind_31 : decode prog_7_method_31_code 31 = .ok (.iload_n 1, 1) := jx_dec c_M_behind_ok 17 rfl
theorem d_M_behind_32 : decode prog_7_method_31_code 32 = .ok (.if_icmp .ne 27, 3) := jx_dec c_M_behind_ok 18 rfl
theorem d_M_behind_35 : decode prog_7_method_31_code 35 = .ok (.iload_n 3, 1) := jx_dec c_M_behind_ok 19 rfl
theorem d_M_behind_36 : decode prog_7_method_31_code 36 = .ok (.iconst (-1), 1) := jx_dec c_M_behind_ok 20 rfl
theorem d_M_behind_37 : decode prog_7_method_31_code 37 = .ok (.if_icmp .eq 19, 3) := jx_dec c_M_behind_ok 21 rfl
theorem d_M_behind_40 : decode prog_7_method_31_code 40 = .ok (.aload_n 0, 1) := jx_dec c_M_behind_ok 22 rfl
theorem d_M_behind_41 : decode prog_7_method_31_code 41 = .ok (.getfield 59, 3) := jx_dec c_M_behind_ok 23 rfl
theorem d_M_behind_44 : decode prog_7_method_31_code 44 = .ok (.iload 4, 2) := jx_dec c_M_behind_ok 24 rfl
theorem d_M_behind_46 : decode prog_7_method_31_code 46 = .ok (.iaload, 1) := jx_dec c_M_behind_ok 25 rfl
theorem d_M_behind_47 : decode prog_7_method_31_code 47 = .ok (.aload_n 0, 1) := jx_dec c_M_behind_ok 26 rfl
theorem d_M_behind_48 : decode prog_7_method_31_code 48 = .ok (.getfield 59, 3) := jx_dec c_M_behind_ok 27 rfl
theorem d_M_behind_51 : decode prog_7_method_31_code 51 = .ok (.iload_n 3, 1) := jx_dec c_M_behind_ok 28 rfl
theorem d_M_behind_52 : decode prog_7_method_31_code 52 = .ok (.iaload, 1) := jx_dec c_M_behind_ok 29 rfl
theorem d_M_behind_53 : decode prog_7_method_31_code 53 = .ok (.if_icmp .le 6, 3) := jx_dec c_M_behind_ok 30 rfl
theorem d_M_behind_56 : decode prog_7_method_31_code 56 = .ok (.iload 4, 2) := jx_dec c_M_behind_ok 31 rfl
theorem d_M_behind_58 : decode prog_7_method_31_code 58 = .ok (.istore_n 3, 1) := jx_dec c_M_behind_ok 32 rfl
theorem d_M_behind_59 : decode prog_7_method_31_code 59 = .ok (.iinc 4 1, 3) := jx_dec c_M_behind_ok 33 rfl
theorem d_M_behind_62 : decode prog_7_method_31_code 62 = .ok (.goto (-57), 3) := jx_dec c_M_behind_ok 34 rfl
theorem d_M_behind_65 : decode prog_7_method_31_code 65 = .ok (.iload_n 3, 1) := jx_dec c_M_behind_ok 35 rfl
theorem d_M_behind_66 : decode prog_7_method_31_code 66 = .ok (.iconst (-1), 1) := jx_dec c_M_behind_ok 36 rfl
theorem d_M_behind_67 : decode prog_7_method_31_code 67 = .ok (.if_icmp .ne 12, 3) := jx_dec c_M_behind_ok 37 rfl
theorem d_M_behind_70 : decode prog_7_method_31_code 70 = .ok (.aload_n 0, 1) := jx_dec c_M_behind_ok 38 rfl
theorem d_M_behind_71 : decode prog_7_method_31_code 71 = .ok (.iload_n 1, 1) := jx_dec c_M_behind_ok 39 rfl
theorem d_M_behind_72 : decode prog_7_method_31_code 72 = .ok (.iload_n 2, 1) := jx_dec c_M_behind_ok 40 rfl
theorem d_M_behind_73 : decode prog_7_method_31_code 73 = .ok (.invokevirtual 131, 3) := jx_dec c_M_behind_ok 41 rfl
theorem d_M_behind_76 : decode prog_7_method_31_code 76 = .ok (.goto 28, 3) := jx_dec c_M_behind_ok 42 rfl
theorem d_M_behind_79 : decode prog_7_method_31_code 79 = .ok (.aload_n 0, 1) := jx_dec c_M_behind_ok 43 rfl
theorem d_M_behind_80 : decode prog_7_method_31_code 80 = .ok (.iload_n 1, 1) := jx_dec c_M_behind_ok 44 rfl
theorem d_M_behind_81 : decode prog_7_method_31_code 81 = .ok (.iload_n 2, 1) := jx_dec c_M_behind_ok 45 rfl
theorem d_M_behind_82 : decode prog_7_method_31_code 82 = .ok (.aload_n 0, 1) := jx_dec c_M_behind_ok 46 rfl
theorem d_M_behind_83 : decode prog_7_method_31_code 83 = .ok (.getfield 59, 3) := jx_dec c_M_behind_ok 47 rfl
theorem d_M_behind_86 : decode prog_7_method_31_code 86 = .ok (.iload_n 3, 1) := jx_dec c_M_behind_ok 48 rfl
theorem d_M_behind_87 : decode prog_7_method_31_code 87 = .ok (.iaload, 1) := jx_dec c_M_behind_ok 49 rfl
theorem d_M_behind_88 : decode prog_7_method_31_code 88 = .ok (.aload_n 0, 1) := jx_dec c_M_behind_ok 50 rfl
theorem d_M_behind_89 : decode prog_7_method_31_code 89 = .ok (.getfield 44, 3) := jx_dec c_M_behind_ok 51 rfl
theorem d_M_behind_92 : decode prog_7_method_31_code 92 = .ok (.iload_n 3, 1) := jx_dec c_M_behind_ok 52 rfl
theorem d_M_behind_93 : decode prog_7_method_31_code 93 = .ok (.iaload, 1) := jx_dec c_M_behind_ok 53 rfl
theorem d_M_behind_94 : decode prog_7_method_31_code 94 = .ok (.iadd, 1) := jx_dec c_M_behind_ok 54 rfl
theorem d_M_behind_95 : decode prog_7_method_31_code 95 = .ok (.aload_n 0, 1) := jx_dec c_M_behind_ok 55 rfl
theorem d_M_behind_96 : decode prog_7_method_31_code 96 = .ok (.getfield 50, 3) := jx_dec c_M_behind_ok 56 rfl
theorem d_M_behind_99 : decode prog_7_method_31_code 99 = .ok (.iload_n 3, 1) := jx_dec c_M_behind_ok 57 rfl
theorem d_M_behind_100 : decode prog_7_method_31_code 100 = .ok (.iaload, 1) := jx_dec c_M_behind_ok 58 rfl
theorem d_M_behind_101 : decode prog_7_method_31_code 101 = .ok (.invokevirtual 127, 3) := jx_dec c_M_behind_ok 59 rfl
theorem d_M_behind_104 : decode prog_7_method_31_code 104 = .ok (.ireturn, 1) := jx_dec c_M_behind_ok 60 rfl
def c_M_load : List (Nat × Instr × Nat) := [(0, .iconst 0, 1), (1, .istore_n 2, 1), (2, .iconst 0, 1), (3, .istore_n 3, 1), (4, .iload_n 3, 1), (5, .aload_n 0, 1), (6, .getfield 94, 3), (9, .if_icmp .ge 22, 3), (12, .aload_n 0, 1), (13, .getfield 56, 3), (16, .iload_n 3, 1), (17, .iaload, 1), (18, .iload_n 1, 1), (19, .if_icmp .ne 6, 3), (22, .iinc 2 1, 3), (25, .iinc 3 1, 3), (28, .goto (-24), 3), (31, .iload_n 2, 1), (32, .ireturn, 1)]
theorem c_M_load_ok : (c_M_load).all (fun q => decide (decode prog_7_method_30_code q.1 = .ok q.2)) = true := by decide +kernel
theorem d_M_load_0 : decode prog_7_method_30_code 0 = .ok (.iconst 0, 1) := jx_dec c_M_load_ok 0 rfl
theorem d_M_load_1 : decode prog_7_method_30_code 1 = .ok (.istore_n 2, 1) := jx_dec c_M_load_ok 1 rfl
theorem d_M_load_2 : decode prog_7_method_30_code 2 = .ok (.iconst 0, 1) := jx_dec c_M_load_ok 2 rfl
theorem d_M_load_3 : decode prog_7_method_30_code 3 = .ok (.istore_n 3, 1) := jx_dec c_M_load_ok 3 rfl
theorem d_M_load_4 : decode prog_7_method_30_code 4 = .ok (.iload_n 3, 1) := jx_dec c_M_load_ok 4 rfl
theorem d_M_load_5 : decode prog_7_method_30_code 5 = .ok (.aload_n 0, 1) := jx_dec c_M_load_ok 5 rfl
theorem d_M_load_6 : decode prog_7_method_30_code 6 = .ok (.getfield 94, 3) := jx_dec c_M_load_ok 6 rfl
theorem d_M_load_9 : decode prog_7_method_30_code 9 = .ok (.if_icmp .ge 22, 3) := jx_dec c_M_load_ok 7 rfl
theorem d_M_load_12 : decode prog_7_method_30_code 12 = .ok (.aload_n 0, 1) := jx_dec c_M_load_ok 8 rfl
theorem d_M_load_13 : decode prog_7_method_30_code 13 = .ok (.getfield 56, 3) := jx_dec c_M_load_ok 9 rfl
theorem d_M_load_16 : decode prog_7_method_30_code 16 = .ok (.iload_n 3, 1) := jx_dec c_M_load_ok 10 rfl
theorem d_M_load_17 : decode prog_7_method_30_code 17 = .ok (.iaload, 1) := jx_dec c_M_load_ok 11 rfl
theorem d_M_load_18 : decode prog_7_method_30_code 18 = .ok (.iload_n 1, 1) := jx_dec c_M_load_ok 12 rfl
theorem d_M_load_19 : decode prog_7_method_30_code 19 = .ok (.if_icmp .ne 6, 3) := jx_dec c_M_load_ok 13 rfl
theorem d_M_load_22 : decode prog_7_method_30_code 22 = .ok (.iinc 2 1, 3) := jx_dec c_M_load_ok 14 rfl
theorem d_M_load_25 : decode prog_7_method_30_code 25 = .ok (.iinc 3 1, 3) := jx_dec c_M_load_ok 15 rfl
theorem d_M_load_28 : decode prog_7_method_30_code 28 = .ok (.goto (-24), 3) := jx_dec c_M_load_ok 16 rfl
theorem d_M_load_31 : decode prog_7_method_30_code 31 = .ok (.iload_n 2, 1) := jx_dec c_M_load_ok 17 rfl
theorem d_M_load_32 : decode prog_7_method_30_code 32 = .ok (.ireturn, 1) := jx_dec c_M_load_ok 18 rfl
def c_M_planExactly : List (Nat × Instr × Nat) := [(0, .iconst 0, 1), (1, .istore_n 1, 1), (2, .iload_n 1, 1), (3, .aload_n 0, 1), (4, .getfield 87, 3), (7, .if_icmp .ge 33, 3), (10, .iconst 0, 1), (11, .istore_n 2, 1), (12, .iload_n 2, 1), (13, .iconst 1, 1), (14, .aload_n 0, 1), (15, .getfield 141, 3), (18, .ishl, 1), (19, .if_icmp .ge 15, 3), (22, .aload_n 0, 1), (23, .iload_n 1, 1), (24, .iload_n 2, 1), (25, .invokevirtual 159, 3), (28, .iinc 2 1, 3), (31, .goto (-19), 3), (34, .iinc 1 1, 3), (37, .goto (-35), 3), (40, .iconst 1, 1), (41, .istore_n 1, 1), (42, .iconst 0, 1), (43, .istore_n 2, 1), (44, .iload_n 2, 1), (45, .aload_n 0, 1), (46, .getfield 141, 3), (49, .if_icmp .ge 18, 3), (52, .iload_n 1, 1), (53, .aload_n 0, 1), (54, .getfield 87, 3), (57, .iconst 1, 1), (58, .iadd, 1), (59, .imul, 1), (60, .istore_n 1, 1), (61, .iinc 2 1, 3), (64, .goto (-20), 3), (67, .iconst (-1), 1), (68, .istore_n 2, 1), (69, .iconst 0, 1), (70, .istore_n 3, 1), (71, .iload_n 3, 1), (72, .iload_n 1, 1), (73, .if_icmp .ge 116, 3), (76, .iload_n 3, 1), (77, .istore 4, 2), (79, .aload_n 0, 1), (80, .getfield 141, 3), (83, .iconst 1, 1), (84, .isub, 1), (85, .istore 5, 2), (87, .iload 5, 2), (89, .ifCond .lt 36, 3), (92, .aload_n 0, 1), (93, .getfield 77, 3), (96, .iload 5, 2), (98, .iload 4, 2), (100, .aload_n 0, 1), (101, .getfield 87, 3), (104, .iconst 1, 1), (105, .iadd, 1), (106, .irem, 1), (107, .iastore, 1), (108, .iload 4, 2), (110, .aload_n 0, 1), (111, .getfield 87, 3), (114, .iconst 1, 1), (115, .iadd, 1), (116, .idiv, 1), (117, .istore 4, 2), (119, .iinc 5 (-1), 3), (122, .goto (-35), 3), (125, .aload_n 0, 1), (126, .invokevirtual 162, 3), (129, .istore 5, 2), (131, .iload 5, 2), (133, .iconst (-1), 1), (134, .if_icmp .eq 49, 3), (137, .iload_n 2, 1), (138, .iconst (-1), 1), (139, .if_icmp .eq 9, 3), (142, .iload 5, 2), (144, .iload_n 2, 1), (145, .if_icmp .ge 38, 3), (148, .iload 5, 2), (150, .istore_n 2, 1), (151, .iconst 0, 1), (152, .istore 6, 2), (154, .iload 6, 2), (156, .aload_n 0, 1), (157, .getfield 141, 3), (160, .if_icmp .ge 23, 3), (163, .aload_n 0, 1), (164, .getfield 80, 3), (167, .iload 6, 2), (169, .aload_n 0, 1), (170, .getfield 77, 3), (173, .iload 6, 2), (175, .iaload, 1), (176, .iastore, 1), (177, .iinc 6 1, 3), (180, .goto (-26), 3), (183, .iinc 3 1, 3), (186, .goto (-115), 3), (189, .iconst 0, 1), (190, .istore_n 3, 1), (191, .iload_n 3, 1), (192, .aload_n 0, 1), (193, .getfield 141, 3), (196, .if_icmp .ge 21, 3), (199, .aload_n 0, 1), (200, .getfield 77, 3), (203, .iload_n 3, 1), (204, .aload_n 0, 1), (205, .getfield 80, 3), (208, .iload_n 3, 1), (209, .iaload, 1), (210, .iastore, 1), (211, .iinc 3 1, 3), (214, .goto (-23), 3), (217, .iconst 0, 1), (218, .istore_n 3, 1), (219, .iload_n 3, 1), (220, .aload_n 0, 1), (221, .getfield 141, 3), (224, .if_icmp .ge 79, 3), (227, .aload_n 0, 1), (228, .getfield 80, 3), (231, .iload_n 3, 1), (232, .iaload, 1), (233, .aload_n 0, 1), (234, .getfield 87, 3), (237, .if_icmp .ge 60, 3), (240, .aload_n 0, 1), (241, .getfield 56, 3), (244, .aload_n 0, 1), (245, .getfield 62, 3), (248, .iload_n 3, 1), (249, .iaload, 1), (250, .aload_n 0, 1), (251, .getfield 80, 3), (254, .iload_n 3, 1), (255, .iaload, 1), (256, .iastore, 1), (257, .aload_n 0, 1), (258, .getfield 59, 3), (261, .aload_n 0, 1), (262, .getfield 62, 3), (265, .iload_n 3, 1), (266, .iaload, 1), (267, .aload_n 0, 1), (268, .getfield 68, 3), (271, .iconst 5, 1), (272, .bipush 32, 2), (274, .aload_n 0, 1), (275, .getfield 80, 3), (278, .iload_n 3, 1), (279, .iaload, 1), (280, .imul, 1), (281, .aload_n 0, 1), (282, .aload_n 0, 1), (283, .getfield 80, 3), (286, .iload_n 3, 1), (287, .iaload, 1), (288, .invokevirtual 156, 3), (291, .iadd, 1), (292, .imul, 1), (293, .iload_n 3, 1), (294, .iadd, 1), (295, .iaload, 1), (296, .iastore, 1), (297, .iinc 3 1, 3), (300, .goto (-81), 3), (303, .return_, 1)]
theorem c_M_planExactly_ok : (c_M_planExactly).all (fun q => decide (decode prog_7_method_29_code q.1 = .ok q.2)) = true := by decide +kernel
theorem d_M_planExactly_0 : decode prog_7_method_29_code 0 = .ok (.iconst 0, 1) := jx_dec c_M_planExactly_ok 0 rfl
theorem d_M_planExactly_1 : decode prog_7_method_29_code 1 = .ok (.istore_n 1, 1) := jx_dec c_M_planExactly_ok 1 rfl
theorem d_M_planExactly_2 : decode prog_7_method_29_code 2 = .ok (.iload_n 1, 1) := jx_dec c_M_planExactly_ok 2 rfl
theorem d_M_planExactly_3 : decode prog_7_method_29_code 3 = .ok (.aload_n 0, 1) := jx_dec c_M_planExactly_ok 3 rfl
theorem d_M_planExactly_4 : decode prog_7_method_29_code 4 = .ok (.getfield 87, 3) := jx_dec c_M_planExactly_ok 4 rfl
theorem d_M_planExactly_7 : decode prog_7_method_29_code 7 = .ok (.if_icmp .ge 33, 3) := jx_dec c_M_planExactly_ok 5 rfl
theorem d_M_planExactly_10 : decode prog_7_method_29_code 10 = .ok (.iconst 0, 1) := jx_dec c_M_planExactly_ok 6 rfl
theorem d_M_planExactly_11 : decode prog_7_method_29_code 11 = .ok (.istore_n 2, 1) := jx_dec c_M_planExactly_ok 7 rfl
theorem d_M_planExactly_12 : decode prog_7_method_29_code 12 = .ok (.iload_n 2, 1) := jx_dec c_M_planExactly_ok 8 rfl
theorem d_M_planExactly_13 : decode prog_7_method_29_code 13 = .ok (.iconst 1, 1) := jx_dec c_M_planExactly_ok 9 rfl
theorem d_M_planExactly_14 : decode prog_7_method_29_code 14 = .ok (.aload_n 0, 1) := jx_dec c_M_planExactly_ok 10 rfl
theorem d_M_planExactly_15 : decode prog_7_method_29_code 15 = .ok (.getfield 141, 3) := jx_dec c_M_planExactly_ok 11 rfl
theorem d_M_planExactly_18 : decode prog_7_method_29_code 18 = .ok (.ishl, 1) := jx_dec c_M_planExactly_ok 12 rfl
theorem d_M_planExactly_19 : decode prog_7_method_29_code 19 = .ok (.if_icmp .ge 15, 3) := jx_dec c_M_planExactly_ok 13 rfl
theorem d_M_planExactly_22 : decode prog_7_method_29_code 22 = .ok (.aload_n 0, 1) := jx_dec c_M_planExactly_ok 14 rfl
theorem d_M_planExactly_23 : decode prog_7_method_29_code 23 = .ok (.iload_n 1, 1) := jx_dec c_M_planExactly_ok 15 rfl
theorem d_M_planExactly_24 : decode prog_7_method_29_code 24 = .ok (.iload_n 2, 1) := jx_dec c_M_planExactly_ok 16 rfl
theorem d_M_planExactly_25 : decode prog_7_method_29_code 25 = .ok (.invokevirtual 159, 3) := jx_dec c_M_planExactly_ok 17 rfl
theorem d_M_planExactly_28 : decode prog_7_method_29_code 28 = .ok (.iinc 2 1, 3) := jx_dec c_M_planExactly_ok 18 rfl
theorem d_M_planExactly_31 : decode prog_7_method_29_code 31 = .ok (.goto (-19), 3) := jx_dec c_M_planExactly_ok 19 rfl
theorem d_M_planExactly_34 : decode prog_7_method_29_code 34 = .ok (.iinc 1 1, 3) := jx_dec c_M_planExactly_ok 20 rfl
theorem d_M_planExactly_37 : decode prog_7_method_29_code 37 = .ok (.goto (-35), 3) := jx_dec c_M_planExactly_ok 21 rfl
theorem d_M_planExactly_40 : decode prog_7_method_29_code 40 = .ok (.iconst 1, 1) := jx_dec c_M_planExactly_ok 22 rfl
theorem d_M_planExactly_41 : decode prog_7_method_29_code 41 = .ok (.istore_n 1, 1) := jx_dec c_M_planExactly_ok 23 rfl
theorem d_M_planExactly_42 : decode prog_7_method_29_code 42 = .ok (.iconst 0, 1) := jx_dec c_M_planExactly_ok 24 rfl
theorem d_M_planExactly_43 : decode prog_7_method_29_code 43 = .ok (.istore_n 2, 1) := jx_dec c_M_planExactly_ok 25 rfl
theorem d_M_planExactly_44 : decode prog_7_method_29_code 44 = .ok (.iload_n 2, 1) := jx_dec c_M_planExactly_ok 26 rfl
theorem d_M_planExactly_45 : decode prog_7_method_29_code 45 = .ok (.aload_n 0, 1) := jx_dec c_M_planExactly_ok 27 rfl
theorem d_M_planExactly_46 : decode prog_7_method_29_code 46 = .ok (.getfield 141, 3) := jx_dec c_M_planExactly_ok 28 rfl
theorem d_M_planExactly_49 : decode prog_7_method_29_code 49 = .ok (.if_icmp .ge 18, 3) := jx_dec c_M_planExactly_ok 29 rfl
theorem d_M_planExactly_52 : decode prog_7_method_29_code 52 = .ok (.iload_n 1, 1) := jx_dec c_M_planExactly_ok 30 rfl
theorem d_M_planExactly_53 : decode prog_7_method_29_code 53 = .ok (.aload_n 0, 1) := jx_dec c_M_planExactly_ok 31 rfl
theorem d_M_planExactly_54 : decode prog_7_method_29_code 54 = .ok (.getfield 87, 3) := jx_dec c_M_planExactly_ok 32 rfl
theorem d_M_planExactly_57 : decode prog_7_method_29_code 57 = .ok (.iconst 1, 1) := jx_dec c_M_planExactly_ok 33 rfl
theorem d_M_planExactly_58 : decode prog_7_method_29_code 58 = .ok (.iadd, 1) := jx_dec c_M_planExactly_ok 34 rfl
theorem d_M_planExactly_59 : decode prog_7_method_29_code 59 = .ok (.imul, 1) := jx_dec c_M_planExactly_ok 35 rfl
theorem d_M_planExactly_60 : decode prog_7_method_29_code 60 = .ok (.istore_n 1, 1) := jx_dec c_M_planExactly_ok 36 rfl
theorem d_M_planExactly_61 : decode prog_7_method_29_code 61 = .ok (.iinc 2 1, 3) := jx_dec c_M_planExactly_ok 37 rfl
theorem d_M_planExactly_64 : decode prog_7_method_29_code 64 = .ok (.goto (-20), 3) := jx_dec c_M_planExactly_ok 38 rfl
theorem d_M_planExactly_67 : decode prog_7_method_29_code 67 = .ok (.iconst (-1), 1) := jx_dec c_M_planExactly_ok 39 rfl
theorem d_M_planExactly_68 : decode prog_7_method_29_code 68 = .ok (.istore_n 2, 1) := jx_dec c_M_planExactly_ok 40 rfl
theorem d_M_planExactly_69 : decode prog_7_method_29_code 69 = .ok (.iconst 0, 1) := jx_dec c_M_planExactly_ok 41 rfl
theorem d_M_planExactly_70 : decode prog_7_method_29_code 70 = .ok (.istore_n 3, 1) := jx_dec c_M_planExactly_ok 42 rfl
theorem d_M_planExactly_71 : decode prog_7_method_29_code 71 = .ok (.iload_n 3, 1) := jx_dec c_M_planExactly_ok 43 rfl
theorem d_M_planExactly_72 : decode prog_7_method_29_code 72 = .ok (.iload_n 1, 1) := jx_dec c_M_planExactly_ok 44 rfl
theorem d_M_planExactly_73 : decode prog_7_method_29_code 73 = .ok (.if_icmp .ge 116, 3) := jx_dec c_M_planExactly_ok 45 rfl
theorem d_M_planExactly_76 : decode prog_7_method_29_code 76 = .ok (.iload_n 3, 1) := jx_dec c_M_planExactly_ok 46 rfl
theorem d_M_planExactly_77 : decode prog_7_method_29_code 77 = .ok (.istore 4, 2) := jx_dec c_M_planExactly_ok 47 rfl
theorem d_M_planExactly_79 : decode prog_7_method_29_code 79 = .ok (.aload_n 0, 1) := jx_dec c_M_planExactly_ok 48 rfl
theorem d_M_planExactly_80 : decode prog_7_method_29_code 80 = .ok (.getfield 141, 3) := jx_dec c_M_planExactly_ok 49 rfl
theorem d_M_planExactly_83 : decode prog_7_method_29_code 83 = .ok (.iconst 1, 1) := jx_dec c_M_planExactly_ok 50 rfl
theorem d_M_planExactly_84 : decode prog_7_method_29_code 84 = .ok (.isub, 1) := jx_dec c_M_planExactly_ok 51 rfl
theorem d_M_planExactly_85 : decode prog_7_method_29_code 85 = .ok (.istore 5, 2) := jx_dec c_M_planExactly_ok 52 rfl
theorem d_M_planExactly_87 : decode prog_7_method_29_code 87 = .ok (.iload 5, 2) := jx_dec c_M_planExactly_ok 53 rfl
theorem d_M_planExactly_89 : decode prog_7_method_29_code 89 = .ok (.ifCond .lt 36, 3) := jx_dec c_M_planExactly_ok 54 rfl
theorem d_M_planExactly_92 : decode prog_7_method_29_code 92 = .ok (.aload_n 0, 1) := jx_dec c_M_planExactly_ok 55 rfl
theorem d_M_planExactly_93 : decode prog_7_method_29_code 93 = .ok (.getfield 77, 3) := jx_dec c_M_planExactly_ok 56 rfl
theorem d_M_planExactly_96 : decode prog_7_method_29_code 96 = .ok (.iload 5, 2) := jx_dec c_M_planExactly_ok 57 rfl
theorem d_M_planExactly_98 : decode prog_7_method_29_code 98 = .ok (.iload 4, 2) := jx_dec c_M_planExactly_ok 58 rfl
theorem d_M_planExactly_100 : decode prog_7_method_29_code 100 = .ok (.aload_n 0, 1) := jx_dec c_M_planExactly_ok 59 rfl
theorem d_M_planExactly_101 : decode prog_7_method_29_code 101 = .ok (.getfield 87, 3) := jx_dec c_M_planExactly_ok 60 rfl
theorem d_M_planExactly_104 : decode prog_7_method_29_code 104 = .ok (.iconst 1, 1) := jx_dec c_M_planExactly_ok 61 rfl
theorem d_M_planExactly_105 : decode prog_7_method_29_code 105 = .ok (.iadd, 1) := jx_dec c_M_planExactly_ok 62 rfl
theorem d_M_planExactly_106 : decode prog_7_method_29_code 106 = .ok (.irem, 1) := jx_dec c_M_planExactly_ok 63 rfl
theorem d_M_planExactly_107 : decode prog_7_method_29_code 107 = .ok (.iastore, 1) := jx_dec c_M_planExactly_ok 64 rfl
theorem d_M_planExactly_108 : decode prog_7_method_29_code 108 = .ok (.iload 4, 2) := jx_dec c_M_planExactly_ok 65 rfl
theorem d_M_planExactly_110 : decode prog_7_method_29_code 110 = .ok (.aload_n 0, 1) := jx_dec c_M_planExactly_ok 66 rfl
theorem d_M_planExactly_111 : decode prog_7_method_29_code 111 = .ok (.getfield 87, 3) := jx_dec c_M_planExactly_ok 67 rfl
theorem d_M_planExactly_114 : decode prog_7_method_29_code 114 = .ok (.iconst 1, 1) := jx_dec c_M_planExactly_ok 68 rfl
theorem d_M_planExactly_115 : decode prog_7_method_29_code 115 = .ok (.iadd, 1) := jx_dec c_M_planExactly_ok 69 rfl
theorem d_M_planExactly_116 : decode prog_7_method_29_code 116 = .ok (.idiv, 1) := jx_dec c_M_planExactly_ok 70 rfl
theorem d_M_planExactly_117 : decode prog_7_method_29_code 117 = .ok (.istore 4, 2) := jx_dec c_M_planExactly_ok 71 rfl
theorem d_M_planExactly_119 : decode prog_7_method_29_code 119 = .ok (.iinc 5 (-1), 3) := jx_dec c_M_planExactly_ok 72 rfl
theorem d_M_planExactly_122 : decode prog_7_method_29_code 122 = .ok (.goto (-35), 3) := jx_dec c_M_planExactly_ok 73 rfl
theorem d_M_planExactly_125 : decode prog_7_method_29_code 125 = .ok (.aload_n 0, 1) := jx_dec c_M_planExactly_ok 74 rfl
theorem d_M_planExactly_126 : decode prog_7_method_29_code 126 = .ok (.invokevirtual 162, 3) := jx_dec c_M_planExactly_ok 75 rfl
theorem d_M_planExactly_129 : decode prog_7_method_29_code 129 = .ok (.istore 5, 2) := jx_dec c_M_planExactly_ok 76 rfl
theorem d_M_planExactly_131 : decode prog_7_method_29_code 131 = .ok (.iload 5, 2) := jx_dec c_M_planExactly_ok 77 rfl
theorem d_M_planExactly_133 : decode prog_7_method_29_code 133 = .ok (.iconst (-1), 1) := jx_dec c_M_planExactly_ok 78 rfl
theorem d_M_planExactly_134 : decode prog_7_method_29_code 134 = .ok (.if_icmp .eq 49, 3) := jx_dec c_M_planExactly_ok 79 rfl
theorem d_M_planExactly_137 : decode prog_7_method_29_code 137 = .ok (.iload_n 2, 1) := jx_dec c_M_planExactly_ok 80 rfl
theorem d_M_planExactly_138 : decode prog_7_method_29_code 138 = .ok (.iconst (-1), 1) := jx_dec c_M_planExactly_ok 81 rfl
theorem d_M_planExactly_139 : decode prog_7_method_29_code 139 = .ok (.if_icmp .eq 9, 3) := jx_dec c_M_planExactly_ok 82 rfl
theorem d_M_planExactly_142 : decode prog_7_method_29_code 142 = .ok (.iload 5, 2) := jx_dec c_M_planExactly_ok 83 rfl
theorem d_M_planExactly_144 : decode prog_7_method_29_code 144 = .ok (.iload_n 2, 1) := jx_dec c_M_planExactly_ok 84 rfl
theorem d_M_planExactly_145 : decode prog_7_method_29_code 145 = .ok (.if_icmp .ge 38, 3) := jx_dec c_M_planExactly_ok 85 rfl
theorem d_M_planExactly_148 : decode prog_7_method_29_code 148 = .ok (.iload 5, 2) := jx_dec c_M_planExactly_ok 86 rfl
theorem d_M_planExactly_150 : decode prog_7_method_29_code 150 = .ok (.istore_n 2, 1) := jx_dec c_M_planExactly_ok 87 rfl
theorem d_M_planExactly_151 : decode prog_7_method_29_code 151 = .ok (.iconst 0, 1) := jx_dec c_M_planExactly_ok 88 rfl
theorem d_M_planExactly_152 : decode prog_7_method_29_code 152 = .ok (.istore 6, 2) := jx_dec c_M_planExactly_ok 89 rfl
theorem d_M_planExactly_154 : decode prog_7_method_29_code 154 = .ok (.iload 6, 2) := jx_dec c_M_planExactly_ok 90 rfl
theorem d_M_planExactly_156 : decode prog_7_method_29_code 156 = .ok (.aload_n 0, 1) := jx_dec c_M_planExactly_ok 91 rfl
theorem d_M_planExactly_157 : decode prog_7_method_29_code 157 = .ok (.getfield 141, 3) := jx_dec c_M_planExactly_ok 92 rfl
theorem d_M_planExactly_160 : decode prog_7_method_29_code 160 = .ok (.if_icmp .ge 23, 3) := jx_dec c_M_planExactly_ok 93 rfl
theorem d_M_planExactly_163 : decode prog_7_method_29_code 163 = .ok (.aload_n 0, 1) := jx_dec c_M_planExactly_ok 94 rfl
theorem d_M_planExactly_164 : decode prog_7_method_29_code 164 = .ok (.getfield 80, 3) := jx_dec c_M_planExactly_ok 95 rfl
theorem d_M_planExactly_167 : decode prog_7_method_29_code 167 = .ok (.iload 6, 2) := jx_dec c_M_planExactly_ok 96 rfl
theorem d_M_planExactly_169 : decode prog_7_method_29_code 169 = .ok (.aload_n 0, 1) := jx_dec c_M_planExactly_ok 97 rfl
theorem d_M_planExactly_170 : decode prog_7_method_29_code 170 = .ok (.getfield 77, 3) := jx_dec c_M_planExactly_ok 98 rfl
theorem d_M_planExactly_173 : decode prog_7_method_29_code 173 = .ok (.iload 6, 2) := jx_dec c_M_planExactly_ok 99 rfl
theorem d_M_planExactly_175 : decode prog_7_method_29_code 175 = .ok (.iaload, 1) := jx_dec c_M_planExactly_ok 100 rfl
theorem d_M_planExactly_176 : decode prog_7_method_29_code 176 = .ok (.iastore, 1) := jx_dec c_M_planExactly_ok 101 rfl
theorem d_M_planExactly_177 : decode prog_7_method_29_code 177 = .ok (.iinc 6 1, 3) := jx_dec c_M_planExactly_ok 102 rfl
theorem d_M_planExactly_180 : decode prog_7_method_29_code 180 = .ok (.goto (-26), 3) := jx_dec c_M_planExactly_ok 103 rfl
theorem d_M_planExactly_183 : decode prog_7_method_29_code 183 = .ok (.iinc 3 1, 3) := jx_dec c_M_planExactly_ok 104 rfl
theorem d_M_planExactly_186 : decode prog_7_method_29_code 186 = .ok (.goto (-115), 3) := jx_dec c_M_planExactly_ok 105 rfl
theorem d_M_planExactly_189 : decode prog_7_method_29_code 189 = .ok (.iconst 0, 1) := jx_dec c_M_planExactly_ok 106 rfl
theorem d_M_planExactly_190 : decode prog_7_method_29_code 190 = .ok (.istore_n 3, 1) := jx_dec c_M_planExactly_ok 107 rfl
theorem d_M_planExactly_191 : decode prog_7_method_29_code 191 = .ok (.iload_n 3, 1) := jx_dec c_M_planExactly_ok 108 rfl
theorem d_M_planExactly_192 : decode prog_7_method_29_code 192 = .ok (.aload_n 0, 1) := jx_dec c_M_planExactly_ok 109 rfl
theorem d_M_planExactly_193 : decode prog_7_method_29_code 193 = .ok (.getfield 141, 3) := jx_dec c_M_planExactly_ok 110 rfl
theorem d_M_planExactly_196 : decode prog_7_method_29_code 196 = .ok (.if_icmp .ge 21, 3) := jx_dec c_M_planExactly_ok 111 rfl
theorem d_M_planExactly_199 : decode prog_7_method_29_code 199 = .ok (.aload_n 0, 1) := jx_dec c_M_planExactly_ok 112 rfl
theorem d_M_planExactly_200 : decode prog_7_method_29_code 200 = .ok (.getfield 77, 3) := jx_dec c_M_planExactly_ok 113 rfl
theorem d_M_planExactly_203 : decode prog_7_method_29_code 203 = .ok (.iload_n 3, 1) := jx_dec c_M_planExactly_ok 114 rfl
theorem d_M_planExactly_204 : decode prog_7_method_29_code 204 = .ok (.aload_n 0, 1) := jx_dec c_M_planExactly_ok 115 rfl
theorem d_M_planExactly_205 : decode prog_7_method_29_code 205 = .ok (.getfield 80, 3) := jx_dec c_M_planExactly_ok 116 rfl
theorem d_M_planExactly_208 : decode prog_7_method_29_code 208 = .ok (.iload_n 3, 1) := jx_dec c_M_planExactly_ok 117 rfl
theorem d_M_planExactly_209 : decode prog_7_method_29_code 209 = .ok (.iaload, 1) := jx_dec c_M_planExactly_ok 118 rfl
theorem d_M_planExactly_210 : decode prog_7_method_29_code 210 = .ok (.iastore, 1) := jx_dec c_M_planExactly_ok 119 rfl
theorem d_M_planExactly_211 : decode prog_7_method_29_code 211 = .ok (.iinc 3 1, 3) := jx_dec c_M_planExactly_ok 120 rfl
theorem d_M_planExactly_214 : decode prog_7_method_29_code 214 = .ok (.goto (-23), 3) := jx_dec c_M_planExactly_ok 121 rfl
theorem d_M_planExactly_217 : decode prog_7_method_29_code 217 = .ok (.iconst 0, 1) := jx_dec c_M_planExactly_ok 122 rfl
theorem d_M_planExactly_218 : decode prog_7_method_29_code 218 = .ok (.istore_n 3, 1) := jx_dec c_M_planExactly_ok 123 rfl
theorem d_M_planExactly_219 : decode prog_7_method_29_code 219 = .ok (.iload_n 3, 1) := jx_dec c_M_planExactly_ok 124 rfl
theorem d_M_planExactly_220 : decode prog_7_method_29_code 220 = .ok (.aload_n 0, 1) := jx_dec c_M_planExactly_ok 125 rfl
theorem d_M_planExactly_221 : decode prog_7_method_29_code 221 = .ok (.getfield 141, 3) := jx_dec c_M_planExactly_ok 126 rfl
theorem d_M_planExactly_224 : decode prog_7_method_29_code 224 = .ok (.if_icmp .ge 79, 3) := jx_dec c_M_planExactly_ok 127 rfl
theorem d_M_planExactly_227 : decode prog_7_method_29_code 227 = .ok (.aload_n 0, 1) := jx_dec c_M_planExactly_ok 128 rfl
theorem d_M_planExactly_228 : decode prog_7_method_29_code 228 = .ok (.getfield 80, 3) := jx_dec c_M_planExactly_ok 129 rfl
theorem d_M_planExactly_231 : decode prog_7_method_29_code 231 = .ok (.iload_n 3, 1) := jx_dec c_M_planExactly_ok 130 rfl
theorem d_M_planExactly_232 : decode prog_7_method_29_code 232 = .ok (.iaload, 1) := jx_dec c_M_planExactly_ok 131 rfl
theorem d_M_planExactly_233 : decode prog_7_method_29_code 233 = .ok (.aload_n 0, 1) := jx_dec c_M_planExactly_ok 132 rfl
theorem d_M_planExactly_234 : decode prog_7_method_29_code 234 = .ok (.getfield 87, 3) := jx_dec c_M_planExactly_ok 133 rfl
theorem d_M_planExactly_237 : decode prog_7_method_29_code 237 = .ok (.if_icmp .ge 60, 3) := jx_dec c_M_planExactly_ok 134 rfl
theorem d_M_planExactly_240 : decode prog_7_method_29_code 240 = .ok (.aload_n 0, 1) := jx_dec c_M_planExactly_ok 135 rfl
theorem d_M_planExactly_241 : decode prog_7_method_29_code 241 = .ok (.getfield 56, 3) := jx_dec c_M_planExactly_ok 136 rfl
theorem d_M_planExactly_244 : decode prog_7_method_29_code 244 = .ok (.aload_n 0, 1) := jx_dec c_M_planExactly_ok 137 rfl
theorem d_M_planExactly_245 : decode prog_7_method_29_code 245 = .ok (.getfield 62, 3) := jx_dec c_M_planExactly_ok 138 rfl
theorem d_M_planExactly_248 : decode prog_7_method_29_code 248 = .ok (.iload_n 3, 1) := jx_dec c_M_planExactly_ok 139 rfl
theorem d_M_planExactly_249 : decode prog_7_method_29_code 249 = .ok (.iaload, 1) := jx_dec c_M_planExactly_ok 140 rfl
theorem d_M_planExactly_250 : decode prog_7_method_29_code 250 = .ok (.aload_n 0, 1) := jx_dec c_M_planExactly_ok 141 rfl
theorem d_M_planExactly_251 : decode prog_7_method_29_code 251 = .ok (.getfield 80, 3) := jx_dec c_M_planExactly_ok 142 rfl
theorem d_M_planExactly_254 : decode prog_7_method_29_code 254 = .ok (.iload_n 3, 1) := jx_dec c_M_planExactly_ok 143 rfl
theorem d_M_planExactly_255 : decode prog_7_method_29_code 255 = .ok (.iaload, 1) := jx_dec c_M_planExactly_ok 144 rfl
theorem d_M_planExactly_256 : decode prog_7_method_29_code 256 = .ok (.iastore, 1) := jx_dec c_M_planExactly_ok 145 rfl
theorem d_M_planExactly_257 : decode prog_7_method_29_code 257 = .ok (.aload_n 0, 1) := jx_dec c_M_planExactly_ok 146 rfl
theorem d_M_planExactly_258 : decode prog_7_method_29_code 258 = .ok (.getfield 59, 3) := jx_dec c_M_planExactly_ok 147 rfl
theorem d_M_planExactly_261 : decode prog_7_method_29_code 261 = .ok (.aload_n 0, 1) := jx_dec c_M_planExactly_ok 148 rfl
theorem d_M_planExactly_262 : decode prog_7_method_29_code 262 = .ok (.getfield 62, 3) := jx_dec c_M_planExactly_ok 149 rfl
theorem d_M_planExactly_265 : decode prog_7_method_29_code 265 = .ok (.iload_n 3, 1) := jx_dec c_M_planExactly_ok 150 rfl
theorem d_M_planExactly_266 : decode prog_7_method_29_code 266 = .ok (.iaload, 1) := jx_dec c_M_planExactly_ok 151 rfl
theorem d_M_planExactly_267 : decode prog_7_method_29_code 267 = .ok (.aload_n 0, 1) := jx_dec c_M_planExactly_ok 152 rfl
theorem d_M_planExactly_268 : decode prog_7_method_29_code 268 = .ok (.getfield 68, 3) := jx_dec c_M_planExactly_ok 153 rfl
theorem d_M_planExactly_271 : decode prog_7_method_29_code 271 = .ok (.iconst 5, 1) := jx_dec c_M_planExactly_ok 154 rfl
theorem d_M_planExactly_272 : decode prog_7_method_29_code 272 = .ok (.bipush 32, 2) := jx_dec c_M_planExactly_ok 155 rfl
theorem d_M_planExactly_274 : decode prog_7_method_29_code 274 = .ok (.aload_n 0, 1) := jx_dec c_M_planExactly_ok 156 rfl
theorem d_M_planExactly_275 : decode prog_7_method_29_code 275 = .ok (.getfield 80, 3) := jx_dec c_M_planExactly_ok 157 rfl
theorem d_M_planExactly_278 : decode prog_7_method_29_code 278 = .ok (.iload_n 3, 1) := jx_dec c_M_planExactly_ok 158 rfl
theorem d_M_planExactly_279 : decode prog_7_method_29_code 279 = .ok (.iaload, 1) := jx_dec c_M_planExactly_ok 159 rfl
theorem d_M_planExactly_280 : decode prog_7_method_29_code 280 = .ok (.imul, 1) := jx_dec c_M_planExactly_ok 160 rfl
theorem d_M_planExactly_281 : decode prog_7_method_29_code 281 = .ok (.aload_n 0, 1) := jx_dec c_M_planExactly_ok 161 rfl
theorem d_M_planExactly_282 : decode prog_7_method_29_code 282 = .ok (.aload_n 0, 1) := jx_dec c_M_planExactly_ok 162 rfl
theorem d_M_planExactly_283 : decode prog_7_method_29_code 283 = .ok (.getfield 80, 3) := jx_dec c_M_planExactly_ok 163 rfl
theorem d_M_planExactly_286 : decode prog_7_method_29_code 286 = .ok (.iload_n 3, 1) := jx_dec c_M_planExactly_ok 164 rfl
theorem d_M_planExactly_287 : decode prog_7_method_29_code 287 = .ok (.iaload, 1) := jx_dec c_M_planExactly_ok 165 rfl
theorem d_M_planExactly_288 : decode prog_7_method_29_code 288 = .ok (.invokevirtual 156, 3) := jx_dec c_M_planExactly_ok 166 rfl
theorem d_M_planExactly_291 : decode prog_7_method_29_code 291 = .ok (.iadd, 1) := jx_dec c_M_planExactly_ok 167 rfl
theorem d_M_planExactly_292 : decode prog_7_method_29_code 292 = .ok (.imul, 1) := jx_dec c_M_planExactly_ok 168 rfl
theorem d_M_planExactly_293 : decode prog_7_method_29_code 293 = .ok (.iload_n 3, 1) := jx_dec c_M_planExactly_ok 169 rfl
theorem d_M_planExactly_294 : decode prog_7_method_29_code 294 = .ok (.iadd, 1) := jx_dec c_M_planExactly_ok 170 rfl
theorem d_M_planExactly_295 : decode prog_7_method_29_code 295 = .ok (.iaload, 1) := jx_dec c_M_planExactly_ok 171 rfl
theorem d_M_planExactly_296 : decode prog_7_method_29_code 296 = .ok (.iastore, 1) := jx_dec c_M_planExactly_ok 172 rfl
theorem d_M_planExactly_297 : decode prog_7_method_29_code 297 = .ok (.iinc 3 1, 3) := jx_dec c_M_planExactly_ok 173 rfl
theorem d_M_planExactly_300 : decode prog_7_method_29_code 300 = .ok (.goto (-81), 3) := jx_dec c_M_planExactly_ok 174 rfl
theorem d_M_planExactly_303 : decode prog_7_method_29_code 303 = .ok (.return_, 1) := jx_dec c_M_planExactly_ok 175 rfl
def c_M_findOrder : List (Nat × Instr × Nat) := [(0, .bipush 32, 2), (2, .iload_n 1, 1), (3, .imul, 1), (4, .iload_n 2, 1), (5, .iadd, 1), (6, .istore_n 3, 1), (7, .iconst 0, 1), (8, .istore 4, 2), (10, .aload_n 0, 1), (11, .getfield 65, 3), (14, .iload_n 3, 1), (15, .iconst (-1), 1), (16, .iastore, 1), (17, .iconst 0, 1), (18, .istore 5, 2), (20, .iload 5, 2), (22, .aload_n 0, 1), (23, .getfield 141, 3), (26, .if_icmp .ge 47, 3), (29, .iload_n 2, 1), (30, .iload 5, 2), (32, .ishr, 1), (33, .iconst 1, 1), (34, .iand, 1), (35, .iconst 1, 1), (36, .if_icmp .ne 31, 3), (39, .aload_n 0, 1), (40, .iload_n 1, 1), (41, .aload_n 0, 1), (42, .getfield 62, 3), (45, .iload 5, 2), (47, .iaload, 1), (48, .invokevirtual 144, 3), (51, .ifCond .ne 4, 3), (54, .return_, 1), (55, .aload_n 0, 1), (56, .getfield 71, 3), (59, .iload 4, 2), (61, .iload 5, 2), (63, .iastore, 1), (64, .iinc 4 1, 3), (67, .iinc 5 1, 3), (70, .goto (-50), 3), (73, .iconst 1, 1), (74, .istore 5, 2), (76, .iload 5, 2), (78, .ifCond .eq 114, 3), (81, .aload_n 0, 1), (82, .iload_n 1, 1), (83, .iload 4, 2), (85, .invokevirtual 147, 3), (88, .istore 6, 2), (90, .iload 6, 2), (92, .iconst (-1), 1), (93, .if_icmp .eq 88, 3), (96, .aload_n 0, 1), (97, .getfield 65, 3), (100, .iload_n 3, 1), (101, .iaload, 1), (102, .iconst (-1), 1), (103, .if_icmp .eq 34, 3), (106, .iload 6, 2), (108, .aload_n 0, 1), (109, .getfield 65, 3), (112, .iload_n 3, 1), (113, .iaload, 1), (114, .if_icmp .lt 23, 3), (117, .iload 6, 2), (119, .aload_n 0, 1), (120, .getfield 65, 3), (123, .iload_n 3, 1), (124, .iaload, 1), (125, .if_icmp .ne 56, 3), (128, .aload_n 0, 1), (129, .iload_n 3, 1), (130, .iload_n 2, 1), (131, .invokevirtual 150, 3), (134, .ifCond .eq 47, 3), (137, .aload_n 0, 1), (138, .getfield 65, 3), (141, .iload_n 3, 1), (142, .iload 6, 2), (144, .iastore, 1), (145, .iconst 0, 1), (146, .istore 7, 2), (148, .iload 7, 2), (150, .aload_n 0, 1), (151, .getfield 141, 3), (154, .if_icmp .ge 27, 3), (157, .aload_n 0, 1), (158, .getfield 68, 3), (161, .iconst 5, 1), (162, .iload_n 3, 1), (163, .imul, 1), (164, .iload 7, 2), (166, .iadd, 1), (167, .aload_n 0, 1), (168, .getfield 74, 3), (171, .iload 7, 2), (173, .iaload, 1), (174, .iastore, 1), (175, .iinc 7 1, 3), (178, .goto (-30), 3), (181, .aload_n 0, 1), (182, .iload 4, 2), (184, .invokevirtual 153, 3), (187, .istore 5, 2), (189, .goto (-113), 3), (192, .return_, 1)]
theorem c_M_findOrder_ok : (c_M_findOrder).all (fun q => decide (decode prog_7_method_26_code q.1 = .ok q.2)) = true := by decide +kernel
theorem d_M_findOrder_0 : decode prog_7_method_26_code 0 = .ok (.bipush 32, 2) := jx_dec c_M_findOrder_ok 0 rfl
theorem d_M_findOrder_2 : decode prog_7_method_26_code 2 = .ok (.iload_n 1, 1) := jx_dec c_M_findOrder_ok 1 rfl
theorem d_M_findOrder_3 : decode prog_7_method_26_code 3 = .ok (.imul, 1) := jx_dec c_M_findOrder_ok 2 rfl
theorem d_M_findOrder_4 : decode prog_7_method_26_code 4 = .ok (.iload_n 2, 1) := jx_dec c_M_findOrder_ok 3 rfl
theorem d_M_findOrder_5 : decode prog_7_method_26_code 5 = .ok (.iadd, 1) := jx_dec c_M_findOrder_ok 4 rfl
theorem d_M_findOrder_6 : decode prog_7_method_26_code 6 = .ok (.istore_n 3, 1) := jx_dec c_M_findOrder_ok 5 rfl
theorem d_M_findOrder_7 : decode prog_7_method_26_code 7 = .ok (.iconst 0, 1) := jx_dec c_M_findOrder_ok 6 rfl
theorem d_M_findOrder_8 : decode prog_7_method_26_code 8 = .ok (.istore 4, 2) := jx_dec c_M_findOrder_ok 7 rfl
theorem d_M_findOrder_10 : decode prog_7_method_26_code 10 = .ok (.aload_n 0, 1) := jx_dec c_M_findOrder_ok 8 rfl
theorem d_M_findOrder_11 : decode prog_7_method_26_code 11 = .ok (.getfield 65, 3) := jx_dec c_M_findOrder_ok 9 rfl
theorem d_M_findOrder_14 : decode prog_7_method_26_code 14 = .ok (.iload_n 3, 1) := jx_dec c_M_findOrder_ok 10 rfl
theorem d_M_findOrder_15 : decode prog_7_method_26_code 15 = .ok (.iconst (-1), 1) := jx_dec c_M_findOrder_ok 11 rfl
theorem d_M_findOrder_16 : decode prog_7_method_26_code 16 = .ok (.iastore, 1) := jx_dec c_M_findOrder_ok 12 rfl
theorem d_M_findOrder_17 : decode prog_7_method_26_code 17 = .ok (.iconst 0, 1) := jx_dec c_M_findOrder_ok 13 rfl
theorem d_M_findOrder_18 : decode prog_7_method_26_code 18 = .ok (.istore 5, 2) := jx_dec c_M_findOrder_ok 14 rfl
theorem d_M_findOrder_20 : decode prog_7_method_26_code 20 = .ok (.iload 5, 2) := jx_dec c_M_findOrder_ok 15 rfl
theorem d_M_findOrder_22 : decode prog_7_method_26_code 22 = .ok (.aload_n 0, 1) := jx_dec c_M_findOrder_ok 16 rfl
theorem d_M_findOrder_23 : decode prog_7_method_26_code 23 = .ok (.getfield 141, 3) := jx_dec c_M_findOrder_ok 17 rfl
theorem d_M_findOrder_26 : decode prog_7_method_26_code 26 = .ok (.if_icmp .ge 47, 3) := jx_dec c_M_findOrder_ok 18 rfl
theorem d_M_findOrder_29 : decode prog_7_method_26_code 29 = .ok (.iload_n 2, 1) := jx_dec c_M_findOrder_ok 19 rfl
theorem d_M_findOrder_30 : decode prog_7_method_26_code 30 = .ok (.iload 5, 2) := jx_dec c_M_findOrder_ok 20 rfl
theorem d_M_findOrder_32 : decode prog_7_method_26_code 32 = .ok (.ishr, 1) := jx_dec c_M_findOrder_ok 21 rfl
theorem d_M_findOrder_33 : decode prog_7_method_26_code 33 = .ok (.iconst 1, 1) := jx_dec c_M_findOrder_ok 22 rfl
theorem d_M_findOrder_34 : decode prog_7_method_26_code 34 = .ok (.iand, 1) := jx_dec c_M_findOrder_ok 23 rfl
theorem d_M_findOrder_35 : decode prog_7_method_26_code 35 = .ok (.iconst 1, 1) := jx_dec c_M_findOrder_ok 24 rfl
theorem d_M_findOrder_36 : decode prog_7_method_26_code 36 = .ok (.if_icmp .ne 31, 3) := jx_dec c_M_findOrder_ok 25 rfl
theorem d_M_findOrder_39 : decode prog_7_method_26_code 39 = .ok (.aload_n 0, 1) := jx_dec c_M_findOrder_ok 26 rfl
theorem d_M_findOrder_40 : decode prog_7_method_26_code 40 = .ok (.iload_n 1, 1) := jx_dec c_M_findOrder_ok 27 rfl
theorem d_M_findOrder_41 : decode prog_7_method_26_code 41 = .ok (.aload_n 0, 1) := jx_dec c_M_findOrder_ok 28 rfl
theorem d_M_findOrder_42 : decode prog_7_method_26_code 42 = .ok (.getfield 62, 3) := jx_dec c_M_findOrder_ok 29 rfl
theorem d_M_findOrder_45 : decode prog_7_method_26_code 45 = .ok (.iload 5, 2) := jx_dec c_M_findOrder_ok 30 rfl
theorem d_M_findOrder_47 : decode prog_7_method_26_code 47 = .ok (.iaload, 1) := jx_dec c_M_findOrder_ok 31 rfl
theorem d_M_findOrder_48 : decode prog_7_method_26_code 48 = .ok (.invokevirtual 144, 3) := jx_dec c_M_findOrder_ok 32 rfl
theorem d_M_findOrder_51 : decode prog_7_method_26_code 51 = .ok (.ifCond .ne 4, 3) := jx_dec c_M_findOrder_ok 33 rfl
theorem d_M_findOrder_54 : decode prog_7_method_26_code 54 = .ok (.return_, 1) := jx_dec c_M_findOrder_ok 34 rfl
theorem d_M_findOrder_55 : decode prog_7_method_26_code 55 = .ok (.aload_n 0, 1) := jx_dec c_M_findOrder_ok 35 rfl
theorem d_M_findOrder_56 : decode prog_7_method_26_code 56 = .ok (.getfield 71, 3) := jx_dec c_M_findOrder_ok 36 rfl
theorem d_M_findOrder_59 : decode prog_7_method_26_code 59 = .ok (.iload 4, 2) := jx_dec c_M_findOrder_ok 37 rfl
theorem d_M_findOrder_61 : decode prog_7_method_26_code 61 = .ok (.iload 5, 2) := jx_dec c_M_findOrder_ok 38 rfl
theorem d_M_findOrder_63 : decode prog_7_method_26_code 63 = .ok (.iastore, 1) := jx_dec c_M_findOrder_ok 39 rfl
theorem d_M_findOrder_64 : decode prog_7_method_26_code 64 = .ok (.iinc 4 1, 3) := jx_dec c_M_findOrder_ok 40 rfl
theorem d_M_findOrder_67 : decode prog_7_method_26_code 67 = .ok (.iinc 5 1, 3) := jx_dec c_M_findOrder_ok 41 rfl
theorem d_M_findOrder_70 : decode prog_7_method_26_code 70 = .ok (.goto (-50), 3) := jx_dec c_M_findOrder_ok 42 rfl
theorem d_M_findOrder_73 : decode prog_7_method_26_code 73 = .ok (.iconst 1, 1) := jx_dec c_M_findOrder_ok 43 rfl
theorem d_M_findOrder_74 : decode prog_7_method_26_code 74 = .ok (.istore 5, 2) := jx_dec c_M_findOrder_ok 44 rfl
theorem d_M_findOrder_76 : decode prog_7_method_26_code 76 = .ok (.iload 5, 2) := jx_dec c_M_findOrder_ok 45 rfl
theorem d_M_findOrder_78 : decode prog_7_method_26_code 78 = .ok (.ifCond .eq 114, 3) := jx_dec c_M_findOrder_ok 46 rfl
theorem d_M_findOrder_81 : decode prog_7_method_26_code 81 = .ok (.aload_n 0, 1) := jx_dec c_M_findOrder_ok 47 rfl
theorem d_M_findOrder_82 : decode prog_7_method_26_code 82 = .ok (.iload_n 1, 1) := jx_dec c_M_findOrder_ok 48 rfl
theorem d_M_findOrder_83 : decode prog_7_method_26_code 83 = .ok (.iload 4, 2) := jx_dec c_M_findOrder_ok 49 rfl
theorem d_M_findOrder_85 : decode prog_7_method_26_code 85 = .ok (.invokevirtual 147, 3) := jx_dec c_M_findOrder_ok 50 rfl
theorem d_M_findOrder_88 : decode prog_7_method_26_code 88 = .ok (.istore 6, 2) := jx_dec c_M_findOrder_ok 51 rfl
theorem d_M_findOrder_90 : decode prog_7_method_26_code 90 = .ok (.iload 6, 2) := jx_dec c_M_findOrder_ok 52 rfl
theorem d_M_findOrder_92 : decode prog_7_method_26_code 92 = .ok (.iconst (-1), 1) := jx_dec c_M_findOrder_ok 53 rfl
theorem d_M_findOrder_93 : decode prog_7_method_26_code 93 = .ok (.if_icmp .eq 88, 3) := jx_dec c_M_findOrder_ok 54 rfl
theorem d_M_findOrder_96 : decode prog_7_method_26_code 96 = .ok (.aload_n 0, 1) := jx_dec c_M_findOrder_ok 55 rfl
theorem d_M_findOrder_97 : decode prog_7_method_26_code 97 = .ok (.getfield 65, 3) := jx_dec c_M_findOrder_ok 56 rfl
theorem d_M_findOrder_100 : decode prog_7_method_26_code 100 = .ok (.iload_n 3, 1) := jx_dec c_M_findOrder_ok 57 rfl
theorem d_M_findOrder_101 : decode prog_7_method_26_code 101 = .ok (.iaload, 1) := jx_dec c_M_findOrder_ok 58 rfl
theorem d_M_findOrder_102 : decode prog_7_method_26_code 102 = .ok (.iconst (-1), 1) := jx_dec c_M_findOrder_ok 59 rfl
theorem d_M_findOrder_103 : decode prog_7_method_26_code 103 = .ok (.if_icmp .eq 34, 3) := jx_dec c_M_findOrder_ok 60 rfl
theorem d_M_findOrder_106 : decode prog_7_method_26_code 106 = .ok (.iload 6, 2) := jx_dec c_M_findOrder_ok 61 rfl
theorem d_M_findOrder_108 : decode prog_7_method_26_code 108 = .ok (.aload_n 0, 1) := jx_dec c_M_findOrder_ok 62 rfl
theorem d_M_findOrder_109 : decode prog_7_method_26_code 109 = .ok (.getfield 65, 3) := jx_dec c_M_findOrder_ok 63 rfl
theorem d_M_findOrder_112 : decode prog_7_method_26_code 112 = .ok (.iload_n 3, 1) := jx_dec c_M_findOrder_ok 64 rfl
theorem d_M_findOrder_113 : decode prog_7_method_26_code 113 = .ok (.iaload, 1) := jx_dec c_M_findOrder_ok 65 rfl
theorem d_M_findOrder_114 : decode prog_7_method_26_code 114 = .ok (.if_icmp .lt 23, 3) := jx_dec c_M_findOrder_ok 66 rfl
theorem d_M_findOrder_117 : decode prog_7_method_26_code 117 = .ok (.iload 6, 2) := jx_dec c_M_findOrder_ok 67 rfl
theorem d_M_findOrder_119 : decode prog_7_method_26_code 119 = .ok (.aload_n 0, 1) := jx_dec c_M_findOrder_ok 68 rfl
theorem d_M_findOrder_120 : decode prog_7_method_26_code 120 = .ok (.getfield 65, 3) := jx_dec c_M_findOrder_ok 69 rfl
theorem d_M_findOrder_123 : decode prog_7_method_26_code 123 = .ok (.iload_n 3, 1) := jx_dec c_M_findOrder_ok 70 rfl
theorem d_M_findOrder_124 : decode prog_7_method_26_code 124 = .ok (.iaload, 1) := jx_dec c_M_findOrder_ok 71 rfl
theorem d_M_findOrder_125 : decode prog_7_method_26_code 125 = .ok (.if_icmp .ne 56, 3) := jx_dec c_M_findOrder_ok 72 rfl
theorem d_M_findOrder_128 : decode prog_7_method_26_code 128 = .ok (.aload_n 0, 1) := jx_dec c_M_findOrder_ok 73 rfl
theorem d_M_findOrder_129 : decode prog_7_method_26_code 129 = .ok (.iload_n 3, 1) := jx_dec c_M_findOrder_ok 74 rfl
theorem d_M_findOrder_130 : decode prog_7_method_26_code 130 = .ok (.iload_n 2, 1) := jx_dec c_M_findOrder_ok 75 rfl
theorem d_M_findOrder_131 : decode prog_7_method_26_code 131 = .ok (.invokevirtual 150, 3) := jx_dec c_M_findOrder_ok 76 rfl
theorem d_M_findOrder_134 : decode prog_7_method_26_code 134 = .ok (.ifCond .eq 47, 3) := jx_dec c_M_findOrder_ok 77 rfl
theorem d_M_findOrder_137 : decode prog_7_method_26_code 137 = .ok (.aload_n 0, 1) := jx_dec c_M_findOrder_ok 78 rfl
theorem d_M_findOrder_138 : decode prog_7_method_26_code 138 = .ok (.getfield 65, 3) := jx_dec c_M_findOrder_ok 79 rfl
theorem d_M_findOrder_141 : decode prog_7_method_26_code 141 = .ok (.iload_n 3, 1) := jx_dec c_M_findOrder_ok 80 rfl
theorem d_M_findOrder_142 : decode prog_7_method_26_code 142 = .ok (.iload 6, 2) := jx_dec c_M_findOrder_ok 81 rfl
theorem d_M_findOrder_144 : decode prog_7_method_26_code 144 = .ok (.iastore, 1) := jx_dec c_M_findOrder_ok 82 rfl
theorem d_M_findOrder_145 : decode prog_7_method_26_code 145 = .ok (.iconst 0, 1) := jx_dec c_M_findOrder_ok 83 rfl
theorem d_M_findOrder_146 : decode prog_7_method_26_code 146 = .ok (.istore 7, 2) := jx_dec c_M_findOrder_ok 84 rfl
theorem d_M_findOrder_148 : decode prog_7_method_26_code 148 = .ok (.iload 7, 2) := jx_dec c_M_findOrder_ok 85 rfl
theorem d_M_findOrder_150 : decode prog_7_method_26_code 150 = .ok (.aload_n 0, 1) := jx_dec c_M_findOrder_ok 86 rfl
theorem d_M_findOrder_151 : decode prog_7_method_26_code 151 = .ok (.getfield 141, 3) := jx_dec c_M_findOrder_ok 87 rfl
theorem d_M_findOrder_154 : decode prog_7_method_26_code 154 = .ok (.if_icmp .ge 27, 3) := jx_dec c_M_findOrder_ok 88 rfl
theorem d_M_findOrder_157 : decode prog_7_method_26_code 157 = .ok (.aload_n 0, 1) := jx_dec c_M_findOrder_ok 89 rfl
theorem d_M_findOrder_158 : decode prog_7_method_26_code 158 = .ok (.getfield 68, 3) := jx_dec c_M_findOrder_ok 90 rfl
theorem d_M_findOrder_161 : decode prog_7_method_26_code 161 = .ok (.iconst 5, 1) := jx_dec c_M_findOrder_ok 91 rfl
theorem d_M_findOrder_162 : decode prog_7_method_26_code 162 = .ok (.iload_n 3, 1) := jx_dec c_M_findOrder_ok 92 rfl
theorem d_M_findOrder_163 : decode prog_7_method_26_code 163 = .ok (.imul, 1) := jx_dec c_M_findOrder_ok 93 rfl
theorem d_M_findOrder_164 : decode prog_7_method_26_code 164 = .ok (.iload 7, 2) := jx_dec c_M_findOrder_ok 94 rfl
theorem d_M_findOrder_166 : decode prog_7_method_26_code 166 = .ok (.iadd, 1) := jx_dec c_M_findOrder_ok 95 rfl
theorem d_M_findOrder_167 : decode prog_7_method_26_code 167 = .ok (.aload_n 0, 1) := jx_dec c_M_findOrder_ok 96 rfl
theorem d_M_findOrder_168 : decode prog_7_method_26_code 168 = .ok (.getfield 74, 3) := jx_dec c_M_findOrder_ok 97 rfl
theorem d_M_findOrder_171 : decode prog_7_method_26_code 171 = .ok (.iload 7, 2) := jx_dec c_M_findOrder_ok 98 rfl
theorem d_M_findOrder_173 : decode prog_7_method_26_code 173 = .ok (.iaload, 1) := jx_dec c_M_findOrder_ok 99 rfl
theorem d_M_findOrder_174 : decode prog_7_method_26_code 174 = .ok (.iastore, 1) := jx_dec c_M_findOrder_ok 100 rfl
theorem d_M_findOrder_175 : decode prog_7_method_26_code 175 = .ok (.iinc 7 1, 3) := jx_dec c_M_findOrder_ok 101 rfl
theorem d_M_findOrder_178 : decode prog_7_method_26_code 178 = .ok (.goto (-30), 3) := jx_dec c_M_findOrder_ok 102 rfl
theorem d_M_findOrder_181 : decode prog_7_method_26_code 181 = .ok (.aload_n 0, 1) := jx_dec c_M_findOrder_ok 103 rfl
theorem d_M_findOrder_182 : decode prog_7_method_26_code 182 = .ok (.iload 4, 2) := jx_dec c_M_findOrder_ok 104 rfl
theorem d_M_findOrder_184 : decode prog_7_method_26_code 184 = .ok (.invokevirtual 153, 3) := jx_dec c_M_findOrder_ok 105 rfl
theorem d_M_findOrder_187 : decode prog_7_method_26_code 187 = .ok (.istore 5, 2) := jx_dec c_M_findOrder_ok 106 rfl
theorem d_M_findOrder_189 : decode prog_7_method_26_code 189 = .ok (.goto (-113), 3) := jx_dec c_M_findOrder_ok 107 rfl
theorem d_M_findOrder_192 : decode prog_7_method_26_code 192 = .ok (.return_, 1) := jx_dec c_M_findOrder_ok 108 rfl
def c_M_tryOrder : List (Nat × Instr × Nat) := [(0, .aload_n 0, 1), (1, .iload_n 1, 1), (2, .invokevirtual 124, 3), (5, .istore_n 3, 1), (6, .aload_n 0, 1), (7, .getfield 25, 3), (10, .iload_n 1, 1), (11, .iaload, 1), (12, .istore 4, 2), (14, .iconst 0, 1), (15, .istore 5, 2), (17, .iconst 0, 1), (18, .istore 6, 2), (20, .iload 6, 2), (22, .iload_n 2, 1), (23, .if_icmp .ge 90, 3), (26, .aload_n 0, 1), (27, .getfield 62, 3), (30, .aload_n 0, 1), (31, .getfield 71, 3), (34, .iload 6, 2), (36, .iaload, 1), (37, .iaload, 1), (38, .istore 7, 2), (40, .aload_n 0, 1), (41, .iload_n 1, 1), (42, .iload 7, 2), (44, .iload_n 3, 1), (45, .iload 4, 2), (47, .invokevirtual 127, 3), (50, .istore 8, 2), (52, .iload 8, 2), (54, .iconst (-1), 1), (55, .if_icmp .ne 5, 3), (58, .iconst (-1), 1), (59, .ireturn, 1), (60, .aload_n 0, 1), (61, .getfield 74, 3), (64, .aload_n 0, 1), (65, .getfield 71, 3), (68, .iload 6, 2), (70, .iaload, 1), (71, .iload 8, 2), (73, .iastore, 1), (74, .iload 5, 2), (76, .aload_n 0, 1), (77, .iload 7, 2), (79, .iload 8, 2), (81, .invokevirtual 134, 3), (84, .iadd, 1), (85, .istore 5, 2), (87, .iload 8, 2), (89, .aload_n 0, 1), (90, .getfield 44, 3), (93, .iload 7, 2), (95, .iaload, 1), (96, .iadd, 1), (97, .istore_n 3, 1), (98, .aload_n 0, 1), (99, .getfield 50, 3), (102, .iload 7, 2), (104, .iaload, 1), (105, .istore 4, 2), (107, .iinc 6 1, 3), (110, .goto (-90), 3), (113, .iload 5, 2), (115, .ireturn, 1)]
theorem c_M_tryOrder_ok : (c_M_tryOrder).all (fun q => decide (decode prog_7_method_22_code q.1 = .ok q.2)) = true := by decide +kernel
theorem d_M_tryOrder_0 : decode prog_7_method_22_code 0 = .ok (.aload_n 0, 1) := jx_dec c_M_tryOrder_ok 0 rfl
theorem d_M_tryOrder_1 : decode prog_7_method_22_code 1 = .ok (.iload_n 1, 1) := jx_dec c_M_tryOrder_ok 1 rfl
theorem d_M_tryOrder_2 : decode prog_7_method_22_code 2 = .ok (.invokevirtual 124, 3) := jx_dec c_M_tryOrder_ok 2 rfl
theorem d_M_tryOrder_5 : decode prog_7_method_22_code 5 = .ok (.istore_n 3, 1) := jx_dec c_M_tryOrder_ok 3 rfl
theorem d_M_tryOrder_6 : decode prog_7_method_22_code 6 = .ok (.aload_n 0, 1) := jx_dec c_M_tryOrder_ok 4 rfl
theorem d_M_tryOrder_7 : decode prog_7_method_22_code 7 = .ok (.getfield 25, 3) := jx_dec c_M_tryOrder_ok 5 rfl
theorem d_M_tryOrder_10 : decode prog_7_method_22_code 10 = .ok (.iload_n 1, 1) := jx_dec c_M_tryOrder_ok 6 rfl
theorem d_M_tryOrder_11 : decode prog_7_method_22_code 11 = .ok (.iaload, 1) := jx_dec c_M_tryOrder_ok 7 rfl
theorem d_M_tryOrder_12 : decode prog_7_method_22_code 12 = .ok (.istore 4, 2) := jx_dec c_M_tryOrder_ok 8 rfl
theorem d_M_tryOrder_14 : decode prog_7_method_22_code 14 = .ok (.iconst 0, 1) := jx_dec c_M_tryOrder_ok 9 rfl
theorem d_M_tryOrder_15 : decode prog_7_method_22_code 15 = .ok (.istore 5, 2) := jx_dec c_M_tryOrder_ok 10 rfl
theorem d_M_tryOrder_17 : decode prog_7_method_22_code 17 = .ok (.iconst 0, 1) := jx_dec c_M_tryOrder_ok 11 rfl
theorem d_M_tryOrder_18 : decode prog_7_method_22_code 18 = .ok (.istore 6, 2) := jx_dec c_M_tryOrder_ok 12 rfl
theorem d_M_tryOrder_20 : decode prog_7_method_22_code 20 = .ok (.iload 6, 2) := jx_dec c_M_tryOrder_ok 13 rfl
theorem d_M_tryOrder_22 : decode prog_7_method_22_code 22 = .ok (.iload_n 2, 1) := jx_dec c_M_tryOrder_ok 14 rfl
theorem d_M_tryOrder_23 : decode prog_7_method_22_code 23 = .ok (.if_icmp .ge 90, 3) := jx_dec c_M_tryOrder_ok 15 rfl
theorem d_M_tryOrder_26 : decode prog_7_method_22_code 26 = .ok (.aload_n 0, 1) := jx_dec c_M_tryOrder_ok 16 rfl
theorem d_M_tryOrder_27 : decode prog_7_method_22_code 27 = .ok (.getfield 62, 3) := jx_dec c_M_tryOrder_ok 17 rfl
theorem d_M_tryOrder_30 : decode prog_7_method_22_code 30 = .ok (.aload_n 0, 1) := jx_dec c_M_tryOrder_ok 18 rfl
theorem d_M_tryOrder_31 : decode prog_7_method_22_code 31 = .ok (.getfield 71, 3) := jx_dec c_M_tryOrder_ok 19 rfl
theorem d_M_tryOrder_34 : decode prog_7_method_22_code 34 = .ok (.iload 6, 2) := jx_dec c_M_tryOrder_ok 20 rfl
theorem d_M_tryOrder_36 : decode prog_7_method_22_code 36 = .ok (.iaload, 1) := jx_dec c_M_tryOrder_ok 21 rfl
theorem d_M_tryOrder_37 : decode prog_7_method_22_code 37 = .ok (.iaload, 1) := jx_dec c_M_tryOrder_ok 22 rfl
theorem d_M_tryOrder_38 : decode prog_7_method_22_code 38 = .ok (.istore 7, 2) := jx_dec c_M_tryOrder_ok 23 rfl
theorem d_M_tryOrder_40 : decode prog_7_method_22_code 40 = .ok (.aload_n 0, 1) := jx_dec c_M_tryOrder_ok 24 rfl
theorem d_M_tryOrder_41 : decode prog_7_method_22_code 41 = .ok (.iload_n 1, 1) := jx_dec c_M_tryOrder_ok 25 rfl
theorem d_M_tryOrder_42 : decode prog_7_method_22_code 42 = .ok (.iload 7, 2) := jx_dec c_M_tryOrder_ok 26 rfl
theorem d_M_tryOrder_44 : decode prog_7_method_22_code 44 = .ok (.iload_n 3, 1) := jx_dec c_M_tryOrder_ok 27 rfl
theorem d_M_tryOrder_45 : decode prog_7_method_22_code 45 = .ok (.iload 4, 2) := jx_dec c_M_tryOrder_ok 28 rfl
theorem d_M_tryOrder_47 : decode prog_7_method_22_code 47 = .ok (.invokevirtual 127, 3) := jx_dec c_M_tryOrder_ok 29 rfl
theorem d_M_tryOrder_50 : decode prog_7_method_22_code 50 = .ok (.istore 8, 2) := jx_dec c_M_tryOrder_ok 30 rfl
theorem d_M_tryOrder_52 : decode prog_7_method_22_code 52 = .ok (.iload 8, 2) := jx_dec c_M_tryOrder_ok 31 rfl
theorem d_M_tryOrder_54 : decode prog_7_method_22_code 54 = .ok (.iconst (-1), 1) := jx_dec c_M_tryOrder_ok 32 rfl
theorem d_M_tryOrder_55 : decode prog_7_method_22_code 55 = .ok (.if_icmp .ne 5, 3) := jx_dec c_M_tryOrder_ok 33 rfl
theorem d_M_tryOrder_58 : decode prog_7_method_22_code 58 = .ok (.iconst (-1), 1) := jx_dec c_M_tryOrder_ok 34 rfl
theorem d_M_tryOrder_59 : decode prog_7_method_22_code 59 = .ok (.ireturn, 1) := jx_dec c_M_tryOrder_ok 35 rfl
theorem d_M_tryOrder_60 : decode prog_7_method_22_code 60 = .ok (.aload_n 0, 1) := jx_dec c_M_tryOrder_ok 36 rfl
theorem d_M_tryOrder_61 : decode prog_7_method_22_code 61 = .ok (.getfield 74, 3) := jx_dec c_M_tryOrder_ok 37 rfl
theorem d_M_tryOrder_64 : decode prog_7_method_22_code 64 = .ok (.aload_n 0, 1) := jx_dec c_M_tryOrder_ok 38 rfl
theorem d_M_tryOrder_65 : decode prog_7_method_22_code 65 = .ok (.getfield 71, 3) := jx_dec c_M_tryOrder_ok 39 rfl
theorem d_M_tryOrder_68 : decode prog_7_method_22_code 68 = .ok (.iload 6, 2) := jx_dec c_M_tryOrder_ok 40 rfl
theorem d_M_tryOrder_70 : decode prog_7_method_22_code 70 = .ok (.iaload, 1) := jx_dec c_M_tryOrder_ok 41 rfl
theorem d_M_tryOrder_71 : decode prog_7_method_22_code 71 = .ok (.iload 8, 2) := jx_dec c_M_tryOrder_ok 42 rfl
theorem d_M_tryOrder_73 : decode prog_7_method_22_code 73 = .ok (.iastore, 1) := jx_dec c_M_tryOrder_ok 43 rfl
theorem d_M_tryOrder_74 : decode prog_7_method_22_code 74 = .ok (.iload 5, 2) := jx_dec c_M_tryOrder_ok 44 rfl
theorem d_M_tryOrder_76 : decode prog_7_method_22_code 76 = .ok (.aload_n 0, 1) := jx_dec c_M_tryOrder_ok 45 rfl
theorem d_M_tryOrder_77 : decode prog_7_method_22_code 77 = .ok (.iload 7, 2) := jx_dec c_M_tryOrder_ok 46 rfl
theorem d_M_tryOrder_79 : decode prog_7_method_22_code 79 = .ok (.iload 8, 2) := jx_dec c_M_tryOrder_ok 47 rfl
theorem d_M_tryOrder_81 : decode prog_7_method_22_code 81 = .ok (.invokevirtual 134, 3) := jx_dec c_M_tryOrder_ok 48 rfl
theorem d_M_tryOrder_84 : decode prog_7_method_22_code 84 = .ok (.iadd, 1) := jx_dec c_M_tryOrder_ok 49 rfl
theorem d_M_tryOrder_85 : decode prog_7_method_22_code 85 = .ok (.istore 5, 2) := jx_dec c_M_tryOrder_ok 50 rfl
theorem d_M_tryOrder_87 : decode prog_7_method_22_code 87 = .ok (.iload 8, 2) := jx_dec c_M_tryOrder_ok 51 rfl
theorem d_M_tryOrder_89 : decode prog_7_method_22_code 89 = .ok (.aload_n 0, 1) := jx_dec c_M_tryOrder_ok 52 rfl
theorem d_M_tryOrder_90 : decode prog_7_method_22_code 90 = .ok (.getfield 44, 3) := jx_dec c_M_tryOrder_ok 53 rfl
theorem d_M_tryOrder_93 : decode prog_7_method_22_code 93 = .ok (.iload 7, 2) := jx_dec c_M_tryOrder_ok 54 rfl
theorem d_M_tryOrder_95 : decode prog_7_method_22_code 95 = .ok (.iaload, 1) := jx_dec c_M_tryOrder_ok 55 rfl
theorem d_M_tryOrder_96 : decode prog_7_method_22_code 96 = .ok (.iadd, 1) := jx_dec c_M_tryOrder_ok 56 rfl
theorem d_M_tryOrder_97 : decode prog_7_method_22_code 97 = .ok (.istore_n 3, 1) := jx_dec c_M_tryOrder_ok 57 rfl
theorem d_M_tryOrder_98 : decode prog_7_method_22_code 98 = .ok (.aload_n 0, 1) := jx_dec c_M_tryOrder_ok 58 rfl
theorem d_M_tryOrder_99 : decode prog_7_method_22_code 99 = .ok (.getfield 50, 3) := jx_dec c_M_tryOrder_ok 59 rfl
theorem d_M_tryOrder_102 : decode prog_7_method_22_code 102 = .ok (.iload 7, 2) := jx_dec c_M_tryOrder_ok 60 rfl
theorem d_M_tryOrder_104 : decode prog_7_method_22_code 104 = .ok (.iaload, 1) := jx_dec c_M_tryOrder_ok 61 rfl
theorem d_M_tryOrder_105 : decode prog_7_method_22_code 105 = .ok (.istore 4, 2) := jx_dec c_M_tryOrder_ok 62 rfl
theorem d_M_tryOrder_107 : decode prog_7_method_22_code 107 = .ok (.iinc 6 1, 3) := jx_dec c_M_tryOrder_ok 63 rfl
theorem d_M_tryOrder_110 : decode prog_7_method_22_code 110 = .ok (.goto (-90), 3) := jx_dec c_M_tryOrder_ok 64 rfl
theorem d_M_tryOrder_113 : decode prog_7_method_22_code 113 = .ok (.iload 5, 2) := jx_dec c_M_tryOrder_ok 65 rfl
theorem d_M_tryOrder_115 : decode prog_7_method_22_code 115 = .ok (.ireturn, 1) := jx_dec c_M_tryOrder_ok 66 rfl
def c_M_startsAreLess : List (Nat × Instr × Nat) := [(0, .iconst 0, 1), (1, .istore_n 3, 1), (2, .iload_n 3, 1), (3, .aload_n 0, 1), (4, .getfield 141, 3), (7, .if_icmp .ge 62, 3), (10, .iload_n 2, 1), (11, .iload_n 3, 1), (12, .ishr, 1), (13, .iconst 1, 1), (14, .iand, 1), (15, .iconst 1, 1), (16, .if_icmp .ne 47, 3), (19, .aload_n 0, 1), (20, .getfield 74, 3), (23, .iload_n 3, 1), (24, .iaload, 1), (25, .aload_n 0, 1), (26, .getfield 68, 3), (29, .iconst 5, 1), (30, .iload_n 1, 1), (31, .imul, 1), (32, .iload_n 3, 1), (33, .iadd, 1), (34, .iaload, 1), (35, .if_icmp .eq 28, 3), (38, .aload_n 0, 1), (39, .getfield 74, 3), (42, .iload_n 3, 1), (43, .iaload, 1), (44, .aload_n 0, 1), (45, .getfield 68, 3), (48, .iconst 5, 1), (49, .iload_n 1, 1), (50, .imul, 1), (51, .iload_n 3, 1), (52, .iadd, 1), (53, .iaload, 1), (54, .if_icmp .ge 7, 3), (57, .iconst 1, 1), (58, .goto 4, 3), (61, .iconst 0, 1), (62, .ireturn, 1), (63, .iinc 3 1, 3), (66, .goto (-64), 3), (69, .iconst 0, 1), (70, .ireturn, 1)]
theorem c_M_startsAreLess_ok : (c_M_startsAreLess).all (fun q => decide (decode prog_7_method_25_code q.1 = .ok q.2)) = true := by decide +kernel
theorem d_M_startsAreLess_0 : decode prog_7_method_25_code 0 = .ok (.iconst 0, 1) := jx_dec c_M_startsAreLess_ok 0 rfl
theorem d_M_startsAreLess_1 : decode prog_7_method_25_code 1 = .ok (.istore_n 3, 1) := jx_dec c_M_startsAreLess_ok 1 rfl
theorem d_M_startsAreLess_2 : decode prog_7_method_25_code 2 = .ok (.iload_n 3, 1) := jx_dec c_M_startsAreLess_ok 2 rfl
theorem d_M_startsAreLess_3 : decode prog_7_method_25_code 3 = .ok (.aload_n 0, 1) := jx_dec c_M_startsAreLess_ok 3 rfl
theorem d_M_startsAreLess_4 : decode prog_7_method_25_code 4 = .ok (.getfield 141, 3) := jx_dec c_M_startsAreLess_ok 4 rfl
theorem d_M_startsAreLess_7 : decode prog_7_method_25_code 7 = .ok (.if_icmp .ge 62, 3) := jx_dec c_M_startsAreLess_ok 5 rfl
theorem d_M_startsAreLess_10 : decode prog_7_method_25_code 10 = .ok (.iload_n 2, 1) := jx_dec c_M_startsAreLess_ok 6 rfl
theorem d_M_startsAreLess_11 : decode prog_7_method_25_code 11 = .ok (.iload_n 3, 1) := jx_dec c_M_startsAreLess_ok 7 rfl
theorem d_M_startsAreLess_12 : decode prog_7_method_25_code 12 = .ok (.ishr, 1) := jx_dec c_M_startsAreLess_ok 8 rfl
theorem d_M_startsAreLess_13 : decode prog_7_method_25_code 13 = .ok (.iconst 1, 1) := jx_dec c_M_startsAreLess_ok 9 rfl
theorem d_M_startsAreLess_14 : decode prog_7_method_25_code 14 = .ok (.iand, 1) := jx_dec c_M_startsAreLess_ok 10 rfl
theorem d_M_startsAreLess_15 : decode prog_7_method_25_code 15 = .ok (.iconst 1, 1) := jx_dec c_M_startsAreLess_ok 11 rfl
theorem d_M_startsAreLess_16 : decode prog_7_method_25_code 16 = .ok (.if_icmp .ne 47, 3) := jx_dec c_M_startsAreLess_ok 12 rfl
theorem d_M_startsAreLess_19 : decode prog_7_method_25_code 19 = .ok (.aload_n 0, 1) := jx_dec c_M_startsAreLess_ok 13 rfl
theorem d_M_startsAreLess_20 : decode prog_7_method_25_code 20 = .ok (.getfield 74, 3) := jx_dec c_M_startsAreLess_ok 14 rfl
theorem d_M_startsAreLess_23 : decode prog_7_method_25_code 23 = .ok (.iload_n 3, 1) := jx_dec c_M_startsAreLess_ok 15 rfl
theorem d_M_startsAreLess_24 : decode prog_7_method_25_code 24 = .ok (.iaload, 1) := jx_dec c_M_startsAreLess_ok 16 rfl
theorem d_M_startsAreLess_25 : decode prog_7_method_25_code 25 = .ok (.aload_n 0, 1) := jx_dec c_M_startsAreLess_ok 17 rfl
theorem d_M_startsAreLess_26 : decode prog_7_method_25_code 26 = .ok (.getfield 68, 3) := jx_dec c_M_startsAreLess_ok 18 rfl
theorem d_M_startsAreLess_29 : decode prog_7_method_25_code 29 = .ok (.iconst 5, 1) := jx_dec c_M_startsAreLess_ok 19 rfl
theorem d_M_startsAreLess_30 : decode prog_7_method_25_code 30 = .ok (.iload_n 1, 1) := jx_dec c_M_startsAreLess_ok 20 rfl
theorem d_M_startsAreLess_31 : decode prog_7_method_25_code 31 = .ok (.imul, 1) := jx_dec c_M_startsAreLess_ok 21 rfl
theorem d_M_startsAreLess_32 : decode prog_7_method_25_code 32 = .ok (.iload_n 3, 1) := jx_dec c_M_startsAreLess_ok 22 rfl
theorem d_M_startsAreLess_33 : decode prog_7_method_25_code 33 = .ok (.iadd, 1) := jx_dec c_M_startsAreLess_ok 23 rfl
theorem d_M_startsAreLess_34 : decode prog_7_method_25_code 34 = .ok (.iaload, 1) := jx_dec c_M_startsAreLess_ok 24 rfl
theorem d_M_startsAreLess_35 : decode prog_7_method_25_code 35 = .ok (.if_icmp .eq 28, 3) := jx_dec c_M_startsAreLess_ok 25 rfl
theorem d_M_startsAreLess_38 : decode prog_7_method_25_code 38 = .ok (.aload_n 0, 1) := jx_dec c_M_startsAreLess_ok 26 rfl
theorem d_M_startsAreLess_39 : decode prog_7_method_25_code 39 = .ok (.getfield 74, 3) := jx_dec c_M_startsAreLess_ok 27 rfl
theorem d_M_startsAreLess_42 : decode prog_7_method_25_code 42 = .ok (.iload_n 3, 1) := jx_dec c_M_startsAreLess_ok 28 rfl
theorem d_M_startsAreLess_43 : decode prog_7_method_25_code 43 = .ok (.iaload, 1) := jx_dec c_M_startsAreLess_ok 29 rfl
theorem d_M_startsAreLess_44 : decode prog_7_method_25_code 44 = .ok (.aload_n 0, 1) := jx_dec c_M_startsAreLess_ok 30 rfl
theorem d_M_startsAreLess_45 : decode prog_7_method_25_code 45 = .ok (.getfield 68, 3) := jx_dec c_M_startsAreLess_ok 31 rfl
theorem d_M_startsAreLess_48 : decode prog_7_method_25_code 48 = .ok (.iconst 5, 1) := jx_dec c_M_startsAreLess_ok 32 rfl
theorem d_M_startsAreLess_49 : decode prog_7_method_25_code 49 = .ok (.iload_n 1, 1) := jx_dec c_M_startsAreLess_ok 33 rfl
theorem d_M_startsAreLess_50 : decode prog_7_method_25_code 50 = .ok (.imul, 1) := jx_dec c_M_startsAreLess_ok 34 rfl
theorem d_M_startsAreLess_51 : decode prog_7_method_25_code 51 = .ok (.iload_n 3, 1) := jx_dec c_M_startsAreLess_ok 35 rfl
theorem d_M_startsAreLess_52 : decode prog_7_method_25_code 52 = .ok (.iadd, 1) := jx_dec c_M_startsAreLess_ok 36 rfl
theorem d_M_startsAreLess_53 : decode prog_7_method_25_code 53 = .ok (.iaload, 1) := jx_dec c_M_startsAreLess_ok 37 rfl
theorem d_M_startsAreLess_54 : decode prog_7_method_25_code 54 = .ok (.if_icmp .ge 7, 3) := jx_dec c_M_startsAreLess_ok 38 rfl
theorem d_M_startsAreLess_57 : decode prog_7_method_25_code 57 = .ok (.iconst 1, 1) := jx_dec c_M_startsAreLess_ok 39 rfl
theorem d_M_startsAreLess_58 : decode prog_7_method_25_code 58 = .ok (.goto 4, 3) := jx_dec c_M_startsAreLess_ok 40 rfl
theorem d_M_startsAreLess_61 : decode prog_7_method_25_code 61 = .ok (.iconst 0, 1) := jx_dec c_M_startsAreLess_ok 41 rfl
theorem d_M_startsAreLess_62 : decode prog_7_method_25_code 62 = .ok (.ireturn, 1) := jx_dec c_M_startsAreLess_ok 42 rfl
theorem d_M_startsAreLess_63 : decode prog_7_method_25_code 63 = .ok (.iinc 3 1, 3) := jx_dec c_M_startsAreLess_ok 43 rfl
theorem d_M_startsAreLess_66 : decode prog_7_method_25_code 66 = .ok (.goto (-64), 3) := jx_dec c_M_startsAreLess_ok 44 rfl
theorem d_M_startsAreLess_69 : decode prog_7_method_25_code 69 = .ok (.iconst 0, 1) := jx_dec c_M_startsAreLess_ok 45 rfl
theorem d_M_startsAreLess_70 : decode prog_7_method_25_code 70 = .ok (.ireturn, 1) := jx_dec c_M_startsAreLess_ok 46 rfl
def c_M_nextOrder : List (Nat × Instr × Nat) := [(0, .iload_n 1, 1), (1, .iconst 2, 1), (2, .isub, 1), (3, .istore_n 2, 1), (4, .iload_n 2, 1), (5, .ifCond .lt 26, 3), (8, .aload_n 0, 1), (9, .getfield 71, 3), (12, .iload_n 2, 1), (13, .iaload, 1), (14, .aload_n 0, 1), (15, .getfield 71, 3), (18, .iload_n 2, 1), (19, .iconst 1, 1), (20, .iadd, 1), (21, .iaload, 1), (22, .if_icmp .le 9, 3), (25, .iinc 2 (-1), 3), (28, .goto (-24), 3), (31, .iload_n 2, 1), (32, .ifCond .ge 5, 3), (35, .iconst 0, 1), (36, .ireturn, 1), (37, .iload_n 1, 1), (38, .iconst 1, 1), (39, .isub, 1), (40, .istore_n 3, 1), (41, .aload_n 0, 1), (42, .getfield 71, 3), (45, .iload_n 3, 1), (46, .iaload, 1), (47, .aload_n 0, 1), (48, .getfield 71, 3), (51, .iload_n 2, 1), (52, .iaload, 1), (53, .if_icmp .ge 9, 3), (56, .iinc 3 (-1), 3), (59, .goto (-18), 3), (62, .aload_n 0, 1), (63, .iload_n 2, 1), (64, .iload_n 3, 1), (65, .invokevirtual 137, 3), (68, .iload_n 2, 1), (69, .iconst 1, 1), (70, .iadd, 1), (71, .istore 4, 2), (73, .iload_n 1, 1), (74, .iconst 1, 1), (75, .isub, 1), (76, .istore 5, 2), (78, .iload 4, 2), (80, .iload 5, 2), (82, .if_icmp .ge 20, 3), (85, .aload_n 0, 1), (86, .iload 4, 2), (88, .iload 5, 2), (90, .invokevirtual 137, 3), (93, .iinc 4 1, 3), (96, .iinc 5 (-1), 3), (99, .goto (-21), 3), (102, .iconst 1, 1), (103, .ireturn, 1)]
theorem c_M_nextOrder_ok : (c_M_nextOrder).all (fun q => decide (decode prog_7_method_23_code q.1 = .ok q.2)) = true := by decide +kernel
theorem d_M_nextOrder_0 : decode prog_7_method_23_code 0 = .ok (.iload_n 1, 1) := jx_dec c_M_nextOrder_ok 0 rfl
theorem d_M_nextOrder_1 : decode prog_7_method_23_code 1 = .ok (.iconst 2, 1) := jx_dec c_M_nextOrder_ok 1 rfl
theorem d_M_nextOrder_2 : decode prog_7_method_23_code 2 = .ok (.isub, 1) := jx_dec c_M_nextOrder_ok 2 rfl
theorem d_M_nextOrder_3 : decode prog_7_method_23_code 3 = .ok (.istore_n 2, 1) := jx_dec c_M_nextOrder_ok 3 rfl
theorem d_M_nextOrder_4 : decode prog_7_method_23_code 4 = .ok (.iload_n 2, 1) := jx_dec c_M_nextOrder_ok 4 rfl
theorem d_M_nextOrder_5 : decode prog_7_method_23_code 5 = .ok (.ifCond .lt 26, 3) := jx_dec c_M_nextOrder_ok 5 rfl
theorem d_M_nextOrder_8 : decode prog_7_method_23_code 8 = .ok (.aload_n 0, 1) := jx_dec c_M_nextOrder_ok 6 rfl
theorem d_M_nextOrder_9 : decode prog_7_method_23_code 9 = .ok (.getfield 71, 3) := jx_dec c_M_nextOrder_ok 7 rfl
theorem d_M_nextOrder_12 : decode prog_7_method_23_code 12 = .ok (.iload_n 2, 1) := jx_dec c_M_nextOrder_ok 8 rfl
theorem d_M_nextOrder_13 : decode prog_7_method_23_code 13 = .ok (.iaload, 1) := jx_dec c_M_nextOrder_ok 9 rfl
theorem d_M_nextOrder_14 : decode prog_7_method_23_code 14 = .ok (.aload_n 0, 1) := jx_dec c_M_nextOrder_ok 10 rfl
theorem d_M_nextOrder_15 : decode prog_7_method_23_code 15 = .ok (.getfield 71, 3) := jx_dec c_M_nextOrder_ok 11 rfl
theorem d_M_nextOrder_18 : decode prog_7_method_23_code 18 = .ok (.iload_n 2, 1) := jx_dec c_M_nextOrder_ok 12 rfl
theorem d_M_nextOrder_19 : decode prog_7_method_23_code 19 = .ok (.iconst 1, 1) := jx_dec c_M_nextOrder_ok 13 rfl
theorem d_M_nextOrder_20 : decode prog_7_method_23_code 20 = .ok (.iadd, 1) := jx_dec c_M_nextOrder_ok 14 rfl
theorem d_M_nextOrder_21 : decode prog_7_method_23_code 21 = .ok (.iaload, 1) := jx_dec c_M_nextOrder_ok 15 rfl
theorem d_M_nextOrder_22 : decode prog_7_method_23_code 22 = .ok (.if_icmp .le 9, 3) := jx_dec c_M_nextOrder_ok 16 rfl
theorem d_M_nextOrder_25 : decode prog_7_method_23_code 25 = .ok (.iinc 2 (-1), 3) := jx_dec c_M_nextOrder_ok 17 rfl
theorem d_M_nextOrder_28 : decode prog_7_method_23_code 28 = .ok (.goto (-24), 3) := jx_dec c_M_nextOrder_ok 18 rfl
theorem d_M_nextOrder_31 : decode prog_7_method_23_code 31 = .ok (.iload_n 2, 1) := jx_dec c_M_nextOrder_ok 19 rfl
theorem d_M_nextOrder_32 : decode prog_7_method_23_code 32 = .ok (.ifCond .ge 5, 3) := jx_dec c_M_nextOrder_ok 20 rfl
theorem d_M_nextOrder_35 : decode prog_7_method_23_code 35 = .ok (.iconst 0, 1) := jx_dec c_M_nextOrder_ok 21 rfl
theorem d_M_nextOrder_36 : decode prog_7_method_23_code 36 = .ok (.ireturn, 1) := jx_dec c_M_nextOrder_ok 22 rfl
theorem d_M_nextOrder_37 : decode prog_7_method_23_code 37 = .ok (.iload_n 1, 1) := jx_dec c_M_nextOrder_ok 23 rfl
theorem d_M_nextOrder_38 : decode prog_7_method_23_code 38 = .ok (.iconst 1, 1) := jx_dec c_M_nextOrder_ok 24 rfl
theorem d_M_nextOrder_39 : decode prog_7_method_23_code 39 = .ok (.isub, 1) := jx_dec c_M_nextOrder_ok 25 rfl
theorem d_M_nextOrder_40 : decode prog_7_method_23_code 40 = .ok (.istore_n 3, 1) := jx_dec c_M_nextOrder_ok 26 rfl
theorem d_M_nextOrder_41 : decode prog_7_method_23_code 41 = .ok (.aload_n 0, 1) := jx_dec c_M_nextOrder_ok 27 rfl
theorem d_M_nextOrder_42 : decode prog_7_method_23_code 42 = .ok (.getfield 71, 3) := jx_dec c_M_nextOrder_ok 28 rfl
theorem d_M_nextOrder_45 : decode prog_7_method_23_code 45 = .ok (.iload_n 3, 1) := jx_dec c_M_nextOrder_ok 29 rfl
theorem d_M_nextOrder_46 : decode prog_7_method_23_code 46 = .ok (.iaload, 1) := jx_dec c_M_nextOrder_ok 30 rfl
theorem d_M_nextOrder_47 : decode prog_7_method_23_code 47 = .ok (.aload_n 0, 1) := jx_dec c_M_nextOrder_ok 31 rfl
theorem d_M_nextOrder_48 : decode prog_7_method_23_code 48 = .ok (.getfield 71, 3) := jx_dec c_M_nextOrder_ok 32 rfl
theorem d_M_nextOrder_51 : decode prog_7_method_23_code 51 = .ok (.iload_n 2, 1) := jx_dec c_M_nextOrder_ok 33 rfl
theorem d_M_nextOrder_52 : decode prog_7_method_23_code 52 = .ok (.iaload, 1) := jx_dec c_M_nextOrder_ok 34 rfl
theorem d_M_nextOrder_53 : decode prog_7_method_23_code 53 = .ok (.if_icmp .ge 9, 3) := jx_dec c_M_nextOrder_ok 35 rfl
theorem d_M_nextOrder_56 : decode prog_7_method_23_code 56 = .ok (.iinc 3 (-1), 3) := jx_dec c_M_nextOrder_ok 36 rfl
theorem d_M_nextOrder_59 : decode prog_7_method_23_code 59 = .ok (.goto (-18), 3) := jx_dec c_M_nextOrder_ok 37 rfl
theorem d_M_nextOrder_62 : decode prog_7_method_23_code 62 = .ok (.aload_n 0, 1) := jx_dec c_M_nextOrder_ok 38 rfl
theorem d_M_nextOrder_63 : decode prog_7_method_23_code 63 = .ok (.iload_n 2, 1) := jx_dec c_M_nextOrder_ok 39 rfl
theorem d_M_nextOrder_64 : decode prog_7_method_23_code 64 = .ok (.iload_n 3, 1) := jx_dec c_M_nextOrder_ok 40 rfl
theorem d_M_nextOrder_65 : decode prog_7_method_23_code 65 = .ok (.invokevirtual 137, 3) := jx_dec c_M_nextOrder_ok 41 rfl
theorem d_M_nextOrder_68 : decode prog_7_method_23_code 68 = .ok (.iload_n 2, 1) := jx_dec c_M_nextOrder_ok 42 rfl
theorem d_M_nextOrder_69 : decode prog_7_method_23_code 69 = .ok (.iconst 1, 1) := jx_dec c_M_nextOrder_ok 43 rfl
theorem d_M_nextOrder_70 : decode prog_7_method_23_code 70 = .ok (.iadd, 1) := jx_dec c_M_nextOrder_ok 44 rfl
theorem d_M_nextOrder_71 : decode prog_7_method_23_code 71 = .ok (.istore 4, 2) := jx_dec c_M_nextOrder_ok 45 rfl
theorem d_M_nextOrder_73 : decode prog_7_method_23_code 73 = .ok (.iload_n 1, 1) := jx_dec c_M_nextOrder_ok 46 rfl
theorem d_M_nextOrder_74 : decode prog_7_method_23_code 74 = .ok (.iconst 1, 1) := jx_dec c_M_nextOrder_ok 47 rfl
theorem d_M_nextOrder_75 : decode prog_7_method_23_code 75 = .ok (.isub, 1) := jx_dec c_M_nextOrder_ok 48 rfl
theorem d_M_nextOrder_76 : decode prog_7_method_23_code 76 = .ok (.istore 5, 2) := jx_dec c_M_nextOrder_ok 49 rfl
theorem d_M_nextOrder_78 : decode prog_7_method_23_code 78 = .ok (.iload 4, 2) := jx_dec c_M_nextOrder_ok 50 rfl
theorem d_M_nextOrder_80 : decode prog_7_method_23_code 80 = .ok (.iload 5, 2) := jx_dec c_M_nextOrder_ok 51 rfl
theorem d_M_nextOrder_82 : decode prog_7_method_23_code 82 = .ok (.if_icmp .ge 20, 3) := jx_dec c_M_nextOrder_ok 52 rfl
theorem d_M_nextOrder_85 : decode prog_7_method_23_code 85 = .ok (.aload_n 0, 1) := jx_dec c_M_nextOrder_ok 53 rfl
theorem d_M_nextOrder_86 : decode prog_7_method_23_code 86 = .ok (.iload 4, 2) := jx_dec c_M_nextOrder_ok 54 rfl
theorem d_M_nextOrder_88 : decode prog_7_method_23_code 88 = .ok (.iload 5, 2) := jx_dec c_M_nextOrder_ok 55 rfl
theorem d_M_nextOrder_90 : decode prog_7_method_23_code 90 = .ok (.invokevirtual 137, 3) := jx_dec c_M_nextOrder_ok 56 rfl
theorem d_M_nextOrder_93 : decode prog_7_method_23_code 93 = .ok (.iinc 4 1, 3) := jx_dec c_M_nextOrder_ok 57 rfl
theorem d_M_nextOrder_96 : decode prog_7_method_23_code 96 = .ok (.iinc 5 (-1), 3) := jx_dec c_M_nextOrder_ok 58 rfl
theorem d_M_nextOrder_99 : decode prog_7_method_23_code 99 = .ok (.goto (-21), 3) := jx_dec c_M_nextOrder_ok 59 rfl
theorem d_M_nextOrder_102 : decode prog_7_method_23_code 102 = .ok (.iconst 1, 1) := jx_dec c_M_nextOrder_ok 60 rfl
theorem d_M_nextOrder_103 : decode prog_7_method_23_code 103 = .ok (.ireturn, 1) := jx_dec c_M_nextOrder_ok 61 rfl
def c_M_swap : List (Nat × Instr × Nat) := [(0, .aload_n 0, 1), (1, .getfield 71, 3), (4, .iload_n 1, 1), (5, .iaload, 1), (6, .istore_n 3, 1), (7, .aload_n 0, 1), (8, .getfield 71, 3), (11, .iload_n 1, 1), (12, .aload_n 0, 1), (13, .getfield 71, 3), (16, .iload_n 2, 1), (17, .iaload, 1), (18, .iastore, 1), (19, .aload_n 0, 1), (20, .getfield 71, 3), (23, .iload_n 2, 1), (24, .iload_n 3, 1), (25, .iastore, 1), (26, .return_, 1)]
theorem c_M_swap_ok : (c_M_swap).all (fun q => decide (decode prog_7_method_24_code q.1 = .ok q.2)) = true := by decide +kernel
theorem d_M_swap_0 : decode prog_7_method_24_code 0 = .ok (.aload_n 0, 1) := jx_dec c_M_swap_ok 0 rfl
theorem d_M_swap_1 : decode prog_7_method_24_code 1 = .ok (.getfield 71, 3) := jx_dec c_M_swap_ok 1 rfl
theorem d_M_swap_4 : decode prog_7_method_24_code 4 = .ok (.iload_n 1, 1) := jx_dec c_M_swap_ok 2 rfl
theorem d_M_swap_5 : decode prog_7_method_24_code 5 = .ok (.iaload, 1) := jx_dec c_M_swap_ok 3 rfl
theorem d_M_swap_6 : decode prog_7_method_24_code 6 = .ok (.istore_n 3, 1) := jx_dec c_M_swap_ok 4 rfl
theorem d_M_swap_7 : decode prog_7_method_24_code 7 = .ok (.aload_n 0, 1) := jx_dec c_M_swap_ok 5 rfl
theorem d_M_swap_8 : decode prog_7_method_24_code 8 = .ok (.getfield 71, 3) := jx_dec c_M_swap_ok 6 rfl
theorem d_M_swap_11 : decode prog_7_method_24_code 11 = .ok (.iload_n 1, 1) := jx_dec c_M_swap_ok 7 rfl
theorem d_M_swap_12 : decode prog_7_method_24_code 12 = .ok (.aload_n 0, 1) := jx_dec c_M_swap_ok 8 rfl
theorem d_M_swap_13 : decode prog_7_method_24_code 13 = .ok (.getfield 71, 3) := jx_dec c_M_swap_ok 9 rfl
theorem d_M_swap_16 : decode prog_7_method_24_code 16 = .ok (.iload_n 2, 1) := jx_dec c_M_swap_ok 10 rfl
theorem d_M_swap_17 : decode prog_7_method_24_code 17 = .ok (.iaload, 1) := jx_dec c_M_swap_ok 11 rfl
theorem d_M_swap_18 : decode prog_7_method_24_code 18 = .ok (.iastore, 1) := jx_dec c_M_swap_ok 12 rfl
theorem d_M_swap_19 : decode prog_7_method_24_code 19 = .ok (.aload_n 0, 1) := jx_dec c_M_swap_ok 13 rfl
theorem d_M_swap_20 : decode prog_7_method_24_code 20 = .ok (.getfield 71, 3) := jx_dec c_M_swap_ok 14 rfl
theorem d_M_swap_23 : decode prog_7_method_24_code 23 = .ok (.iload_n 2, 1) := jx_dec c_M_swap_ok 15 rfl
theorem d_M_swap_24 : decode prog_7_method_24_code 24 = .ok (.iload_n 3, 1) := jx_dec c_M_swap_ok 16 rfl
theorem d_M_swap_25 : decode prog_7_method_24_code 25 = .ok (.iastore, 1) := jx_dec c_M_swap_ok 17 rfl
theorem d_M_swap_26 : decode prog_7_method_24_code 26 = .ok (.return_, 1) := jx_dec c_M_swap_ok 18 rfl
def c_M_costOf : List (Nat × Instr × Nat) := [(0, .iconst 0, 1), (1, .istore_n 1, 1), (2, .iconst 0, 1), (3, .istore_n 2, 1), (4, .iload_n 2, 1), (5, .aload_n 0, 1), (6, .getfield 141, 3), (9, .if_icmp .ge 27, 3), (12, .aload_n 0, 1), (13, .getfield 77, 3), (16, .iload_n 2, 1), (17, .iaload, 1), (18, .aload_n 0, 1), (19, .getfield 87, 3), (22, .if_icmp .ne 8, 3), (25, .iload_n 1, 1), (26, .ldc 97, 2), (28, .iadd, 1), (29, .istore_n 1, 1), (30, .iinc 2 1, 3), (33, .goto (-29), 3), (36, .iconst 0, 1), (37, .istore_n 2, 1), (38, .iload_n 2, 1), (39, .aload_n 0, 1), (40, .getfield 87, 3), (43, .if_icmp .ge 36, 3), (46, .aload_n 0, 1), (47, .getfield 65, 3), (50, .bipush 32, 2), (52, .iload_n 2, 1), (53, .imul, 1), (54, .aload_n 0, 1), (55, .iload_n 2, 1), (56, .invokevirtual 156, 3), (59, .iadd, 1), (60, .iaload, 1), (61, .istore_n 3, 1), (62, .iload_n 3, 1), (63, .iconst (-1), 1), (64, .if_icmp .ne 5, 3), (67, .iconst (-1), 1), (68, .ireturn, 1), (69, .iload_n 1, 1), (70, .iload_n 3, 1), (71, .iadd, 1), (72, .istore_n 1, 1), (73, .iinc 2 1, 3), (76, .goto (-38), 3), (79, .iload_n 1, 1), (80, .ireturn, 1)]
theorem c_M_costOf_ok : (c_M_costOf).all (fun q => decide (decode prog_7_method_28_code q.1 = .ok q.2)) = true := by decide +kernel
theorem d_M_costOf_0 : decode prog_7_method_28_code 0 = .ok (.iconst 0, 1) := jx_dec c_M_costOf_ok 0 rfl
theorem d_M_costOf_1 : decode prog_7_method_28_code 1 = .ok (.istore_n 1, 1) := jx_dec c_M_costOf_ok 1 rfl
theorem d_M_costOf_2 : decode prog_7_method_28_code 2 = .ok (.iconst 0, 1) := jx_dec c_M_costOf_ok 2 rfl
theorem d_M_costOf_3 : decode prog_7_method_28_code 3 = .ok (.istore_n 2, 1) := jx_dec c_M_costOf_ok 3 rfl
theorem d_M_costOf_4 : decode prog_7_method_28_code 4 = .ok (.iload_n 2, 1) := jx_dec c_M_costOf_ok 4 rfl
theorem d_M_costOf_5 : decode prog_7_method_28_code 5 = .ok (.aload_n 0, 1) := jx_dec c_M_costOf_ok 5 rfl
theorem d_M_costOf_6 : decode prog_7_method_28_code 6 = .ok (.getfield 141, 3) := jx_dec c_M_costOf_ok 6 rfl
theorem d_M_costOf_9 : decode prog_7_method_28_code 9 = .ok (.if_icmp .ge 27, 3) := jx_dec c_M_costOf_ok 7 rfl
theorem d_M_costOf_12 : decode prog_7_method_28_code 12 = .ok (.aload_n 0, 1) := jx_dec c_M_costOf_ok 8 rfl
theorem d_M_costOf_13 : decode prog_7_method_28_code 13 = .ok (.getfield 77, 3) := jx_dec c_M_costOf_ok 9 rfl
theorem d_M_costOf_16 : decode prog_7_method_28_code 16 = .ok (.iload_n 2, 1) := jx_dec c_M_costOf_ok 10 rfl
theorem d_M_costOf_17 : decode prog_7_method_28_code 17 = .ok (.iaload, 1) := jx_dec c_M_costOf_ok 11 rfl
theorem d_M_costOf_18 : decode prog_7_method_28_code 18 = .ok (.aload_n 0, 1) := jx_dec c_M_costOf_ok 12 rfl
theorem d_M_costOf_19 : decode prog_7_method_28_code 19 = .ok (.getfield 87, 3) := jx_dec c_M_costOf_ok 13 rfl
theorem d_M_costOf_22 : decode prog_7_method_28_code 22 = .ok (.if_icmp .ne 8, 3) := jx_dec c_M_costOf_ok 14 rfl
theorem d_M_costOf_25 : decode prog_7_method_28_code 25 = .ok (.iload_n 1, 1) := jx_dec c_M_costOf_ok 15 rfl
theorem d_M_costOf_26 : decode prog_7_method_28_code 26 = .ok (.ldc 97, 2) := jx_dec c_M_costOf_ok 16 rfl
theorem d_M_costOf_28 : decode prog_7_method_28_code 28 = .ok (.iadd, 1) := jx_dec c_M_costOf_ok 17 rfl
theorem d_M_costOf_29 : decode prog_7_method_28_code 29 = .ok (.istore_n 1, 1) := jx_dec c_M_costOf_ok 18 rfl
theorem d_M_costOf_30 : decode prog_7_method_28_code 30 = .ok (.iinc 2 1, 3) := jx_dec c_M_costOf_ok 19 rfl
theorem d_M_costOf_33 : decode prog_7_method_28_code 33 = .ok (.goto (-29), 3) := jx_dec c_M_costOf_ok 20 rfl
theorem d_M_costOf_36 : decode prog_7_method_28_code 36 = .ok (.iconst 0, 1) := jx_dec c_M_costOf_ok 21 rfl
theorem d_M_costOf_37 : decode prog_7_method_28_code 37 = .ok (.istore_n 2, 1) := jx_dec c_M_costOf_ok 22 rfl
theorem d_M_costOf_38 : decode prog_7_method_28_code 38 = .ok (.iload_n 2, 1) := jx_dec c_M_costOf_ok 23 rfl
theorem d_M_costOf_39 : decode prog_7_method_28_code 39 = .ok (.aload_n 0, 1) := jx_dec c_M_costOf_ok 24 rfl
theorem d_M_costOf_40 : decode prog_7_method_28_code 40 = .ok (.getfield 87, 3) := jx_dec c_M_costOf_ok 25 rfl
theorem d_M_costOf_43 : decode prog_7_method_28_code 43 = .ok (.if_icmp .ge 36, 3) := jx_dec c_M_costOf_ok 26 rfl
theorem d_M_costOf_46 : decode prog_7_method_28_code 46 = .ok (.aload_n 0, 1) := jx_dec c_M_costOf_ok 27 rfl
theorem d_M_costOf_47 : decode prog_7_method_28_code 47 = .ok (.getfield 65, 3) := jx_dec c_M_costOf_ok 28 rfl
theorem d_M_costOf_50 : decode prog_7_method_28_code 50 = .ok (.bipush 32, 2) := jx_dec c_M_costOf_ok 29 rfl
theorem d_M_costOf_52 : decode prog_7_method_28_code 52 = .ok (.iload_n 2, 1) := jx_dec c_M_costOf_ok 30 rfl
theorem d_M_costOf_53 : decode prog_7_method_28_code 53 = .ok (.imul, 1) := jx_dec c_M_costOf_ok 31 rfl
theorem d_M_costOf_54 : decode prog_7_method_28_code 54 = .ok (.aload_n 0, 1) := jx_dec c_M_costOf_ok 32 rfl
theorem d_M_costOf_55 : decode prog_7_method_28_code 55 = .ok (.iload_n 2, 1) := jx_dec c_M_costOf_ok 33 rfl
theorem d_M_costOf_56 : decode prog_7_method_28_code 56 = .ok (.invokevirtual 156, 3) := jx_dec c_M_costOf_ok 34 rfl
theorem d_M_costOf_59 : decode prog_7_method_28_code 59 = .ok (.iadd, 1) := jx_dec c_M_costOf_ok 35 rfl
theorem d_M_costOf_60 : decode prog_7_method_28_code 60 = .ok (.iaload, 1) := jx_dec c_M_costOf_ok 36 rfl
theorem d_M_costOf_61 : decode prog_7_method_28_code 61 = .ok (.istore_n 3, 1) := jx_dec c_M_costOf_ok 37 rfl
theorem d_M_costOf_62 : decode prog_7_method_28_code 62 = .ok (.iload_n 3, 1) := jx_dec c_M_costOf_ok 38 rfl
theorem d_M_costOf_63 : decode prog_7_method_28_code 63 = .ok (.iconst (-1), 1) := jx_dec c_M_costOf_ok 39 rfl
theorem d_M_costOf_64 : decode prog_7_method_28_code 64 = .ok (.if_icmp .ne 5, 3) := jx_dec c_M_costOf_ok 40 rfl
theorem d_M_costOf_67 : decode prog_7_method_28_code 67 = .ok (.iconst (-1), 1) := jx_dec c_M_costOf_ok 41 rfl
theorem d_M_costOf_68 : decode prog_7_method_28_code 68 = .ok (.ireturn, 1) := jx_dec c_M_costOf_ok 42 rfl
theorem d_M_costOf_69 : decode prog_7_method_28_code 69 = .ok (.iload_n 1, 1) := jx_dec c_M_costOf_ok 43 rfl
theorem d_M_costOf_70 : decode prog_7_method_28_code 70 = .ok (.iload_n 3, 1) := jx_dec c_M_costOf_ok 44 rfl
theorem d_M_costOf_71 : decode prog_7_method_28_code 71 = .ok (.iadd, 1) := jx_dec c_M_costOf_ok 45 rfl
theorem d_M_costOf_72 : decode prog_7_method_28_code 72 = .ok (.istore_n 1, 1) := jx_dec c_M_costOf_ok 46 rfl
theorem d_M_costOf_73 : decode prog_7_method_28_code 73 = .ok (.iinc 2 1, 3) := jx_dec c_M_costOf_ok 47 rfl
theorem d_M_costOf_76 : decode prog_7_method_28_code 76 = .ok (.goto (-38), 3) := jx_dec c_M_costOf_ok 48 rfl
theorem d_M_costOf_79 : decode prog_7_method_28_code 79 = .ok (.iload_n 1, 1) := jx_dec c_M_costOf_ok 49 rfl
theorem d_M_costOf_80 : decode prog_7_method_28_code 80 = .ok (.ireturn, 1) := jx_dec c_M_costOf_ok 50 rfl
def c_M_setOf : List (Nat × Instr × Nat) := [(0, .iconst 0, 1), (1, .istore_n 2, 1), (2, .iconst 0, 1), (3, .istore_n 3, 1), (4, .iload_n 3, 1), (5, .aload_n 0, 1), (6, .getfield 141, 3), (9, .if_icmp .ge 25, 3), (12, .aload_n 0, 1), (13, .getfield 77, 3), (16, .iload_n 3, 1), (17, .iaload, 1), (18, .iload_n 1, 1), (19, .if_icmp .ne 9, 3), (22, .iload_n 2, 1), (23, .iconst 1, 1), (24, .iload_n 3, 1), (25, .ishl, 1), (26, .ior, 1), (27, .istore_n 2, 1), (28, .iinc 3 1, 3), (31, .goto (-27), 3), (34, .iload_n 2, 1), (35, .ireturn, 1)]
theorem c_M_setOf_ok : (c_M_setOf).all (fun q => decide (decode prog_7_method_27_code q.1 = .ok q.2)) = true := by decide +kernel
theorem d_M_setOf_0 : decode prog_7_method_27_code 0 = .ok (.iconst 0, 1) := jx_dec c_M_setOf_ok 0 rfl
theorem d_M_setOf_1 : decode prog_7_method_27_code 1 = .ok (.istore_n 2, 1) := jx_dec c_M_setOf_ok 1 rfl
theorem d_M_setOf_2 : decode prog_7_method_27_code 2 = .ok (.iconst 0, 1) := jx_dec c_M_setOf_ok 2 rfl
theorem d_M_setOf_3 : decode prog_7_method_27_code 3 = .ok (.istore_n 3, 1) := jx_dec c_M_setOf_ok 3 rfl
theorem d_M_setOf_4 : decode prog_7_method_27_code 4 = .ok (.iload_n 3, 1) := jx_dec c_M_setOf_ok 4 rfl
theorem d_M_setOf_5 : decode prog_7_method_27_code 5 = .ok (.aload_n 0, 1) := jx_dec c_M_setOf_ok 5 rfl
theorem d_M_setOf_6 : decode prog_7_method_27_code 6 = .ok (.getfield 141, 3) := jx_dec c_M_setOf_ok 6 rfl
theorem d_M_setOf_9 : decode prog_7_method_27_code 9 = .ok (.if_icmp .ge 25, 3) := jx_dec c_M_setOf_ok 7 rfl
theorem d_M_setOf_12 : decode prog_7_method_27_code 12 = .ok (.aload_n 0, 1) := jx_dec c_M_setOf_ok 8 rfl
theorem d_M_setOf_13 : decode prog_7_method_27_code 13 = .ok (.getfield 77, 3) := jx_dec c_M_setOf_ok 9 rfl
theorem d_M_setOf_16 : decode prog_7_method_27_code 16 = .ok (.iload_n 3, 1) := jx_dec c_M_setOf_ok 10 rfl
theorem d_M_setOf_17 : decode prog_7_method_27_code 17 = .ok (.iaload, 1) := jx_dec c_M_setOf_ok 11 rfl
theorem d_M_setOf_18 : decode prog_7_method_27_code 18 = .ok (.iload_n 1, 1) := jx_dec c_M_setOf_ok 12 rfl
theorem d_M_setOf_19 : decode prog_7_method_27_code 19 = .ok (.if_icmp .ne 9, 3) := jx_dec c_M_setOf_ok 13 rfl
theorem d_M_setOf_22 : decode prog_7_method_27_code 22 = .ok (.iload_n 2, 1) := jx_dec c_M_setOf_ok 14 rfl
theorem d_M_setOf_23 : decode prog_7_method_27_code 23 = .ok (.iconst 1, 1) := jx_dec c_M_setOf_ok 15 rfl
theorem d_M_setOf_24 : decode prog_7_method_27_code 24 = .ok (.iload_n 3, 1) := jx_dec c_M_setOf_ok 16 rfl
theorem d_M_setOf_25 : decode prog_7_method_27_code 25 = .ok (.ishl, 1) := jx_dec c_M_setOf_ok 17 rfl
theorem d_M_setOf_26 : decode prog_7_method_27_code 26 = .ok (.ior, 1) := jx_dec c_M_setOf_ok 18 rfl
theorem d_M_setOf_27 : decode prog_7_method_27_code 27 = .ok (.istore_n 2, 1) := jx_dec c_M_setOf_ok 19 rfl
theorem d_M_setOf_28 : decode prog_7_method_27_code 28 = .ok (.iinc 3 1, 3) := jx_dec c_M_setOf_ok 20 rfl
theorem d_M_setOf_31 : decode prog_7_method_27_code 31 = .ok (.goto (-27), 3) := jx_dec c_M_setOf_ok 21 rfl
theorem d_M_setOf_34 : decode prog_7_method_27_code 34 = .ok (.iload_n 2, 1) := jx_dec c_M_setOf_ok 22 rfl
theorem d_M_setOf_35 : decode prog_7_method_27_code 35 = .ok (.ireturn, 1) := jx_dec c_M_setOf_ok 23 rfl
def c_M_exact : List (Nat × Instr × Nat) := [(0, .aload_n 0, 1), (1, .iconst 0, 1), (2, .putfield 83, 3), (5, .aload_n 0, 1), (6, .getfield 178, 3), (9, .ireturn, 1)]
theorem c_M_exact_ok : (c_M_exact).all (fun q => decide (decode prog_7_method_35_code q.1 = .ok q.2)) = true := by decide +kernel
theorem d_M_exact_0 : decode prog_7_method_35_code 0 = .ok (.aload_n 0, 1) := jx_dec c_M_exact_ok 0 rfl
theorem d_M_exact_1 : decode prog_7_method_35_code 1 = .ok (.iconst 0, 1) := jx_dec c_M_exact_ok 1 rfl
theorem d_M_exact_2 : decode prog_7_method_35_code 2 = .ok (.putfield 83, 3) := jx_dec c_M_exact_ok 2 rfl
theorem d_M_exact_5 : decode prog_7_method_35_code 5 = .ok (.aload_n 0, 1) := jx_dec c_M_exact_ok 3 rfl
theorem d_M_exact_6 : decode prog_7_method_35_code 6 = .ok (.getfield 178, 3) := jx_dec c_M_exact_ok 4 rfl
theorem d_M_exact_9 : decode prog_7_method_35_code 9 = .ok (.ireturn, 1) := jx_dec c_M_exact_ok 5 rfl
def c_M_bound : List (Nat × Instr × Nat) := [(0, .aload_n 0, 1), (1, .iconst 0, 1), (2, .putfield 83, 3), (5, .iconst 0, 1), (6, .istore_n 1, 1), (7, .iconst 0, 1), (8, .istore_n 2, 1), (9, .iload_n 2, 1), (10, .aload_n 0, 1), (11, .getfield 94, 3), (14, .if_icmp .ge 91, 3), (17, .aload_n 0, 1), (18, .getfield 38, 3), (21, .iload_n 2, 1), (22, .iaload, 1), (23, .ifCond .ne 76, 3), (26, .ldc 97, 2), (28, .istore_n 3, 1), (29, .iconst 0, 1), (30, .istore 4, 2), (32, .iload 4, 2), (34, .aload_n 0, 1), (35, .getfield 87, 3), (38, .if_icmp .ge 57, 3), (41, .aload_n 0, 1), (42, .iload 4, 2), (44, .iload_n 2, 1), (45, .invokevirtual 144, 3), (48, .ifCond .eq 13, 3), (51, .aload_n 0, 1), (52, .iload 4, 2), (54, .iload_n 2, 1), (55, .invokevirtual 131, 3), (58, .goto 4, 3), (61, .iconst (-1), 1), (62, .istore 5, 2), (64, .iload 5, 2), (66, .iconst (-1), 1), (67, .if_icmp .eq 22, 3), (70, .aload_n 0, 1), (71, .iload_n 2, 1), (72, .iload 5, 2), (74, .invokevirtual 134, 3), (77, .iload_n 3, 1), (78, .if_icmp .ge 11, 3), (81, .aload_n 0, 1), (82, .iload_n 2, 1), (83, .iload 5, 2), (85, .invokevirtual 134, 3), (88, .istore_n 3, 1), (89, .iinc 4 1, 3), (92, .goto (-60), 3), (95, .iload_n 1, 1), (96, .iload_n 3, 1), (97, .iadd, 1), (98, .istore_n 1, 1), (99, .iinc 2 1, 3), (102, .goto (-93), 3), (105, .iload_n 1, 1), (106, .ireturn, 1)]
theorem c_M_bound_ok : (c_M_bound).all (fun q => decide (decode prog_7_method_36_code q.1 = .ok q.2)) = true := by decide +kernel
theorem d_M_bound_0 : decode prog_7_method_36_code 0 = .ok (.aload_n 0, 1) := jx_dec c_M_bound_ok 0 rfl
theorem d_M_bound_1 : decode prog_7_method_36_code 1 = .ok (.iconst 0, 1) := jx_dec c_M_bound_ok 1 rfl
theorem d_M_bound_2 : decode prog_7_method_36_code 2 = .ok (.putfield 83, 3) := jx_dec c_M_bound_ok 2 rfl
theorem d_M_bound_5 : decode prog_7_method_36_code 5 = .ok (.iconst 0, 1) := jx_dec c_M_bound_ok 3 rfl
theorem d_M_bound_6 : decode prog_7_method_36_code 6 = .ok (.istore_n 1, 1) := jx_dec c_M_bound_ok 4 rfl
theorem d_M_bound_7 : decode prog_7_method_36_code 7 = .ok (.iconst 0, 1) := jx_dec c_M_bound_ok 5 rfl
theorem d_M_bound_8 : decode prog_7_method_36_code 8 = .ok (.istore_n 2, 1) := jx_dec c_M_bound_ok 6 rfl
theorem d_M_bound_9 : decode prog_7_method_36_code 9 = .ok (.iload_n 2, 1) := jx_dec c_M_bound_ok 7 rfl
theorem d_M_bound_10 : decode prog_7_method_36_code 10 = .ok (.aload_n 0, 1) := jx_dec c_M_bound_ok 8 rfl
theorem d_M_bound_11 : decode prog_7_method_36_code 11 = .ok (.getfield 94, 3) := jx_dec c_M_bound_ok 9 rfl
theorem d_M_bound_14 : decode prog_7_method_36_code 14 = .ok (.if_icmp .ge 91, 3) := jx_dec c_M_bound_ok 10 rfl
theorem d_M_bound_17 : decode prog_7_method_36_code 17 = .ok (.aload_n 0, 1) := jx_dec c_M_bound_ok 11 rfl
theorem d_M_bound_18 : decode prog_7_method_36_code 18 = .ok (.getfield 38, 3) := jx_dec c_M_bound_ok 12 rfl
theorem d_M_bound_21 : decode prog_7_method_36_code 21 = .ok (.iload_n 2, 1) := jx_dec c_M_bound_ok 13 rfl
theorem d_M_bound_22 : decode prog_7_method_36_code 22 = .ok (.iaload, 1) := jx_dec c_M_bound_ok 14 rfl
theorem d_M_bound_23 : decode prog_7_method_36_code 23 = .ok (.ifCond .ne 76, 3) := jx_dec c_M_bound_ok 15 rfl
theorem d_M_bound_26 : decode prog_7_method_36_code 26 = .ok (.ldc 97, 2) := jx_dec c_M_bound_ok 16 rfl
theorem d_M_bound_28 : decode prog_7_method_36_code 28 = .ok (.istore_n 3, 1) := jx_dec c_M_bound_ok 17 rfl
theorem d_M_bound_29 : decode prog_7_method_36_code 29 = .ok (.iconst 0, 1) := jx_dec c_M_bound_ok 18 rfl
theorem d_M_bound_30 : decode prog_7_method_36_code 30 = .ok (.istore 4, 2) := jx_dec c_M_bound_ok 19 rfl
theorem d_M_bound_32 : decode prog_7_method_36_code 32 = .ok (.iload 4, 2) := jx_dec c_M_bound_ok 20 rfl
theorem d_M_bound_34 : decode prog_7_method_36_code 34 = .ok (.aload_n 0, 1) := jx_dec c_M_bound_ok 21 rfl
theorem d_M_bound_35 : decode prog_7_method_36_code 35 = .ok (.getfield 87, 3) := jx_dec c_M_bound_ok 22 rfl
theorem d_M_bound_38 : decode prog_7_method_36_code 38 = .ok (.if_icmp .ge 57, 3) := jx_dec c_M_bound_ok 23 rfl
theorem d_M_bound_41 : decode prog_7_method_36_code 41 = .ok (.aload_n 0, 1) := jx_dec c_M_bound_ok 24 rfl
theorem d_M_bound_42 : decode prog_7_method_36_code 42 = .ok (.iload 4, 2) := jx_dec c_M_bound_ok 25 rfl
theorem d_M_bound_44 : decode prog_7_method_36_code 44 = .ok (.iload_n 2, 1) := jx_dec c_M_bound_ok 26 rfl
theorem d_M_bound_45 : decode prog_7_method_36_code 45 = .ok (.invokevirtual 144, 3) := jx_dec c_M_bound_ok 27 rfl
theorem d_M_bound_48 : decode prog_7_method_36_code 48 = .ok (.ifCond .eq 13, 3) := jx_dec c_M_bound_ok 28 rfl
theorem d_M_bound_51 : decode prog_7_method_36_code 51 = .ok (.aload_n 0, 1) := jx_dec c_M_bound_ok 29 rfl
theorem d_M_bound_52 : decode prog_7_method_36_code 52 = .ok (.iload 4, 2) := jx_dec c_M_bound_ok 30 rfl
theorem d_M_bound_54 : decode prog_7_method_36_code 54 = .ok (.iload_n 2, 1) := jx_dec c_M_bound_ok 31 rfl
theorem d_M_bound_55 : decode prog_7_method_36_code 55 = .ok (.invokevirtual 131, 3) := jx_dec c_M_bound_ok 32 rfl
theorem d_M_bound_58 : decode prog_7_method_36_code 58 = .ok (.goto 4, 3) := jx_dec c_M_bound_ok 33 rfl
theorem d_M_bound_61 : decode prog_7_method_36_code 61 = .ok (.iconst (-1), 1) := jx_dec c_M_bound_ok 34 rfl
theorem d_M_bound_62 : decode prog_7_method_36_code 62 = .ok (.istore 5, 2) := jx_dec c_M_bound_ok 35 rfl
theorem d_M_bound_64 : decode prog_7_method_36_code 64 = .ok (.iload 5, 2) := jx_dec c_M_bound_ok 36 rfl
theorem d_M_bound_66 : decode prog_7_method_36_code 66 = .ok (.iconst (-1), 1) := jx_dec c_M_bound_ok 37 rfl
theorem d_M_bound_67 : decode prog_7_method_36_code 67 = .ok (.if_icmp .eq 22, 3) := jx_dec c_M_bound_ok 38 rfl
theorem d_M_bound_70 : decode prog_7_method_36_code 70 = .ok (.aload_n 0, 1) := jx_dec c_M_bound_ok 39 rfl
theorem d_M_bound_71 : decode prog_7_method_36_code 71 = .ok (.iload_n 2, 1) := jx_dec c_M_bound_ok 40 rfl
theorem d_M_bound_72 : decode prog_7_method_36_code 72 = .ok (.iload 5, 2) := jx_dec c_M_bound_ok 41 rfl
theorem d_M_bound_74 : decode prog_7_method_36_code 74 = .ok (.invokevirtual 134, 3) := jx_dec c_M_bound_ok 42 rfl
theorem d_M_bound_77 : decode prog_7_method_36_code 77 = .ok (.iload_n 3, 1) := jx_dec c_M_bound_ok 43 rfl
theorem d_M_bound_78 : decode prog_7_method_36_code 78 = .ok (.if_icmp .ge 11, 3) := jx_dec c_M_bound_ok 44 rfl
theorem d_M_bound_81 : decode prog_7_method_36_code 81 = .ok (.aload_n 0, 1) := jx_dec c_M_bound_ok 45 rfl
theorem d_M_bound_82 : decode prog_7_method_36_code 82 = .ok (.iload_n 2, 1) := jx_dec c_M_bound_ok 46 rfl
theorem d_M_bound_83 : decode prog_7_method_36_code 83 = .ok (.iload 5, 2) := jx_dec c_M_bound_ok 47 rfl
theorem d_M_bound_85 : decode prog_7_method_36_code 85 = .ok (.invokevirtual 134, 3) := jx_dec c_M_bound_ok 48 rfl
theorem d_M_bound_88 : decode prog_7_method_36_code 88 = .ok (.istore_n 3, 1) := jx_dec c_M_bound_ok 49 rfl
theorem d_M_bound_89 : decode prog_7_method_36_code 89 = .ok (.iinc 4 1, 3) := jx_dec c_M_bound_ok 50 rfl
theorem d_M_bound_92 : decode prog_7_method_36_code 92 = .ok (.goto (-60), 3) := jx_dec c_M_bound_ok 51 rfl
theorem d_M_bound_95 : decode prog_7_method_36_code 95 = .ok (.iload_n 1, 1) := jx_dec c_M_bound_ok 52 rfl
theorem d_M_bound_96 : decode prog_7_method_36_code 96 = .ok (.iload_n 3, 1) := jx_dec c_M_bound_ok 53 rfl
theorem d_M_bound_97 : decode prog_7_method_36_code 97 = .ok (.iadd, 1) := jx_dec c_M_bound_ok 54 rfl
theorem d_M_bound_98 : decode prog_7_method_36_code 98 = .ok (.istore_n 1, 1) := jx_dec c_M_bound_ok 55 rfl
theorem d_M_bound_99 : decode prog_7_method_36_code 99 = .ok (.iinc 2 1, 3) := jx_dec c_M_bound_ok 56 rfl
theorem d_M_bound_102 : decode prog_7_method_36_code 102 = .ok (.goto (-93), 3) := jx_dec c_M_bound_ok 57 rfl
theorem d_M_bound_105 : decode prog_7_method_36_code 105 = .ok (.iload_n 1, 1) := jx_dec c_M_bound_ok 58 rfl
theorem d_M_bound_106 : decode prog_7_method_36_code 106 = .ok (.ireturn, 1) := jx_dec c_M_bound_ok 59 rfl
def c_M_give : List (Nat × Instr × Nat) := [(0, .aload_n 0, 1), (1, .aload_n 0, 1), (2, .iload_n 1, 1), (3, .invokevirtual 98, 3), (6, .ifCond .eq 7, 3), (9, .iconst 0, 1), (10, .goto 4, 3), (13, .iconst 1, 1), (14, .putfield 83, 3), (17, .aload_n 0, 1), (18, .getfield 83, 3), (21, .ifCond .eq 5, 3), (24, .iconst 0, 1), (25, .ireturn, 1), (26, .aload_n 0, 1), (27, .getfield 117, 3), (30, .aload_n 0, 1), (31, .getfield 19, 3), (34, .iload_n 1, 1), (35, .iaload, 1), (36, .if_icmp .lt 16, 3), (39, .aload_n 0, 1), (40, .getfield 117, 3), (43, .aload_n 0, 1), (44, .getfield 22, 3), (47, .iload_n 1, 1), (48, .iaload, 1), (49, .if_icmp .lt 29, 3), (52, .aload_n 0, 1), (53, .getfield 117, 3), (56, .aload_n 0, 1), (57, .getfield 13, 3), (60, .iload_n 1, 1), (61, .iaload, 1), (62, .if_icmp .lt 16, 3), (65, .aload_n 0, 1), (66, .getfield 117, 3), (69, .aload_n 0, 1), (70, .getfield 16, 3), (73, .iload_n 1, 1), (74, .iaload, 1), (75, .if_icmp .lt 7, 3), (78, .iconst 1, 1), (79, .goto 4, 3), (82, .iconst 0, 1), (83, .istore_n 2, 1), (84, .aload_n 0, 1), (85, .aload_n 0, 1), (86, .getfield 28, 3), (89, .iload_n 1, 1), (90, .baload, 1), (91, .ifCond .eq 17, 3), (94, .aload_n 0, 1), (95, .getfield 32, 3), (98, .iload_n 1, 1), (99, .iaload, 1), (100, .iconst (-1), 1), (101, .if_icmp .ne 7, 3), (104, .iload_n 2, 1), (105, .ifCond .eq 7, 3), (108, .iconst 2, 1), (109, .goto 4, 3), (112, .iconst 0, 1), (113, .putfield 83, 3), (116, .aload_n 0, 1), (117, .getfield 83, 3), (120, .ifCond .eq 5, 3), (123, .iconst 0, 1), (124, .ireturn, 1), (125, .aload_n 0, 1), (126, .iload_n 1, 1), (127, .iconst 0, 1), (128, .invokevirtual 188, 3), (131, .istore_n 3, 1), (132, .iload_n 3, 1), (133, .iconst (-1), 1), (134, .if_icmp .eq 16, 3), (137, .aload_n 0, 1), (138, .getfield 59, 3), (141, .iload_n 3, 1), (142, .iaload, 1), (143, .aload_n 0, 1), (144, .getfield 117, 3), (147, .if_icmp .le 5, 3), (150, .iconst (-1), 1), (151, .ireturn, 1), (152, .aload_n 0, 1), (153, .getfield 38, 3), (156, .iload_n 3, 1), (157, .iconst 1, 1), (158, .iastore, 1), (159, .aload_n 0, 1), (160, .getfield 59, 3), (163, .iload_n 3, 1), (164, .aload_n 0, 1), (165, .getfield 117, 3), (168, .iastore, 1), (169, .aload_n 0, 1), (170, .getfield 32, 3), (173, .iload_n 1, 1), (174, .iload_n 3, 1), (175, .iastore, 1), (176, .aload_n 0, 1), (177, .getfield 25, 3), (180, .iload_n 1, 1), (181, .aload_n 0, 1), (182, .getfield 50, 3), (185, .iload_n 3, 1), (186, .iaload, 1), (187, .iastore, 1), (188, .iload_n 3, 1), (189, .ireturn, 1)]
theorem c_M_give_ok : (c_M_give).all (fun q => decide (decode prog_7_method_38_code q.1 = .ok q.2)) = true := by decide +kernel
theorem d_M_give_0 : decode prog_7_method_38_code 0 = .ok (.aload_n 0, 1) := jx_dec c_M_give_ok 0 rfl
theorem d_M_give_1 : decode prog_7_method_38_code 1 = .ok (.aload_n 0, 1) := jx_dec c_M_give_ok 1 rfl
theorem d_M_give_2 : decode prog_7_method_38_code 2 = .ok (.iload_n 1, 1) := jx_dec c_M_give_ok 2 rfl
theorem d_M_give_3 : decode prog_7_method_38_code 3 = .ok (.invokevirtual 98, 3) := jx_dec c_M_give_ok 3 rfl
theorem d_M_give_6 : decode prog_7_method_38_code 6 = .ok (.ifCond .eq 7, 3) := jx_dec c_M_give_ok 4 rfl
theorem d_M_give_9 : decode prog_7_method_38_code 9 = .ok (.iconst 0, 1) := jx_dec c_M_give_ok 5 rfl
theorem d_M_give_10 : decode prog_7_method_38_code 10 = .ok (.goto 4, 3) := jx_dec c_M_give_ok 6 rfl
theorem d_M_give_13 : decode prog_7_method_38_code 13 = .ok (.iconst 1, 1) := jx_dec c_M_give_ok 7 rfl
theorem d_M_give_14 : decode prog_7_method_38_code 14 = .ok (.putfield 83, 3) := jx_dec c_M_give_ok 8 rfl
theorem d_M_give_17 : decode prog_7_method_38_code 17 = .ok (.aload_n 0, 1) := jx_dec c_M_give_ok 9 rfl
theorem d_M_give_18 : decode prog_7_method_38_code 18 = .ok (.getfield 83, 3) := jx_dec c_M_give_ok 10 rfl
theorem d_M_give_21 : decode prog_7_method_38_code 21 = .ok (.ifCond .eq 5, 3) := jx_dec c_M_give_ok 11 rfl
theorem d_M_give_24 : decode prog_7_method_38_code 24 = .ok (.iconst 0, 1) := jx_dec c_M_give_ok 12 rfl
theorem d_M_give_25 : decode prog_7_method_38_code 25 = .ok (.ireturn, 1) := jx_dec c_M_give_ok 13 rfl
theorem d_M_give_26 : decode prog_7_method_38_code 26 = .ok (.aload_n 0, 1) := jx_dec c_M_give_ok 14 rfl
theorem d_M_give_27 : decode prog_7_method_38_code 27 = .ok (.getfield 117, 3) := jx_dec c_M_give_ok 15 rfl
theorem d_M_give_30 : decode prog_7_method_38_code 30 = .ok (.aload_n 0, 1) := jx_dec c_M_give_ok 16 rfl
theorem d_M_give_31 : decode prog_7_method_38_code 31 = .ok (.getfield 19, 3) := jx_dec c_M_give_ok 17 rfl
theorem d_M_give_34 : decode prog_7_method_38_code 34 = .ok (.iload_n 1, 1) := jx_dec c_M_give_ok 18 rfl
theorem d_M_give_35 : decode prog_7_method_38_code 35 = .ok (.iaload, 1) := jx_dec c_M_give_ok 19 rfl
theorem d_M_give_36 : decode prog_7_method_38_code 36 = .ok (.if_icmp .lt 16, 3) := jx_dec c_M_give_ok 20 rfl
theorem d_M_give_39 : decode prog_7_method_38_code 39 = .ok (.aload_n 0, 1) := jx_dec c_M_give_ok 21 rfl
theorem d_M_give_40 : decode prog_7_method_38_code 40 = .ok (.getfield 117, 3) := jx_dec c_M_give_ok 22 rfl
theorem d_M_give_43 : decode prog_7_method_38_code 43 = .ok (.aload_n 0, 1) := jx_dec c_M_give_ok 23 rfl
theorem d_M_give_44 : decode prog_7_method_38_code 44 = .ok (.getfield 22, 3) := jx_dec c_M_give_ok 24 rfl
theorem d_M_give_47 : decode prog_7_method_38_code 47 = .ok (.iload_n 1, 1) := jx_dec c_M_give_ok 25 rfl
theorem d_M_give_48 : decode prog_7_method_38_code 48 = .ok (.iaload, 1) := jx_dec c_M_give_ok 26 rfl
theorem d_M_give_49 : decode prog_7_method_38_code 49 = .ok (.if_icmp .lt 29, 3) := jx_dec c_M_give_ok 27 rfl
theorem d_M_give_52 : decode prog_7_method_38_code 52 = .ok (.aload_n 0, 1) := jx_dec c_M_give_ok 28 rfl
theorem d_M_give_53 : decode prog_7_method_38_code 53 = .ok (.getfield 117, 3) := jx_dec c_M_give_ok 29 rfl
theorem d_M_give_56 : decode prog_7_method_38_code 56 = .ok (.aload_n 0, 1) := jx_dec c_M_give_ok 30 rfl
theorem d_M_give_57 : decode prog_7_method_38_code 57 = .ok (.getfield 13, 3) := jx_dec c_M_give_ok 31 rfl
theorem d_M_give_60 : decode prog_7_method_38_code 60 = .ok (.iload_n 1, 1) := jx_dec c_M_give_ok 32 rfl
theorem d_M_give_61 : decode prog_7_method_38_code 61 = .ok (.iaload, 1) := jx_dec c_M_give_ok 33 rfl
theorem d_M_give_62 : decode prog_7_method_38_code 62 = .ok (.if_icmp .lt 16, 3) := jx_dec c_M_give_ok 34 rfl
theorem d_M_give_65 : decode prog_7_method_38_code 65 = .ok (.aload_n 0, 1) := jx_dec c_M_give_ok 35 rfl
theorem d_M_give_66 : decode prog_7_method_38_code 66 = .ok (.getfield 117, 3) := jx_dec c_M_give_ok 36 rfl
theorem d_M_give_69 : decode prog_7_method_38_code 69 = .ok (.aload_n 0, 1) := jx_dec c_M_give_ok 37 rfl
theorem d_M_give_70 : decode prog_7_method_38_code 70 = .ok (.getfield 16, 3) := jx_dec c_M_give_ok 38 rfl
theorem d_M_give_73 : decode prog_7_method_38_code 73 = .ok (.iload_n 1, 1) := jx_dec c_M_give_ok 39 rfl
theorem d_M_give_74 : decode prog_7_method_38_code 74 = .ok (.iaload, 1) := jx_dec c_M_give_ok 40 rfl
theorem d_M_give_75 : decode prog_7_method_38_code 75 = .ok (.if_icmp .lt 7, 3) := jx_dec c_M_give_ok 41 rfl
theorem d_M_give_78 : decode prog_7_method_38_code 78 = .ok (.iconst 1, 1) := jx_dec c_M_give_ok 42 rfl
theorem d_M_give_79 : decode prog_7_method_38_code 79 = .ok (.goto 4, 3) := jx_dec c_M_give_ok 43 rfl
theorem d_M_give_82 : decode prog_7_method_38_code 82 = .ok (.iconst 0, 1) := jx_dec c_M_give_ok 44 rfl
theorem d_M_give_83 : decode prog_7_method_38_code 83 = .ok (.istore_n 2, 1) := jx_dec c_M_give_ok 45 rfl
theorem d_M_give_84 : decode prog_7_method_38_code 84 = .ok (.aload_n 0, 1) := jx_dec c_M_give_ok 46 rfl
theorem d_M_give_85 : decode prog_7_method_38_code 85 = .ok (.aload_n 0, 1) := jx_dec c_M_give_ok 47 rfl
theorem d_M_give_86 : decode prog_7_method_38_code 86 = .ok (.getfield 28, 3) := jx_dec c_M_give_ok 48 rfl
theorem d_M_give_89 : decode prog_7_method_38_code 89 = .ok (.iload_n 1, 1) := jx_dec c_M_give_ok 49 rfl
theorem d_M_give_90 : decode prog_7_method_38_code 90 = .ok (.baload, 1) := jx_dec c_M_give_ok 50 rfl
theorem d_M_give_91 : decode prog_7_method_38_code 91 = .ok (.ifCond .eq 17, 3) := jx_dec c_M_give_ok 51 rfl
theorem d_M_give_94 : decode prog_7_method_38_code 94 = .ok (.aload_n 0, 1) := jx_dec c_M_give_ok 52 rfl
theorem d_M_give_95 : decode prog_7_method_38_code 95 = .ok (.getfield 32, 3) := jx_dec c_M_give_ok 53 rfl
theorem d_M_give_98 : decode prog_7_method_38_code 98 = .ok (.iload_n 1, 1) := jx_dec c_M_give_ok 54 rfl
theorem d_M_give_99 : decode prog_7_method_38_code 99 = .ok (.iaload, 1) := jx_dec c_M_give_ok 55 rfl
theorem d_M_give_100 : decode prog_7_method_38_code 100 = .ok (.iconst (-1), 1) := jx_dec c_M_give_ok 56 rfl
theorem d_M_give_101 : decode prog_7_method_38_code 101 = .ok (.if_icmp .ne 7, 3) := jx_dec c_M_give_ok 57 rfl
theorem d_M_give_104 : decode prog_7_method_38_code 104 = .ok (.iload_n 2, 1) := jx_dec c_M_give_ok 58 rfl
theorem d_M_give_105 : decode prog_7_method_38_code 105 = .ok (.ifCond .eq 7, 3) := jx_dec c_M_give_ok 59 rfl
theorem d_M_give_108 : decode prog_7_method_38_code 108 = .ok (.iconst 2, 1) := jx_dec c_M_give_ok 60 rfl
theorem d_M_give_109 : decode prog_7_method_38_code 109 = .ok (.goto 4, 3) := jx_dec c_M_give_ok 61 rfl
theorem d_M_give_112 : decode prog_7_method_38_code 112 = .ok (.iconst 0, 1) := jx_dec c_M_give_ok 62 rfl
theorem d_M_give_113 : decode prog_7_method_38_code 113 = .ok (.putfield 83, 3) := jx_dec c_M_give_ok 63 rfl
theorem d_M_give_116 : decode prog_7_method_38_code 116 = .ok (.aload_n 0, 1) := jx_dec c_M_give_ok 64 rfl
theorem d_M_give_117 : decode prog_7_method_38_code 117 = .ok (.getfield 83, 3) := jx_dec c_M_give_ok 65 rfl
theorem d_M_give_120 : decode prog_7_method_38_code 120 = .ok (.ifCond .eq 5, 3) := jx_dec c_M_give_ok 66 rfl
theorem d_M_give_123 : decode prog_7_method_38_code 123 = .ok (.iconst 0, 1) := jx_dec c_M_give_ok 67 rfl
theorem d_M_give_124 : decode prog_7_method_38_code 124 = .ok (.ireturn, 1) := jx_dec c_M_give_ok 68 rfl
theorem d_M_give_125 : decode prog_7_method_38_code 125 = .ok (.aload_n 0, 1) := jx_dec c_M_give_ok 69 rfl
theorem d_M_give_126 : decode prog_7_method_38_code 126 = .ok (.iload_n 1, 1) := jx_dec c_M_give_ok 70 rfl
theorem d_M_give_127 : decode prog_7_method_38_code 127 = .ok (.iconst 0, 1) := jx_dec c_M_give_ok 71 rfl
theorem d_M_give_128 : decode prog_7_method_38_code 128 = .ok (.invokevirtual 188, 3) := jx_dec c_M_give_ok 72 rfl
theorem d_M_give_131 : decode prog_7_method_38_code 131 = .ok (.istore_n 3, 1) := jx_dec c_M_give_ok 73 rfl
theorem d_M_give_132 : decode prog_7_method_38_code 132 = .ok (.iload_n 3, 1) := jx_dec c_M_give_ok 74 rfl
theorem d_M_give_133 : decode prog_7_method_38_code 133 = .ok (.iconst (-1), 1) := jx_dec c_M_give_ok 75 rfl
theorem d_M_give_134 : decode prog_7_method_38_code 134 = .ok (.if_icmp .eq 16, 3) := jx_dec c_M_give_ok 76 rfl
theorem d_M_give_137 : decode prog_7_method_38_code 137 = .ok (.aload_n 0, 1) := jx_dec c_M_give_ok 77 rfl
theorem d_M_give_138 : decode prog_7_method_38_code 138 = .ok (.getfield 59, 3) := jx_dec c_M_give_ok 78 rfl
theorem d_M_give_141 : decode prog_7_method_38_code 141 = .ok (.iload_n 3, 1) := jx_dec c_M_give_ok 79 rfl
theorem d_M_give_142 : decode prog_7_method_38_code 142 = .ok (.iaload, 1) := jx_dec c_M_give_ok 80 rfl
theorem d_M_give_143 : decode prog_7_method_38_code 143 = .ok (.aload_n 0, 1) := jx_dec c_M_give_ok 81 rfl
theorem d_M_give_144 : decode prog_7_method_38_code 144 = .ok (.getfield 117, 3) := jx_dec c_M_give_ok 82 rfl
theorem d_M_give_147 : decode prog_7_method_38_code 147 = .ok (.if_icmp .le 5, 3) := jx_dec c_M_give_ok 83 rfl
theorem d_M_give_150 : decode prog_7_method_38_code 150 = .ok (.iconst (-1), 1) := jx_dec c_M_give_ok 84 rfl
theorem d_M_give_151 : decode prog_7_method_38_code 151 = .ok (.ireturn, 1) := jx_dec c_M_give_ok 85 rfl
theorem d_M_give_152 : decode prog_7_method_38_code 152 = .ok (.aload_n 0, 1) := jx_dec c_M_give_ok 86 rfl
theorem d_M_give_153 : decode prog_7_method_38_code 153 = .ok (.getfield 38, 3) := jx_dec c_M_give_ok 87 rfl
theorem d_M_give_156 : decode prog_7_method_38_code 156 = .ok (.iload_n 3, 1) := jx_dec c_M_give_ok 88 rfl
theorem d_M_give_157 : decode prog_7_method_38_code 157 = .ok (.iconst 1, 1) := jx_dec c_M_give_ok 89 rfl
theorem d_M_give_158 : decode prog_7_method_38_code 158 = .ok (.iastore, 1) := jx_dec c_M_give_ok 90 rfl
theorem d_M_give_159 : decode prog_7_method_38_code 159 = .ok (.aload_n 0, 1) := jx_dec c_M_give_ok 91 rfl
theorem d_M_give_160 : decode prog_7_method_38_code 160 = .ok (.getfield 59, 3) := jx_dec c_M_give_ok 92 rfl
theorem d_M_give_163 : decode prog_7_method_38_code 163 = .ok (.iload_n 3, 1) := jx_dec c_M_give_ok 93 rfl
theorem d_M_give_164 : decode prog_7_method_38_code 164 = .ok (.aload_n 0, 1) := jx_dec c_M_give_ok 94 rfl
theorem d_M_give_165 : decode prog_7_method_38_code 165 = .ok (.getfield 117, 3) := jx_dec c_M_give_ok 95 rfl
theorem d_M_give_168 : decode prog_7_method_38_code 168 = .ok (.iastore, 1) := jx_dec c_M_give_ok 96 rfl
theorem d_M_give_169 : decode prog_7_method_38_code 169 = .ok (.aload_n 0, 1) := jx_dec c_M_give_ok 97 rfl
theorem d_M_give_170 : decode prog_7_method_38_code 170 = .ok (.getfield 32, 3) := jx_dec c_M_give_ok 98 rfl
theorem d_M_give_173 : decode prog_7_method_38_code 173 = .ok (.iload_n 1, 1) := jx_dec c_M_give_ok 99 rfl
theorem d_M_give_174 : decode prog_7_method_38_code 174 = .ok (.iload_n 3, 1) := jx_dec c_M_give_ok 100 rfl
theorem d_M_give_175 : decode prog_7_method_38_code 175 = .ok (.iastore, 1) := jx_dec c_M_give_ok 101 rfl
theorem d_M_give_176 : decode prog_7_method_38_code 176 = .ok (.aload_n 0, 1) := jx_dec c_M_give_ok 102 rfl
theorem d_M_give_177 : decode prog_7_method_38_code 177 = .ok (.getfield 25, 3) := jx_dec c_M_give_ok 103 rfl
theorem d_M_give_180 : decode prog_7_method_38_code 180 = .ok (.iload_n 1, 1) := jx_dec c_M_give_ok 104 rfl
theorem d_M_give_181 : decode prog_7_method_38_code 181 = .ok (.aload_n 0, 1) := jx_dec c_M_give_ok 105 rfl
theorem d_M_give_182 : decode prog_7_method_38_code 182 = .ok (.getfield 50, 3) := jx_dec c_M_give_ok 106 rfl
theorem d_M_give_185 : decode prog_7_method_38_code 185 = .ok (.iload_n 3, 1) := jx_dec c_M_give_ok 107 rfl
theorem d_M_give_186 : decode prog_7_method_38_code 186 = .ok (.iaload, 1) := jx_dec c_M_give_ok 108 rfl
theorem d_M_give_187 : decode prog_7_method_38_code 187 = .ok (.iastore, 1) := jx_dec c_M_give_ok 109 rfl
theorem d_M_give_188 : decode prog_7_method_38_code 188 = .ok (.iload_n 3, 1) := jx_dec c_M_give_ok 110 rfl
theorem d_M_give_189 : decode prog_7_method_38_code 189 = .ok (.ireturn, 1) := jx_dec c_M_give_ok 111 rfl
def c_M_planned : List (Nat × Instr × Nat) := [(0, .iconst 0, 1), (1, .istore_n 3, 1), (2, .iconst 0, 1), (3, .istore 4, 2), (5, .iload 4, 2), (7, .iload_n 2, 1), (8, .if_icmp .gt 111, 3), (11, .iconst (-1), 1), (12, .istore 5, 2), (14, .iconst 0, 1), (15, .istore 6, 2), (17, .iload 6, 2), (19, .aload_n 0, 1), (20, .getfield 94, 3), (23, .if_icmp .ge 66, 3), (26, .aload_n 0, 1), (27, .getfield 38, 3), (30, .iload 6, 2), (32, .iaload, 1), (33, .ifCond .ne 50, 3), (36, .aload_n 0, 1), (37, .getfield 56, 3), (40, .iload 6, 2), (42, .iaload, 1), (43, .iload_n 1, 1), (44, .if_icmp .ne 39, 3), (47, .iload_n 3, 1), (48, .iload 6, 2), (50, .ishr, 1), (51, .iconst 1, 1), (52, .iand, 1), (53, .ifCond .ne 30, 3), (56, .iload 5, 2), (58, .iconst (-1), 1), (59, .if_icmp .eq 20, 3), (62, .aload_n 0, 1), (63, .getfield 59, 3), (66, .iload 6, 2), (68, .iaload, 1), (69, .aload_n 0, 1), (70, .getfield 59, 3), (73, .iload 5, 2), (75, .iaload, 1), (76, .if_icmp .ge 7, 3), (79, .iload 6, 2), (81, .istore 5, 2), (83, .iinc 6 1, 3), (86, .goto (-69), 3), (89, .iload 5, 2), (91, .iconst (-1), 1), (92, .if_icmp .ne 5, 3), (95, .iconst (-1), 1), (96, .ireturn, 1), (97, .iload 4, 2), (99, .iload_n 2, 1), (100, .if_icmp .ne 6, 3), (103, .iload 5, 2), (105, .ireturn, 1), (106, .iload_n 3, 1), (107, .iconst 1, 1), (108, .iload 5, 2), (110, .ishl, 1), (111, .ior, 1), (112, .istore_n 3, 1), (113, .iinc 4 1, 3), (116, .goto (-111), 3), (119, .iconst (-1), 1), (120, .ireturn, 1)]
theorem c_M_planned_ok : (c_M_planned).all (fun q => decide (decode prog_7_method_37_code q.1 = .ok q.2)) = true := by decide +kernel
theorem d_M_planned_0 : decode prog_7_method_37_code 0 = .ok (.iconst 0, 1) := jx_dec c_M_planned_ok 0 rfl
theorem d_M_planned_1 : decode prog_7_method_37_code 1 = .ok (.istore_n 3, 1) := jx_dec c_M_planned_ok 1 rfl
theorem d_M_planned_2 : decode prog_7_method_37_code 2 = .ok (.iconst 0, 1) := jx_dec c_M_planned_ok 2 rfl
theorem d_M_planned_3 : decode prog_7_method_37_code 3 = .ok (.istore 4, 2) := jx_dec c_M_planned_ok 3 rfl
theorem d_M_planned_5 : decode prog_7_method_37_code 5 = .ok (.iload 4, 2) := jx_dec c_M_planned_ok 4 rfl
theorem d_M_planned_7 : decode prog_7_method_37_code 7 = .ok (.iload_n 2, 1) := jx_dec c_M_planned_ok 5 rfl
theorem d_M_planned_8 : decode prog_7_method_37_code 8 = .ok (.if_icmp .gt 111, 3) := jx_dec c_M_planned_ok 6 rfl
theorem d_M_planned_11 : decode prog_7_method_37_code 11 = .ok (.iconst (-1), 1) := jx_dec c_M_planned_ok 7 rfl
theorem d_M_planned_12 : decode prog_7_method_37_code 12 = .ok (.istore 5, 2) := jx_dec c_M_planned_ok 8 rfl
theorem d_M_planned_14 : decode prog_7_method_37_code 14 = .ok (.iconst 0, 1) := jx_dec c_M_planned_ok 9 rfl
theorem d_M_planned_15 : decode prog_7_method_37_code 15 = .ok (.istore 6, 2) := jx_dec c_M_planned_ok 10 rfl
theorem d_M_planned_17 : decode prog_7_method_37_code 17 = .ok (.iload 6, 2) := jx_dec c_M_planned_ok 11 rfl
theorem d_M_planned_19 : decode prog_7_method_37_code 19 = .ok (.aload_n 0, 1) := jx_dec c_M_planned_ok 12 rfl
theorem d_M_planned_20 : decode prog_7_method_37_code 20 = .ok (.getfield 94, 3) := jx_dec c_M_planned_ok 13 rfl
theorem d_M_planned_23 : decode prog_7_method_37_code 23 = .ok (.if_icmp .ge 66, 3) := jx_dec c_M_planned_ok 14 rfl
theorem d_M_planned_26 : decode prog_7_method_37_code 26 = .ok (.aload_n 0, 1) := jx_dec c_M_planned_ok 15 rfl
theorem d_M_planned_27 : decode prog_7_method_37_code 27 = .ok (.getfield 38, 3) := jx_dec c_M_planned_ok 16 rfl
theorem d_M_planned_30 : decode prog_7_method_37_code 30 = .ok (.iload 6, 2) := jx_dec c_M_planned_ok 17 rfl
theorem d_M_planned_32 : decode prog_7_method_37_code 32 = .ok (.iaload, 1) := jx_dec c_M_planned_ok 18 rfl
theorem d_M_planned_33 : decode prog_7_method_37_code 33 = .ok (.ifCond .ne 50, 3) := jx_dec c_M_planned_ok 19 rfl
theorem d_M_planned_36 : decode prog_7_method_37_code 36 = .ok (.aload_n 0, 1) := jx_dec c_M_planned_ok 20 rfl
theorem d_M_planned_37 : decode prog_7_method_37_code 37 = .ok (.getfield 56, 3) := jx_dec c_M_planned_ok 21 rfl
theorem d_M_planned_40 : decode prog_7_method_37_code 40 = .ok (.iload 6, 2) := jx_dec c_M_planned_ok 22 rfl
theorem d_M_planned_42 : decode prog_7_method_37_code 42 = .ok (.iaload, 1) := jx_dec c_M_planned_ok 23 rfl
theorem d_M_planned_43 : decode prog_7_method_37_code 43 = .ok (.iload_n 1, 1) := jx_dec c_M_planned_ok 24 rfl
theorem d_M_planned_44 : decode prog_7_method_37_code 44 = .ok (.if_icmp .ne 39, 3) := jx_dec c_M_planned_ok 25 rfl
theorem d_M_planned_47 : decode prog_7_method_37_code 47 = .ok (.iload_n 3, 1) := jx_dec c_M_planned_ok 26 rfl
theorem d_M_planned_48 : decode prog_7_method_37_code 48 = .ok (.iload 6, 2) := jx_dec c_M_planned_ok 27 rfl
theorem d_M_planned_50 : decode prog_7_method_37_code 50 = .ok (.ishr, 1) := jx_dec c_M_planned_ok 28 rfl
theorem d_M_planned_51 : decode prog_7_method_37_code 51 = .ok (.iconst 1, 1) := jx_dec c_M_planned_ok 29 rfl
theorem d_M_planned_52 : decode prog_7_method_37_code 52 = .ok (.iand, 1) := jx_dec c_M_planned_ok 30 rfl
theorem d_M_planned_53 : decode prog_7_method_37_code 53 = .ok (.ifCond .ne 30, 3) := jx_dec c_M_planned_ok 31 rfl
theorem d_M_planned_56 : decode prog_7_method_37_code 56 = .ok (.iload 5, 2) := jx_dec c_M_planned_ok 32 rfl
theorem d_M_planned_58 : decode prog_7_method_37_code 58 = .ok (.iconst (-1), 1) := jx_dec c_M_planned_ok 33 rfl
theorem d_M_planned_59 : decode prog_7_method_37_code 59 = .ok (.if_icmp .eq 20, 3) := jx_dec c_M_planned_ok 34 rfl
theorem d_M_planned_62 : decode prog_7_method_37_code 62 = .ok (.aload_n 0, 1) := jx_dec c_M_planned_ok 35 rfl
theorem d_M_planned_63 : decode prog_7_method_37_code 63 = .ok (.getfield 59, 3) := jx_dec c_M_planned_ok 36 rfl
theorem d_M_planned_66 : decode prog_7_method_37_code 66 = .ok (.iload 6, 2) := jx_dec c_M_planned_ok 37 rfl
theorem d_M_planned_68 : decode prog_7_method_37_code 68 = .ok (.iaload, 1) := jx_dec c_M_planned_ok 38 rfl
theorem d_M_planned_69 : decode prog_7_method_37_code 69 = .ok (.aload_n 0, 1) := jx_dec c_M_planned_ok 39 rfl
theorem d_M_planned_70 : decode prog_7_method_37_code 70 = .ok (.getfield 59, 3) := jx_dec c_M_planned_ok 40 rfl
theorem d_M_planned_73 : decode prog_7_method_37_code 73 = .ok (.iload 5, 2) := jx_dec c_M_planned_ok 41 rfl
theorem d_M_planned_75 : decode prog_7_method_37_code 75 = .ok (.iaload, 1) := jx_dec c_M_planned_ok 42 rfl
theorem d_M_planned_76 : decode prog_7_method_37_code 76 = .ok (.if_icmp .ge 7, 3) := jx_dec c_M_planned_ok 43 rfl
theorem d_M_planned_79 : decode prog_7_method_37_code 79 = .ok (.iload 6, 2) := jx_dec c_M_planned_ok 44 rfl
theorem d_M_planned_81 : decode prog_7_method_37_code 81 = .ok (.istore 5, 2) := jx_dec c_M_planned_ok 45 rfl
theorem d_M_planned_83 : decode prog_7_method_37_code 83 = .ok (.iinc 6 1, 3) := jx_dec c_M_planned_ok 46 rfl
theorem d_M_planned_86 : decode prog_7_method_37_code 86 = .ok (.goto (-69), 3) := jx_dec c_M_planned_ok 47 rfl
theorem d_M_planned_89 : decode prog_7_method_37_code 89 = .ok (.iload 5, 2) := jx_dec c_M_planned_ok 48 rfl
theorem d_M_planned_91 : decode prog_7_method_37_code 91 = .ok (.iconst (-1), 1) := jx_dec c_M_planned_ok 49 rfl
theorem d_M_planned_92 : decode prog_7_method_37_code 92 = .ok (.if_icmp .ne 5, 3) := jx_dec c_M_planned_ok 50 rfl
theorem d_M_planned_95 : decode prog_7_method_37_code 95 = .ok (.iconst (-1), 1) := jx_dec c_M_planned_ok 51 rfl
theorem d_M_planned_96 : decode prog_7_method_37_code 96 = .ok (.ireturn, 1) := jx_dec c_M_planned_ok 52 rfl
theorem d_M_planned_97 : decode prog_7_method_37_code 97 = .ok (.iload 4, 2) := jx_dec c_M_planned_ok 53 rfl
theorem d_M_planned_99 : decode prog_7_method_37_code 99 = .ok (.iload_n 2, 1) := jx_dec c_M_planned_ok 54 rfl
theorem d_M_planned_100 : decode prog_7_method_37_code 100 = .ok (.if_icmp .ne 6, 3) := jx_dec c_M_planned_ok 55 rfl
theorem d_M_planned_103 : decode prog_7_method_37_code 103 = .ok (.iload 5, 2) := jx_dec c_M_planned_ok 56 rfl
theorem d_M_planned_105 : decode prog_7_method_37_code 105 = .ok (.ireturn, 1) := jx_dec c_M_planned_ok 57 rfl
theorem d_M_planned_106 : decode prog_7_method_37_code 106 = .ok (.iload_n 3, 1) := jx_dec c_M_planned_ok 58 rfl
theorem d_M_planned_107 : decode prog_7_method_37_code 107 = .ok (.iconst 1, 1) := jx_dec c_M_planned_ok 59 rfl
theorem d_M_planned_108 : decode prog_7_method_37_code 108 = .ok (.iload 5, 2) := jx_dec c_M_planned_ok 60 rfl
theorem d_M_planned_110 : decode prog_7_method_37_code 110 = .ok (.ishl, 1) := jx_dec c_M_planned_ok 61 rfl
theorem d_M_planned_111 : decode prog_7_method_37_code 111 = .ok (.ior, 1) := jx_dec c_M_planned_ok 62 rfl
theorem d_M_planned_112 : decode prog_7_method_37_code 112 = .ok (.istore_n 3, 1) := jx_dec c_M_planned_ok 63 rfl
theorem d_M_planned_113 : decode prog_7_method_37_code 113 = .ok (.iinc 4 1, 3) := jx_dec c_M_planned_ok 64 rfl
theorem d_M_planned_116 : decode prog_7_method_37_code 116 = .ok (.goto (-111), 3) := jx_dec c_M_planned_ok 65 rfl
theorem d_M_planned_119 : decode prog_7_method_37_code 119 = .ok (.iconst (-1), 1) := jx_dec c_M_planned_ok 66 rfl
theorem d_M_planned_120 : decode prog_7_method_37_code 120 = .ok (.ireturn, 1) := jx_dec c_M_planned_ok 67 rfl
def c_M_done : List (Nat × Instr × Nat) := [(0, .aload_n 0, 1), (1, .aload_n 0, 1), (2, .iload_n 1, 1), (3, .invokevirtual 98, 3), (6, .ifCond .ne 7, 3), (9, .iconst 1, 1), (10, .goto 48, 3), (13, .aload_n 0, 1), (14, .getfield 32, 3), (17, .iload_n 1, 1), (18, .iaload, 1), (19, .iconst (-1), 1), (20, .if_icmp .eq 33, 3), (23, .aload_n 0, 1), (24, .getfield 117, 3), (27, .aload_n 0, 1), (28, .getfield 59, 3), (31, .aload_n 0, 1), (32, .getfield 32, 3), (35, .iload_n 1, 1), (36, .iaload, 1), (37, .iaload, 1), (38, .aload_n 0, 1), (39, .getfield 44, 3), (42, .aload_n 0, 1), (43, .getfield 32, 3), (46, .iload_n 1, 1), (47, .iaload, 1), (48, .iaload, 1), (49, .iadd, 1), (50, .if_icmp .ge 7, 3), (53, .iconst 2, 1), (54, .goto 4, 3), (57, .iconst 0, 1), (58, .putfield 83, 3), (61, .aload_n 0, 1), (62, .getfield 83, 3), (65, .ifCond .eq 5, 3), (68, .iconst 0, 1), (69, .ireturn, 1), (70, .aload_n 0, 1), (71, .getfield 38, 3), (74, .aload_n 0, 1), (75, .getfield 32, 3), (78, .iload_n 1, 1), (79, .iaload, 1), (80, .iconst 2, 1), (81, .iastore, 1), (82, .aload_n 0, 1), (83, .getfield 32, 3), (86, .iload_n 1, 1), (87, .iconst (-1), 1), (88, .iastore, 1), (89, .aload_n 0, 1), (90, .iload_n 1, 1), (91, .invokevirtual 191, 3), (94, .ireturn, 1)]
theorem c_M_done_ok : (c_M_done).all (fun q => decide (decode prog_7_method_40_code q.1 = .ok q.2)) = true := by decide +kernel
theorem d_M_done_0 : decode prog_7_method_40_code 0 = .ok (.aload_n 0, 1) := jx_dec c_M_done_ok 0 rfl
theorem d_M_done_1 : decode prog_7_method_40_code 1 = .ok (.aload_n 0, 1) := jx_dec c_M_done_ok 1 rfl
theorem d_M_done_2 : decode prog_7_method_40_code 2 = .ok (.iload_n 1, 1) := jx_dec c_M_done_ok 2 rfl
theorem d_M_done_3 : decode prog_7_method_40_code 3 = .ok (.invokevirtual 98, 3) := jx_dec c_M_done_ok 3 rfl
theorem d_M_done_6 : decode prog_7_method_40_code 6 = .ok (.ifCond .ne 7, 3) := jx_dec c_M_done_ok 4 rfl
theorem d_M_done_9 : decode prog_7_method_40_code 9 = .ok (.iconst 1, 1) := jx_dec c_M_done_ok 5 rfl
theorem d_M_done_10 : decode prog_7_method_40_code 10 = .ok (.goto 48, 3) := jx_dec c_M_done_ok 6 rfl
theorem d_M_done_13 : decode prog_7_method_40_code 13 = .ok (.aload_n 0, 1) := jx_dec c_M_done_ok 7 rfl
theorem d_M_done_14 : decode prog_7_method_40_code 14 = .ok (.getfield 32, 3) := jx_dec c_M_done_ok 8 rfl
theorem d_M_done_17 : decode prog_7_method_40_code 17 = .ok (.iload_n 1, 1) := jx_dec c_M_done_ok 9 rfl
theorem d_M_done_18 : decode prog_7_method_40_code 18 = .ok (.iaload, 1) := jx_dec c_M_done_ok 10 rfl
theorem d_M_done_19 : decode prog_7_method_40_code 19 = .ok (.iconst (-1), 1) := jx_dec c_M_done_ok 11 rfl
theorem d_M_done_20 : decode prog_7_method_40_code 20 = .ok (.if_icmp .eq 33, 3) := jx_dec c_M_done_ok 12 rfl
theorem d_M_done_23 : decode prog_7_method_40_code 23 = .ok (.aload_n 0, 1) := jx_dec c_M_done_ok 13 rfl
theorem d_M_done_24 : decode prog_7_method_40_code 24 = .ok (.getfield 117, 3) := jx_dec c_M_done_ok 14 rfl
theorem d_M_done_27 : decode prog_7_method_40_code 27 = .ok (.aload_n 0, 1) := jx_dec c_M_done_ok 15 rfl
theorem d_M_done_28 : decode prog_7_method_40_code 28 = .ok (.getfield 59, 3) := jx_dec c_M_done_ok 16 rfl
theorem d_M_done_31 : decode prog_7_method_40_code 31 = .ok (.aload_n 0, 1) := jx_dec c_M_done_ok 17 rfl
theorem d_M_done_32 : decode prog_7_method_40_code 32 = .ok (.getfield 32, 3) := jx_dec c_M_done_ok 18 rfl
theorem d_M_done_35 : decode prog_7_method_40_code 35 = .ok (.iload_n 1, 1) := jx_dec c_M_done_ok 19 rfl
theorem d_M_done_36 : decode prog_7_method_40_code 36 = .ok (.iaload, 1) := jx_dec c_M_done_ok 20 rfl
theorem d_M_done_37 : decode prog_7_method_40_code 37 = .ok (.iaload, 1) := jx_dec c_M_done_ok 21 rfl
theorem d_M_done_38 : decode prog_7_method_40_code 38 = .ok (.aload_n 0, 1) := jx_dec c_M_done_ok 22 rfl
theorem d_M_done_39 : decode prog_7_method_40_code 39 = .ok (.getfield 44, 3) := jx_dec c_M_done_ok 23 rfl
theorem d_M_done_42 : decode prog_7_method_40_code 42 = .ok (.aload_n 0, 1) := jx_dec c_M_done_ok 24 rfl
theorem d_M_done_43 : decode prog_7_method_40_code 43 = .ok (.getfield 32, 3) := jx_dec c_M_done_ok 25 rfl
theorem d_M_done_46 : decode prog_7_method_40_code 46 = .ok (.iload_n 1, 1) := jx_dec c_M_done_ok 26 rfl
theorem d_M_done_47 : decode prog_7_method_40_code 47 = .ok (.iaload, 1) := jx_dec c_M_done_ok 27 rfl
theorem d_M_done_48 : decode prog_7_method_40_code 48 = .ok (.iaload, 1) := jx_dec c_M_done_ok 28 rfl
theorem d_M_done_49 : decode prog_7_method_40_code 49 = .ok (.iadd, 1) := jx_dec c_M_done_ok 29 rfl
theorem d_M_done_50 : decode prog_7_method_40_code 50 = .ok (.if_icmp .ge 7, 3) := jx_dec c_M_done_ok 30 rfl
theorem d_M_done_53 : decode prog_7_method_40_code 53 = .ok (.iconst 2, 1) := jx_dec c_M_done_ok 31 rfl
theorem d_M_done_54 : decode prog_7_method_40_code 54 = .ok (.goto 4, 3) := jx_dec c_M_done_ok 32 rfl
theorem d_M_done_57 : decode prog_7_method_40_code 57 = .ok (.iconst 0, 1) := jx_dec c_M_done_ok 33 rfl
theorem d_M_done_58 : decode prog_7_method_40_code 58 = .ok (.putfield 83, 3) := jx_dec c_M_done_ok 34 rfl
theorem d_M_done_61 : decode prog_7_method_40_code 61 = .ok (.aload_n 0, 1) := jx_dec c_M_done_ok 35 rfl
theorem d_M_done_62 : decode prog_7_method_40_code 62 = .ok (.getfield 83, 3) := jx_dec c_M_done_ok 36 rfl
theorem d_M_done_65 : decode prog_7_method_40_code 65 = .ok (.ifCond .eq 5, 3) := jx_dec c_M_done_ok 37 rfl
theorem d_M_done_68 : decode prog_7_method_40_code 68 = .ok (.iconst 0, 1) := jx_dec c_M_done_ok 38 rfl
theorem d_M_done_69 : decode prog_7_method_40_code 69 = .ok (.ireturn, 1) := jx_dec c_M_done_ok 39 rfl
theorem d_M_done_70 : decode prog_7_method_40_code 70 = .ok (.aload_n 0, 1) := jx_dec c_M_done_ok 40 rfl
theorem d_M_done_71 : decode prog_7_method_40_code 71 = .ok (.getfield 38, 3) := jx_dec c_M_done_ok 41 rfl
theorem d_M_done_74 : decode prog_7_method_40_code 74 = .ok (.aload_n 0, 1) := jx_dec c_M_done_ok 42 rfl
theorem d_M_done_75 : decode prog_7_method_40_code 75 = .ok (.getfield 32, 3) := jx_dec c_M_done_ok 43 rfl
theorem d_M_done_78 : decode prog_7_method_40_code 78 = .ok (.iload_n 1, 1) := jx_dec c_M_done_ok 44 rfl
theorem d_M_done_79 : decode prog_7_method_40_code 79 = .ok (.iaload, 1) := jx_dec c_M_done_ok 45 rfl
theorem d_M_done_80 : decode prog_7_method_40_code 80 = .ok (.iconst 2, 1) := jx_dec c_M_done_ok 46 rfl
theorem d_M_done_81 : decode prog_7_method_40_code 81 = .ok (.iastore, 1) := jx_dec c_M_done_ok 47 rfl
theorem d_M_done_82 : decode prog_7_method_40_code 82 = .ok (.aload_n 0, 1) := jx_dec c_M_done_ok 48 rfl
theorem d_M_done_83 : decode prog_7_method_40_code 83 = .ok (.getfield 32, 3) := jx_dec c_M_done_ok 49 rfl
theorem d_M_done_86 : decode prog_7_method_40_code 86 = .ok (.iload_n 1, 1) := jx_dec c_M_done_ok 50 rfl
theorem d_M_done_87 : decode prog_7_method_40_code 87 = .ok (.iconst (-1), 1) := jx_dec c_M_done_ok 51 rfl
theorem d_M_done_88 : decode prog_7_method_40_code 88 = .ok (.iastore, 1) := jx_dec c_M_done_ok 52 rfl
theorem d_M_done_89 : decode prog_7_method_40_code 89 = .ok (.aload_n 0, 1) := jx_dec c_M_done_ok 53 rfl
theorem d_M_done_90 : decode prog_7_method_40_code 90 = .ok (.iload_n 1, 1) := jx_dec c_M_done_ok 54 rfl
theorem d_M_done_91 : decode prog_7_method_40_code 91 = .ok (.invokevirtual 191, 3) := jx_dec c_M_done_ok 55 rfl
theorem d_M_done_94 : decode prog_7_method_40_code 94 = .ok (.ireturn, 1) := jx_dec c_M_done_ok 56 rfl
def c_M_doneBy : List (Nat × Instr × Nat) := [(0, .iconst 0, 1), (1, .istore_n 2, 1), (2, .iconst 0, 1), (3, .istore_n 3, 1), (4, .iload_n 3, 1), (5, .aload_n 0, 1), (6, .getfield 94, 3), (9, .if_icmp .ge 37, 3), (12, .aload_n 0, 1), (13, .getfield 38, 3), (16, .iload_n 3, 1), (17, .iaload, 1), (18, .iconst 2, 1), (19, .if_icmp .ne 21, 3), (22, .iload_n 1, 1), (23, .iconst (-1), 1), (24, .if_icmp .eq 13, 3), (27, .aload_n 0, 1), (28, .getfield 56, 3), (31, .iload_n 3, 1), (32, .iaload, 1), (33, .iload_n 1, 1), (34, .if_icmp .ne 6, 3), (37, .iinc 2 1, 3), (40, .iinc 3 1, 3), (43, .goto (-39), 3), (46, .iload_n 2, 1), (47, .ireturn, 1)]
theorem c_M_doneBy_ok : (c_M_doneBy).all (fun q => decide (decode prog_7_method_39_code q.1 = .ok q.2)) = true := by decide +kernel
theorem d_M_doneBy_0 : decode prog_7_method_39_code 0 = .ok (.iconst 0, 1) := jx_dec c_M_doneBy_ok 0 rfl
theorem d_M_doneBy_1 : decode prog_7_method_39_code 1 = .ok (.istore_n 2, 1) := jx_dec c_M_doneBy_ok 1 rfl
theorem d_M_doneBy_2 : decode prog_7_method_39_code 2 = .ok (.iconst 0, 1) := jx_dec c_M_doneBy_ok 2 rfl
theorem d_M_doneBy_3 : decode prog_7_method_39_code 3 = .ok (.istore_n 3, 1) := jx_dec c_M_doneBy_ok 3 rfl
theorem d_M_doneBy_4 : decode prog_7_method_39_code 4 = .ok (.iload_n 3, 1) := jx_dec c_M_doneBy_ok 4 rfl
theorem d_M_doneBy_5 : decode prog_7_method_39_code 5 = .ok (.aload_n 0, 1) := jx_dec c_M_doneBy_ok 5 rfl
theorem d_M_doneBy_6 : decode prog_7_method_39_code 6 = .ok (.getfield 94, 3) := jx_dec c_M_doneBy_ok 6 rfl
theorem d_M_doneBy_9 : decode prog_7_method_39_code 9 = .ok (.if_icmp .ge 37, 3) := jx_dec c_M_doneBy_ok 7 rfl
theorem d_M_doneBy_12 : decode prog_7_method_39_code 12 = .ok (.aload_n 0, 1) := jx_dec c_M_doneBy_ok 8 rfl
theorem d_M_doneBy_13 : decode prog_7_method_39_code 13 = .ok (.getfield 38, 3) := jx_dec c_M_doneBy_ok 9 rfl
theorem d_M_doneBy_16 : decode prog_7_method_39_code 16 = .ok (.iload_n 3, 1) := jx_dec c_M_doneBy_ok 10 rfl
theorem d_M_doneBy_17 : decode prog_7_method_39_code 17 = .ok (.iaload, 1) := jx_dec c_M_doneBy_ok 11 rfl
theorem d_M_doneBy_18 : decode prog_7_method_39_code 18 = .ok (.iconst 2, 1) := jx_dec c_M_doneBy_ok 12 rfl
theorem d_M_doneBy_19 : decode prog_7_method_39_code 19 = .ok (.if_icmp .ne 21, 3) := jx_dec c_M_doneBy_ok 13 rfl
theorem d_M_doneBy_22 : decode prog_7_method_39_code 22 = .ok (.iload_n 1, 1) := jx_dec c_M_doneBy_ok 14 rfl
theorem d_M_doneBy_23 : decode prog_7_method_39_code 23 = .ok (.iconst (-1), 1) := jx_dec c_M_doneBy_ok 15 rfl
theorem d_M_doneBy_24 : decode prog_7_method_39_code 24 = .ok (.if_icmp .eq 13, 3) := jx_dec c_M_doneBy_ok 16 rfl
theorem d_M_doneBy_27 : decode prog_7_method_39_code 27 = .ok (.aload_n 0, 1) := jx_dec c_M_doneBy_ok 17 rfl
theorem d_M_doneBy_28 : decode prog_7_method_39_code 28 = .ok (.getfield 56, 3) := jx_dec c_M_doneBy_ok 18 rfl
theorem d_M_doneBy_31 : decode prog_7_method_39_code 31 = .ok (.iload_n 3, 1) := jx_dec c_M_doneBy_ok 19 rfl
theorem d_M_doneBy_32 : decode prog_7_method_39_code 32 = .ok (.iaload, 1) := jx_dec c_M_doneBy_ok 20 rfl
theorem d_M_doneBy_33 : decode prog_7_method_39_code 33 = .ok (.iload_n 1, 1) := jx_dec c_M_doneBy_ok 21 rfl
theorem d_M_doneBy_34 : decode prog_7_method_39_code 34 = .ok (.if_icmp .ne 6, 3) := jx_dec c_M_doneBy_ok 22 rfl
theorem d_M_doneBy_37 : decode prog_7_method_39_code 37 = .ok (.iinc 2 1, 3) := jx_dec c_M_doneBy_ok 23 rfl
theorem d_M_doneBy_40 : decode prog_7_method_39_code 40 = .ok (.iinc 3 1, 3) := jx_dec c_M_doneBy_ok 24 rfl
theorem d_M_doneBy_43 : decode prog_7_method_39_code 43 = .ok (.goto (-39), 3) := jx_dec c_M_doneBy_ok 25 rfl
theorem d_M_doneBy_46 : decode prog_7_method_39_code 46 = .ok (.iload_n 2, 1) := jx_dec c_M_doneBy_ok 26 rfl
theorem d_M_doneBy_47 : decode prog_7_method_39_code 47 = .ok (.ireturn, 1) := jx_dec c_M_doneBy_ok 27 rfl
def c_M_leaves : List (Nat × Instr × Nat) := [(0, .aload_n 0, 1), (1, .aload_n 0, 1), (2, .iload_n 1, 1), (3, .invokevirtual 98, 3), (6, .ifCond .ne 7, 3), (9, .iconst 1, 1), (10, .goto 17, 3), (13, .aload_n 0, 1), (14, .getfield 28, 3), (17, .iload_n 1, 1), (18, .baload, 1), (19, .ifCond .ne 7, 3), (22, .iconst 2, 1), (23, .goto 4, 3), (26, .iconst 0, 1), (27, .putfield 83, 3), (30, .aload_n 0, 1), (31, .getfield 83, 3), (34, .ifCond .eq 5, 3), (37, .iconst 0, 1), (38, .ireturn, 1), (39, .aload_n 0, 1), (40, .getfield 28, 3), (43, .iload_n 1, 1), (44, .iconst 0, 1), (45, .bastore, 1), (46, .aload_n 0, 1), (47, .getfield 32, 3), (50, .iload_n 1, 1), (51, .iconst (-1), 1), (52, .iastore, 1), (53, .iconst 0, 1), (54, .istore_n 2, 1), (55, .iconst 0, 1), (56, .istore_n 3, 1), (57, .iload_n 3, 1), (58, .aload_n 0, 1), (59, .getfield 94, 3), (62, .if_icmp .ge 37, 3), (65, .aload_n 0, 1), (66, .getfield 56, 3), (69, .iload_n 3, 1), (70, .iaload, 1), (71, .iload_n 1, 1), (72, .if_icmp .ne 21, 3), (75, .aload_n 0, 1), (76, .getfield 38, 3), (79, .iload_n 3, 1), (80, .iaload, 1), (81, .iconst 2, 1), (82, .if_icmp .eq 11, 3), (85, .aload_n 0, 1), (86, .iload_n 3, 1), (87, .invokevirtual 113, 3), (90, .iinc 2 1, 3), (93, .iinc 3 1, 3), (96, .goto (-39), 3), (99, .iload_n 2, 1), (100, .ireturn, 1)]
theorem c_M_leaves_ok : (c_M_leaves).all (fun q => decide (decode prog_7_method_41_code q.1 = .ok q.2)) = true := by decide +kernel
theorem d_M_leaves_0 : decode prog_7_method_41_code 0 = .ok (.aload_n 0, 1) := jx_dec c_M_leaves_ok 0 rfl
theorem d_M_leaves_1 : decode prog_7_method_41_code 1 = .ok (.aload_n 0, 1) := jx_dec c_M_leaves_ok 1 rfl
theorem d_M_leaves_2 : decode prog_7_method_41_code 2 = .ok (.iload_n 1, 1) := jx_dec c_M_leaves_ok 2 rfl
theorem d_M_leaves_3 : decode prog_7_method_41_code 3 = .ok (.invokevirtual 98, 3) := jx_dec c_M_leaves_ok 3 rfl
theorem d_M_leaves_6 : decode prog_7_method_41_code 6 = .ok (.ifCond .ne 7, 3) := jx_dec c_M_leaves_ok 4 rfl
theorem d_M_leaves_9 : decode prog_7_method_41_code 9 = .ok (.iconst 1, 1) := jx_dec c_M_leaves_ok 5 rfl
theorem d_M_leaves_10 : decode prog_7_method_41_code 10 = .ok (.goto 17, 3) := jx_dec c_M_leaves_ok 6 rfl
theorem d_M_leaves_13 : decode prog_7_method_41_code 13 = .ok (.aload_n 0, 1) := jx_dec c_M_leaves_ok 7 rfl
theorem d_M_leaves_14 : decode prog_7_method_41_code 14 = .ok (.getfield 28, 3) := jx_dec c_M_leaves_ok 8 rfl
theorem d_M_leaves_17 : decode prog_7_method_41_code 17 = .ok (.iload_n 1, 1) := jx_dec c_M_leaves_ok 9 rfl
theorem d_M_leaves_18 : decode prog_7_method_41_code 18 = .ok (.baload, 1) := jx_dec c_M_leaves_ok 10 rfl
theorem d_M_leaves_19 : decode prog_7_method_41_code 19 = .ok (.ifCond .ne 7, 3) := jx_dec c_M_leaves_ok 11 rfl
theorem d_M_leaves_22 : decode prog_7_method_41_code 22 = .ok (.iconst 2, 1) := jx_dec c_M_leaves_ok 12 rfl
theorem d_M_leaves_23 : decode prog_7_method_41_code 23 = .ok (.goto 4, 3) := jx_dec c_M_leaves_ok 13 rfl
theorem d_M_leaves_26 : decode prog_7_method_41_code 26 = .ok (.iconst 0, 1) := jx_dec c_M_leaves_ok 14 rfl
theorem d_M_leaves_27 : decode prog_7_method_41_code 27 = .ok (.putfield 83, 3) := jx_dec c_M_leaves_ok 15 rfl
theorem d_M_leaves_30 : decode prog_7_method_41_code 30 = .ok (.aload_n 0, 1) := jx_dec c_M_leaves_ok 16 rfl
theorem d_M_leaves_31 : decode prog_7_method_41_code 31 = .ok (.getfield 83, 3) := jx_dec c_M_leaves_ok 17 rfl
theorem d_M_leaves_34 : decode prog_7_method_41_code 34 = .ok (.ifCond .eq 5, 3) := jx_dec c_M_leaves_ok 18 rfl
theorem d_M_leaves_37 : decode prog_7_method_41_code 37 = .ok (.iconst 0, 1) := jx_dec c_M_leaves_ok 19 rfl
theorem d_M_leaves_38 : decode prog_7_method_41_code 38 = .ok (.ireturn, 1) := jx_dec c_M_leaves_ok 20 rfl
theorem d_M_leaves_39 : decode prog_7_method_41_code 39 = .ok (.aload_n 0, 1) := jx_dec c_M_leaves_ok 21 rfl
theorem d_M_leaves_40 : decode prog_7_method_41_code 40 = .ok (.getfield 28, 3) := jx_dec c_M_leaves_ok 22 rfl
theorem d_M_leaves_43 : decode prog_7_method_41_code 43 = .ok (.iload_n 1, 1) := jx_dec c_M_leaves_ok 23 rfl
theorem d_M_leaves_44 : decode prog_7_method_41_code 44 = .ok (.iconst 0, 1) := jx_dec c_M_leaves_ok 24 rfl
theorem d_M_leaves_45 : decode prog_7_method_41_code 45 = .ok (.bastore, 1) := jx_dec c_M_leaves_ok 25 rfl
theorem d_M_leaves_46 : decode prog_7_method_41_code 46 = .ok (.aload_n 0, 1) := jx_dec c_M_leaves_ok 26 rfl
theorem d_M_leaves_47 : decode prog_7_method_41_code 47 = .ok (.getfield 32, 3) := jx_dec c_M_leaves_ok 27 rfl
theorem d_M_leaves_50 : decode prog_7_method_41_code 50 = .ok (.iload_n 1, 1) := jx_dec c_M_leaves_ok 28 rfl
theorem d_M_leaves_51 : decode prog_7_method_41_code 51 = .ok (.iconst (-1), 1) := jx_dec c_M_leaves_ok 29 rfl
theorem d_M_leaves_52 : decode prog_7_method_41_code 52 = .ok (.iastore, 1) := jx_dec c_M_leaves_ok 30 rfl
theorem d_M_leaves_53 : decode prog_7_method_41_code 53 = .ok (.iconst 0, 1) := jx_dec c_M_leaves_ok 31 rfl
theorem d_M_leaves_54 : decode prog_7_method_41_code 54 = .ok (.istore_n 2, 1) := jx_dec c_M_leaves_ok 32 rfl
theorem d_M_leaves_55 : decode prog_7_method_41_code 55 = .ok (.iconst 0, 1) := jx_dec c_M_leaves_ok 33 rfl
theorem d_M_leaves_56 : decode prog_7_method_41_code 56 = .ok (.istore_n 3, 1) := jx_dec c_M_leaves_ok 34 rfl
theorem d_M_leaves_57 : decode prog_7_method_41_code 57 = .ok (.iload_n 3, 1) := jx_dec c_M_leaves_ok 35 rfl
theorem d_M_leaves_58 : decode prog_7_method_41_code 58 = .ok (.aload_n 0, 1) := jx_dec c_M_leaves_ok 36 rfl
theorem d_M_leaves_59 : decode prog_7_method_41_code 59 = .ok (.getfield 94, 3) := jx_dec c_M_leaves_ok 37 rfl
theorem d_M_leaves_62 : decode prog_7_method_41_code 62 = .ok (.if_icmp .ge 37, 3) := jx_dec c_M_leaves_ok 38 rfl
theorem d_M_leaves_65 : decode prog_7_method_41_code 65 = .ok (.aload_n 0, 1) := jx_dec c_M_leaves_ok 39 rfl
theorem d_M_leaves_66 : decode prog_7_method_41_code 66 = .ok (.getfield 56, 3) := jx_dec c_M_leaves_ok 40 rfl
theorem d_M_leaves_69 : decode prog_7_method_41_code 69 = .ok (.iload_n 3, 1) := jx_dec c_M_leaves_ok 41 rfl
theorem d_M_leaves_70 : decode prog_7_method_41_code 70 = .ok (.iaload, 1) := jx_dec c_M_leaves_ok 42 rfl
theorem d_M_leaves_71 : decode prog_7_method_41_code 71 = .ok (.iload_n 1, 1) := jx_dec c_M_leaves_ok 43 rfl
theorem d_M_leaves_72 : decode prog_7_method_41_code 72 = .ok (.if_icmp .ne 21, 3) := jx_dec c_M_leaves_ok 44 rfl
theorem d_M_leaves_75 : decode prog_7_method_41_code 75 = .ok (.aload_n 0, 1) := jx_dec c_M_leaves_ok 45 rfl
theorem d_M_leaves_76 : decode prog_7_method_41_code 76 = .ok (.getfield 38, 3) := jx_dec c_M_leaves_ok 46 rfl
theorem d_M_leaves_79 : decode prog_7_method_41_code 79 = .ok (.iload_n 3, 1) := jx_dec c_M_leaves_ok 47 rfl
theorem d_M_leaves_80 : decode prog_7_method_41_code 80 = .ok (.iaload, 1) := jx_dec c_M_leaves_ok 48 rfl
theorem d_M_leaves_81 : decode prog_7_method_41_code 81 = .ok (.iconst 2, 1) := jx_dec c_M_leaves_ok 49 rfl
theorem d_M_leaves_82 : decode prog_7_method_41_code 82 = .ok (.if_icmp .eq 11, 3) := jx_dec c_M_leaves_ok 50 rfl
theorem d_M_leaves_85 : decode prog_7_method_41_code 85 = .ok (.aload_n 0, 1) := jx_dec c_M_leaves_ok 51 rfl
theorem d_M_leaves_86 : decode prog_7_method_41_code 86 = .ok (.iload_n 3, 1) := jx_dec c_M_leaves_ok 52 rfl
theorem d_M_leaves_87 : decode prog_7_method_41_code 87 = .ok (.invokevirtual 113, 3) := jx_dec c_M_leaves_ok 53 rfl
theorem d_M_leaves_90 : decode prog_7_method_41_code 90 = .ok (.iinc 2 1, 3) := jx_dec c_M_leaves_ok 54 rfl
theorem d_M_leaves_93 : decode prog_7_method_41_code 93 = .ok (.iinc 3 1, 3) := jx_dec c_M_leaves_ok 55 rfl
theorem d_M_leaves_96 : decode prog_7_method_41_code 96 = .ok (.goto (-39), 3) := jx_dec c_M_leaves_ok 56 rfl
theorem d_M_leaves_99 : decode prog_7_method_41_code 99 = .ok (.iload_n 2, 1) := jx_dec c_M_leaves_ok 57 rfl
theorem d_M_leaves_100 : decode prog_7_method_41_code 100 = .ok (.ireturn, 1) := jx_dec c_M_leaves_ok 58 rfl
def c_M_fair : List (Nat × Instr × Nat) := [(0, .aload_n 0, 1), (1, .aload_n 0, 1), (2, .iload_n 1, 1), (3, .invokevirtual 98, 3), (6, .ifCond .eq 7, 3), (9, .iconst 0, 1), (10, .goto 4, 3), (13, .iconst 1, 1), (14, .putfield 83, 3), (17, .aload_n 0, 1), (18, .getfield 83, 3), (21, .ifCond .eq 5, 3), (24, .iconst 0, 1), (25, .ireturn, 1), (26, .aload_n 0, 1), (27, .iconst (-1), 1), (28, .invokevirtual 191, 3), (31, .istore_n 2, 1), (32, .iload_n 2, 1), (33, .ifCond .ne 7, 3), (36, .iconst 0, 1), (37, .goto 13, 3), (40, .bipush 100, 2), (42, .aload_n 0, 1), (43, .iload_n 1, 1), (44, .invokevirtual 191, 3), (47, .imul, 1), (48, .iload_n 2, 1), (49, .idiv, 1), (50, .ireturn, 1)]
theorem c_M_fair_ok : (c_M_fair).all (fun q => decide (decode prog_7_method_42_code q.1 = .ok q.2)) = true := by decide +kernel
theorem d_M_fair_0 : decode prog_7_method_42_code 0 = .ok (.aload_n 0, 1) := jx_dec c_M_fair_ok 0 rfl
theorem d_M_fair_1 : decode prog_7_method_42_code 1 = .ok (.aload_n 0, 1) := jx_dec c_M_fair_ok 1 rfl
theorem d_M_fair_2 : decode prog_7_method_42_code 2 = .ok (.iload_n 1, 1) := jx_dec c_M_fair_ok 2 rfl
theorem d_M_fair_3 : decode prog_7_method_42_code 3 = .ok (.invokevirtual 98, 3) := jx_dec c_M_fair_ok 3 rfl
theorem d_M_fair_6 : decode prog_7_method_42_code 6 = .ok (.ifCond .eq 7, 3) := jx_dec c_M_fair_ok 4 rfl
theorem d_M_fair_9 : decode prog_7_method_42_code 9 = .ok (.iconst 0, 1) := jx_dec c_M_fair_ok 5 rfl
theorem d_M_fair_10 : decode prog_7_method_42_code 10 = .ok (.goto 4, 3) := jx_dec c_M_fair_ok 6 rfl
theorem d_M_fair_13 : decode prog_7_method_42_code 13 = .ok (.iconst 1, 1) := jx_dec c_M_fair_ok 7 rfl
theorem d_M_fair_14 : decode prog_7_method_42_code 14 = .ok (.putfield 83, 3) := jx_dec c_M_fair_ok 8 rfl
theorem d_M_fair_17 : decode prog_7_method_42_code 17 = .ok (.aload_n 0, 1) := jx_dec c_M_fair_ok 9 rfl
theorem d_M_fair_18 : decode prog_7_method_42_code 18 = .ok (.getfield 83, 3) := jx_dec c_M_fair_ok 10 rfl
theorem d_M_fair_21 : decode prog_7_method_42_code 21 = .ok (.ifCond .eq 5, 3) := jx_dec c_M_fair_ok 11 rfl
theorem d_M_fair_24 : decode prog_7_method_42_code 24 = .ok (.iconst 0, 1) := jx_dec c_M_fair_ok 12 rfl
theorem d_M_fair_25 : decode prog_7_method_42_code 25 = .ok (.ireturn, 1) := jx_dec c_M_fair_ok 13 rfl
theorem d_M_fair_26 : decode prog_7_method_42_code 26 = .ok (.aload_n 0, 1) := jx_dec c_M_fair_ok 14 rfl
theorem d_M_fair_27 : decode prog_7_method_42_code 27 = .ok (.iconst (-1), 1) := jx_dec c_M_fair_ok 15 rfl
theorem d_M_fair_28 : decode prog_7_method_42_code 28 = .ok (.invokevirtual 191, 3) := jx_dec c_M_fair_ok 16 rfl
theorem d_M_fair_31 : decode prog_7_method_42_code 31 = .ok (.istore_n 2, 1) := jx_dec c_M_fair_ok 17 rfl
theorem d_M_fair_32 : decode prog_7_method_42_code 32 = .ok (.iload_n 2, 1) := jx_dec c_M_fair_ok 18 rfl
theorem d_M_fair_33 : decode prog_7_method_42_code 33 = .ok (.ifCond .ne 7, 3) := jx_dec c_M_fair_ok 19 rfl
theorem d_M_fair_36 : decode prog_7_method_42_code 36 = .ok (.iconst 0, 1) := jx_dec c_M_fair_ok 20 rfl
theorem d_M_fair_37 : decode prog_7_method_42_code 37 = .ok (.goto 13, 3) := jx_dec c_M_fair_ok 21 rfl
theorem d_M_fair_40 : decode prog_7_method_42_code 40 = .ok (.bipush 100, 2) := jx_dec c_M_fair_ok 22 rfl
theorem d_M_fair_42 : decode prog_7_method_42_code 42 = .ok (.aload_n 0, 1) := jx_dec c_M_fair_ok 23 rfl
theorem d_M_fair_43 : decode prog_7_method_42_code 43 = .ok (.iload_n 1, 1) := jx_dec c_M_fair_ok 24 rfl
theorem d_M_fair_44 : decode prog_7_method_42_code 44 = .ok (.invokevirtual 191, 3) := jx_dec c_M_fair_ok 25 rfl
theorem d_M_fair_47 : decode prog_7_method_42_code 47 = .ok (.imul, 1) := jx_dec c_M_fair_ok 26 rfl
theorem d_M_fair_48 : decode prog_7_method_42_code 48 = .ok (.iload_n 2, 1) := jx_dec c_M_fair_ok 27 rfl
theorem d_M_fair_49 : decode prog_7_method_42_code 49 = .ok (.idiv, 1) := jx_dec c_M_fair_ok 28 rfl
theorem d_M_fair_50 : decode prog_7_method_42_code 50 = .ok (.ireturn, 1) := jx_dec c_M_fair_ok 29 rfl
def c_M_pass : List (Nat × Instr × Nat) := [(0, .aload_n 0, 1), (1, .iload_n 1, 1), (2, .aload_n 0, 1), (3, .getfield 117, 3), (6, .if_icmp .lt 9, 3), (9, .iload_n 1, 1), (10, .ldc 97, 2), (12, .if_icmp .le 7, 3), (15, .iconst 1, 1), (16, .goto 4, 3), (19, .iconst 0, 1), (20, .putfield 83, 3), (23, .aload_n 0, 1), (24, .getfield 83, 3), (27, .ifCond .ne 8, 3), (30, .aload_n 0, 1), (31, .iload_n 1, 1), (32, .putfield 117, 3), (35, .return_, 1)]
theorem c_M_pass_ok : (c_M_pass).all (fun q => decide (decode prog_7_method_43_code q.1 = .ok q.2)) = true := by decide +kernel
theorem d_M_pass_0 : decode prog_7_method_43_code 0 = .ok (.aload_n 0, 1) := jx_dec c_M_pass_ok 0 rfl
theorem d_M_pass_1 : decode prog_7_method_43_code 1 = .ok (.iload_n 1, 1) := jx_dec c_M_pass_ok 1 rfl
theorem d_M_pass_2 : decode prog_7_method_43_code 2 = .ok (.aload_n 0, 1) := jx_dec c_M_pass_ok 2 rfl
theorem d_M_pass_3 : decode prog_7_method_43_code 3 = .ok (.getfield 117, 3) := jx_dec c_M_pass_ok 3 rfl
theorem d_M_pass_6 : decode prog_7_method_43_code 6 = .ok (.if_icmp .lt 9, 3) := jx_dec c_M_pass_ok 4 rfl
theorem d_M_pass_9 : decode prog_7_method_43_code 9 = .ok (.iload_n 1, 1) := jx_dec c_M_pass_ok 5 rfl
theorem d_M_pass_10 : decode prog_7_method_43_code 10 = .ok (.ldc 97, 2) := jx_dec c_M_pass_ok 6 rfl
theorem d_M_pass_12 : decode prog_7_method_43_code 12 = .ok (.if_icmp .le 7, 3) := jx_dec c_M_pass_ok 7 rfl
theorem d_M_pass_15 : decode prog_7_method_43_code 15 = .ok (.iconst 1, 1) := jx_dec c_M_pass_ok 8 rfl
theorem d_M_pass_16 : decode prog_7_method_43_code 16 = .ok (.goto 4, 3) := jx_dec c_M_pass_ok 9 rfl
theorem d_M_pass_19 : decode prog_7_method_43_code 19 = .ok (.iconst 0, 1) := jx_dec c_M_pass_ok 10 rfl
theorem d_M_pass_20 : decode prog_7_method_43_code 20 = .ok (.putfield 83, 3) := jx_dec c_M_pass_ok 11 rfl
theorem d_M_pass_23 : decode prog_7_method_43_code 23 = .ok (.aload_n 0, 1) := jx_dec c_M_pass_ok 12 rfl
theorem d_M_pass_24 : decode prog_7_method_43_code 24 = .ok (.getfield 83, 3) := jx_dec c_M_pass_ok 13 rfl
theorem d_M_pass_27 : decode prog_7_method_43_code 27 = .ok (.ifCond .ne 8, 3) := jx_dec c_M_pass_ok 14 rfl
theorem d_M_pass_30 : decode prog_7_method_43_code 30 = .ok (.aload_n 0, 1) := jx_dec c_M_pass_ok 15 rfl
theorem d_M_pass_31 : decode prog_7_method_43_code 31 = .ok (.iload_n 1, 1) := jx_dec c_M_pass_ok 16 rfl
theorem d_M_pass_32 : decode prog_7_method_43_code 32 = .ok (.putfield 117, 3) := jx_dec c_M_pass_ok 17 rfl
theorem d_M_pass_35 : decode prog_7_method_43_code 35 = .ok (.return_, 1) := jx_dec c_M_pass_ok 18 rfl
def c_M_order : List (Nat × Instr × Nat) := [(0, .aload_n 0, 1), (1, .aload_n 0, 1), (2, .iload_n 1, 1), (3, .invokevirtual 98, 3), (6, .ifCond .ne 7, 3), (9, .iconst 1, 1), (10, .goto 12, 3), (13, .iload_n 2, 1), (14, .ifCond .ge 7, 3), (17, .iconst 2, 1), (18, .goto 4, 3), (21, .iconst 0, 1), (22, .putfield 83, 3), (25, .aload_n 0, 1), (26, .getfield 83, 3), (29, .ifCond .eq 5, 3), (32, .iconst 0, 1), (33, .ireturn, 1), (34, .iload_n 2, 1), (35, .bipush 16, 2), (37, .if_icmp .lt 7, 3), (40, .iconst (-1), 1), (41, .goto 9, 3), (44, .aload_n 0, 1), (45, .iload_n 1, 1), (46, .iload_n 2, 1), (47, .invokevirtual 188, 3), (50, .ireturn, 1)]
theorem c_M_order_ok : (c_M_order).all (fun q => decide (decode prog_7_method_44_code q.1 = .ok q.2)) = true := by decide +kernel
theorem d_M_order_0 : decode prog_7_method_44_code 0 = .ok (.aload_n 0, 1) := jx_dec c_M_order_ok 0 rfl
theorem d_M_order_1 : decode prog_7_method_44_code 1 = .ok (.aload_n 0, 1) := jx_dec c_M_order_ok 1 rfl
theorem d_M_order_2 : decode prog_7_method_44_code 2 = .ok (.iload_n 1, 1) := jx_dec c_M_order_ok 2 rfl
theorem d_M_order_3 : decode prog_7_method_44_code 3 = .ok (.invokevirtual 98, 3) := jx_dec c_M_order_ok 3 rfl
theorem d_M_order_6 : decode prog_7_method_44_code 6 = .ok (.ifCond .ne 7, 3) := jx_dec c_M_order_ok 4 rfl
theorem d_M_order_9 : decode prog_7_method_44_code 9 = .ok (.iconst 1, 1) := jx_dec c_M_order_ok 5 rfl
theorem d_M_order_10 : decode prog_7_method_44_code 10 = .ok (.goto 12, 3) := jx_dec c_M_order_ok 6 rfl
theorem d_M_order_13 : decode prog_7_method_44_code 13 = .ok (.iload_n 2, 1) := jx_dec c_M_order_ok 7 rfl
theorem d_M_order_14 : decode prog_7_method_44_code 14 = .ok (.ifCond .ge 7, 3) := jx_dec c_M_order_ok 8 rfl
theorem d_M_order_17 : decode prog_7_method_44_code 17 = .ok (.iconst 2, 1) := jx_dec c_M_order_ok 9 rfl
theorem d_M_order_18 : decode prog_7_method_44_code 18 = .ok (.goto 4, 3) := jx_dec c_M_order_ok 10 rfl
theorem d_M_order_21 : decode prog_7_method_44_code 21 = .ok (.iconst 0, 1) := jx_dec c_M_order_ok 11 rfl
theorem d_M_order_22 : decode prog_7_method_44_code 22 = .ok (.putfield 83, 3) := jx_dec c_M_order_ok 12 rfl
theorem d_M_order_25 : decode prog_7_method_44_code 25 = .ok (.aload_n 0, 1) := jx_dec c_M_order_ok 13 rfl
theorem d_M_order_26 : decode prog_7_method_44_code 26 = .ok (.getfield 83, 3) := jx_dec c_M_order_ok 14 rfl
theorem d_M_order_29 : decode prog_7_method_44_code 29 = .ok (.ifCond .eq 5, 3) := jx_dec c_M_order_ok 15 rfl
theorem d_M_order_32 : decode prog_7_method_44_code 32 = .ok (.iconst 0, 1) := jx_dec c_M_order_ok 16 rfl
theorem d_M_order_33 : decode prog_7_method_44_code 33 = .ok (.ireturn, 1) := jx_dec c_M_order_ok 17 rfl
theorem d_M_order_34 : decode prog_7_method_44_code 34 = .ok (.iload_n 2, 1) := jx_dec c_M_order_ok 18 rfl
theorem d_M_order_35 : decode prog_7_method_44_code 35 = .ok (.bipush 16, 2) := jx_dec c_M_order_ok 19 rfl
theorem d_M_order_37 : decode prog_7_method_44_code 37 = .ok (.if_icmp .lt 7, 3) := jx_dec c_M_order_ok 20 rfl
theorem d_M_order_40 : decode prog_7_method_44_code 40 = .ok (.iconst (-1), 1) := jx_dec c_M_order_ok 21 rfl
theorem d_M_order_41 : decode prog_7_method_44_code 41 = .ok (.goto 9, 3) := jx_dec c_M_order_ok 22 rfl
theorem d_M_order_44 : decode prog_7_method_44_code 44 = .ok (.aload_n 0, 1) := jx_dec c_M_order_ok 23 rfl
theorem d_M_order_45 : decode prog_7_method_44_code 45 = .ok (.iload_n 1, 1) := jx_dec c_M_order_ok 24 rfl
theorem d_M_order_46 : decode prog_7_method_44_code 46 = .ok (.iload_n 2, 1) := jx_dec c_M_order_ok 25 rfl
theorem d_M_order_47 : decode prog_7_method_44_code 47 = .ok (.invokevirtual 188, 3) := jx_dec c_M_order_ok 26 rfl
theorem d_M_order_50 : decode prog_7_method_44_code 50 = .ok (.ireturn, 1) := jx_dec c_M_order_ok 27 rfl
def c_M_told : List (Nat × Instr × Nat) := [(0, .aload_n 0, 1), (1, .aload_n 0, 1), (2, .iload_n 1, 1), (3, .invokevirtual 106, 3), (6, .ifCond .ne 7, 3), (9, .iconst 1, 1), (10, .goto 18, 3), (13, .iload_n 2, 1), (14, .iconst 0, 1), (15, .bipush 6, 2), (17, .invokestatic 90, 3), (20, .ifCond .ne 7, 3), (23, .iconst 2, 1), (24, .goto 4, 3), (27, .iconst 0, 1), (28, .putfield 83, 3), (31, .aload_n 0, 1), (32, .getfield 83, 3), (35, .ifCond .eq 5, 3), (38, .iconst 0, 1), (39, .ireturn, 1), (40, .iload_n 2, 1), (41, .tableswitch 81 0 5 #[39, 46, 53, 60, 67, 74], 39), (80, .aload_n 0, 1), (81, .getfield 38, 3), (84, .iload_n 1, 1), (85, .iaload, 1), (86, .ireturn, 1), (87, .aload_n 0, 1), (88, .getfield 56, 3), (91, .iload_n 1, 1), (92, .iaload, 1), (93, .ireturn, 1), (94, .aload_n 0, 1), (95, .getfield 59, 3), (98, .iload_n 1, 1), (99, .iaload, 1), (100, .ireturn, 1), (101, .aload_n 0, 1), (102, .getfield 41, 3), (105, .iload_n 1, 1), (106, .iaload, 1), (107, .ireturn, 1), (108, .aload_n 0, 1), (109, .getfield 44, 3), (112, .iload_n 1, 1), (113, .iaload, 1), (114, .ireturn, 1), (115, .aload_n 0, 1), (116, .getfield 47, 3), (119, .iload_n 1, 1), (120, .iaload, 1), (121, .ireturn, 1), (122, .aload_n 0, 1), (123, .getfield 50, 3), (126, .iload_n 1, 1), (127, .iaload, 1), (128, .ireturn, 1)]
theorem c_M_told_ok : (c_M_told).all (fun q => decide (decode prog_7_method_45_code q.1 = .ok q.2)) = true := by decide +kernel
theorem d_M_told_0 : decode prog_7_method_45_code 0 = .ok (.aload_n 0, 1) := jx_dec c_M_told_ok 0 rfl
theorem d_M_told_1 : decode prog_7_method_45_code 1 = .ok (.aload_n 0, 1) := jx_dec c_M_told_ok 1 rfl
theorem d_M_told_2 : decode prog_7_method_45_code 2 = .ok (.iload_n 1, 1) := jx_dec c_M_told_ok 2 rfl
theorem d_M_told_3 : decode prog_7_method_45_code 3 = .ok (.invokevirtual 106, 3) := jx_dec c_M_told_ok 3 rfl
theorem d_M_told_6 : decode prog_7_method_45_code 6 = .ok (.ifCond .ne 7, 3) := jx_dec c_M_told_ok 4 rfl
theorem d_M_told_9 : decode prog_7_method_45_code 9 = .ok (.iconst 1, 1) := jx_dec c_M_told_ok 5 rfl
theorem d_M_told_10 : decode prog_7_method_45_code 10 = .ok (.goto 18, 3) := jx_dec c_M_told_ok 6 rfl
theorem d_M_told_13 : decode prog_7_method_45_code 13 = .ok (.iload_n 2, 1) := jx_dec c_M_told_ok 7 rfl
theorem d_M_told_14 : decode prog_7_method_45_code 14 = .ok (.iconst 0, 1) := jx_dec c_M_told_ok 8 rfl
theorem d_M_told_15 : decode prog_7_method_45_code 15 = .ok (.bipush 6, 2) := jx_dec c_M_told_ok 9 rfl
theorem d_M_told_17 : decode prog_7_method_45_code 17 = .ok (.invokestatic 90, 3) := jx_dec c_M_told_ok 10 rfl
theorem d_M_told_20 : decode prog_7_method_45_code 20 = .ok (.ifCond .ne 7, 3) := jx_dec c_M_told_ok 11 rfl
theorem d_M_told_23 : decode prog_7_method_45_code 23 = .ok (.iconst 2, 1) := jx_dec c_M_told_ok 12 rfl
theorem d_M_told_24 : decode prog_7_method_45_code 24 = .ok (.goto 4, 3) := jx_dec c_M_told_ok 13 rfl
theorem d_M_told_27 : decode prog_7_method_45_code 27 = .ok (.iconst 0, 1) := jx_dec c_M_told_ok 14 rfl
theorem d_M_told_28 : decode prog_7_method_45_code 28 = .ok (.putfield 83, 3) := jx_dec c_M_told_ok 15 rfl
theorem d_M_told_31 : decode prog_7_method_45_code 31 = .ok (.aload_n 0, 1) := jx_dec c_M_told_ok 16 rfl
theorem d_M_told_32 : decode prog_7_method_45_code 32 = .ok (.getfield 83, 3) := jx_dec c_M_told_ok 17 rfl
theorem d_M_told_35 : decode prog_7_method_45_code 35 = .ok (.ifCond .eq 5, 3) := jx_dec c_M_told_ok 18 rfl
theorem d_M_told_38 : decode prog_7_method_45_code 38 = .ok (.iconst 0, 1) := jx_dec c_M_told_ok 19 rfl
theorem d_M_told_39 : decode prog_7_method_45_code 39 = .ok (.ireturn, 1) := jx_dec c_M_told_ok 20 rfl
theorem d_M_told_40 : decode prog_7_method_45_code 40 = .ok (.iload_n 2, 1) := jx_dec c_M_told_ok 21 rfl
theorem d_M_told_41 : decode prog_7_method_45_code 41 = .ok (.tableswitch 81 0 5 #[39, 46, 53, 60, 67, 74], 39) := jx_dec c_M_told_ok 22 rfl
theorem d_M_told_80 : decode prog_7_method_45_code 80 = .ok (.aload_n 0, 1) := jx_dec c_M_told_ok 23 rfl
theorem d_M_told_81 : decode prog_7_method_45_code 81 = .ok (.getfield 38, 3) := jx_dec c_M_told_ok 24 rfl
theorem d_M_told_84 : decode prog_7_method_45_code 84 = .ok (.iload_n 1, 1) := jx_dec c_M_told_ok 25 rfl
theorem d_M_told_85 : decode prog_7_method_45_code 85 = .ok (.iaload, 1) := jx_dec c_M_told_ok 26 rfl
theorem d_M_told_86 : decode prog_7_method_45_code 86 = .ok (.ireturn, 1) := jx_dec c_M_told_ok 27 rfl
theorem d_M_told_87 : decode prog_7_method_45_code 87 = .ok (.aload_n 0, 1) := jx_dec c_M_told_ok 28 rfl
theorem d_M_told_88 : decode prog_7_method_45_code 88 = .ok (.getfield 56, 3) := jx_dec c_M_told_ok 29 rfl
theorem d_M_told_91 : decode prog_7_method_45_code 91 = .ok (.iload_n 1, 1) := jx_dec c_M_told_ok 30 rfl
theorem d_M_told_92 : decode prog_7_method_45_code 92 = .ok (.iaload, 1) := jx_dec c_M_told_ok 31 rfl
theorem d_M_told_93 : decode prog_7_method_45_code 93 = .ok (.ireturn, 1) := jx_dec c_M_told_ok 32 rfl
theorem d_M_told_94 : decode prog_7_method_45_code 94 = .ok (.aload_n 0, 1) := jx_dec c_M_told_ok 33 rfl
theorem d_M_told_95 : decode prog_7_method_45_code 95 = .ok (.getfield 59, 3) := jx_dec c_M_told_ok 34 rfl
theorem d_M_told_98 : decode prog_7_method_45_code 98 = .ok (.iload_n 1, 1) := jx_dec c_M_told_ok 35 rfl
theorem d_M_told_99 : decode prog_7_method_45_code 99 = .ok (.iaload, 1) := jx_dec c_M_told_ok 36 rfl
theorem d_M_told_100 : decode prog_7_method_45_code 100 = .ok (.ireturn, 1) := jx_dec c_M_told_ok 37 rfl
theorem d_M_told_101 : decode prog_7_method_45_code 101 = .ok (.aload_n 0, 1) := jx_dec c_M_told_ok 38 rfl
theorem d_M_told_102 : decode prog_7_method_45_code 102 = .ok (.getfield 41, 3) := jx_dec c_M_told_ok 39 rfl
theorem d_M_told_105 : decode prog_7_method_45_code 105 = .ok (.iload_n 1, 1) := jx_dec c_M_told_ok 40 rfl
theorem d_M_told_106 : decode prog_7_method_45_code 106 = .ok (.iaload, 1) := jx_dec c_M_told_ok 41 rfl
theorem d_M_told_107 : decode prog_7_method_45_code 107 = .ok (.ireturn, 1) := jx_dec c_M_told_ok 42 rfl
theorem d_M_told_108 : decode prog_7_method_45_code 108 = .ok (.aload_n 0, 1) := jx_dec c_M_told_ok 43 rfl
theorem d_M_told_109 : decode prog_7_method_45_code 109 = .ok (.getfield 44, 3) := jx_dec c_M_told_ok 44 rfl
theorem d_M_told_112 : decode prog_7_method_45_code 112 = .ok (.iload_n 1, 1) := jx_dec c_M_told_ok 45 rfl
theorem d_M_told_113 : decode prog_7_method_45_code 113 = .ok (.iaload, 1) := jx_dec c_M_told_ok 46 rfl
theorem d_M_told_114 : decode prog_7_method_45_code 114 = .ok (.ireturn, 1) := jx_dec c_M_told_ok 47 rfl
theorem d_M_told_115 : decode prog_7_method_45_code 115 = .ok (.aload_n 0, 1) := jx_dec c_M_told_ok 48 rfl
theorem d_M_told_116 : decode prog_7_method_45_code 116 = .ok (.getfield 47, 3) := jx_dec c_M_told_ok 49 rfl
theorem d_M_told_119 : decode prog_7_method_45_code 119 = .ok (.iload_n 1, 1) := jx_dec c_M_told_ok 50 rfl
theorem d_M_told_120 : decode prog_7_method_45_code 120 = .ok (.iaload, 1) := jx_dec c_M_told_ok 51 rfl
theorem d_M_told_121 : decode prog_7_method_45_code 121 = .ok (.ireturn, 1) := jx_dec c_M_told_ok 52 rfl
theorem d_M_told_122 : decode prog_7_method_45_code 122 = .ok (.aload_n 0, 1) := jx_dec c_M_told_ok 53 rfl
theorem d_M_told_123 : decode prog_7_method_45_code 123 = .ok (.getfield 50, 3) := jx_dec c_M_told_ok 54 rfl
theorem d_M_told_126 : decode prog_7_method_45_code 126 = .ok (.iload_n 1, 1) := jx_dec c_M_told_ok 55 rfl
theorem d_M_told_127 : decode prog_7_method_45_code 127 = .ok (.iaload, 1) := jx_dec c_M_told_ok 56 rfl
theorem d_M_told_128 : decode prog_7_method_45_code 128 = .ok (.ireturn, 1) := jx_dec c_M_told_ok 57 rfl
def c_M_known : List (Nat × Instr × Nat) := [(0, .aload_n 0, 1), (1, .aload_n 0, 1), (2, .iload_n 1, 1), (3, .invokevirtual 98, 3), (6, .ifCond .ne 7, 3), (9, .iconst 1, 1), (10, .goto 17, 3), (13, .iload_n 2, 1), (14, .iconst 0, 1), (15, .iconst 5, 1), (16, .invokestatic 90, 3), (19, .ifCond .ne 7, 3), (22, .iconst 2, 1), (23, .goto 4, 3), (26, .iconst 0, 1), (27, .putfield 83, 3), (30, .aload_n 0, 1), (31, .getfield 83, 3), (34, .ifCond .eq 5, 3), (37, .iconst 0, 1), (38, .ireturn, 1), (39, .iload_n 2, 1), (40, .tableswitch 78 0 4 #[36, 51, 58, 65, 72], 36), (76, .aload_n 0, 1), (77, .getfield 28, 3), (80, .iload_n 1, 1), (81, .baload, 1), (82, .ifCond .eq 7, 3), (85, .iconst 1, 1), (86, .goto 4, 3), (89, .iconst 0, 1), (90, .ireturn, 1), (91, .aload_n 0, 1), (92, .getfield 7, 3), (95, .iload_n 1, 1), (96, .iaload, 1), (97, .ireturn, 1), (98, .aload_n 0, 1), (99, .getfield 25, 3), (102, .iload_n 1, 1), (103, .iaload, 1), (104, .ireturn, 1), (105, .aload_n 0, 1), (106, .getfield 32, 3), (109, .iload_n 1, 1), (110, .iaload, 1), (111, .ireturn, 1), (112, .aload_n 0, 1), (113, .iload_n 1, 1), (114, .invokevirtual 191, 3), (117, .ireturn, 1), (118, .iconst 0, 1), (119, .istore_n 3, 1), (120, .iload_n 3, 1), (121, .bipush 16, 2), (123, .if_icmp .ge 19, 3), (126, .aload_n 0, 1), (127, .iload_n 1, 1), (128, .iload_n 3, 1), (129, .invokevirtual 188, 3), (132, .iconst (-1), 1), (133, .if_icmp .eq 9, 3), (136, .iinc 3 1, 3), (139, .goto (-19), 3), (142, .iload_n 3, 1), (143, .ireturn, 1)]
theorem c_M_known_ok : (c_M_known).all (fun q => decide (decode prog_7_method_46_code q.1 = .ok q.2)) = true := by decide +kernel
theorem d_M_known_0 : decode prog_7_method_46_code 0 = .ok (.aload_n 0, 1) := jx_dec c_M_known_ok 0 rfl
theorem d_M_known_1 : decode prog_7_method_46_code 1 = .ok (.aload_n 0, 1) := jx_dec c_M_known_ok 1 rfl
theorem d_M_known_2 : decode prog_7_method_46_code 2 = .ok (.iload_n 1, 1) := jx_dec c_M_known_ok 2 rfl
theorem d_M_known_3 : decode prog_7_method_46_code 3 = .ok (.invokevirtual 98, 3) := jx_dec c_M_known_ok 3 rfl
theorem d_M_known_6 : decode prog_7_method_46_code 6 = .ok (.ifCond .ne 7, 3) := jx_dec c_M_known_ok 4 rfl
theorem d_M_known_9 : decode prog_7_method_46_code 9 = .ok (.iconst 1, 1) := jx_dec c_M_known_ok 5 rfl
theorem d_M_known_10 : decode prog_7_method_46_code 10 = .ok (.goto 17, 3) := jx_dec c_M_known_ok 6 rfl
theorem d_M_known_13 : decode prog_7_method_46_code 13 = .ok (.iload_n 2, 1) := jx_dec c_M_known_ok 7 rfl
theorem d_M_known_14 : decode prog_7_method_46_code 14 = .ok (.iconst 0, 1) := jx_dec c_M_known_ok 8 rfl
theorem d_M_known_15 : decode prog_7_method_46_code 15 = .ok (.iconst 5, 1) := jx_dec c_M_known_ok 9 rfl
theorem d_M_known_16 : decode prog_7_method_46_code 16 = .ok (.invokestatic 90, 3) := jx_dec c_M_known_ok 10 rfl
theorem d_M_known_19 : decode prog_7_method_46_code 19 = .ok (.ifCond .ne 7, 3) := jx_dec c_M_known_ok 11 rfl
theorem d_M_known_22 : decode prog_7_method_46_code 22 = .ok (.iconst 2, 1) := jx_dec c_M_known_ok 12 rfl
theorem d_M_known_23 : decode prog_7_method_46_code 23 = .ok (.goto 4, 3) := jx_dec c_M_known_ok 13 rfl
theorem d_M_known_26 : decode prog_7_method_46_code 26 = .ok (.iconst 0, 1) := jx_dec c_M_known_ok 14 rfl
theorem d_M_known_27 : decode prog_7_method_46_code 27 = .ok (.putfield 83, 3) := jx_dec c_M_known_ok 15 rfl
theorem d_M_known_30 : decode prog_7_method_46_code 30 = .ok (.aload_n 0, 1) := jx_dec c_M_known_ok 16 rfl
theorem d_M_known_31 : decode prog_7_method_46_code 31 = .ok (.getfield 83, 3) := jx_dec c_M_known_ok 17 rfl
theorem d_M_known_34 : decode prog_7_method_46_code 34 = .ok (.ifCond .eq 5, 3) := jx_dec c_M_known_ok 18 rfl
theorem d_M_known_37 : decode prog_7_method_46_code 37 = .ok (.iconst 0, 1) := jx_dec c_M_known_ok 19 rfl
theorem d_M_known_38 : decode prog_7_method_46_code 38 = .ok (.ireturn, 1) := jx_dec c_M_known_ok 20 rfl
theorem d_M_known_39 : decode prog_7_method_46_code 39 = .ok (.iload_n 2, 1) := jx_dec c_M_known_ok 21 rfl
theorem d_M_known_40 : decode prog_7_method_46_code 40 = .ok (.tableswitch 78 0 4 #[36, 51, 58, 65, 72], 36) := jx_dec c_M_known_ok 22 rfl
theorem d_M_known_76 : decode prog_7_method_46_code 76 = .ok (.aload_n 0, 1) := jx_dec c_M_known_ok 23 rfl
theorem d_M_known_77 : decode prog_7_method_46_code 77 = .ok (.getfield 28, 3) := jx_dec c_M_known_ok 24 rfl
theorem d_M_known_80 : decode prog_7_method_46_code 80 = .ok (.iload_n 1, 1) := jx_dec c_M_known_ok 25 rfl
theorem d_M_known_81 : decode prog_7_method_46_code 81 = .ok (.baload, 1) := jx_dec c_M_known_ok 26 rfl
theorem d_M_known_82 : decode prog_7_method_46_code 82 = .ok (.ifCond .eq 7, 3) := jx_dec c_M_known_ok 27 rfl
theorem d_M_known_85 : decode prog_7_method_46_code 85 = .ok (.iconst 1, 1) := jx_dec c_M_known_ok 28 rfl
theorem d_M_known_86 : decode prog_7_method_46_code 86 = .ok (.goto 4, 3) := jx_dec c_M_known_ok 29 rfl
theorem d_M_known_89 : decode prog_7_method_46_code 89 = .ok (.iconst 0, 1) := jx_dec c_M_known_ok 30 rfl
theorem d_M_known_90 : decode prog_7_method_46_code 90 = .ok (.ireturn, 1) := jx_dec c_M_known_ok 31 rfl
theorem d_M_known_91 : decode prog_7_method_46_code 91 = .ok (.aload_n 0, 1) := jx_dec c_M_known_ok 32 rfl
theorem d_M_known_92 : decode prog_7_method_46_code 92 = .ok (.getfield 7, 3) := jx_dec c_M_known_ok 33 rfl
theorem d_M_known_95 : decode prog_7_method_46_code 95 = .ok (.iload_n 1, 1) := jx_dec c_M_known_ok 34 rfl
theorem d_M_known_96 : decode prog_7_method_46_code 96 = .ok (.iaload, 1) := jx_dec c_M_known_ok 35 rfl
theorem d_M_known_97 : decode prog_7_method_46_code 97 = .ok (.ireturn, 1) := jx_dec c_M_known_ok 36 rfl
theorem d_M_known_98 : decode prog_7_method_46_code 98 = .ok (.aload_n 0, 1) := jx_dec c_M_known_ok 37 rfl
theorem d_M_known_99 : decode prog_7_method_46_code 99 = .ok (.getfield 25, 3) := jx_dec c_M_known_ok 38 rfl
theorem d_M_known_102 : decode prog_7_method_46_code 102 = .ok (.iload_n 1, 1) := jx_dec c_M_known_ok 39 rfl
theorem d_M_known_103 : decode prog_7_method_46_code 103 = .ok (.iaload, 1) := jx_dec c_M_known_ok 40 rfl
theorem d_M_known_104 : decode prog_7_method_46_code 104 = .ok (.ireturn, 1) := jx_dec c_M_known_ok 41 rfl
theorem d_M_known_105 : decode prog_7_method_46_code 105 = .ok (.aload_n 0, 1) := jx_dec c_M_known_ok 42 rfl
theorem d_M_known_106 : decode prog_7_method_46_code 106 = .ok (.getfield 32, 3) := jx_dec c_M_known_ok 43 rfl
theorem d_M_known_109 : decode prog_7_method_46_code 109 = .ok (.iload_n 1, 1) := jx_dec c_M_known_ok 44 rfl
theorem d_M_known_110 : decode prog_7_method_46_code 110 = .ok (.iaload, 1) := jx_dec c_M_known_ok 45 rfl
theorem d_M_known_111 : decode prog_7_method_46_code 111 = .ok (.ireturn, 1) := jx_dec c_M_known_ok 46 rfl
theorem d_M_known_112 : decode prog_7_method_46_code 112 = .ok (.aload_n 0, 1) := jx_dec c_M_known_ok 47 rfl
theorem d_M_known_113 : decode prog_7_method_46_code 113 = .ok (.iload_n 1, 1) := jx_dec c_M_known_ok 48 rfl
theorem d_M_known_114 : decode prog_7_method_46_code 114 = .ok (.invokevirtual 191, 3) := jx_dec c_M_known_ok 49 rfl
theorem d_M_known_117 : decode prog_7_method_46_code 117 = .ok (.ireturn, 1) := jx_dec c_M_known_ok 50 rfl
theorem d_M_known_118 : decode prog_7_method_46_code 118 = .ok (.iconst 0, 1) := jx_dec c_M_known_ok 51 rfl
theorem d_M_known_119 : decode prog_7_method_46_code 119 = .ok (.istore_n 3, 1) := jx_dec c_M_known_ok 52 rfl
theorem d_M_known_120 : decode prog_7_method_46_code 120 = .ok (.iload_n 3, 1) := jx_dec c_M_known_ok 53 rfl
theorem d_M_known_121 : decode prog_7_method_46_code 121 = .ok (.bipush 16, 2) := jx_dec c_M_known_ok 54 rfl
theorem d_M_known_123 : decode prog_7_method_46_code 123 = .ok (.if_icmp .ge 19, 3) := jx_dec c_M_known_ok 55 rfl
theorem d_M_known_126 : decode prog_7_method_46_code 126 = .ok (.aload_n 0, 1) := jx_dec c_M_known_ok 56 rfl
theorem d_M_known_127 : decode prog_7_method_46_code 127 = .ok (.iload_n 1, 1) := jx_dec c_M_known_ok 57 rfl
theorem d_M_known_128 : decode prog_7_method_46_code 128 = .ok (.iload_n 3, 1) := jx_dec c_M_known_ok 58 rfl
theorem d_M_known_129 : decode prog_7_method_46_code 129 = .ok (.invokevirtual 188, 3) := jx_dec c_M_known_ok 59 rfl
theorem d_M_known_132 : decode prog_7_method_46_code 132 = .ok (.iconst (-1), 1) := jx_dec c_M_known_ok 60 rfl
theorem d_M_known_133 : decode prog_7_method_46_code 133 = .ok (.if_icmp .eq 9, 3) := jx_dec c_M_known_ok 61 rfl
theorem d_M_known_136 : decode prog_7_method_46_code 136 = .ok (.iinc 3 1, 3) := jx_dec c_M_known_ok 62 rfl
theorem d_M_known_139 : decode prog_7_method_46_code 139 = .ok (.goto (-19), 3) := jx_dec c_M_known_ok 63 rfl
theorem d_M_known_142 : decode prog_7_method_46_code 142 = .ok (.iload_n 3, 1) := jx_dec c_M_known_ok 64 rfl
theorem d_M_known_143 : decode prog_7_method_46_code 143 = .ok (.ireturn, 1) := jx_dec c_M_known_ok 65 rfl
end
section
/-! 04.8L: the instructions -/
def c_L_person : List (Nat × Instr × Nat) := [(0, .aload 5, 2), (2, .iconst 0, 1), (3, .aload_n 0, 1), (4, .iload_n 1, 1), (5, .iload_n 2, 1), (6, .iload_n 3, 1), (7, .iload 4, 2), (9, .invokevirtual 7, 3), (12, .i2l, 1), (13, .lastore, 1), (14, .goto 11, 3), (17, .astore 6, 2), (19, .iconst 1, 1), (20, .ireturn, 1), (21, .astore 6, 2), (23, .iconst 2, 1), (24, .ireturn, 1), (25, .iconst 0, 1), (26, .ireturn, 1)]
theorem c_L_person_ok : (c_L_person).all (fun q => decide (decode method_3_code q.1 = .ok q.2)) = true := by decide +kernel
theorem d_L_person_0 : decode method_3_code 0 = .ok (.aload 5, 2) := jx_dec c_L_person_ok 0 rfl
theorem d_L_person_2 : decode method_3_code 2 = .ok (.iconst 0, 1) := jx_dec c_L_person_ok 1 rfl
theorem d_L_person_3 : decode method_3_code 3 = .ok (.aload_n 0, 1) := jx_dec c_L_person_ok 2 rfl
theorem d_L_person_4 : decode method_3_code 4 = .ok (.iload_n 1, 1) := jx_dec c_L_person_ok 3 rfl
theorem d_L_person_5 : decode method_3_code 5 = .ok (.iload_n 2, 1) := jx_dec c_L_person_ok 4 rfl
theorem d_L_person_6 : decode method_3_code 6 = .ok (.iload_n 3, 1) := jx_dec c_L_person_ok 5 rfl
theorem d_L_person_7 : decode method_3_code 7 = .ok (.iload 4, 2) := jx_dec c_L_person_ok 6 rfl
theorem d_L_person_9 : decode method_3_code 9 = .ok (.invokevirtual 7, 3) := jx_dec c_L_person_ok 7 rfl
theorem d_L_person_12 : decode method_3_code 12 = .ok (.i2l, 1) := jx_dec c_L_person_ok 8 rfl
theorem d_L_person_13 : decode method_3_code 13 = .ok (.lastore, 1) := jx_dec c_L_person_ok 9 rfl
theorem d_L_person_14 : decode method_3_code 14 = .ok (.goto 11, 3) := jx_dec c_L_person_ok 10 rfl
theorem d_L_person_17 : decode method_3_code 17 = .ok (.astore 6, 2) := jx_dec c_L_person_ok 11 rfl
theorem d_L_person_19 : decode method_3_code 19 = .ok (.iconst 1, 1) := jx_dec c_L_person_ok 12 rfl
theorem d_L_person_20 : decode method_3_code 20 = .ok (.ireturn, 1) := jx_dec c_L_person_ok 13 rfl
theorem d_L_person_21 : decode method_3_code 21 = .ok (.astore 6, 2) := jx_dec c_L_person_ok 14 rfl
theorem d_L_person_23 : decode method_3_code 23 = .ok (.iconst 2, 1) := jx_dec c_L_person_ok 15 rfl
theorem d_L_person_24 : decode method_3_code 24 = .ok (.ireturn, 1) := jx_dec c_L_person_ok 16 rfl
theorem d_L_person_25 : decode method_3_code 25 = .ok (.iconst 0, 1) := jx_dec c_L_person_ok 17 rfl
theorem d_L_person_26 : decode method_3_code 26 = .ok (.ireturn, 1) := jx_dec c_L_person_ok 18 rfl
def c_L_rest : List (Nat × Instr × Nat) := [(0, .aload_n 0, 1), (1, .iload_n 1, 1), (2, .iload_n 2, 1), (3, .iload_n 3, 1), (4, .invokevirtual 17, 3), (7, .goto 11, 3), (10, .astore 4, 2), (12, .iconst 1, 1), (13, .ireturn, 1), (14, .astore 4, 2), (16, .iconst 2, 1), (17, .ireturn, 1), (18, .iconst 0, 1), (19, .ireturn, 1)]
theorem c_L_rest_ok : (c_L_rest).all (fun q => decide (decode method_4_code q.1 = .ok q.2)) = true := by decide +kernel
theorem d_L_rest_0 : decode method_4_code 0 = .ok (.aload_n 0, 1) := jx_dec c_L_rest_ok 0 rfl
theorem d_L_rest_1 : decode method_4_code 1 = .ok (.iload_n 1, 1) := jx_dec c_L_rest_ok 1 rfl
theorem d_L_rest_2 : decode method_4_code 2 = .ok (.iload_n 2, 1) := jx_dec c_L_rest_ok 2 rfl
theorem d_L_rest_3 : decode method_4_code 3 = .ok (.iload_n 3, 1) := jx_dec c_L_rest_ok 3 rfl
theorem d_L_rest_4 : decode method_4_code 4 = .ok (.invokevirtual 17, 3) := jx_dec c_L_rest_ok 4 rfl
theorem d_L_rest_7 : decode method_4_code 7 = .ok (.goto 11, 3) := jx_dec c_L_rest_ok 5 rfl
theorem d_L_rest_10 : decode method_4_code 10 = .ok (.astore 4, 2) := jx_dec c_L_rest_ok 6 rfl
theorem d_L_rest_12 : decode method_4_code 12 = .ok (.iconst 1, 1) := jx_dec c_L_rest_ok 7 rfl
theorem d_L_rest_13 : decode method_4_code 13 = .ok (.ireturn, 1) := jx_dec c_L_rest_ok 8 rfl
theorem d_L_rest_14 : decode method_4_code 14 = .ok (.astore 4, 2) := jx_dec c_L_rest_ok 9 rfl
theorem d_L_rest_16 : decode method_4_code 16 = .ok (.iconst 2, 1) := jx_dec c_L_rest_ok 10 rfl
theorem d_L_rest_17 : decode method_4_code 17 = .ok (.ireturn, 1) := jx_dec c_L_rest_ok 11 rfl
theorem d_L_rest_18 : decode method_4_code 18 = .ok (.iconst 0, 1) := jx_dec c_L_rest_ok 12 rfl
theorem d_L_rest_19 : decode method_4_code 19 = .ok (.ireturn, 1) := jx_dec c_L_rest_ok 13 rfl
def c_L_train : List (Nat × Instr × Nat) := [(0, .aload_n 3, 1), (1, .iconst 0, 1), (2, .aload_n 0, 1), (3, .iload_n 1, 1), (4, .iload_n 2, 1), (5, .invokevirtual 23, 3), (8, .i2l, 1), (9, .lastore, 1), (10, .goto 15, 3), (13, .astore 4, 2), (15, .iconst 1, 1), (16, .ireturn, 1), (17, .astore 4, 2), (19, .iconst 2, 1), (20, .ireturn, 1), (21, .astore 4, 2), (23, .iconst 3, 1), (24, .ireturn, 1), (25, .iconst 0, 1), (26, .ireturn, 1)]
theorem c_L_train_ok : (c_L_train).all (fun q => decide (decode method_5_code q.1 = .ok q.2)) = true := by decide +kernel
theorem d_L_train_0 : decode method_5_code 0 = .ok (.aload_n 3, 1) := jx_dec c_L_train_ok 0 rfl
theorem d_L_train_1 : decode method_5_code 1 = .ok (.iconst 0, 1) := jx_dec c_L_train_ok 1 rfl
theorem d_L_train_2 : decode method_5_code 2 = .ok (.aload_n 0, 1) := jx_dec c_L_train_ok 2 rfl
theorem d_L_train_3 : decode method_5_code 3 = .ok (.iload_n 1, 1) := jx_dec c_L_train_ok 3 rfl
theorem d_L_train_4 : decode method_5_code 4 = .ok (.iload_n 2, 1) := jx_dec c_L_train_ok 4 rfl
theorem d_L_train_5 : decode method_5_code 5 = .ok (.invokevirtual 23, 3) := jx_dec c_L_train_ok 5 rfl
theorem d_L_train_8 : decode method_5_code 8 = .ok (.i2l, 1) := jx_dec c_L_train_ok 6 rfl
theorem d_L_train_9 : decode method_5_code 9 = .ok (.lastore, 1) := jx_dec c_L_train_ok 7 rfl
theorem d_L_train_10 : decode method_5_code 10 = .ok (.goto 15, 3) := jx_dec c_L_train_ok 8 rfl
theorem d_L_train_13 : decode method_5_code 13 = .ok (.astore 4, 2) := jx_dec c_L_train_ok 9 rfl
theorem d_L_train_15 : decode method_5_code 15 = .ok (.iconst 1, 1) := jx_dec c_L_train_ok 10 rfl
theorem d_L_train_16 : decode method_5_code 16 = .ok (.ireturn, 1) := jx_dec c_L_train_ok 11 rfl
theorem d_L_train_17 : decode method_5_code 17 = .ok (.astore 4, 2) := jx_dec c_L_train_ok 12 rfl
theorem d_L_train_19 : decode method_5_code 19 = .ok (.iconst 2, 1) := jx_dec c_L_train_ok 13 rfl
theorem d_L_train_20 : decode method_5_code 20 = .ok (.ireturn, 1) := jx_dec c_L_train_ok 14 rfl
theorem d_L_train_21 : decode method_5_code 21 = .ok (.astore 4, 2) := jx_dec c_L_train_ok 15 rfl
theorem d_L_train_23 : decode method_5_code 23 = .ok (.iconst 3, 1) := jx_dec c_L_train_ok 16 rfl
theorem d_L_train_24 : decode method_5_code 24 = .ok (.ireturn, 1) := jx_dec c_L_train_ok 17 rfl
theorem d_L_train_25 : decode method_5_code 25 = .ok (.iconst 0, 1) := jx_dec c_L_train_ok 18 rfl
theorem d_L_train_26 : decode method_5_code 26 = .ok (.ireturn, 1) := jx_dec c_L_train_ok 19 rfl
def c_L_task : List (Nat × Instr × Nat) := [(0, .aload 5, 2), (2, .iconst 0, 1), (3, .aload_n 0, 1), (4, .iload_n 1, 1), (5, .iload_n 2, 1), (6, .iload_n 3, 1), (7, .iload 4, 2), (9, .invokevirtual 29, 3), (12, .i2l, 1), (13, .lastore, 1), (14, .goto 11, 3), (17, .astore 6, 2), (19, .iconst 1, 1), (20, .ireturn, 1), (21, .astore 6, 2), (23, .iconst 2, 1), (24, .ireturn, 1), (25, .iconst 0, 1), (26, .ireturn, 1)]
theorem c_L_task_ok : (c_L_task).all (fun q => decide (decode method_6_code q.1 = .ok q.2)) = true := by decide +kernel
theorem d_L_task_0 : decode method_6_code 0 = .ok (.aload 5, 2) := jx_dec c_L_task_ok 0 rfl
theorem d_L_task_2 : decode method_6_code 2 = .ok (.iconst 0, 1) := jx_dec c_L_task_ok 1 rfl
theorem d_L_task_3 : decode method_6_code 3 = .ok (.aload_n 0, 1) := jx_dec c_L_task_ok 2 rfl
theorem d_L_task_4 : decode method_6_code 4 = .ok (.iload_n 1, 1) := jx_dec c_L_task_ok 3 rfl
theorem d_L_task_5 : decode method_6_code 5 = .ok (.iload_n 2, 1) := jx_dec c_L_task_ok 4 rfl
theorem d_L_task_6 : decode method_6_code 6 = .ok (.iload_n 3, 1) := jx_dec c_L_task_ok 5 rfl
theorem d_L_task_7 : decode method_6_code 7 = .ok (.iload 4, 2) := jx_dec c_L_task_ok 6 rfl
theorem d_L_task_9 : decode method_6_code 9 = .ok (.invokevirtual 29, 3) := jx_dec c_L_task_ok 7 rfl
theorem d_L_task_12 : decode method_6_code 12 = .ok (.i2l, 1) := jx_dec c_L_task_ok 8 rfl
theorem d_L_task_13 : decode method_6_code 13 = .ok (.lastore, 1) := jx_dec c_L_task_ok 9 rfl
theorem d_L_task_14 : decode method_6_code 14 = .ok (.goto 11, 3) := jx_dec c_L_task_ok 10 rfl
theorem d_L_task_17 : decode method_6_code 17 = .ok (.astore 6, 2) := jx_dec c_L_task_ok 11 rfl
theorem d_L_task_19 : decode method_6_code 19 = .ok (.iconst 1, 1) := jx_dec c_L_task_ok 12 rfl
theorem d_L_task_20 : decode method_6_code 20 = .ok (.ireturn, 1) := jx_dec c_L_task_ok 13 rfl
theorem d_L_task_21 : decode method_6_code 21 = .ok (.astore 6, 2) := jx_dec c_L_task_ok 14 rfl
theorem d_L_task_23 : decode method_6_code 23 = .ok (.iconst 2, 1) := jx_dec c_L_task_ok 15 rfl
theorem d_L_task_24 : decode method_6_code 24 = .ok (.ireturn, 1) := jx_dec c_L_task_ok 16 rfl
theorem d_L_task_25 : decode method_6_code 25 = .ok (.iconst 0, 1) := jx_dec c_L_task_ok 17 rfl
theorem d_L_task_26 : decode method_6_code 26 = .ok (.ireturn, 1) := jx_dec c_L_task_ok 18 rfl
def c_L_way : List (Nat × Instr × Nat) := [(0, .aload_n 0, 1), (1, .iload_n 1, 1), (2, .iload_n 2, 1), (3, .iload_n 3, 1), (4, .invokevirtual 32, 3), (7, .goto 7, 3), (10, .astore 4, 2), (12, .iconst 1, 1), (13, .ireturn, 1), (14, .iconst 0, 1), (15, .ireturn, 1)]
theorem c_L_way_ok : (c_L_way).all (fun q => decide (decode method_7_code q.1 = .ok q.2)) = true := by decide +kernel
theorem d_L_way_0 : decode method_7_code 0 = .ok (.aload_n 0, 1) := jx_dec c_L_way_ok 0 rfl
theorem d_L_way_1 : decode method_7_code 1 = .ok (.iload_n 1, 1) := jx_dec c_L_way_ok 1 rfl
theorem d_L_way_2 : decode method_7_code 2 = .ok (.iload_n 2, 1) := jx_dec c_L_way_ok 2 rfl
theorem d_L_way_3 : decode method_7_code 3 = .ok (.iload_n 3, 1) := jx_dec c_L_way_ok 3 rfl
theorem d_L_way_4 : decode method_7_code 4 = .ok (.invokevirtual 32, 3) := jx_dec c_L_way_ok 4 rfl
theorem d_L_way_7 : decode method_7_code 7 = .ok (.goto 7, 3) := jx_dec c_L_way_ok 5 rfl
theorem d_L_way_10 : decode method_7_code 10 = .ok (.astore 4, 2) := jx_dec c_L_way_ok 6 rfl
theorem d_L_way_12 : decode method_7_code 12 = .ok (.iconst 1, 1) := jx_dec c_L_way_ok 7 rfl
theorem d_L_way_13 : decode method_7_code 13 = .ok (.ireturn, 1) := jx_dec c_L_way_ok 8 rfl
theorem d_L_way_14 : decode method_7_code 14 = .ok (.iconst 0, 1) := jx_dec c_L_way_ok 9 rfl
theorem d_L_way_15 : decode method_7_code 15 = .ok (.ireturn, 1) := jx_dec c_L_way_ok 10 rfl
def c_L_refuse : List (Nat × Instr × Nat) := [(0, .aload_n 3, 1), (1, .iconst 0, 1), (2, .aload_n 0, 1), (3, .iload_n 1, 1), (4, .iload_n 2, 1), (5, .invokevirtual 35, 3), (8, .ifCond .eq 7, 3), (11, .lconst 1, 1), (12, .goto 4, 3), (15, .lconst 0, 1), (16, .lastore, 1), (17, .goto 11, 3), (20, .astore 4, 2), (22, .iconst 1, 1), (23, .ireturn, 1), (24, .astore 4, 2), (26, .iconst 2, 1), (27, .ireturn, 1), (28, .iconst 0, 1), (29, .ireturn, 1)]
theorem c_L_refuse_ok : (c_L_refuse).all (fun q => decide (decode method_8_code q.1 = .ok q.2)) = true := by decide +kernel
theorem d_L_refuse_0 : decode method_8_code 0 = .ok (.aload_n 3, 1) := jx_dec c_L_refuse_ok 0 rfl
theorem d_L_refuse_1 : decode method_8_code 1 = .ok (.iconst 0, 1) := jx_dec c_L_refuse_ok 1 rfl
theorem d_L_refuse_2 : decode method_8_code 2 = .ok (.aload_n 0, 1) := jx_dec c_L_refuse_ok 2 rfl
theorem d_L_refuse_3 : decode method_8_code 3 = .ok (.iload_n 1, 1) := jx_dec c_L_refuse_ok 3 rfl
theorem d_L_refuse_4 : decode method_8_code 4 = .ok (.iload_n 2, 1) := jx_dec c_L_refuse_ok 4 rfl
theorem d_L_refuse_5 : decode method_8_code 5 = .ok (.invokevirtual 35, 3) := jx_dec c_L_refuse_ok 5 rfl
theorem d_L_refuse_8 : decode method_8_code 8 = .ok (.ifCond .eq 7, 3) := jx_dec c_L_refuse_ok 6 rfl
theorem d_L_refuse_11 : decode method_8_code 11 = .ok (.lconst 1, 1) := jx_dec c_L_refuse_ok 7 rfl
theorem d_L_refuse_12 : decode method_8_code 12 = .ok (.goto 4, 3) := jx_dec c_L_refuse_ok 8 rfl
theorem d_L_refuse_15 : decode method_8_code 15 = .ok (.lconst 0, 1) := jx_dec c_L_refuse_ok 9 rfl
theorem d_L_refuse_16 : decode method_8_code 16 = .ok (.lastore, 1) := jx_dec c_L_refuse_ok 10 rfl
theorem d_L_refuse_17 : decode method_8_code 17 = .ok (.goto 11, 3) := jx_dec c_L_refuse_ok 11 rfl
theorem d_L_refuse_20 : decode method_8_code 20 = .ok (.astore 4, 2) := jx_dec c_L_refuse_ok 12 rfl
theorem d_L_refuse_22 : decode method_8_code 22 = .ok (.iconst 1, 1) := jx_dec c_L_refuse_ok 13 rfl
theorem d_L_refuse_23 : decode method_8_code 23 = .ok (.ireturn, 1) := jx_dec c_L_refuse_ok 14 rfl
theorem d_L_refuse_24 : decode method_8_code 24 = .ok (.astore 4, 2) := jx_dec c_L_refuse_ok 15 rfl
theorem d_L_refuse_26 : decode method_8_code 26 = .ok (.iconst 2, 1) := jx_dec c_L_refuse_ok 16 rfl
theorem d_L_refuse_27 : decode method_8_code 27 = .ok (.ireturn, 1) := jx_dec c_L_refuse_ok 17 rfl
theorem d_L_refuse_28 : decode method_8_code 28 = .ok (.iconst 0, 1) := jx_dec c_L_refuse_ok 18 rfl
theorem d_L_refuse_29 : decode method_8_code 29 = .ok (.ireturn, 1) := jx_dec c_L_refuse_ok 19 rfl
def c_L_bar : List (Nat × Instr × Nat) := [(0, .aload_n 3, 1), (1, .iconst 0, 1), (2, .aload_n 0, 1), (3, .iload_n 1, 1), (4, .iload_n 2, 1), (5, .invokevirtual 39, 3), (8, .i2l, 1), (9, .lastore, 1), (10, .goto 11, 3), (13, .astore 4, 2), (15, .iconst 1, 1), (16, .ireturn, 1), (17, .astore 4, 2), (19, .iconst 2, 1), (20, .ireturn, 1), (21, .iconst 0, 1), (22, .ireturn, 1)]
theorem c_L_bar_ok : (c_L_bar).all (fun q => decide (decode method_9_code q.1 = .ok q.2)) = true := by decide +kernel
theorem d_L_bar_0 : decode method_9_code 0 = .ok (.aload_n 3, 1) := jx_dec c_L_bar_ok 0 rfl
theorem d_L_bar_1 : decode method_9_code 1 = .ok (.iconst 0, 1) := jx_dec c_L_bar_ok 1 rfl
theorem d_L_bar_2 : decode method_9_code 2 = .ok (.aload_n 0, 1) := jx_dec c_L_bar_ok 2 rfl
theorem d_L_bar_3 : decode method_9_code 3 = .ok (.iload_n 1, 1) := jx_dec c_L_bar_ok 3 rfl
theorem d_L_bar_4 : decode method_9_code 4 = .ok (.iload_n 2, 1) := jx_dec c_L_bar_ok 4 rfl
theorem d_L_bar_5 : decode method_9_code 5 = .ok (.invokevirtual 39, 3) := jx_dec c_L_bar_ok 5 rfl
theorem d_L_bar_8 : decode method_9_code 8 = .ok (.i2l, 1) := jx_dec c_L_bar_ok 6 rfl
theorem d_L_bar_9 : decode method_9_code 9 = .ok (.lastore, 1) := jx_dec c_L_bar_ok 7 rfl
theorem d_L_bar_10 : decode method_9_code 10 = .ok (.goto 11, 3) := jx_dec c_L_bar_ok 8 rfl
theorem d_L_bar_13 : decode method_9_code 13 = .ok (.astore 4, 2) := jx_dec c_L_bar_ok 9 rfl
theorem d_L_bar_15 : decode method_9_code 15 = .ok (.iconst 1, 1) := jx_dec c_L_bar_ok 10 rfl
theorem d_L_bar_16 : decode method_9_code 16 = .ok (.ireturn, 1) := jx_dec c_L_bar_ok 11 rfl
theorem d_L_bar_17 : decode method_9_code 17 = .ok (.astore 4, 2) := jx_dec c_L_bar_ok 12 rfl
theorem d_L_bar_19 : decode method_9_code 19 = .ok (.iconst 2, 1) := jx_dec c_L_bar_ok 13 rfl
theorem d_L_bar_20 : decode method_9_code 20 = .ok (.ireturn, 1) := jx_dec c_L_bar_ok 14 rfl
theorem d_L_bar_21 : decode method_9_code 21 = .ok (.iconst 0, 1) := jx_dec c_L_bar_ok 15 rfl
theorem d_L_bar_22 : decode method_9_code 22 = .ok (.ireturn, 1) := jx_dec c_L_bar_ok 16 rfl
def c_L_assign : List (Nat × Instr × Nat) := [(0, .aload_n 2, 1), (1, .iconst 0, 1), (2, .aload_n 0, 1), (3, .iload_n 1, 1), (4, .invokevirtual 42, 3), (7, .i2l, 1), (8, .lastore, 1), (9, .goto 6, 3), (12, .astore_n 3, 1), (13, .iconst 1, 1), (14, .ireturn, 1), (15, .iconst 0, 1), (16, .ireturn, 1)]
theorem c_L_assign_ok : (c_L_assign).all (fun q => decide (decode method_10_code q.1 = .ok q.2)) = true := by decide +kernel
theorem d_L_assign_0 : decode method_10_code 0 = .ok (.aload_n 2, 1) := jx_dec c_L_assign_ok 0 rfl
theorem d_L_assign_1 : decode method_10_code 1 = .ok (.iconst 0, 1) := jx_dec c_L_assign_ok 1 rfl
theorem d_L_assign_2 : decode method_10_code 2 = .ok (.aload_n 0, 1) := jx_dec c_L_assign_ok 2 rfl
theorem d_L_assign_3 : decode method_10_code 3 = .ok (.iload_n 1, 1) := jx_dec c_L_assign_ok 3 rfl
theorem d_L_assign_4 : decode method_10_code 4 = .ok (.invokevirtual 42, 3) := jx_dec c_L_assign_ok 4 rfl
theorem d_L_assign_7 : decode method_10_code 7 = .ok (.i2l, 1) := jx_dec c_L_assign_ok 5 rfl
theorem d_L_assign_8 : decode method_10_code 8 = .ok (.lastore, 1) := jx_dec c_L_assign_ok 6 rfl
theorem d_L_assign_9 : decode method_10_code 9 = .ok (.goto 6, 3) := jx_dec c_L_assign_ok 7 rfl
theorem d_L_assign_12 : decode method_10_code 12 = .ok (.astore_n 3, 1) := jx_dec c_L_assign_ok 8 rfl
theorem d_L_assign_13 : decode method_10_code 13 = .ok (.iconst 1, 1) := jx_dec c_L_assign_ok 9 rfl
theorem d_L_assign_14 : decode method_10_code 14 = .ok (.ireturn, 1) := jx_dec c_L_assign_ok 10 rfl
theorem d_L_assign_15 : decode method_10_code 15 = .ok (.iconst 0, 1) := jx_dec c_L_assign_ok 11 rfl
theorem d_L_assign_16 : decode method_10_code 16 = .ok (.ireturn, 1) := jx_dec c_L_assign_ok 12 rfl
def c_L_give : List (Nat × Instr × Nat) := [(0, .aload_n 2, 1), (1, .iconst 0, 1), (2, .aload_n 0, 1), (3, .iload_n 1, 1), (4, .invokevirtual 46, 3), (7, .i2l, 1), (8, .lastore, 1), (9, .goto 9, 3), (12, .astore_n 3, 1), (13, .iconst 1, 1), (14, .ireturn, 1), (15, .astore_n 3, 1), (16, .iconst 2, 1), (17, .ireturn, 1), (18, .iconst 0, 1), (19, .ireturn, 1)]
theorem c_L_give_ok : (c_L_give).all (fun q => decide (decode method_11_code q.1 = .ok q.2)) = true := by decide +kernel
theorem d_L_give_0 : decode method_11_code 0 = .ok (.aload_n 2, 1) := jx_dec c_L_give_ok 0 rfl
theorem d_L_give_1 : decode method_11_code 1 = .ok (.iconst 0, 1) := jx_dec c_L_give_ok 1 rfl
theorem d_L_give_2 : decode method_11_code 2 = .ok (.aload_n 0, 1) := jx_dec c_L_give_ok 2 rfl
theorem d_L_give_3 : decode method_11_code 3 = .ok (.iload_n 1, 1) := jx_dec c_L_give_ok 3 rfl
theorem d_L_give_4 : decode method_11_code 4 = .ok (.invokevirtual 46, 3) := jx_dec c_L_give_ok 4 rfl
theorem d_L_give_7 : decode method_11_code 7 = .ok (.i2l, 1) := jx_dec c_L_give_ok 5 rfl
theorem d_L_give_8 : decode method_11_code 8 = .ok (.lastore, 1) := jx_dec c_L_give_ok 6 rfl
theorem d_L_give_9 : decode method_11_code 9 = .ok (.goto 9, 3) := jx_dec c_L_give_ok 7 rfl
theorem d_L_give_12 : decode method_11_code 12 = .ok (.astore_n 3, 1) := jx_dec c_L_give_ok 8 rfl
theorem d_L_give_13 : decode method_11_code 13 = .ok (.iconst 1, 1) := jx_dec c_L_give_ok 9 rfl
theorem d_L_give_14 : decode method_11_code 14 = .ok (.ireturn, 1) := jx_dec c_L_give_ok 10 rfl
theorem d_L_give_15 : decode method_11_code 15 = .ok (.astore_n 3, 1) := jx_dec c_L_give_ok 11 rfl
theorem d_L_give_16 : decode method_11_code 16 = .ok (.iconst 2, 1) := jx_dec c_L_give_ok 12 rfl
theorem d_L_give_17 : decode method_11_code 17 = .ok (.ireturn, 1) := jx_dec c_L_give_ok 13 rfl
theorem d_L_give_18 : decode method_11_code 18 = .ok (.iconst 0, 1) := jx_dec c_L_give_ok 14 rfl
theorem d_L_give_19 : decode method_11_code 19 = .ok (.ireturn, 1) := jx_dec c_L_give_ok 15 rfl
def c_L_done : List (Nat × Instr × Nat) := [(0, .aload_n 2, 1), (1, .iconst 0, 1), (2, .aload_n 0, 1), (3, .iload_n 1, 1), (4, .invokevirtual 49, 3), (7, .i2l, 1), (8, .lastore, 1), (9, .goto 9, 3), (12, .astore_n 3, 1), (13, .iconst 1, 1), (14, .ireturn, 1), (15, .astore_n 3, 1), (16, .iconst 2, 1), (17, .ireturn, 1), (18, .iconst 0, 1), (19, .ireturn, 1)]
theorem c_L_done_ok : (c_L_done).all (fun q => decide (decode method_12_code q.1 = .ok q.2)) = true := by decide +kernel
theorem d_L_done_0 : decode method_12_code 0 = .ok (.aload_n 2, 1) := jx_dec c_L_done_ok 0 rfl
theorem d_L_done_1 : decode method_12_code 1 = .ok (.iconst 0, 1) := jx_dec c_L_done_ok 1 rfl
theorem d_L_done_2 : decode method_12_code 2 = .ok (.aload_n 0, 1) := jx_dec c_L_done_ok 2 rfl
theorem d_L_done_3 : decode method_12_code 3 = .ok (.iload_n 1, 1) := jx_dec c_L_done_ok 3 rfl
theorem d_L_done_4 : decode method_12_code 4 = .ok (.invokevirtual 49, 3) := jx_dec c_L_done_ok 4 rfl
theorem d_L_done_7 : decode method_12_code 7 = .ok (.i2l, 1) := jx_dec c_L_done_ok 5 rfl
theorem d_L_done_8 : decode method_12_code 8 = .ok (.lastore, 1) := jx_dec c_L_done_ok 6 rfl
theorem d_L_done_9 : decode method_12_code 9 = .ok (.goto 9, 3) := jx_dec c_L_done_ok 7 rfl
theorem d_L_done_12 : decode method_12_code 12 = .ok (.astore_n 3, 1) := jx_dec c_L_done_ok 8 rfl
theorem d_L_done_13 : decode method_12_code 13 = .ok (.iconst 1, 1) := jx_dec c_L_done_ok 9 rfl
theorem d_L_done_14 : decode method_12_code 14 = .ok (.ireturn, 1) := jx_dec c_L_done_ok 10 rfl
theorem d_L_done_15 : decode method_12_code 15 = .ok (.astore_n 3, 1) := jx_dec c_L_done_ok 11 rfl
theorem d_L_done_16 : decode method_12_code 16 = .ok (.iconst 2, 1) := jx_dec c_L_done_ok 12 rfl
theorem d_L_done_17 : decode method_12_code 17 = .ok (.ireturn, 1) := jx_dec c_L_done_ok 13 rfl
theorem d_L_done_18 : decode method_12_code 18 = .ok (.iconst 0, 1) := jx_dec c_L_done_ok 14 rfl
theorem d_L_done_19 : decode method_12_code 19 = .ok (.ireturn, 1) := jx_dec c_L_done_ok 15 rfl
def c_L_leaves : List (Nat × Instr × Nat) := [(0, .aload_n 2, 1), (1, .iconst 0, 1), (2, .aload_n 0, 1), (3, .iload_n 1, 1), (4, .invokevirtual 52, 3), (7, .i2l, 1), (8, .lastore, 1), (9, .goto 9, 3), (12, .astore_n 3, 1), (13, .iconst 1, 1), (14, .ireturn, 1), (15, .astore_n 3, 1), (16, .iconst 2, 1), (17, .ireturn, 1), (18, .iconst 0, 1), (19, .ireturn, 1)]
theorem c_L_leaves_ok : (c_L_leaves).all (fun q => decide (decode method_13_code q.1 = .ok q.2)) = true := by decide +kernel
theorem d_L_leaves_0 : decode method_13_code 0 = .ok (.aload_n 2, 1) := jx_dec c_L_leaves_ok 0 rfl
theorem d_L_leaves_1 : decode method_13_code 1 = .ok (.iconst 0, 1) := jx_dec c_L_leaves_ok 1 rfl
theorem d_L_leaves_2 : decode method_13_code 2 = .ok (.aload_n 0, 1) := jx_dec c_L_leaves_ok 2 rfl
theorem d_L_leaves_3 : decode method_13_code 3 = .ok (.iload_n 1, 1) := jx_dec c_L_leaves_ok 3 rfl
theorem d_L_leaves_4 : decode method_13_code 4 = .ok (.invokevirtual 52, 3) := jx_dec c_L_leaves_ok 4 rfl
theorem d_L_leaves_7 : decode method_13_code 7 = .ok (.i2l, 1) := jx_dec c_L_leaves_ok 5 rfl
theorem d_L_leaves_8 : decode method_13_code 8 = .ok (.lastore, 1) := jx_dec c_L_leaves_ok 6 rfl
theorem d_L_leaves_9 : decode method_13_code 9 = .ok (.goto 9, 3) := jx_dec c_L_leaves_ok 7 rfl
theorem d_L_leaves_12 : decode method_13_code 12 = .ok (.astore_n 3, 1) := jx_dec c_L_leaves_ok 8 rfl
theorem d_L_leaves_13 : decode method_13_code 13 = .ok (.iconst 1, 1) := jx_dec c_L_leaves_ok 9 rfl
theorem d_L_leaves_14 : decode method_13_code 14 = .ok (.ireturn, 1) := jx_dec c_L_leaves_ok 10 rfl
theorem d_L_leaves_15 : decode method_13_code 15 = .ok (.astore_n 3, 1) := jx_dec c_L_leaves_ok 11 rfl
theorem d_L_leaves_16 : decode method_13_code 16 = .ok (.iconst 2, 1) := jx_dec c_L_leaves_ok 12 rfl
theorem d_L_leaves_17 : decode method_13_code 17 = .ok (.ireturn, 1) := jx_dec c_L_leaves_ok 13 rfl
theorem d_L_leaves_18 : decode method_13_code 18 = .ok (.iconst 0, 1) := jx_dec c_L_leaves_ok 14 rfl
theorem d_L_leaves_19 : decode method_13_code 19 = .ok (.ireturn, 1) := jx_dec c_L_leaves_ok 15 rfl
def c_L_fair : List (Nat × Instr × Nat) := [(0, .aload_n 2, 1), (1, .iconst 0, 1), (2, .aload_n 0, 1), (3, .iload_n 1, 1), (4, .invokevirtual 55, 3), (7, .i2l, 1), (8, .lastore, 1), (9, .goto 6, 3), (12, .astore_n 3, 1), (13, .iconst 1, 1), (14, .ireturn, 1), (15, .iconst 0, 1), (16, .ireturn, 1)]
theorem c_L_fair_ok : (c_L_fair).all (fun q => decide (decode method_14_code q.1 = .ok q.2)) = true := by decide +kernel
theorem d_L_fair_0 : decode method_14_code 0 = .ok (.aload_n 2, 1) := jx_dec c_L_fair_ok 0 rfl
theorem d_L_fair_1 : decode method_14_code 1 = .ok (.iconst 0, 1) := jx_dec c_L_fair_ok 1 rfl
theorem d_L_fair_2 : decode method_14_code 2 = .ok (.aload_n 0, 1) := jx_dec c_L_fair_ok 2 rfl
theorem d_L_fair_3 : decode method_14_code 3 = .ok (.iload_n 1, 1) := jx_dec c_L_fair_ok 3 rfl
theorem d_L_fair_4 : decode method_14_code 4 = .ok (.invokevirtual 55, 3) := jx_dec c_L_fair_ok 4 rfl
theorem d_L_fair_7 : decode method_14_code 7 = .ok (.i2l, 1) := jx_dec c_L_fair_ok 5 rfl
theorem d_L_fair_8 : decode method_14_code 8 = .ok (.lastore, 1) := jx_dec c_L_fair_ok 6 rfl
theorem d_L_fair_9 : decode method_14_code 9 = .ok (.goto 6, 3) := jx_dec c_L_fair_ok 7 rfl
theorem d_L_fair_12 : decode method_14_code 12 = .ok (.astore_n 3, 1) := jx_dec c_L_fair_ok 8 rfl
theorem d_L_fair_13 : decode method_14_code 13 = .ok (.iconst 1, 1) := jx_dec c_L_fair_ok 9 rfl
theorem d_L_fair_14 : decode method_14_code 14 = .ok (.ireturn, 1) := jx_dec c_L_fair_ok 10 rfl
theorem d_L_fair_15 : decode method_14_code 15 = .ok (.iconst 0, 1) := jx_dec c_L_fair_ok 11 rfl
theorem d_L_fair_16 : decode method_14_code 16 = .ok (.ireturn, 1) := jx_dec c_L_fair_ok 12 rfl
def c_L_pass : List (Nat × Instr × Nat) := [(0, .aload_n 0, 1), (1, .iload_n 1, 1), (2, .invokevirtual 58, 3), (5, .goto 6, 3), (8, .astore_n 2, 1), (9, .iconst 1, 1), (10, .ireturn, 1), (11, .iconst 0, 1), (12, .ireturn, 1)]
theorem c_L_pass_ok : (c_L_pass).all (fun q => decide (decode method_15_code q.1 = .ok q.2)) = true := by decide +kernel
theorem d_L_pass_0 : decode method_15_code 0 = .ok (.aload_n 0, 1) := jx_dec c_L_pass_ok 0 rfl
theorem d_L_pass_1 : decode method_15_code 1 = .ok (.iload_n 1, 1) := jx_dec c_L_pass_ok 1 rfl
theorem d_L_pass_2 : decode method_15_code 2 = .ok (.invokevirtual 58, 3) := jx_dec c_L_pass_ok 2 rfl
theorem d_L_pass_5 : decode method_15_code 5 = .ok (.goto 6, 3) := jx_dec c_L_pass_ok 3 rfl
theorem d_L_pass_8 : decode method_15_code 8 = .ok (.astore_n 2, 1) := jx_dec c_L_pass_ok 4 rfl
theorem d_L_pass_9 : decode method_15_code 9 = .ok (.iconst 1, 1) := jx_dec c_L_pass_ok 5 rfl
theorem d_L_pass_10 : decode method_15_code 10 = .ok (.ireturn, 1) := jx_dec c_L_pass_ok 6 rfl
theorem d_L_pass_11 : decode method_15_code 11 = .ok (.iconst 0, 1) := jx_dec c_L_pass_ok 7 rfl
theorem d_L_pass_12 : decode method_15_code 12 = .ok (.ireturn, 1) := jx_dec c_L_pass_ok 8 rfl
def c_L_order : List (Nat × Instr × Nat) := [(0, .aload_n 3, 1), (1, .iconst 0, 1), (2, .aload_n 0, 1), (3, .iload_n 1, 1), (4, .iload_n 2, 1), (5, .invokevirtual 62, 3), (8, .i2l, 1), (9, .lastore, 1), (10, .goto 11, 3), (13, .astore 4, 2), (15, .iconst 1, 1), (16, .ireturn, 1), (17, .astore 4, 2), (19, .iconst 2, 1), (20, .ireturn, 1), (21, .iconst 0, 1), (22, .ireturn, 1)]
theorem c_L_order_ok : (c_L_order).all (fun q => decide (decode method_16_code q.1 = .ok q.2)) = true := by decide +kernel
theorem d_L_order_0 : decode method_16_code 0 = .ok (.aload_n 3, 1) := jx_dec c_L_order_ok 0 rfl
theorem d_L_order_1 : decode method_16_code 1 = .ok (.iconst 0, 1) := jx_dec c_L_order_ok 1 rfl
theorem d_L_order_2 : decode method_16_code 2 = .ok (.aload_n 0, 1) := jx_dec c_L_order_ok 2 rfl
theorem d_L_order_3 : decode method_16_code 3 = .ok (.iload_n 1, 1) := jx_dec c_L_order_ok 3 rfl
theorem d_L_order_4 : decode method_16_code 4 = .ok (.iload_n 2, 1) := jx_dec c_L_order_ok 4 rfl
theorem d_L_order_5 : decode method_16_code 5 = .ok (.invokevirtual 62, 3) := jx_dec c_L_order_ok 5 rfl
theorem d_L_order_8 : decode method_16_code 8 = .ok (.i2l, 1) := jx_dec c_L_order_ok 6 rfl
theorem d_L_order_9 : decode method_16_code 9 = .ok (.lastore, 1) := jx_dec c_L_order_ok 7 rfl
theorem d_L_order_10 : decode method_16_code 10 = .ok (.goto 11, 3) := jx_dec c_L_order_ok 8 rfl
theorem d_L_order_13 : decode method_16_code 13 = .ok (.astore 4, 2) := jx_dec c_L_order_ok 9 rfl
theorem d_L_order_15 : decode method_16_code 15 = .ok (.iconst 1, 1) := jx_dec c_L_order_ok 10 rfl
theorem d_L_order_16 : decode method_16_code 16 = .ok (.ireturn, 1) := jx_dec c_L_order_ok 11 rfl
theorem d_L_order_17 : decode method_16_code 17 = .ok (.astore 4, 2) := jx_dec c_L_order_ok 12 rfl
theorem d_L_order_19 : decode method_16_code 19 = .ok (.iconst 2, 1) := jx_dec c_L_order_ok 13 rfl
theorem d_L_order_20 : decode method_16_code 20 = .ok (.ireturn, 1) := jx_dec c_L_order_ok 14 rfl
theorem d_L_order_21 : decode method_16_code 21 = .ok (.iconst 0, 1) := jx_dec c_L_order_ok 15 rfl
theorem d_L_order_22 : decode method_16_code 22 = .ok (.ireturn, 1) := jx_dec c_L_order_ok 16 rfl
def c_L_told : List (Nat × Instr × Nat) := [(0, .aload_n 3, 1), (1, .iconst 0, 1), (2, .aload_n 0, 1), (3, .iload_n 1, 1), (4, .iload_n 2, 1), (5, .invokevirtual 65, 3), (8, .i2l, 1), (9, .lastore, 1), (10, .goto 11, 3), (13, .astore 4, 2), (15, .iconst 1, 1), (16, .ireturn, 1), (17, .astore 4, 2), (19, .iconst 2, 1), (20, .ireturn, 1), (21, .iconst 0, 1), (22, .ireturn, 1)]
theorem c_L_told_ok : (c_L_told).all (fun q => decide (decode method_17_code q.1 = .ok q.2)) = true := by decide +kernel
theorem d_L_told_0 : decode method_17_code 0 = .ok (.aload_n 3, 1) := jx_dec c_L_told_ok 0 rfl
theorem d_L_told_1 : decode method_17_code 1 = .ok (.iconst 0, 1) := jx_dec c_L_told_ok 1 rfl
theorem d_L_told_2 : decode method_17_code 2 = .ok (.aload_n 0, 1) := jx_dec c_L_told_ok 2 rfl
theorem d_L_told_3 : decode method_17_code 3 = .ok (.iload_n 1, 1) := jx_dec c_L_told_ok 3 rfl
theorem d_L_told_4 : decode method_17_code 4 = .ok (.iload_n 2, 1) := jx_dec c_L_told_ok 4 rfl
theorem d_L_told_5 : decode method_17_code 5 = .ok (.invokevirtual 65, 3) := jx_dec c_L_told_ok 5 rfl
theorem d_L_told_8 : decode method_17_code 8 = .ok (.i2l, 1) := jx_dec c_L_told_ok 6 rfl
theorem d_L_told_9 : decode method_17_code 9 = .ok (.lastore, 1) := jx_dec c_L_told_ok 7 rfl
theorem d_L_told_10 : decode method_17_code 10 = .ok (.goto 11, 3) := jx_dec c_L_told_ok 8 rfl
theorem d_L_told_13 : decode method_17_code 13 = .ok (.astore 4, 2) := jx_dec c_L_told_ok 9 rfl
theorem d_L_told_15 : decode method_17_code 15 = .ok (.iconst 1, 1) := jx_dec c_L_told_ok 10 rfl
theorem d_L_told_16 : decode method_17_code 16 = .ok (.ireturn, 1) := jx_dec c_L_told_ok 11 rfl
theorem d_L_told_17 : decode method_17_code 17 = .ok (.astore 4, 2) := jx_dec c_L_told_ok 12 rfl
theorem d_L_told_19 : decode method_17_code 19 = .ok (.iconst 2, 1) := jx_dec c_L_told_ok 13 rfl
theorem d_L_told_20 : decode method_17_code 20 = .ok (.ireturn, 1) := jx_dec c_L_told_ok 14 rfl
theorem d_L_told_21 : decode method_17_code 21 = .ok (.iconst 0, 1) := jx_dec c_L_told_ok 15 rfl
theorem d_L_told_22 : decode method_17_code 22 = .ok (.ireturn, 1) := jx_dec c_L_told_ok 16 rfl
def c_L_known : List (Nat × Instr × Nat) := [(0, .aload_n 3, 1), (1, .iconst 0, 1), (2, .aload_n 0, 1), (3, .iload_n 1, 1), (4, .iload_n 2, 1), (5, .invokevirtual 68, 3), (8, .i2l, 1), (9, .lastore, 1), (10, .goto 11, 3), (13, .astore 4, 2), (15, .iconst 1, 1), (16, .ireturn, 1), (17, .astore 4, 2), (19, .iconst 2, 1), (20, .ireturn, 1), (21, .iconst 0, 1), (22, .ireturn, 1)]
theorem c_L_known_ok : (c_L_known).all (fun q => decide (decode method_18_code q.1 = .ok q.2)) = true := by decide +kernel
theorem d_L_known_0 : decode method_18_code 0 = .ok (.aload_n 3, 1) := jx_dec c_L_known_ok 0 rfl
theorem d_L_known_1 : decode method_18_code 1 = .ok (.iconst 0, 1) := jx_dec c_L_known_ok 1 rfl
theorem d_L_known_2 : decode method_18_code 2 = .ok (.aload_n 0, 1) := jx_dec c_L_known_ok 2 rfl
theorem d_L_known_3 : decode method_18_code 3 = .ok (.iload_n 1, 1) := jx_dec c_L_known_ok 3 rfl
theorem d_L_known_4 : decode method_18_code 4 = .ok (.iload_n 2, 1) := jx_dec c_L_known_ok 4 rfl
theorem d_L_known_5 : decode method_18_code 5 = .ok (.invokevirtual 68, 3) := jx_dec c_L_known_ok 5 rfl
theorem d_L_known_8 : decode method_18_code 8 = .ok (.i2l, 1) := jx_dec c_L_known_ok 6 rfl
theorem d_L_known_9 : decode method_18_code 9 = .ok (.lastore, 1) := jx_dec c_L_known_ok 7 rfl
theorem d_L_known_10 : decode method_18_code 10 = .ok (.goto 11, 3) := jx_dec c_L_known_ok 8 rfl
theorem d_L_known_13 : decode method_18_code 13 = .ok (.astore 4, 2) := jx_dec c_L_known_ok 9 rfl
theorem d_L_known_15 : decode method_18_code 15 = .ok (.iconst 1, 1) := jx_dec c_L_known_ok 10 rfl
theorem d_L_known_16 : decode method_18_code 16 = .ok (.ireturn, 1) := jx_dec c_L_known_ok 11 rfl
theorem d_L_known_17 : decode method_18_code 17 = .ok (.astore 4, 2) := jx_dec c_L_known_ok 12 rfl
theorem d_L_known_19 : decode method_18_code 19 = .ok (.iconst 2, 1) := jx_dec c_L_known_ok 13 rfl
theorem d_L_known_20 : decode method_18_code 20 = .ok (.ireturn, 1) := jx_dec c_L_known_ok 14 rfl
theorem d_L_known_21 : decode method_18_code 21 = .ok (.iconst 0, 1) := jx_dec c_L_known_ok 15 rfl
theorem d_L_known_22 : decode method_18_code 22 = .ok (.ireturn, 1) := jx_dec c_L_known_ok 16 rfl
end
section
/-! 04.9law: the law's instructions -/
def c_L_law_0 : List (Nat × Instr × Nat) := [(0, .new 8, 3), (3, .dup, 1), (4, .invokespecial 71, 3), (7, .astore_n 1, 1), (8, .new 72, 3), (11, .dup, 1), (12, .invokespecial 74, 3), (15, .astore_n 2, 1), (16, .iconst 1, 1), (17, .newarray .long, 2), (19, .astore_n 3, 1), (20, .iconst 0, 1), (21, .istore 4, 2), (23, .iload 4, 2), (25, .aload_n 0, 1), (26, .arraylength, 1), (27, .iconst 5, 1), (28, .isub, 1), (29, .if_icmp .gt 1191, 3), (32, .aload_n 0, 1), (33, .iload 4, 2), (35, .iaload, 1), (36, .bipush 31, 2), (38, .iand, 1), (39, .tableswitch 1175 0 18 #[89, 181, 241, 309, 401, 461, 536, 604, 660, 673, 686, 742, 798, 854, 910, 946, 1014, 1082, 1150], 89), (128, .aload_n 1, 1), (129, .aload_n 0, 1), (130, .iload 4, 2), (132, .iconst 1, 1), (133, .iadd, 1), (134, .iaload, 1), (135, .aload_n 0, 1), (136, .iload 4, 2), (138, .iconst 2, 1), (139, .iadd, 1), (140, .iaload, 1), (141, .aload_n 0, 1), (142, .iload 4, 2), (144, .iconst 3, 1), (145, .iadd, 1), (146, .iaload, 1), (147, .aload_n 0, 1), (148, .iload 4, 2), (150, .iconst 4, 1), (151, .iadd, 1), (152, .iaload, 1), (153, .aload_n 3, 1), (154, .invokestatic 75, 3), (157, .istore 5, 2), (159, .aload_n 2, 1), (160, .aload_n 0, 1), (161, .iload 4, 2), (163, .iconst 1, 1), (164, .iadd, 1), (165, .iaload, 1), (166, .aload_n 0, 1), (167, .iload 4, 2), (169, .iconst 2, 1), (170, .iadd, 1), (171, .iaload, 1), (172, .aload_n 0, 1), (173, .iload 4, 2), (175, .iconst 3, 1), (176, .iadd, 1), (177, .iaload, 1), (178, .aload_n 0, 1), (179, .iload 4, 2), (181, .iconst 4, 1), (182, .iadd, 1), (183, .iaload, 1), (184, .invokevirtual 80, 3), (187, .istore 6, 2), (189, .aload_n 2, 1), (190, .invokevirtual 81, 3), (193, .iload 5, 2), (195, .if_icmp .eq 5, 3), (198, .iconst 0, 1), (199, .ireturn, 1), (200, .iload 5, 2), (202, .ifCond .ne 15, 3), (205, .aload_n 3, 1), (206, .iconst 0, 1), (207, .laload, 1), (208, .iload 6, 2), (210, .i2l, 1), (211, .lcmp, 1), (212, .ifCond .eq 5, 3), (215, .iconst 0, 1), (216, .ireturn, 1), (217, .goto 997, 3), (220, .aload_n 1, 1), (221, .aload_n 0, 1), (222, .iload 4, 2), (224, .iconst 1, 1), (225, .iadd, 1), (226, .iaload, 1), (227, .aload_n 0, 1), (228, .iload 4, 2), (230, .iconst 2, 1), (231, .iadd, 1)]
theorem c_L_law_0_ok : (c_L_law_0).all (fun q => decide (decode code q.1 = .ok q.2)) = true := by decide +kernel
theorem d_L_law_0 : decode code 0 = .ok (.new 8, 3) := jx_dec c_L_law_0_ok 0 rfl
theorem d_L_law_3 : decode code 3 = .ok (.dup, 1) := jx_dec c_L_law_0_ok 1 rfl
theorem d_L_law_4 : decode code 4 = .ok (.invokespecial 71, 3) := jx_dec c_L_law_0_ok 2 rfl
theorem d_L_law_7 : decode code 7 = .ok (.astore_n 1, 1) := jx_dec c_L_law_0_ok 3 rfl
theorem d_L_law_8 : decode code 8 = .ok (.new 72, 3) := jx_dec c_L_law_0_ok 4 rfl
theorem d_L_law_11 : decode code 11 = .ok (.dup, 1) := jx_dec c_L_law_0_ok 5 rfl
theorem d_L_law_12 : decode code 12 = .ok (.invokespecial 74, 3) := jx_dec c_L_law_0_ok 6 rfl
theorem d_L_law_15 : decode code 15 = .ok (.astore_n 2, 1) := jx_dec c_L_law_0_ok 7 rfl
theorem d_L_law_16 : decode code 16 = .ok (.iconst 1, 1) := jx_dec c_L_law_0_ok 8 rfl
theorem d_L_law_17 : decode code 17 = .ok (.newarray .long, 2) := jx_dec c_L_law_0_ok 9 rfl
theorem d_L_law_19 : decode code 19 = .ok (.astore_n 3, 1) := jx_dec c_L_law_0_ok 10 rfl
theorem d_L_law_20 : decode code 20 = .ok (.iconst 0, 1) := jx_dec c_L_law_0_ok 11 rfl
theorem d_L_law_21 : decode code 21 = .ok (.istore 4, 2) := jx_dec c_L_law_0_ok 12 rfl
theorem d_L_law_23 : decode code 23 = .ok (.iload 4, 2) := jx_dec c_L_law_0_ok 13 rfl
theorem d_L_law_25 : decode code 25 = .ok (.aload_n 0, 1) := jx_dec c_L_law_0_ok 14 rfl
theorem d_L_law_26 : decode code 26 = .ok (.arraylength, 1) := jx_dec c_L_law_0_ok 15 rfl
theorem d_L_law_27 : decode code 27 = .ok (.iconst 5, 1) := jx_dec c_L_law_0_ok 16 rfl
theorem d_L_law_28 : decode code 28 = .ok (.isub, 1) := jx_dec c_L_law_0_ok 17 rfl
theorem d_L_law_29 : decode code 29 = .ok (.if_icmp .gt 1191, 3) := jx_dec c_L_law_0_ok 18 rfl
theorem d_L_law_32 : decode code 32 = .ok (.aload_n 0, 1) := jx_dec c_L_law_0_ok 19 rfl
theorem d_L_law_33 : decode code 33 = .ok (.iload 4, 2) := jx_dec c_L_law_0_ok 20 rfl
theorem d_L_law_35 : decode code 35 = .ok (.iaload, 1) := jx_dec c_L_law_0_ok 21 rfl
theorem d_L_law_36 : decode code 36 = .ok (.bipush 31, 2) := jx_dec c_L_law_0_ok 22 rfl
theorem d_L_law_38 : decode code 38 = .ok (.iand, 1) := jx_dec c_L_law_0_ok 23 rfl
theorem d_L_law_39 : decode code 39 = .ok (.tableswitch 1175 0 18 #[89, 181, 241, 309, 401, 461, 536, 604, 660, 673, 686, 742, 798, 854, 910, 946, 1014, 1082, 1150], 89) := jx_dec c_L_law_0_ok 24 rfl
theorem d_L_law_128 : decode code 128 = .ok (.aload_n 1, 1) := jx_dec c_L_law_0_ok 25 rfl
theorem d_L_law_129 : decode code 129 = .ok (.aload_n 0, 1) := jx_dec c_L_law_0_ok 26 rfl
theorem d_L_law_130 : decode code 130 = .ok (.iload 4, 2) := jx_dec c_L_law_0_ok 27 rfl
theorem d_L_law_132 : decode code 132 = .ok (.iconst 1, 1) := jx_dec c_L_law_0_ok 28 rfl
theorem d_L_law_133 : decode code 133 = .ok (.iadd, 1) := jx_dec c_L_law_0_ok 29 rfl
theorem d_L_law_134 : decode code 134 = .ok (.iaload, 1) := jx_dec c_L_law_0_ok 30 rfl
theorem d_L_law_135 : decode code 135 = .ok (.aload_n 0, 1) := jx_dec c_L_law_0_ok 31 rfl
theorem d_L_law_136 : decode code 136 = .ok (.iload 4, 2) := jx_dec c_L_law_0_ok 32 rfl
theorem d_L_law_138 : decode code 138 = .ok (.iconst 2, 1) := jx_dec c_L_law_0_ok 33 rfl
theorem d_L_law_139 : decode code 139 = .ok (.iadd, 1) := jx_dec c_L_law_0_ok 34 rfl
theorem d_L_law_140 : decode code 140 = .ok (.iaload, 1) := jx_dec c_L_law_0_ok 35 rfl
theorem d_L_law_141 : decode code 141 = .ok (.aload_n 0, 1) := jx_dec c_L_law_0_ok 36 rfl
theorem d_L_law_142 : decode code 142 = .ok (.iload 4, 2) := jx_dec c_L_law_0_ok 37 rfl
theorem d_L_law_144 : decode code 144 = .ok (.iconst 3, 1) := jx_dec c_L_law_0_ok 38 rfl
theorem d_L_law_145 : decode code 145 = .ok (.iadd, 1) := jx_dec c_L_law_0_ok 39 rfl
theorem d_L_law_146 : decode code 146 = .ok (.iaload, 1) := jx_dec c_L_law_0_ok 40 rfl
theorem d_L_law_147 : decode code 147 = .ok (.aload_n 0, 1) := jx_dec c_L_law_0_ok 41 rfl
theorem d_L_law_148 : decode code 148 = .ok (.iload 4, 2) := jx_dec c_L_law_0_ok 42 rfl
theorem d_L_law_150 : decode code 150 = .ok (.iconst 4, 1) := jx_dec c_L_law_0_ok 43 rfl
theorem d_L_law_151 : decode code 151 = .ok (.iadd, 1) := jx_dec c_L_law_0_ok 44 rfl
theorem d_L_law_152 : decode code 152 = .ok (.iaload, 1) := jx_dec c_L_law_0_ok 45 rfl
theorem d_L_law_153 : decode code 153 = .ok (.aload_n 3, 1) := jx_dec c_L_law_0_ok 46 rfl
theorem d_L_law_154 : decode code 154 = .ok (.invokestatic 75, 3) := jx_dec c_L_law_0_ok 47 rfl
theorem d_L_law_157 : decode code 157 = .ok (.istore 5, 2) := jx_dec c_L_law_0_ok 48 rfl
theorem d_L_law_159 : decode code 159 = .ok (.aload_n 2, 1) := jx_dec c_L_law_0_ok 49 rfl
theorem d_L_law_160 : decode code 160 = .ok (.aload_n 0, 1) := jx_dec c_L_law_0_ok 50 rfl
theorem d_L_law_161 : decode code 161 = .ok (.iload 4, 2) := jx_dec c_L_law_0_ok 51 rfl
theorem d_L_law_163 : decode code 163 = .ok (.iconst 1, 1) := jx_dec c_L_law_0_ok 52 rfl
theorem d_L_law_164 : decode code 164 = .ok (.iadd, 1) := jx_dec c_L_law_0_ok 53 rfl
theorem d_L_law_165 : decode code 165 = .ok (.iaload, 1) := jx_dec c_L_law_0_ok 54 rfl
theorem d_L_law_166 : decode code 166 = .ok (.aload_n 0, 1) := jx_dec c_L_law_0_ok 55 rfl
theorem d_L_law_167 : decode code 167 = .ok (.iload 4, 2) := jx_dec c_L_law_0_ok 56 rfl
theorem d_L_law_169 : decode code 169 = .ok (.iconst 2, 1) := jx_dec c_L_law_0_ok 57 rfl
theorem d_L_law_170 : decode code 170 = .ok (.iadd, 1) := jx_dec c_L_law_0_ok 58 rfl
theorem d_L_law_171 : decode code 171 = .ok (.iaload, 1) := jx_dec c_L_law_0_ok 59 rfl
theorem d_L_law_172 : decode code 172 = .ok (.aload_n 0, 1) := jx_dec c_L_law_0_ok 60 rfl
theorem d_L_law_173 : decode code 173 = .ok (.iload 4, 2) := jx_dec c_L_law_0_ok 61 rfl
theorem d_L_law_175 : decode code 175 = .ok (.iconst 3, 1) := jx_dec c_L_law_0_ok 62 rfl
theorem d_L_law_176 : decode code 176 = .ok (.iadd, 1) := jx_dec c_L_law_0_ok 63 rfl
theorem d_L_law_177 : decode code 177 = .ok (.iaload, 1) := jx_dec c_L_law_0_ok 64 rfl
theorem d_L_law_178 : decode code 178 = .ok (.aload_n 0, 1) := jx_dec c_L_law_0_ok 65 rfl
theorem d_L_law_179 : decode code 179 = .ok (.iload 4, 2) := jx_dec c_L_law_0_ok 66 rfl
theorem d_L_law_181 : decode code 181 = .ok (.iconst 4, 1) := jx_dec c_L_law_0_ok 67 rfl
theorem d_L_law_182 : decode code 182 = .ok (.iadd, 1) := jx_dec c_L_law_0_ok 68 rfl
theorem d_L_law_183 : decode code 183 = .ok (.iaload, 1) := jx_dec c_L_law_0_ok 69 rfl
theorem d_L_law_184 : decode code 184 = .ok (.invokevirtual 80, 3) := jx_dec c_L_law_0_ok 70 rfl
theorem d_L_law_187 : decode code 187 = .ok (.istore 6, 2) := jx_dec c_L_law_0_ok 71 rfl
theorem d_L_law_189 : decode code 189 = .ok (.aload_n 2, 1) := jx_dec c_L_law_0_ok 72 rfl
theorem d_L_law_190 : decode code 190 = .ok (.invokevirtual 81, 3) := jx_dec c_L_law_0_ok 73 rfl
theorem d_L_law_193 : decode code 193 = .ok (.iload 5, 2) := jx_dec c_L_law_0_ok 74 rfl
theorem d_L_law_195 : decode code 195 = .ok (.if_icmp .eq 5, 3) := jx_dec c_L_law_0_ok 75 rfl
theorem d_L_law_198 : decode code 198 = .ok (.iconst 0, 1) := jx_dec c_L_law_0_ok 76 rfl
theorem d_L_law_199 : decode code 199 = .ok (.ireturn, 1) := jx_dec c_L_law_0_ok 77 rfl
theorem d_L_law_200 : decode code 200 = .ok (.iload 5, 2) := jx_dec c_L_law_0_ok 78 rfl
theorem d_L_law_202 : decode code 202 = .ok (.ifCond .ne 15, 3) := jx_dec c_L_law_0_ok 79 rfl
theorem d_L_law_205 : decode code 205 = .ok (.aload_n 3, 1) := jx_dec c_L_law_0_ok 80 rfl
theorem d_L_law_206 : decode code 206 = .ok (.iconst 0, 1) := jx_dec c_L_law_0_ok 81 rfl
theorem d_L_law_207 : decode code 207 = .ok (.laload, 1) := jx_dec c_L_law_0_ok 82 rfl
theorem d_L_law_208 : decode code 208 = .ok (.iload 6, 2) := jx_dec c_L_law_0_ok 83 rfl
theorem d_L_law_210 : decode code 210 = .ok (.i2l, 1) := jx_dec c_L_law_0_ok 84 rfl
theorem d_L_law_211 : decode code 211 = .ok (.lcmp, 1) := jx_dec c_L_law_0_ok 85 rfl
theorem d_L_law_212 : decode code 212 = .ok (.ifCond .eq 5, 3) := jx_dec c_L_law_0_ok 86 rfl
theorem d_L_law_215 : decode code 215 = .ok (.iconst 0, 1) := jx_dec c_L_law_0_ok 87 rfl
theorem d_L_law_216 : decode code 216 = .ok (.ireturn, 1) := jx_dec c_L_law_0_ok 88 rfl
theorem d_L_law_217 : decode code 217 = .ok (.goto 997, 3) := jx_dec c_L_law_0_ok 89 rfl
theorem d_L_law_220 : decode code 220 = .ok (.aload_n 1, 1) := jx_dec c_L_law_0_ok 90 rfl
theorem d_L_law_221 : decode code 221 = .ok (.aload_n 0, 1) := jx_dec c_L_law_0_ok 91 rfl
theorem d_L_law_222 : decode code 222 = .ok (.iload 4, 2) := jx_dec c_L_law_0_ok 92 rfl
theorem d_L_law_224 : decode code 224 = .ok (.iconst 1, 1) := jx_dec c_L_law_0_ok 93 rfl
theorem d_L_law_225 : decode code 225 = .ok (.iadd, 1) := jx_dec c_L_law_0_ok 94 rfl
theorem d_L_law_226 : decode code 226 = .ok (.iaload, 1) := jx_dec c_L_law_0_ok 95 rfl
theorem d_L_law_227 : decode code 227 = .ok (.aload_n 0, 1) := jx_dec c_L_law_0_ok 96 rfl
theorem d_L_law_228 : decode code 228 = .ok (.iload 4, 2) := jx_dec c_L_law_0_ok 97 rfl
theorem d_L_law_230 : decode code 230 = .ok (.iconst 2, 1) := jx_dec c_L_law_0_ok 98 rfl
theorem d_L_law_231 : decode code 231 = .ok (.iadd, 1) := jx_dec c_L_law_0_ok 99 rfl
def c_L_law_1 : List (Nat × Instr × Nat) := [(232, .iaload, 1), (233, .aload_n 0, 1), (234, .iload 4, 2), (236, .iconst 3, 1), (237, .iadd, 1), (238, .iaload, 1), (239, .invokestatic 85, 3), (242, .istore 5, 2), (244, .aload_n 2, 1), (245, .aload_n 0, 1), (246, .iload 4, 2), (248, .iconst 1, 1), (249, .iadd, 1), (250, .iaload, 1), (251, .aload_n 0, 1), (252, .iload 4, 2), (254, .iconst 2, 1), (255, .iadd, 1), (256, .iaload, 1), (257, .aload_n 0, 1), (258, .iload 4, 2), (260, .iconst 3, 1), (261, .iadd, 1), (262, .iaload, 1), (263, .invokevirtual 88, 3), (266, .aload_n 2, 1), (267, .invokevirtual 81, 3), (270, .iload 5, 2), (272, .if_icmp .eq 5, 3), (275, .iconst 0, 1), (276, .ireturn, 1), (277, .goto 937, 3), (280, .aload_n 1, 1), (281, .aload_n 0, 1), (282, .iload 4, 2), (284, .iconst 1, 1), (285, .iadd, 1), (286, .iaload, 1), (287, .aload_n 0, 1), (288, .iload 4, 2), (290, .iconst 2, 1), (291, .iadd, 1), (292, .iaload, 1), (293, .aload_n 3, 1), (294, .invokestatic 89, 3), (297, .istore 5, 2), (299, .aload_n 2, 1), (300, .aload_n 0, 1), (301, .iload 4, 2), (303, .iconst 1, 1), (304, .iadd, 1), (305, .iaload, 1), (306, .aload_n 0, 1), (307, .iload 4, 2), (309, .iconst 2, 1), (310, .iadd, 1), (311, .iaload, 1), (312, .invokevirtual 92, 3), (315, .istore 6, 2), (317, .aload_n 2, 1), (318, .invokevirtual 81, 3), (321, .iload 5, 2), (323, .if_icmp .eq 5, 3), (326, .iconst 0, 1), (327, .ireturn, 1), (328, .iload 5, 2), (330, .ifCond .ne 15, 3), (333, .aload_n 3, 1), (334, .iconst 0, 1), (335, .laload, 1), (336, .iload 6, 2), (338, .i2l, 1), (339, .lcmp, 1), (340, .ifCond .eq 5, 3), (343, .iconst 0, 1), (344, .ireturn, 1), (345, .goto 869, 3), (348, .aload_n 1, 1), (349, .aload_n 0, 1), (350, .iload 4, 2), (352, .iconst 1, 1), (353, .iadd, 1), (354, .iaload, 1), (355, .aload_n 0, 1), (356, .iload 4, 2), (358, .iconst 2, 1), (359, .iadd, 1), (360, .iaload, 1), (361, .aload_n 0, 1), (362, .iload 4, 2), (364, .iconst 3, 1), (365, .iadd, 1), (366, .iaload, 1), (367, .aload_n 0, 1), (368, .iload 4, 2), (370, .iconst 4, 1), (371, .iadd, 1), (372, .iaload, 1), (373, .aload_n 3, 1), (374, .invokestatic 93, 3)]
theorem c_L_law_1_ok : (c_L_law_1).all (fun q => decide (decode code q.1 = .ok q.2)) = true := by decide +kernel
theorem d_L_law_232 : decode code 232 = .ok (.iaload, 1) := jx_dec c_L_law_1_ok 0 rfl
theorem d_L_law_233 : decode code 233 = .ok (.aload_n 0, 1) := jx_dec c_L_law_1_ok 1 rfl
theorem d_L_law_234 : decode code 234 = .ok (.iload 4, 2) := jx_dec c_L_law_1_ok 2 rfl
theorem d_L_law_236 : decode code 236 = .ok (.iconst 3, 1) := jx_dec c_L_law_1_ok 3 rfl
theorem d_L_law_237 : decode code 237 = .ok (.iadd, 1) := jx_dec c_L_law_1_ok 4 rfl
theorem d_L_law_238 : decode code 238 = .ok (.iaload, 1) := jx_dec c_L_law_1_ok 5 rfl
theorem d_L_law_239 : decode code 239 = .ok (.invokestatic 85, 3) := jx_dec c_L_law_1_ok 6 rfl
theorem d_L_law_242 : decode code 242 = .ok (.istore 5, 2) := jx_dec c_L_law_1_ok 7 rfl
theorem d_L_law_244 : decode code 244 = .ok (.aload_n 2, 1) := jx_dec c_L_law_1_ok 8 rfl
theorem d_L_law_245 : decode code 245 = .ok (.aload_n 0, 1) := jx_dec c_L_law_1_ok 9 rfl
theorem d_L_law_246 : decode code 246 = .ok (.iload 4, 2) := jx_dec c_L_law_1_ok 10 rfl
theorem d_L_law_248 : decode code 248 = .ok (.iconst 1, 1) := jx_dec c_L_law_1_ok 11 rfl
theorem d_L_law_249 : decode code 249 = .ok (.iadd, 1) := jx_dec c_L_law_1_ok 12 rfl
theorem d_L_law_250 : decode code 250 = .ok (.iaload, 1) := jx_dec c_L_law_1_ok 13 rfl
theorem d_L_law_251 : decode code 251 = .ok (.aload_n 0, 1) := jx_dec c_L_law_1_ok 14 rfl
theorem d_L_law_252 : decode code 252 = .ok (.iload 4, 2) := jx_dec c_L_law_1_ok 15 rfl
theorem d_L_law_254 : decode code 254 = .ok (.iconst 2, 1) := jx_dec c_L_law_1_ok 16 rfl
theorem d_L_law_255 : decode code 255 = .ok (.iadd, 1) := jx_dec c_L_law_1_ok 17 rfl
theorem d_L_law_256 : decode code 256 = .ok (.iaload, 1) := jx_dec c_L_law_1_ok 18 rfl
theorem d_L_law_257 : decode code 257 = .ok (.aload_n 0, 1) := jx_dec c_L_law_1_ok 19 rfl
theorem d_L_law_258 : decode code 258 = .ok (.iload 4, 2) := jx_dec c_L_law_1_ok 20 rfl
theorem d_L_law_260 : decode code 260 = .ok (.iconst 3, 1) := jx_dec c_L_law_1_ok 21 rfl
theorem d_L_law_261 : decode code 261 = .ok (.iadd, 1) := jx_dec c_L_law_1_ok 22 rfl
theorem d_L_law_262 : decode code 262 = .ok (.iaload, 1) := jx_dec c_L_law_1_ok 23 rfl
theorem d_L_law_263 : decode code 263 = .ok (.invokevirtual 88, 3) := jx_dec c_L_law_1_ok 24 rfl
theorem d_L_law_266 : decode code 266 = .ok (.aload_n 2, 1) := jx_dec c_L_law_1_ok 25 rfl
theorem d_L_law_267 : decode code 267 = .ok (.invokevirtual 81, 3) := jx_dec c_L_law_1_ok 26 rfl
theorem d_L_law_270 : decode code 270 = .ok (.iload 5, 2) := jx_dec c_L_law_1_ok 27 rfl
theorem d_L_law_272 : decode code 272 = .ok (.if_icmp .eq 5, 3) := jx_dec c_L_law_1_ok 28 rfl
theorem d_L_law_275 : decode code 275 = .ok (.iconst 0, 1) := jx_dec c_L_law_1_ok 29 rfl
theorem d_L_law_276 : decode code 276 = .ok (.ireturn, 1) := jx_dec c_L_law_1_ok 30 rfl
theorem d_L_law_277 : decode code 277 = .ok (.goto 937, 3) := jx_dec c_L_law_1_ok 31 rfl
theorem d_L_law_280 : decode code 280 = .ok (.aload_n 1, 1) := jx_dec c_L_law_1_ok 32 rfl
theorem d_L_law_281 : decode code 281 = .ok (.aload_n 0, 1) := jx_dec c_L_law_1_ok 33 rfl
theorem d_L_law_282 : decode code 282 = .ok (.iload 4, 2) := jx_dec c_L_law_1_ok 34 rfl
theorem d_L_law_284 : decode code 284 = .ok (.iconst 1, 1) := jx_dec c_L_law_1_ok 35 rfl
theorem d_L_law_285 : decode code 285 = .ok (.iadd, 1) := jx_dec c_L_law_1_ok 36 rfl
theorem d_L_law_286 : decode code 286 = .ok (.iaload, 1) := jx_dec c_L_law_1_ok 37 rfl
theorem d_L_law_287 : decode code 287 = .ok (.aload_n 0, 1) := jx_dec c_L_law_1_ok 38 rfl
theorem d_L_law_288 : decode code 288 = .ok (.iload 4, 2) := jx_dec c_L_law_1_ok 39 rfl
theorem d_L_law_290 : decode code 290 = .ok (.iconst 2, 1) := jx_dec c_L_law_1_ok 40 rfl
theorem d_L_law_291 : decode code 291 = .ok (.iadd, 1) := jx_dec c_L_law_1_ok 41 rfl
theorem d_L_law_292 : decode code 292 = .ok (.iaload, 1) := jx_dec c_L_law_1_ok 42 rfl
theorem d_L_law_293 : decode code 293 = .ok (.aload_n 3, 1) := jx_dec c_L_law_1_ok 43 rfl
theorem d_L_law_294 : decode code 294 = .ok (.invokestatic 89, 3) := jx_dec c_L_law_1_ok 44 rfl
theorem d_L_law_297 : decode code 297 = .ok (.istore 5, 2) := jx_dec c_L_law_1_ok 45 rfl
theorem d_L_law_299 : decode code 299 = .ok (.aload_n 2, 1) := jx_dec c_L_law_1_ok 46 rfl
theorem d_L_law_300 : decode code 300 = .ok (.aload_n 0, 1) := jx_dec c_L_law_1_ok 47 rfl
theorem d_L_law_301 : decode code 301 = .ok (.iload 4, 2) := jx_dec c_L_law_1_ok 48 rfl
theorem d_L_law_303 : decode code 303 = .ok (.iconst 1, 1) := jx_dec c_L_law_1_ok 49 rfl
theorem d_L_law_304 : decode code 304 = .ok (.iadd, 1) := jx_dec c_L_law_1_ok 50 rfl
theorem d_L_law_305 : decode code 305 = .ok (.iaload, 1) := jx_dec c_L_law_1_ok 51 rfl
theorem d_L_law_306 : decode code 306 = .ok (.aload_n 0, 1) := jx_dec c_L_law_1_ok 52 rfl
theorem d_L_law_307 : decode code 307 = .ok (.iload 4, 2) := jx_dec c_L_law_1_ok 53 rfl
theorem d_L_law_309 : decode code 309 = .ok (.iconst 2, 1) := jx_dec c_L_law_1_ok 54 rfl
theorem d_L_law_310 : decode code 310 = .ok (.iadd, 1) := jx_dec c_L_law_1_ok 55 rfl
theorem d_L_law_311 : decode code 311 = .ok (.iaload, 1) := jx_dec c_L_law_1_ok 56 rfl
theorem d_L_law_312 : decode code 312 = .ok (.invokevirtual 92, 3) := jx_dec c_L_law_1_ok 57 rfl
theorem d_L_law_315 : decode code 315 = .ok (.istore 6, 2) := jx_dec c_L_law_1_ok 58 rfl
theorem d_L_law_317 : decode code 317 = .ok (.aload_n 2, 1) := jx_dec c_L_law_1_ok 59 rfl
theorem d_L_law_318 : decode code 318 = .ok (.invokevirtual 81, 3) := jx_dec c_L_law_1_ok 60 rfl
theorem d_L_law_321 : decode code 321 = .ok (.iload 5, 2) := jx_dec c_L_law_1_ok 61 rfl
theorem d_L_law_323 : decode code 323 = .ok (.if_icmp .eq 5, 3) := jx_dec c_L_law_1_ok 62 rfl
theorem d_L_law_326 : decode code 326 = .ok (.iconst 0, 1) := jx_dec c_L_law_1_ok 63 rfl
theorem d_L_law_327 : decode code 327 = .ok (.ireturn, 1) := jx_dec c_L_law_1_ok 64 rfl
theorem d_L_law_328 : decode code 328 = .ok (.iload 5, 2) := jx_dec c_L_law_1_ok 65 rfl
theorem d_L_law_330 : decode code 330 = .ok (.ifCond .ne 15, 3) := jx_dec c_L_law_1_ok 66 rfl
theorem d_L_law_333 : decode code 333 = .ok (.aload_n 3, 1) := jx_dec c_L_law_1_ok 67 rfl
theorem d_L_law_334 : decode code 334 = .ok (.iconst 0, 1) := jx_dec c_L_law_1_ok 68 rfl
theorem d_L_law_335 : decode code 335 = .ok (.laload, 1) := jx_dec c_L_law_1_ok 69 rfl
theorem d_L_law_336 : decode code 336 = .ok (.iload 6, 2) := jx_dec c_L_law_1_ok 70 rfl
theorem d_L_law_338 : decode code 338 = .ok (.i2l, 1) := jx_dec c_L_law_1_ok 71 rfl
theorem d_L_law_339 : decode code 339 = .ok (.lcmp, 1) := jx_dec c_L_law_1_ok 72 rfl
theorem d_L_law_340 : decode code 340 = .ok (.ifCond .eq 5, 3) := jx_dec c_L_law_1_ok 73 rfl
theorem d_L_law_343 : decode code 343 = .ok (.iconst 0, 1) := jx_dec c_L_law_1_ok 74 rfl
theorem d_L_law_344 : decode code 344 = .ok (.ireturn, 1) := jx_dec c_L_law_1_ok 75 rfl
theorem d_L_law_345 : decode code 345 = .ok (.goto 869, 3) := jx_dec c_L_law_1_ok 76 rfl
theorem d_L_law_348 : decode code 348 = .ok (.aload_n 1, 1) := jx_dec c_L_law_1_ok 77 rfl
theorem d_L_law_349 : decode code 349 = .ok (.aload_n 0, 1) := jx_dec c_L_law_1_ok 78 rfl
theorem d_L_law_350 : decode code 350 = .ok (.iload 4, 2) := jx_dec c_L_law_1_ok 79 rfl
theorem d_L_law_352 : decode code 352 = .ok (.iconst 1, 1) := jx_dec c_L_law_1_ok 80 rfl
theorem d_L_law_353 : decode code 353 = .ok (.iadd, 1) := jx_dec c_L_law_1_ok 81 rfl
theorem d_L_law_354 : decode code 354 = .ok (.iaload, 1) := jx_dec c_L_law_1_ok 82 rfl
theorem d_L_law_355 : decode code 355 = .ok (.aload_n 0, 1) := jx_dec c_L_law_1_ok 83 rfl
theorem d_L_law_356 : decode code 356 = .ok (.iload 4, 2) := jx_dec c_L_law_1_ok 84 rfl
theorem d_L_law_358 : decode code 358 = .ok (.iconst 2, 1) := jx_dec c_L_law_1_ok 85 rfl
theorem d_L_law_359 : decode code 359 = .ok (.iadd, 1) := jx_dec c_L_law_1_ok 86 rfl
theorem d_L_law_360 : decode code 360 = .ok (.iaload, 1) := jx_dec c_L_law_1_ok 87 rfl
theorem d_L_law_361 : decode code 361 = .ok (.aload_n 0, 1) := jx_dec c_L_law_1_ok 88 rfl
theorem d_L_law_362 : decode code 362 = .ok (.iload 4, 2) := jx_dec c_L_law_1_ok 89 rfl
theorem d_L_law_364 : decode code 364 = .ok (.iconst 3, 1) := jx_dec c_L_law_1_ok 90 rfl
theorem d_L_law_365 : decode code 365 = .ok (.iadd, 1) := jx_dec c_L_law_1_ok 91 rfl
theorem d_L_law_366 : decode code 366 = .ok (.iaload, 1) := jx_dec c_L_law_1_ok 92 rfl
theorem d_L_law_367 : decode code 367 = .ok (.aload_n 0, 1) := jx_dec c_L_law_1_ok 93 rfl
theorem d_L_law_368 : decode code 368 = .ok (.iload 4, 2) := jx_dec c_L_law_1_ok 94 rfl
theorem d_L_law_370 : decode code 370 = .ok (.iconst 4, 1) := jx_dec c_L_law_1_ok 95 rfl
theorem d_L_law_371 : decode code 371 = .ok (.iadd, 1) := jx_dec c_L_law_1_ok 96 rfl
theorem d_L_law_372 : decode code 372 = .ok (.iaload, 1) := jx_dec c_L_law_1_ok 97 rfl
theorem d_L_law_373 : decode code 373 = .ok (.aload_n 3, 1) := jx_dec c_L_law_1_ok 98 rfl
theorem d_L_law_374 : decode code 374 = .ok (.invokestatic 93, 3) := jx_dec c_L_law_1_ok 99 rfl
def c_L_law_2 : List (Nat × Instr × Nat) := [(377, .istore 5, 2), (379, .aload_n 2, 1), (380, .aload_n 0, 1), (381, .iload 4, 2), (383, .iconst 1, 1), (384, .iadd, 1), (385, .iaload, 1), (386, .aload_n 0, 1), (387, .iload 4, 2), (389, .iconst 2, 1), (390, .iadd, 1), (391, .iaload, 1), (392, .aload_n 0, 1), (393, .iload 4, 2), (395, .iconst 3, 1), (396, .iadd, 1), (397, .iaload, 1), (398, .aload_n 0, 1), (399, .iload 4, 2), (401, .iconst 4, 1), (402, .iadd, 1), (403, .iaload, 1), (404, .invokevirtual 95, 3), (407, .istore 6, 2), (409, .aload_n 2, 1), (410, .invokevirtual 81, 3), (413, .iload 5, 2), (415, .if_icmp .eq 5, 3), (418, .iconst 0, 1), (419, .ireturn, 1), (420, .iload 5, 2), (422, .ifCond .ne 15, 3), (425, .aload_n 3, 1), (426, .iconst 0, 1), (427, .laload, 1), (428, .iload 6, 2), (430, .i2l, 1), (431, .lcmp, 1), (432, .ifCond .eq 5, 3), (435, .iconst 0, 1), (436, .ireturn, 1), (437, .goto 777, 3), (440, .aload_n 1, 1), (441, .aload_n 0, 1), (442, .iload 4, 2), (444, .iconst 1, 1), (445, .iadd, 1), (446, .iaload, 1), (447, .aload_n 0, 1), (448, .iload 4, 2), (450, .iconst 2, 1), (451, .iadd, 1), (452, .iaload, 1), (453, .aload_n 0, 1), (454, .iload 4, 2), (456, .iconst 3, 1), (457, .iadd, 1), (458, .iaload, 1), (459, .invokestatic 96, 3), (462, .istore 5, 2), (464, .aload_n 2, 1), (465, .aload_n 0, 1), (466, .iload 4, 2), (468, .iconst 1, 1), (469, .iadd, 1), (470, .iaload, 1), (471, .aload_n 0, 1), (472, .iload 4, 2), (474, .iconst 2, 1), (475, .iadd, 1), (476, .iaload, 1), (477, .aload_n 0, 1), (478, .iload 4, 2), (480, .iconst 3, 1), (481, .iadd, 1), (482, .iaload, 1), (483, .invokevirtual 98, 3), (486, .aload_n 2, 1), (487, .invokevirtual 81, 3), (490, .iload 5, 2), (492, .if_icmp .eq 5, 3), (495, .iconst 0, 1), (496, .ireturn, 1), (497, .goto 717, 3), (500, .aload_n 1, 1), (501, .aload_n 0, 1), (502, .iload 4, 2), (504, .iconst 1, 1), (505, .iadd, 1), (506, .iaload, 1), (507, .aload_n 0, 1), (508, .iload 4, 2), (510, .iconst 2, 1), (511, .iadd, 1), (512, .iaload, 1), (513, .aload_n 3, 1), (514, .invokestatic 99, 3), (517, .istore 5, 2), (519, .aload_n 2, 1), (520, .aload_n 0, 1)]
theorem c_L_law_2_ok : (c_L_law_2).all (fun q => decide (decode code q.1 = .ok q.2)) = true := by decide +kernel
theorem d_L_law_377 : decode code 377 = .ok (.istore 5, 2) := jx_dec c_L_law_2_ok 0 rfl
theorem d_L_law_379 : decode code 379 = .ok (.aload_n 2, 1) := jx_dec c_L_law_2_ok 1 rfl
theorem d_L_law_380 : decode code 380 = .ok (.aload_n 0, 1) := jx_dec c_L_law_2_ok 2 rfl
theorem d_L_law_381 : decode code 381 = .ok (.iload 4, 2) := jx_dec c_L_law_2_ok 3 rfl
theorem d_L_law_383 : decode code 383 = .ok (.iconst 1, 1) := jx_dec c_L_law_2_ok 4 rfl
theorem d_L_law_384 : decode code 384 = .ok (.iadd, 1) := jx_dec c_L_law_2_ok 5 rfl
theorem d_L_law_385 : decode code 385 = .ok (.iaload, 1) := jx_dec c_L_law_2_ok 6 rfl
theorem d_L_law_386 : decode code 386 = .ok (.aload_n 0, 1) := jx_dec c_L_law_2_ok 7 rfl
theorem d_L_law_387 : decode code 387 = .ok (.iload 4, 2) := jx_dec c_L_law_2_ok 8 rfl
theorem d_L_law_389 : decode code 389 = .ok (.iconst 2, 1) := jx_dec c_L_law_2_ok 9 rfl
theorem d_L_law_390 : decode code 390 = .ok (.iadd, 1) := jx_dec c_L_law_2_ok 10 rfl
theorem d_L_law_391 : decode code 391 = .ok (.iaload, 1) := jx_dec c_L_law_2_ok 11 rfl
theorem d_L_law_392 : decode code 392 = .ok (.aload_n 0, 1) := jx_dec c_L_law_2_ok 12 rfl
theorem d_L_law_393 : decode code 393 = .ok (.iload 4, 2) := jx_dec c_L_law_2_ok 13 rfl
theorem d_L_law_395 : decode code 395 = .ok (.iconst 3, 1) := jx_dec c_L_law_2_ok 14 rfl
theorem d_L_law_396 : decode code 396 = .ok (.iadd, 1) := jx_dec c_L_law_2_ok 15 rfl
theorem d_L_law_397 : decode code 397 = .ok (.iaload, 1) := jx_dec c_L_law_2_ok 16 rfl
theorem d_L_law_398 : decode code 398 = .ok (.aload_n 0, 1) := jx_dec c_L_law_2_ok 17 rfl
theorem d_L_law_399 : decode code 399 = .ok (.iload 4, 2) := jx_dec c_L_law_2_ok 18 rfl
theorem d_L_law_401 : decode code 401 = .ok (.iconst 4, 1) := jx_dec c_L_law_2_ok 19 rfl
theorem d_L_law_402 : decode code 402 = .ok (.iadd, 1) := jx_dec c_L_law_2_ok 20 rfl
theorem d_L_law_403 : decode code 403 = .ok (.iaload, 1) := jx_dec c_L_law_2_ok 21 rfl
theorem d_L_law_404 : decode code 404 = .ok (.invokevirtual 95, 3) := jx_dec c_L_law_2_ok 22 rfl
theorem d_L_law_407 : decode code 407 = .ok (.istore 6, 2) := jx_dec c_L_law_2_ok 23 rfl
theorem d_L_law_409 : decode code 409 = .ok (.aload_n 2, 1) := jx_dec c_L_law_2_ok 24 rfl
theorem d_L_law_410 : decode code 410 = .ok (.invokevirtual 81, 3) := jx_dec c_L_law_2_ok 25 rfl
theorem d_L_law_413 : decode code 413 = .ok (.iload 5, 2) := jx_dec c_L_law_2_ok 26 rfl
theorem d_L_law_415 : decode code 415 = .ok (.if_icmp .eq 5, 3) := jx_dec c_L_law_2_ok 27 rfl
theorem d_L_law_418 : decode code 418 = .ok (.iconst 0, 1) := jx_dec c_L_law_2_ok 28 rfl
theorem d_L_law_419 : decode code 419 = .ok (.ireturn, 1) := jx_dec c_L_law_2_ok 29 rfl
theorem d_L_law_420 : decode code 420 = .ok (.iload 5, 2) := jx_dec c_L_law_2_ok 30 rfl
theorem d_L_law_422 : decode code 422 = .ok (.ifCond .ne 15, 3) := jx_dec c_L_law_2_ok 31 rfl
theorem d_L_law_425 : decode code 425 = .ok (.aload_n 3, 1) := jx_dec c_L_law_2_ok 32 rfl
theorem d_L_law_426 : decode code 426 = .ok (.iconst 0, 1) := jx_dec c_L_law_2_ok 33 rfl
theorem d_L_law_427 : decode code 427 = .ok (.laload, 1) := jx_dec c_L_law_2_ok 34 rfl
theorem d_L_law_428 : decode code 428 = .ok (.iload 6, 2) := jx_dec c_L_law_2_ok 35 rfl
theorem d_L_law_430 : decode code 430 = .ok (.i2l, 1) := jx_dec c_L_law_2_ok 36 rfl
theorem d_L_law_431 : decode code 431 = .ok (.lcmp, 1) := jx_dec c_L_law_2_ok 37 rfl
theorem d_L_law_432 : decode code 432 = .ok (.ifCond .eq 5, 3) := jx_dec c_L_law_2_ok 38 rfl
theorem d_L_law_435 : decode code 435 = .ok (.iconst 0, 1) := jx_dec c_L_law_2_ok 39 rfl
theorem d_L_law_436 : decode code 436 = .ok (.ireturn, 1) := jx_dec c_L_law_2_ok 40 rfl
theorem d_L_law_437 : decode code 437 = .ok (.goto 777, 3) := jx_dec c_L_law_2_ok 41 rfl
theorem d_L_law_440 : decode code 440 = .ok (.aload_n 1, 1) := jx_dec c_L_law_2_ok 42 rfl
theorem d_L_law_441 : decode code 441 = .ok (.aload_n 0, 1) := jx_dec c_L_law_2_ok 43 rfl
theorem d_L_law_442 : decode code 442 = .ok (.iload 4, 2) := jx_dec c_L_law_2_ok 44 rfl
theorem d_L_law_444 : decode code 444 = .ok (.iconst 1, 1) := jx_dec c_L_law_2_ok 45 rfl
theorem d_L_law_445 : decode code 445 = .ok (.iadd, 1) := jx_dec c_L_law_2_ok 46 rfl
theorem d_L_law_446 : decode code 446 = .ok (.iaload, 1) := jx_dec c_L_law_2_ok 47 rfl
theorem d_L_law_447 : decode code 447 = .ok (.aload_n 0, 1) := jx_dec c_L_law_2_ok 48 rfl
theorem d_L_law_448 : decode code 448 = .ok (.iload 4, 2) := jx_dec c_L_law_2_ok 49 rfl
theorem d_L_law_450 : decode code 450 = .ok (.iconst 2, 1) := jx_dec c_L_law_2_ok 50 rfl
theorem d_L_law_451 : decode code 451 = .ok (.iadd, 1) := jx_dec c_L_law_2_ok 51 rfl
theorem d_L_law_452 : decode code 452 = .ok (.iaload, 1) := jx_dec c_L_law_2_ok 52 rfl
theorem d_L_law_453 : decode code 453 = .ok (.aload_n 0, 1) := jx_dec c_L_law_2_ok 53 rfl
theorem d_L_law_454 : decode code 454 = .ok (.iload 4, 2) := jx_dec c_L_law_2_ok 54 rfl
theorem d_L_law_456 : decode code 456 = .ok (.iconst 3, 1) := jx_dec c_L_law_2_ok 55 rfl
theorem d_L_law_457 : decode code 457 = .ok (.iadd, 1) := jx_dec c_L_law_2_ok 56 rfl
theorem d_L_law_458 : decode code 458 = .ok (.iaload, 1) := jx_dec c_L_law_2_ok 57 rfl
theorem d_L_law_459 : decode code 459 = .ok (.invokestatic 96, 3) := jx_dec c_L_law_2_ok 58 rfl
theorem d_L_law_462 : decode code 462 = .ok (.istore 5, 2) := jx_dec c_L_law_2_ok 59 rfl
theorem d_L_law_464 : decode code 464 = .ok (.aload_n 2, 1) := jx_dec c_L_law_2_ok 60 rfl
theorem d_L_law_465 : decode code 465 = .ok (.aload_n 0, 1) := jx_dec c_L_law_2_ok 61 rfl
theorem d_L_law_466 : decode code 466 = .ok (.iload 4, 2) := jx_dec c_L_law_2_ok 62 rfl
theorem d_L_law_468 : decode code 468 = .ok (.iconst 1, 1) := jx_dec c_L_law_2_ok 63 rfl
theorem d_L_law_469 : decode code 469 = .ok (.iadd, 1) := jx_dec c_L_law_2_ok 64 rfl
theorem d_L_law_470 : decode code 470 = .ok (.iaload, 1) := jx_dec c_L_law_2_ok 65 rfl
theorem d_L_law_471 : decode code 471 = .ok (.aload_n 0, 1) := jx_dec c_L_law_2_ok 66 rfl
theorem d_L_law_472 : decode code 472 = .ok (.iload 4, 2) := jx_dec c_L_law_2_ok 67 rfl
theorem d_L_law_474 : decode code 474 = .ok (.iconst 2, 1) := jx_dec c_L_law_2_ok 68 rfl
theorem d_L_law_475 : decode code 475 = .ok (.iadd, 1) := jx_dec c_L_law_2_ok 69 rfl
theorem d_L_law_476 : decode code 476 = .ok (.iaload, 1) := jx_dec c_L_law_2_ok 70 rfl
theorem d_L_law_477 : decode code 477 = .ok (.aload_n 0, 1) := jx_dec c_L_law_2_ok 71 rfl
theorem d_L_law_478 : decode code 478 = .ok (.iload 4, 2) := jx_dec c_L_law_2_ok 72 rfl
theorem d_L_law_480 : decode code 480 = .ok (.iconst 3, 1) := jx_dec c_L_law_2_ok 73 rfl
theorem d_L_law_481 : decode code 481 = .ok (.iadd, 1) := jx_dec c_L_law_2_ok 74 rfl
theorem d_L_law_482 : decode code 482 = .ok (.iaload, 1) := jx_dec c_L_law_2_ok 75 rfl
theorem d_L_law_483 : decode code 483 = .ok (.invokevirtual 98, 3) := jx_dec c_L_law_2_ok 76 rfl
theorem d_L_law_486 : decode code 486 = .ok (.aload_n 2, 1) := jx_dec c_L_law_2_ok 77 rfl
theorem d_L_law_487 : decode code 487 = .ok (.invokevirtual 81, 3) := jx_dec c_L_law_2_ok 78 rfl
theorem d_L_law_490 : decode code 490 = .ok (.iload 5, 2) := jx_dec c_L_law_2_ok 79 rfl
theorem d_L_law_492 : decode code 492 = .ok (.if_icmp .eq 5, 3) := jx_dec c_L_law_2_ok 80 rfl
theorem d_L_law_495 : decode code 495 = .ok (.iconst 0, 1) := jx_dec c_L_law_2_ok 81 rfl
theorem d_L_law_496 : decode code 496 = .ok (.ireturn, 1) := jx_dec c_L_law_2_ok 82 rfl
theorem d_L_law_497 : decode code 497 = .ok (.goto 717, 3) := jx_dec c_L_law_2_ok 83 rfl
theorem d_L_law_500 : decode code 500 = .ok (.aload_n 1, 1) := jx_dec c_L_law_2_ok 84 rfl
theorem d_L_law_501 : decode code 501 = .ok (.aload_n 0, 1) := jx_dec c_L_law_2_ok 85 rfl
theorem d_L_law_502 : decode code 502 = .ok (.iload 4, 2) := jx_dec c_L_law_2_ok 86 rfl
theorem d_L_law_504 : decode code 504 = .ok (.iconst 1, 1) := jx_dec c_L_law_2_ok 87 rfl
theorem d_L_law_505 : decode code 505 = .ok (.iadd, 1) := jx_dec c_L_law_2_ok 88 rfl
theorem d_L_law_506 : decode code 506 = .ok (.iaload, 1) := jx_dec c_L_law_2_ok 89 rfl
theorem d_L_law_507 : decode code 507 = .ok (.aload_n 0, 1) := jx_dec c_L_law_2_ok 90 rfl
theorem d_L_law_508 : decode code 508 = .ok (.iload 4, 2) := jx_dec c_L_law_2_ok 91 rfl
theorem d_L_law_510 : decode code 510 = .ok (.iconst 2, 1) := jx_dec c_L_law_2_ok 92 rfl
theorem d_L_law_511 : decode code 511 = .ok (.iadd, 1) := jx_dec c_L_law_2_ok 93 rfl
theorem d_L_law_512 : decode code 512 = .ok (.iaload, 1) := jx_dec c_L_law_2_ok 94 rfl
theorem d_L_law_513 : decode code 513 = .ok (.aload_n 3, 1) := jx_dec c_L_law_2_ok 95 rfl
theorem d_L_law_514 : decode code 514 = .ok (.invokestatic 99, 3) := jx_dec c_L_law_2_ok 96 rfl
theorem d_L_law_517 : decode code 517 = .ok (.istore 5, 2) := jx_dec c_L_law_2_ok 97 rfl
theorem d_L_law_519 : decode code 519 = .ok (.aload_n 2, 1) := jx_dec c_L_law_2_ok 98 rfl
theorem d_L_law_520 : decode code 520 = .ok (.aload_n 0, 1) := jx_dec c_L_law_2_ok 99 rfl
def c_L_law_3 : List (Nat × Instr × Nat) := [(521, .iload 4, 2), (523, .iconst 1, 1), (524, .iadd, 1), (525, .iaload, 1), (526, .aload_n 0, 1), (527, .iload 4, 2), (529, .iconst 2, 1), (530, .iadd, 1), (531, .iaload, 1), (532, .invokevirtual 101, 3), (535, .istore 6, 2), (537, .aload_n 2, 1), (538, .invokevirtual 81, 3), (541, .iload 5, 2), (543, .if_icmp .eq 5, 3), (546, .iconst 0, 1), (547, .ireturn, 1), (548, .iload 5, 2), (550, .ifCond .ne 22, 3), (553, .aload_n 3, 1), (554, .iconst 0, 1), (555, .laload, 1), (556, .iload 6, 2), (558, .ifCond .eq 7, 3), (561, .lconst 1, 1), (562, .goto 4, 3), (565, .lconst 0, 1), (566, .lcmp, 1), (567, .ifCond .eq 5, 3), (570, .iconst 0, 1), (571, .ireturn, 1), (572, .goto 642, 3), (575, .aload_n 1, 1), (576, .aload_n 0, 1), (577, .iload 4, 2), (579, .iconst 1, 1), (580, .iadd, 1), (581, .iaload, 1), (582, .aload_n 0, 1), (583, .iload 4, 2), (585, .iconst 2, 1), (586, .iadd, 1), (587, .iaload, 1), (588, .aload_n 3, 1), (589, .invokestatic 102, 3), (592, .istore 5, 2), (594, .aload_n 2, 1), (595, .aload_n 0, 1), (596, .iload 4, 2), (598, .iconst 1, 1), (599, .iadd, 1), (600, .iaload, 1), (601, .aload_n 0, 1), (602, .iload 4, 2), (604, .iconst 2, 1), (605, .iadd, 1), (606, .iaload, 1), (607, .invokevirtual 104, 3), (610, .istore 6, 2), (612, .aload_n 2, 1), (613, .invokevirtual 81, 3), (616, .iload 5, 2), (618, .if_icmp .eq 5, 3), (621, .iconst 0, 1), (622, .ireturn, 1), (623, .iload 5, 2), (625, .ifCond .ne 15, 3), (628, .aload_n 3, 1), (629, .iconst 0, 1), (630, .laload, 1), (631, .iload 6, 2), (633, .i2l, 1), (634, .lcmp, 1), (635, .ifCond .eq 5, 3), (638, .iconst 0, 1), (639, .ireturn, 1), (640, .goto 574, 3), (643, .aload_n 1, 1), (644, .aload_n 0, 1), (645, .iload 4, 2), (647, .iconst 1, 1), (648, .iadd, 1), (649, .iaload, 1), (650, .aload_n 3, 1), (651, .invokestatic 105, 3), (654, .istore 5, 2), (656, .aload_n 2, 1), (657, .aload_n 0, 1), (658, .iload 4, 2), (660, .iconst 1, 1), (661, .iadd, 1), (662, .iaload, 1), (663, .invokevirtual 108, 3), (666, .istore 6, 2), (668, .aload_n 2, 1), (669, .invokevirtual 81, 3), (672, .iload 5, 2), (674, .if_icmp .eq 5, 3), (677, .iconst 0, 1), (678, .ireturn, 1)]
theorem c_L_law_3_ok : (c_L_law_3).all (fun q => decide (decode code q.1 = .ok q.2)) = true := by decide +kernel
theorem d_L_law_521 : decode code 521 = .ok (.iload 4, 2) := jx_dec c_L_law_3_ok 0 rfl
theorem d_L_law_523 : decode code 523 = .ok (.iconst 1, 1) := jx_dec c_L_law_3_ok 1 rfl
theorem d_L_law_524 : decode code 524 = .ok (.iadd, 1) := jx_dec c_L_law_3_ok 2 rfl
theorem d_L_law_525 : decode code 525 = .ok (.iaload, 1) := jx_dec c_L_law_3_ok 3 rfl
theorem d_L_law_526 : decode code 526 = .ok (.aload_n 0, 1) := jx_dec c_L_law_3_ok 4 rfl
theorem d_L_law_527 : decode code 527 = .ok (.iload 4, 2) := jx_dec c_L_law_3_ok 5 rfl
theorem d_L_law_529 : decode code 529 = .ok (.iconst 2, 1) := jx_dec c_L_law_3_ok 6 rfl
theorem d_L_law_530 : decode code 530 = .ok (.iadd, 1) := jx_dec c_L_law_3_ok 7 rfl
theorem d_L_law_531 : decode code 531 = .ok (.iaload, 1) := jx_dec c_L_law_3_ok 8 rfl
theorem d_L_law_532 : decode code 532 = .ok (.invokevirtual 101, 3) := jx_dec c_L_law_3_ok 9 rfl
theorem d_L_law_535 : decode code 535 = .ok (.istore 6, 2) := jx_dec c_L_law_3_ok 10 rfl
theorem d_L_law_537 : decode code 537 = .ok (.aload_n 2, 1) := jx_dec c_L_law_3_ok 11 rfl
theorem d_L_law_538 : decode code 538 = .ok (.invokevirtual 81, 3) := jx_dec c_L_law_3_ok 12 rfl
theorem d_L_law_541 : decode code 541 = .ok (.iload 5, 2) := jx_dec c_L_law_3_ok 13 rfl
theorem d_L_law_543 : decode code 543 = .ok (.if_icmp .eq 5, 3) := jx_dec c_L_law_3_ok 14 rfl
theorem d_L_law_546 : decode code 546 = .ok (.iconst 0, 1) := jx_dec c_L_law_3_ok 15 rfl
theorem d_L_law_547 : decode code 547 = .ok (.ireturn, 1) := jx_dec c_L_law_3_ok 16 rfl
theorem d_L_law_548 : decode code 548 = .ok (.iload 5, 2) := jx_dec c_L_law_3_ok 17 rfl
theorem d_L_law_550 : decode code 550 = .ok (.ifCond .ne 22, 3) := jx_dec c_L_law_3_ok 18 rfl
theorem d_L_law_553 : decode code 553 = .ok (.aload_n 3, 1) := jx_dec c_L_law_3_ok 19 rfl
theorem d_L_law_554 : decode code 554 = .ok (.iconst 0, 1) := jx_dec c_L_law_3_ok 20 rfl
theorem d_L_law_555 : decode code 555 = .ok (.laload, 1) := jx_dec c_L_law_3_ok 21 rfl
theorem d_L_law_556 : decode code 556 = .ok (.iload 6, 2) := jx_dec c_L_law_3_ok 22 rfl
theorem d_L_law_558 : decode code 558 = .ok (.ifCond .eq 7, 3) := jx_dec c_L_law_3_ok 23 rfl
theorem d_L_law_561 : decode code 561 = .ok (.lconst 1, 1) := jx_dec c_L_law_3_ok 24 rfl
theorem d_L_law_562 : decode code 562 = .ok (.goto 4, 3) := jx_dec c_L_law_3_ok 25 rfl
theorem d_L_law_565 : decode code 565 = .ok (.lconst 0, 1) := jx_dec c_L_law_3_ok 26 rfl
theorem d_L_law_566 : decode code 566 = .ok (.lcmp, 1) := jx_dec c_L_law_3_ok 27 rfl
theorem d_L_law_567 : decode code 567 = .ok (.ifCond .eq 5, 3) := jx_dec c_L_law_3_ok 28 rfl
theorem d_L_law_570 : decode code 570 = .ok (.iconst 0, 1) := jx_dec c_L_law_3_ok 29 rfl
theorem d_L_law_571 : decode code 571 = .ok (.ireturn, 1) := jx_dec c_L_law_3_ok 30 rfl
theorem d_L_law_572 : decode code 572 = .ok (.goto 642, 3) := jx_dec c_L_law_3_ok 31 rfl
theorem d_L_law_575 : decode code 575 = .ok (.aload_n 1, 1) := jx_dec c_L_law_3_ok 32 rfl
theorem d_L_law_576 : decode code 576 = .ok (.aload_n 0, 1) := jx_dec c_L_law_3_ok 33 rfl
theorem d_L_law_577 : decode code 577 = .ok (.iload 4, 2) := jx_dec c_L_law_3_ok 34 rfl
theorem d_L_law_579 : decode code 579 = .ok (.iconst 1, 1) := jx_dec c_L_law_3_ok 35 rfl
theorem d_L_law_580 : decode code 580 = .ok (.iadd, 1) := jx_dec c_L_law_3_ok 36 rfl
theorem d_L_law_581 : decode code 581 = .ok (.iaload, 1) := jx_dec c_L_law_3_ok 37 rfl
theorem d_L_law_582 : decode code 582 = .ok (.aload_n 0, 1) := jx_dec c_L_law_3_ok 38 rfl
theorem d_L_law_583 : decode code 583 = .ok (.iload 4, 2) := jx_dec c_L_law_3_ok 39 rfl
theorem d_L_law_585 : decode code 585 = .ok (.iconst 2, 1) := jx_dec c_L_law_3_ok 40 rfl
theorem d_L_law_586 : decode code 586 = .ok (.iadd, 1) := jx_dec c_L_law_3_ok 41 rfl
theorem d_L_law_587 : decode code 587 = .ok (.iaload, 1) := jx_dec c_L_law_3_ok 42 rfl
theorem d_L_law_588 : decode code 588 = .ok (.aload_n 3, 1) := jx_dec c_L_law_3_ok 43 rfl
theorem d_L_law_589 : decode code 589 = .ok (.invokestatic 102, 3) := jx_dec c_L_law_3_ok 44 rfl
theorem d_L_law_592 : decode code 592 = .ok (.istore 5, 2) := jx_dec c_L_law_3_ok 45 rfl
theorem d_L_law_594 : decode code 594 = .ok (.aload_n 2, 1) := jx_dec c_L_law_3_ok 46 rfl
theorem d_L_law_595 : decode code 595 = .ok (.aload_n 0, 1) := jx_dec c_L_law_3_ok 47 rfl
theorem d_L_law_596 : decode code 596 = .ok (.iload 4, 2) := jx_dec c_L_law_3_ok 48 rfl
theorem d_L_law_598 : decode code 598 = .ok (.iconst 1, 1) := jx_dec c_L_law_3_ok 49 rfl
theorem d_L_law_599 : decode code 599 = .ok (.iadd, 1) := jx_dec c_L_law_3_ok 50 rfl
theorem d_L_law_600 : decode code 600 = .ok (.iaload, 1) := jx_dec c_L_law_3_ok 51 rfl
theorem d_L_law_601 : decode code 601 = .ok (.aload_n 0, 1) := jx_dec c_L_law_3_ok 52 rfl
theorem d_L_law_602 : decode code 602 = .ok (.iload 4, 2) := jx_dec c_L_law_3_ok 53 rfl
theorem d_L_law_604 : decode code 604 = .ok (.iconst 2, 1) := jx_dec c_L_law_3_ok 54 rfl
theorem d_L_law_605 : decode code 605 = .ok (.iadd, 1) := jx_dec c_L_law_3_ok 55 rfl
theorem d_L_law_606 : decode code 606 = .ok (.iaload, 1) := jx_dec c_L_law_3_ok 56 rfl
theorem d_L_law_607 : decode code 607 = .ok (.invokevirtual 104, 3) := jx_dec c_L_law_3_ok 57 rfl
theorem d_L_law_610 : decode code 610 = .ok (.istore 6, 2) := jx_dec c_L_law_3_ok 58 rfl
theorem d_L_law_612 : decode code 612 = .ok (.aload_n 2, 1) := jx_dec c_L_law_3_ok 59 rfl
theorem d_L_law_613 : decode code 613 = .ok (.invokevirtual 81, 3) := jx_dec c_L_law_3_ok 60 rfl
theorem d_L_law_616 : decode code 616 = .ok (.iload 5, 2) := jx_dec c_L_law_3_ok 61 rfl
theorem d_L_law_618 : decode code 618 = .ok (.if_icmp .eq 5, 3) := jx_dec c_L_law_3_ok 62 rfl
theorem d_L_law_621 : decode code 621 = .ok (.iconst 0, 1) := jx_dec c_L_law_3_ok 63 rfl
theorem d_L_law_622 : decode code 622 = .ok (.ireturn, 1) := jx_dec c_L_law_3_ok 64 rfl
theorem d_L_law_623 : decode code 623 = .ok (.iload 5, 2) := jx_dec c_L_law_3_ok 65 rfl
theorem d_L_law_625 : decode code 625 = .ok (.ifCond .ne 15, 3) := jx_dec c_L_law_3_ok 66 rfl
theorem d_L_law_628 : decode code 628 = .ok (.aload_n 3, 1) := jx_dec c_L_law_3_ok 67 rfl
theorem d_L_law_629 : decode code 629 = .ok (.iconst 0, 1) := jx_dec c_L_law_3_ok 68 rfl
theorem d_L_law_630 : decode code 630 = .ok (.laload, 1) := jx_dec c_L_law_3_ok 69 rfl
theorem d_L_law_631 : decode code 631 = .ok (.iload 6, 2) := jx_dec c_L_law_3_ok 70 rfl
theorem d_L_law_633 : decode code 633 = .ok (.i2l, 1) := jx_dec c_L_law_3_ok 71 rfl
theorem d_L_law_634 : decode code 634 = .ok (.lcmp, 1) := jx_dec c_L_law_3_ok 72 rfl
theorem d_L_law_635 : decode code 635 = .ok (.ifCond .eq 5, 3) := jx_dec c_L_law_3_ok 73 rfl
theorem d_L_law_638 : decode code 638 = .ok (.iconst 0, 1) := jx_dec c_L_law_3_ok 74 rfl
theorem d_L_law_639 : decode code 639 = .ok (.ireturn, 1) := jx_dec c_L_law_3_ok 75 rfl
theorem d_L_law_640 : decode code 640 = .ok (.goto 574, 3) := jx_dec c_L_law_3_ok 76 rfl
theorem d_L_law_643 : decode code 643 = .ok (.aload_n 1, 1) := jx_dec c_L_law_3_ok 77 rfl
theorem d_L_law_644 : decode code 644 = .ok (.aload_n 0, 1) := jx_dec c_L_law_3_ok 78 rfl
theorem d_L_law_645 : decode code 645 = .ok (.iload 4, 2) := jx_dec c_L_law_3_ok 79 rfl
theorem d_L_law_647 : decode code 647 = .ok (.iconst 1, 1) := jx_dec c_L_law_3_ok 80 rfl
theorem d_L_law_648 : decode code 648 = .ok (.iadd, 1) := jx_dec c_L_law_3_ok 81 rfl
theorem d_L_law_649 : decode code 649 = .ok (.iaload, 1) := jx_dec c_L_law_3_ok 82 rfl
theorem d_L_law_650 : decode code 650 = .ok (.aload_n 3, 1) := jx_dec c_L_law_3_ok 83 rfl
theorem d_L_law_651 : decode code 651 = .ok (.invokestatic 105, 3) := jx_dec c_L_law_3_ok 84 rfl
theorem d_L_law_654 : decode code 654 = .ok (.istore 5, 2) := jx_dec c_L_law_3_ok 85 rfl
theorem d_L_law_656 : decode code 656 = .ok (.aload_n 2, 1) := jx_dec c_L_law_3_ok 86 rfl
theorem d_L_law_657 : decode code 657 = .ok (.aload_n 0, 1) := jx_dec c_L_law_3_ok 87 rfl
theorem d_L_law_658 : decode code 658 = .ok (.iload 4, 2) := jx_dec c_L_law_3_ok 88 rfl
theorem d_L_law_660 : decode code 660 = .ok (.iconst 1, 1) := jx_dec c_L_law_3_ok 89 rfl
theorem d_L_law_661 : decode code 661 = .ok (.iadd, 1) := jx_dec c_L_law_3_ok 90 rfl
theorem d_L_law_662 : decode code 662 = .ok (.iaload, 1) := jx_dec c_L_law_3_ok 91 rfl
theorem d_L_law_663 : decode code 663 = .ok (.invokevirtual 108, 3) := jx_dec c_L_law_3_ok 92 rfl
theorem d_L_law_666 : decode code 666 = .ok (.istore 6, 2) := jx_dec c_L_law_3_ok 93 rfl
theorem d_L_law_668 : decode code 668 = .ok (.aload_n 2, 1) := jx_dec c_L_law_3_ok 94 rfl
theorem d_L_law_669 : decode code 669 = .ok (.invokevirtual 81, 3) := jx_dec c_L_law_3_ok 95 rfl
theorem d_L_law_672 : decode code 672 = .ok (.iload 5, 2) := jx_dec c_L_law_3_ok 96 rfl
theorem d_L_law_674 : decode code 674 = .ok (.if_icmp .eq 5, 3) := jx_dec c_L_law_3_ok 97 rfl
theorem d_L_law_677 : decode code 677 = .ok (.iconst 0, 1) := jx_dec c_L_law_3_ok 98 rfl
theorem d_L_law_678 : decode code 678 = .ok (.ireturn, 1) := jx_dec c_L_law_3_ok 99 rfl
def c_L_law_4 : List (Nat × Instr × Nat) := [(679, .iload 5, 2), (681, .ifCond .ne 15, 3), (684, .aload_n 3, 1), (685, .iconst 0, 1), (686, .laload, 1), (687, .iload 6, 2), (689, .i2l, 1), (690, .lcmp, 1), (691, .ifCond .eq 5, 3), (694, .iconst 0, 1), (695, .ireturn, 1), (696, .goto 518, 3), (699, .aload_n 1, 1), (700, .invokevirtual 109, 3), (703, .aload_n 2, 1), (704, .invokevirtual 113, 3), (707, .if_icmp .eq 507, 3), (710, .iconst 0, 1), (711, .ireturn, 1), (712, .aload_n 1, 1), (713, .invokevirtual 114, 3), (716, .aload_n 2, 1), (717, .invokevirtual 117, 3), (720, .if_icmp .eq 494, 3), (723, .iconst 0, 1), (724, .ireturn, 1), (725, .aload_n 1, 1), (726, .aload_n 0, 1), (727, .iload 4, 2), (729, .iconst 1, 1), (730, .iadd, 1), (731, .iaload, 1), (732, .aload_n 3, 1), (733, .invokestatic 118, 3), (736, .istore 5, 2), (738, .aload_n 2, 1), (739, .aload_n 0, 1), (740, .iload 4, 2), (742, .iconst 1, 1), (743, .iadd, 1), (744, .iaload, 1), (745, .invokevirtual 120, 3), (748, .istore 6, 2), (750, .aload_n 2, 1), (751, .invokevirtual 81, 3), (754, .iload 5, 2), (756, .if_icmp .eq 5, 3), (759, .iconst 0, 1), (760, .ireturn, 1), (761, .iload 5, 2), (763, .ifCond .ne 15, 3), (766, .aload_n 3, 1), (767, .iconst 0, 1), (768, .laload, 1), (769, .iload 6, 2), (771, .i2l, 1), (772, .lcmp, 1), (773, .ifCond .eq 5, 3), (776, .iconst 0, 1), (777, .ireturn, 1), (778, .goto 436, 3), (781, .aload_n 1, 1), (782, .aload_n 0, 1), (783, .iload 4, 2), (785, .iconst 1, 1), (786, .iadd, 1), (787, .iaload, 1), (788, .aload_n 3, 1), (789, .invokestatic 121, 3), (792, .istore 5, 2), (794, .aload_n 2, 1), (795, .aload_n 0, 1), (796, .iload 4, 2), (798, .iconst 1, 1), (799, .iadd, 1), (800, .iaload, 1), (801, .invokevirtual 123, 3), (804, .istore 6, 2), (806, .aload_n 2, 1), (807, .invokevirtual 81, 3), (810, .iload 5, 2), (812, .if_icmp .eq 5, 3), (815, .iconst 0, 1), (816, .ireturn, 1), (817, .iload 5, 2), (819, .ifCond .ne 15, 3), (822, .aload_n 3, 1), (823, .iconst 0, 1), (824, .laload, 1), (825, .iload 6, 2), (827, .i2l, 1), (828, .lcmp, 1), (829, .ifCond .eq 5, 3), (832, .iconst 0, 1), (833, .ireturn, 1), (834, .goto 380, 3), (837, .aload_n 1, 1), (838, .aload_n 0, 1), (839, .iload 4, 2), (841, .iconst 1, 1)]
theorem c_L_law_4_ok : (c_L_law_4).all (fun q => decide (decode code q.1 = .ok q.2)) = true := by decide +kernel
theorem d_L_law_679 : decode code 679 = .ok (.iload 5, 2) := jx_dec c_L_law_4_ok 0 rfl
theorem d_L_law_681 : decode code 681 = .ok (.ifCond .ne 15, 3) := jx_dec c_L_law_4_ok 1 rfl
theorem d_L_law_684 : decode code 684 = .ok (.aload_n 3, 1) := jx_dec c_L_law_4_ok 2 rfl
theorem d_L_law_685 : decode code 685 = .ok (.iconst 0, 1) := jx_dec c_L_law_4_ok 3 rfl
theorem d_L_law_686 : decode code 686 = .ok (.laload, 1) := jx_dec c_L_law_4_ok 4 rfl
theorem d_L_law_687 : decode code 687 = .ok (.iload 6, 2) := jx_dec c_L_law_4_ok 5 rfl
theorem d_L_law_689 : decode code 689 = .ok (.i2l, 1) := jx_dec c_L_law_4_ok 6 rfl
theorem d_L_law_690 : decode code 690 = .ok (.lcmp, 1) := jx_dec c_L_law_4_ok 7 rfl
theorem d_L_law_691 : decode code 691 = .ok (.ifCond .eq 5, 3) := jx_dec c_L_law_4_ok 8 rfl
theorem d_L_law_694 : decode code 694 = .ok (.iconst 0, 1) := jx_dec c_L_law_4_ok 9 rfl
theorem d_L_law_695 : decode code 695 = .ok (.ireturn, 1) := jx_dec c_L_law_4_ok 10 rfl
theorem d_L_law_696 : decode code 696 = .ok (.goto 518, 3) := jx_dec c_L_law_4_ok 11 rfl
theorem d_L_law_699 : decode code 699 = .ok (.aload_n 1, 1) := jx_dec c_L_law_4_ok 12 rfl
theorem d_L_law_700 : decode code 700 = .ok (.invokevirtual 109, 3) := jx_dec c_L_law_4_ok 13 rfl
theorem d_L_law_703 : decode code 703 = .ok (.aload_n 2, 1) := jx_dec c_L_law_4_ok 14 rfl
theorem d_L_law_704 : decode code 704 = .ok (.invokevirtual 113, 3) := jx_dec c_L_law_4_ok 15 rfl
theorem d_L_law_707 : decode code 707 = .ok (.if_icmp .eq 507, 3) := jx_dec c_L_law_4_ok 16 rfl
theorem d_L_law_710 : decode code 710 = .ok (.iconst 0, 1) := jx_dec c_L_law_4_ok 17 rfl
theorem d_L_law_711 : decode code 711 = .ok (.ireturn, 1) := jx_dec c_L_law_4_ok 18 rfl
theorem d_L_law_712 : decode code 712 = .ok (.aload_n 1, 1) := jx_dec c_L_law_4_ok 19 rfl
theorem d_L_law_713 : decode code 713 = .ok (.invokevirtual 114, 3) := jx_dec c_L_law_4_ok 20 rfl
theorem d_L_law_716 : decode code 716 = .ok (.aload_n 2, 1) := jx_dec c_L_law_4_ok 21 rfl
theorem d_L_law_717 : decode code 717 = .ok (.invokevirtual 117, 3) := jx_dec c_L_law_4_ok 22 rfl
theorem d_L_law_720 : decode code 720 = .ok (.if_icmp .eq 494, 3) := jx_dec c_L_law_4_ok 23 rfl
theorem d_L_law_723 : decode code 723 = .ok (.iconst 0, 1) := jx_dec c_L_law_4_ok 24 rfl
theorem d_L_law_724 : decode code 724 = .ok (.ireturn, 1) := jx_dec c_L_law_4_ok 25 rfl
theorem d_L_law_725 : decode code 725 = .ok (.aload_n 1, 1) := jx_dec c_L_law_4_ok 26 rfl
theorem d_L_law_726 : decode code 726 = .ok (.aload_n 0, 1) := jx_dec c_L_law_4_ok 27 rfl
theorem d_L_law_727 : decode code 727 = .ok (.iload 4, 2) := jx_dec c_L_law_4_ok 28 rfl
theorem d_L_law_729 : decode code 729 = .ok (.iconst 1, 1) := jx_dec c_L_law_4_ok 29 rfl
theorem d_L_law_730 : decode code 730 = .ok (.iadd, 1) := jx_dec c_L_law_4_ok 30 rfl
theorem d_L_law_731 : decode code 731 = .ok (.iaload, 1) := jx_dec c_L_law_4_ok 31 rfl
theorem d_L_law_732 : decode code 732 = .ok (.aload_n 3, 1) := jx_dec c_L_law_4_ok 32 rfl
theorem d_L_law_733 : decode code 733 = .ok (.invokestatic 118, 3) := jx_dec c_L_law_4_ok 33 rfl
theorem d_L_law_736 : decode code 736 = .ok (.istore 5, 2) := jx_dec c_L_law_4_ok 34 rfl
theorem d_L_law_738 : decode code 738 = .ok (.aload_n 2, 1) := jx_dec c_L_law_4_ok 35 rfl
theorem d_L_law_739 : decode code 739 = .ok (.aload_n 0, 1) := jx_dec c_L_law_4_ok 36 rfl
theorem d_L_law_740 : decode code 740 = .ok (.iload 4, 2) := jx_dec c_L_law_4_ok 37 rfl
theorem d_L_law_742 : decode code 742 = .ok (.iconst 1, 1) := jx_dec c_L_law_4_ok 38 rfl
theorem d_L_law_743 : decode code 743 = .ok (.iadd, 1) := jx_dec c_L_law_4_ok 39 rfl
theorem d_L_law_744 : decode code 744 = .ok (.iaload, 1) := jx_dec c_L_law_4_ok 40 rfl
theorem d_L_law_745 : decode code 745 = .ok (.invokevirtual 120, 3) := jx_dec c_L_law_4_ok 41 rfl
theorem d_L_law_748 : decode code 748 = .ok (.istore 6, 2) := jx_dec c_L_law_4_ok 42 rfl
theorem d_L_law_750 : decode code 750 = .ok (.aload_n 2, 1) := jx_dec c_L_law_4_ok 43 rfl
theorem d_L_law_751 : decode code 751 = .ok (.invokevirtual 81, 3) := jx_dec c_L_law_4_ok 44 rfl
theorem d_L_law_754 : decode code 754 = .ok (.iload 5, 2) := jx_dec c_L_law_4_ok 45 rfl
theorem d_L_law_756 : decode code 756 = .ok (.if_icmp .eq 5, 3) := jx_dec c_L_law_4_ok 46 rfl
theorem d_L_law_759 : decode code 759 = .ok (.iconst 0, 1) := jx_dec c_L_law_4_ok 47 rfl
theorem d_L_law_760 : decode code 760 = .ok (.ireturn, 1) := jx_dec c_L_law_4_ok 48 rfl
theorem d_L_law_761 : decode code 761 = .ok (.iload 5, 2) := jx_dec c_L_law_4_ok 49 rfl
theorem d_L_law_763 : decode code 763 = .ok (.ifCond .ne 15, 3) := jx_dec c_L_law_4_ok 50 rfl
theorem d_L_law_766 : decode code 766 = .ok (.aload_n 3, 1) := jx_dec c_L_law_4_ok 51 rfl
theorem d_L_law_767 : decode code 767 = .ok (.iconst 0, 1) := jx_dec c_L_law_4_ok 52 rfl
theorem d_L_law_768 : decode code 768 = .ok (.laload, 1) := jx_dec c_L_law_4_ok 53 rfl
theorem d_L_law_769 : decode code 769 = .ok (.iload 6, 2) := jx_dec c_L_law_4_ok 54 rfl
theorem d_L_law_771 : decode code 771 = .ok (.i2l, 1) := jx_dec c_L_law_4_ok 55 rfl
theorem d_L_law_772 : decode code 772 = .ok (.lcmp, 1) := jx_dec c_L_law_4_ok 56 rfl
theorem d_L_law_773 : decode code 773 = .ok (.ifCond .eq 5, 3) := jx_dec c_L_law_4_ok 57 rfl
theorem d_L_law_776 : decode code 776 = .ok (.iconst 0, 1) := jx_dec c_L_law_4_ok 58 rfl
theorem d_L_law_777 : decode code 777 = .ok (.ireturn, 1) := jx_dec c_L_law_4_ok 59 rfl
theorem d_L_law_778 : decode code 778 = .ok (.goto 436, 3) := jx_dec c_L_law_4_ok 60 rfl
theorem d_L_law_781 : decode code 781 = .ok (.aload_n 1, 1) := jx_dec c_L_law_4_ok 61 rfl
theorem d_L_law_782 : decode code 782 = .ok (.aload_n 0, 1) := jx_dec c_L_law_4_ok 62 rfl
theorem d_L_law_783 : decode code 783 = .ok (.iload 4, 2) := jx_dec c_L_law_4_ok 63 rfl
theorem d_L_law_785 : decode code 785 = .ok (.iconst 1, 1) := jx_dec c_L_law_4_ok 64 rfl
theorem d_L_law_786 : decode code 786 = .ok (.iadd, 1) := jx_dec c_L_law_4_ok 65 rfl
theorem d_L_law_787 : decode code 787 = .ok (.iaload, 1) := jx_dec c_L_law_4_ok 66 rfl
theorem d_L_law_788 : decode code 788 = .ok (.aload_n 3, 1) := jx_dec c_L_law_4_ok 67 rfl
theorem d_L_law_789 : decode code 789 = .ok (.invokestatic 121, 3) := jx_dec c_L_law_4_ok 68 rfl
theorem d_L_law_792 : decode code 792 = .ok (.istore 5, 2) := jx_dec c_L_law_4_ok 69 rfl
theorem d_L_law_794 : decode code 794 = .ok (.aload_n 2, 1) := jx_dec c_L_law_4_ok 70 rfl
theorem d_L_law_795 : decode code 795 = .ok (.aload_n 0, 1) := jx_dec c_L_law_4_ok 71 rfl
theorem d_L_law_796 : decode code 796 = .ok (.iload 4, 2) := jx_dec c_L_law_4_ok 72 rfl
theorem d_L_law_798 : decode code 798 = .ok (.iconst 1, 1) := jx_dec c_L_law_4_ok 73 rfl
theorem d_L_law_799 : decode code 799 = .ok (.iadd, 1) := jx_dec c_L_law_4_ok 74 rfl
theorem d_L_law_800 : decode code 800 = .ok (.iaload, 1) := jx_dec c_L_law_4_ok 75 rfl
theorem d_L_law_801 : decode code 801 = .ok (.invokevirtual 123, 3) := jx_dec c_L_law_4_ok 76 rfl
theorem d_L_law_804 : decode code 804 = .ok (.istore 6, 2) := jx_dec c_L_law_4_ok 77 rfl
theorem d_L_law_806 : decode code 806 = .ok (.aload_n 2, 1) := jx_dec c_L_law_4_ok 78 rfl
theorem d_L_law_807 : decode code 807 = .ok (.invokevirtual 81, 3) := jx_dec c_L_law_4_ok 79 rfl
theorem d_L_law_810 : decode code 810 = .ok (.iload 5, 2) := jx_dec c_L_law_4_ok 80 rfl
theorem d_L_law_812 : decode code 812 = .ok (.if_icmp .eq 5, 3) := jx_dec c_L_law_4_ok 81 rfl
theorem d_L_law_815 : decode code 815 = .ok (.iconst 0, 1) := jx_dec c_L_law_4_ok 82 rfl
theorem d_L_law_816 : decode code 816 = .ok (.ireturn, 1) := jx_dec c_L_law_4_ok 83 rfl
theorem d_L_law_817 : decode code 817 = .ok (.iload 5, 2) := jx_dec c_L_law_4_ok 84 rfl
theorem d_L_law_819 : decode code 819 = .ok (.ifCond .ne 15, 3) := jx_dec c_L_law_4_ok 85 rfl
theorem d_L_law_822 : decode code 822 = .ok (.aload_n 3, 1) := jx_dec c_L_law_4_ok 86 rfl
theorem d_L_law_823 : decode code 823 = .ok (.iconst 0, 1) := jx_dec c_L_law_4_ok 87 rfl
theorem d_L_law_824 : decode code 824 = .ok (.laload, 1) := jx_dec c_L_law_4_ok 88 rfl
theorem d_L_law_825 : decode code 825 = .ok (.iload 6, 2) := jx_dec c_L_law_4_ok 89 rfl
theorem d_L_law_827 : decode code 827 = .ok (.i2l, 1) := jx_dec c_L_law_4_ok 90 rfl
theorem d_L_law_828 : decode code 828 = .ok (.lcmp, 1) := jx_dec c_L_law_4_ok 91 rfl
theorem d_L_law_829 : decode code 829 = .ok (.ifCond .eq 5, 3) := jx_dec c_L_law_4_ok 92 rfl
theorem d_L_law_832 : decode code 832 = .ok (.iconst 0, 1) := jx_dec c_L_law_4_ok 93 rfl
theorem d_L_law_833 : decode code 833 = .ok (.ireturn, 1) := jx_dec c_L_law_4_ok 94 rfl
theorem d_L_law_834 : decode code 834 = .ok (.goto 380, 3) := jx_dec c_L_law_4_ok 95 rfl
theorem d_L_law_837 : decode code 837 = .ok (.aload_n 1, 1) := jx_dec c_L_law_4_ok 96 rfl
theorem d_L_law_838 : decode code 838 = .ok (.aload_n 0, 1) := jx_dec c_L_law_4_ok 97 rfl
theorem d_L_law_839 : decode code 839 = .ok (.iload 4, 2) := jx_dec c_L_law_4_ok 98 rfl
theorem d_L_law_841 : decode code 841 = .ok (.iconst 1, 1) := jx_dec c_L_law_4_ok 99 rfl
def c_L_law_5 : List (Nat × Instr × Nat) := [(842, .iadd, 1), (843, .iaload, 1), (844, .aload_n 3, 1), (845, .invokestatic 124, 3), (848, .istore 5, 2), (850, .aload_n 2, 1), (851, .aload_n 0, 1), (852, .iload 4, 2), (854, .iconst 1, 1), (855, .iadd, 1), (856, .iaload, 1), (857, .invokevirtual 126, 3), (860, .istore 6, 2), (862, .aload_n 2, 1), (863, .invokevirtual 81, 3), (866, .iload 5, 2), (868, .if_icmp .eq 5, 3), (871, .iconst 0, 1), (872, .ireturn, 1), (873, .iload 5, 2), (875, .ifCond .ne 15, 3), (878, .aload_n 3, 1), (879, .iconst 0, 1), (880, .laload, 1), (881, .iload 6, 2), (883, .i2l, 1), (884, .lcmp, 1), (885, .ifCond .eq 5, 3), (888, .iconst 0, 1), (889, .ireturn, 1), (890, .goto 324, 3), (893, .aload_n 1, 1), (894, .aload_n 0, 1), (895, .iload 4, 2), (897, .iconst 1, 1), (898, .iadd, 1), (899, .iaload, 1), (900, .aload_n 3, 1), (901, .invokestatic 127, 3), (904, .istore 5, 2), (906, .aload_n 2, 1), (907, .aload_n 0, 1), (908, .iload 4, 2), (910, .iconst 1, 1), (911, .iadd, 1), (912, .iaload, 1), (913, .invokevirtual 129, 3), (916, .istore 6, 2), (918, .aload_n 2, 1), (919, .invokevirtual 81, 3), (922, .iload 5, 2), (924, .if_icmp .eq 5, 3), (927, .iconst 0, 1), (928, .ireturn, 1), (929, .iload 5, 2), (931, .ifCond .ne 15, 3), (934, .aload_n 3, 1), (935, .iconst 0, 1), (936, .laload, 1), (937, .iload 6, 2), (939, .i2l, 1), (940, .lcmp, 1), (941, .ifCond .eq 5, 3), (944, .iconst 0, 1), (945, .ireturn, 1), (946, .goto 268, 3), (949, .aload_n 1, 1), (950, .aload_n 0, 1), (951, .iload 4, 2), (953, .iconst 1, 1), (954, .iadd, 1), (955, .iaload, 1), (956, .invokestatic 130, 3), (959, .istore 5, 2), (961, .aload_n 2, 1), (962, .aload_n 0, 1), (963, .iload 4, 2), (965, .iconst 1, 1), (966, .iadd, 1), (967, .iaload, 1), (968, .invokevirtual 133, 3), (971, .aload_n 2, 1), (972, .invokevirtual 81, 3), (975, .iload 5, 2), (977, .if_icmp .eq 5, 3), (980, .iconst 0, 1), (981, .ireturn, 1), (982, .goto 232, 3), (985, .aload_n 1, 1), (986, .aload_n 0, 1), (987, .iload 4, 2), (989, .iconst 1, 1), (990, .iadd, 1), (991, .iaload, 1), (992, .aload_n 0, 1), (993, .iload 4, 2), (995, .iconst 2, 1), (996, .iadd, 1), (997, .iaload, 1), (998, .aload_n 3, 1)]
theorem c_L_law_5_ok : (c_L_law_5).all (fun q => decide (decode code q.1 = .ok q.2)) = true := by decide +kernel
theorem d_L_law_842 : decode code 842 = .ok (.iadd, 1) := jx_dec c_L_law_5_ok 0 rfl
theorem d_L_law_843 : decode code 843 = .ok (.iaload, 1) := jx_dec c_L_law_5_ok 1 rfl
theorem d_L_law_844 : decode code 844 = .ok (.aload_n 3, 1) := jx_dec c_L_law_5_ok 2 rfl
theorem d_L_law_845 : decode code 845 = .ok (.invokestatic 124, 3) := jx_dec c_L_law_5_ok 3 rfl
theorem d_L_law_848 : decode code 848 = .ok (.istore 5, 2) := jx_dec c_L_law_5_ok 4 rfl
theorem d_L_law_850 : decode code 850 = .ok (.aload_n 2, 1) := jx_dec c_L_law_5_ok 5 rfl
theorem d_L_law_851 : decode code 851 = .ok (.aload_n 0, 1) := jx_dec c_L_law_5_ok 6 rfl
theorem d_L_law_852 : decode code 852 = .ok (.iload 4, 2) := jx_dec c_L_law_5_ok 7 rfl
theorem d_L_law_854 : decode code 854 = .ok (.iconst 1, 1) := jx_dec c_L_law_5_ok 8 rfl
theorem d_L_law_855 : decode code 855 = .ok (.iadd, 1) := jx_dec c_L_law_5_ok 9 rfl
theorem d_L_law_856 : decode code 856 = .ok (.iaload, 1) := jx_dec c_L_law_5_ok 10 rfl
theorem d_L_law_857 : decode code 857 = .ok (.invokevirtual 126, 3) := jx_dec c_L_law_5_ok 11 rfl
theorem d_L_law_860 : decode code 860 = .ok (.istore 6, 2) := jx_dec c_L_law_5_ok 12 rfl
theorem d_L_law_862 : decode code 862 = .ok (.aload_n 2, 1) := jx_dec c_L_law_5_ok 13 rfl
theorem d_L_law_863 : decode code 863 = .ok (.invokevirtual 81, 3) := jx_dec c_L_law_5_ok 14 rfl
theorem d_L_law_866 : decode code 866 = .ok (.iload 5, 2) := jx_dec c_L_law_5_ok 15 rfl
theorem d_L_law_868 : decode code 868 = .ok (.if_icmp .eq 5, 3) := jx_dec c_L_law_5_ok 16 rfl
theorem d_L_law_871 : decode code 871 = .ok (.iconst 0, 1) := jx_dec c_L_law_5_ok 17 rfl
theorem d_L_law_872 : decode code 872 = .ok (.ireturn, 1) := jx_dec c_L_law_5_ok 18 rfl
theorem d_L_law_873 : decode code 873 = .ok (.iload 5, 2) := jx_dec c_L_law_5_ok 19 rfl
theorem d_L_law_875 : decode code 875 = .ok (.ifCond .ne 15, 3) := jx_dec c_L_law_5_ok 20 rfl
theorem d_L_law_878 : decode code 878 = .ok (.aload_n 3, 1) := jx_dec c_L_law_5_ok 21 rfl
theorem d_L_law_879 : decode code 879 = .ok (.iconst 0, 1) := jx_dec c_L_law_5_ok 22 rfl
theorem d_L_law_880 : decode code 880 = .ok (.laload, 1) := jx_dec c_L_law_5_ok 23 rfl
theorem d_L_law_881 : decode code 881 = .ok (.iload 6, 2) := jx_dec c_L_law_5_ok 24 rfl
theorem d_L_law_883 : decode code 883 = .ok (.i2l, 1) := jx_dec c_L_law_5_ok 25 rfl
theorem d_L_law_884 : decode code 884 = .ok (.lcmp, 1) := jx_dec c_L_law_5_ok 26 rfl
theorem d_L_law_885 : decode code 885 = .ok (.ifCond .eq 5, 3) := jx_dec c_L_law_5_ok 27 rfl
theorem d_L_law_888 : decode code 888 = .ok (.iconst 0, 1) := jx_dec c_L_law_5_ok 28 rfl
theorem d_L_law_889 : decode code 889 = .ok (.ireturn, 1) := jx_dec c_L_law_5_ok 29 rfl
theorem d_L_law_890 : decode code 890 = .ok (.goto 324, 3) := jx_dec c_L_law_5_ok 30 rfl
theorem d_L_law_893 : decode code 893 = .ok (.aload_n 1, 1) := jx_dec c_L_law_5_ok 31 rfl
theorem d_L_law_894 : decode code 894 = .ok (.aload_n 0, 1) := jx_dec c_L_law_5_ok 32 rfl
theorem d_L_law_895 : decode code 895 = .ok (.iload 4, 2) := jx_dec c_L_law_5_ok 33 rfl
theorem d_L_law_897 : decode code 897 = .ok (.iconst 1, 1) := jx_dec c_L_law_5_ok 34 rfl
theorem d_L_law_898 : decode code 898 = .ok (.iadd, 1) := jx_dec c_L_law_5_ok 35 rfl
theorem d_L_law_899 : decode code 899 = .ok (.iaload, 1) := jx_dec c_L_law_5_ok 36 rfl
theorem d_L_law_900 : decode code 900 = .ok (.aload_n 3, 1) := jx_dec c_L_law_5_ok 37 rfl
theorem d_L_law_901 : decode code 901 = .ok (.invokestatic 127, 3) := jx_dec c_L_law_5_ok 38 rfl
theorem d_L_law_904 : decode code 904 = .ok (.istore 5, 2) := jx_dec c_L_law_5_ok 39 rfl
theorem d_L_law_906 : decode code 906 = .ok (.aload_n 2, 1) := jx_dec c_L_law_5_ok 40 rfl
theorem d_L_law_907 : decode code 907 = .ok (.aload_n 0, 1) := jx_dec c_L_law_5_ok 41 rfl
theorem d_L_law_908 : decode code 908 = .ok (.iload 4, 2) := jx_dec c_L_law_5_ok 42 rfl
theorem d_L_law_910 : decode code 910 = .ok (.iconst 1, 1) := jx_dec c_L_law_5_ok 43 rfl
theorem d_L_law_911 : decode code 911 = .ok (.iadd, 1) := jx_dec c_L_law_5_ok 44 rfl
theorem d_L_law_912 : decode code 912 = .ok (.iaload, 1) := jx_dec c_L_law_5_ok 45 rfl
theorem d_L_law_913 : decode code 913 = .ok (.invokevirtual 129, 3) := jx_dec c_L_law_5_ok 46 rfl
theorem d_L_law_916 : decode code 916 = .ok (.istore 6, 2) := jx_dec c_L_law_5_ok 47 rfl
theorem d_L_law_918 : decode code 918 = .ok (.aload_n 2, 1) := jx_dec c_L_law_5_ok 48 rfl
theorem d_L_law_919 : decode code 919 = .ok (.invokevirtual 81, 3) := jx_dec c_L_law_5_ok 49 rfl
theorem d_L_law_922 : decode code 922 = .ok (.iload 5, 2) := jx_dec c_L_law_5_ok 50 rfl
theorem d_L_law_924 : decode code 924 = .ok (.if_icmp .eq 5, 3) := jx_dec c_L_law_5_ok 51 rfl
theorem d_L_law_927 : decode code 927 = .ok (.iconst 0, 1) := jx_dec c_L_law_5_ok 52 rfl
theorem d_L_law_928 : decode code 928 = .ok (.ireturn, 1) := jx_dec c_L_law_5_ok 53 rfl
theorem d_L_law_929 : decode code 929 = .ok (.iload 5, 2) := jx_dec c_L_law_5_ok 54 rfl
theorem d_L_law_931 : decode code 931 = .ok (.ifCond .ne 15, 3) := jx_dec c_L_law_5_ok 55 rfl
theorem d_L_law_934 : decode code 934 = .ok (.aload_n 3, 1) := jx_dec c_L_law_5_ok 56 rfl
theorem d_L_law_935 : decode code 935 = .ok (.iconst 0, 1) := jx_dec c_L_law_5_ok 57 rfl
theorem d_L_law_936 : decode code 936 = .ok (.laload, 1) := jx_dec c_L_law_5_ok 58 rfl
theorem d_L_law_937 : decode code 937 = .ok (.iload 6, 2) := jx_dec c_L_law_5_ok 59 rfl
theorem d_L_law_939 : decode code 939 = .ok (.i2l, 1) := jx_dec c_L_law_5_ok 60 rfl
theorem d_L_law_940 : decode code 940 = .ok (.lcmp, 1) := jx_dec c_L_law_5_ok 61 rfl
theorem d_L_law_941 : decode code 941 = .ok (.ifCond .eq 5, 3) := jx_dec c_L_law_5_ok 62 rfl
theorem d_L_law_944 : decode code 944 = .ok (.iconst 0, 1) := jx_dec c_L_law_5_ok 63 rfl
theorem d_L_law_945 : decode code 945 = .ok (.ireturn, 1) := jx_dec c_L_law_5_ok 64 rfl
theorem d_L_law_946 : decode code 946 = .ok (.goto 268, 3) := jx_dec c_L_law_5_ok 65 rfl
theorem d_L_law_949 : decode code 949 = .ok (.aload_n 1, 1) := jx_dec c_L_law_5_ok 66 rfl
theorem d_L_law_950 : decode code 950 = .ok (.aload_n 0, 1) := jx_dec c_L_law_5_ok 67 rfl
theorem d_L_law_951 : decode code 951 = .ok (.iload 4, 2) := jx_dec c_L_law_5_ok 68 rfl
theorem d_L_law_953 : decode code 953 = .ok (.iconst 1, 1) := jx_dec c_L_law_5_ok 69 rfl
theorem d_L_law_954 : decode code 954 = .ok (.iadd, 1) := jx_dec c_L_law_5_ok 70 rfl
theorem d_L_law_955 : decode code 955 = .ok (.iaload, 1) := jx_dec c_L_law_5_ok 71 rfl
theorem d_L_law_956 : decode code 956 = .ok (.invokestatic 130, 3) := jx_dec c_L_law_5_ok 72 rfl
theorem d_L_law_959 : decode code 959 = .ok (.istore 5, 2) := jx_dec c_L_law_5_ok 73 rfl
theorem d_L_law_961 : decode code 961 = .ok (.aload_n 2, 1) := jx_dec c_L_law_5_ok 74 rfl
theorem d_L_law_962 : decode code 962 = .ok (.aload_n 0, 1) := jx_dec c_L_law_5_ok 75 rfl
theorem d_L_law_963 : decode code 963 = .ok (.iload 4, 2) := jx_dec c_L_law_5_ok 76 rfl
theorem d_L_law_965 : decode code 965 = .ok (.iconst 1, 1) := jx_dec c_L_law_5_ok 77 rfl
theorem d_L_law_966 : decode code 966 = .ok (.iadd, 1) := jx_dec c_L_law_5_ok 78 rfl
theorem d_L_law_967 : decode code 967 = .ok (.iaload, 1) := jx_dec c_L_law_5_ok 79 rfl
theorem d_L_law_968 : decode code 968 = .ok (.invokevirtual 133, 3) := jx_dec c_L_law_5_ok 80 rfl
theorem d_L_law_971 : decode code 971 = .ok (.aload_n 2, 1) := jx_dec c_L_law_5_ok 81 rfl
theorem d_L_law_972 : decode code 972 = .ok (.invokevirtual 81, 3) := jx_dec c_L_law_5_ok 82 rfl
theorem d_L_law_975 : decode code 975 = .ok (.iload 5, 2) := jx_dec c_L_law_5_ok 83 rfl
theorem d_L_law_977 : decode code 977 = .ok (.if_icmp .eq 5, 3) := jx_dec c_L_law_5_ok 84 rfl
theorem d_L_law_980 : decode code 980 = .ok (.iconst 0, 1) := jx_dec c_L_law_5_ok 85 rfl
theorem d_L_law_981 : decode code 981 = .ok (.ireturn, 1) := jx_dec c_L_law_5_ok 86 rfl
theorem d_L_law_982 : decode code 982 = .ok (.goto 232, 3) := jx_dec c_L_law_5_ok 87 rfl
theorem d_L_law_985 : decode code 985 = .ok (.aload_n 1, 1) := jx_dec c_L_law_5_ok 88 rfl
theorem d_L_law_986 : decode code 986 = .ok (.aload_n 0, 1) := jx_dec c_L_law_5_ok 89 rfl
theorem d_L_law_987 : decode code 987 = .ok (.iload 4, 2) := jx_dec c_L_law_5_ok 90 rfl
theorem d_L_law_989 : decode code 989 = .ok (.iconst 1, 1) := jx_dec c_L_law_5_ok 91 rfl
theorem d_L_law_990 : decode code 990 = .ok (.iadd, 1) := jx_dec c_L_law_5_ok 92 rfl
theorem d_L_law_991 : decode code 991 = .ok (.iaload, 1) := jx_dec c_L_law_5_ok 93 rfl
theorem d_L_law_992 : decode code 992 = .ok (.aload_n 0, 1) := jx_dec c_L_law_5_ok 94 rfl
theorem d_L_law_993 : decode code 993 = .ok (.iload 4, 2) := jx_dec c_L_law_5_ok 95 rfl
theorem d_L_law_995 : decode code 995 = .ok (.iconst 2, 1) := jx_dec c_L_law_5_ok 96 rfl
theorem d_L_law_996 : decode code 996 = .ok (.iadd, 1) := jx_dec c_L_law_5_ok 97 rfl
theorem d_L_law_997 : decode code 997 = .ok (.iaload, 1) := jx_dec c_L_law_5_ok 98 rfl
theorem d_L_law_998 : decode code 998 = .ok (.aload_n 3, 1) := jx_dec c_L_law_5_ok 99 rfl
def c_L_law_6 : List (Nat × Instr × Nat) := [(999, .invokestatic 134, 3), (1002, .istore 5, 2), (1004, .aload_n 2, 1), (1005, .aload_n 0, 1), (1006, .iload 4, 2), (1008, .iconst 1, 1), (1009, .iadd, 1), (1010, .iaload, 1), (1011, .aload_n 0, 1), (1012, .iload 4, 2), (1014, .iconst 2, 1), (1015, .iadd, 1), (1016, .iaload, 1), (1017, .invokevirtual 136, 3), (1020, .istore 6, 2), (1022, .aload_n 2, 1), (1023, .invokevirtual 81, 3), (1026, .iload 5, 2), (1028, .if_icmp .eq 5, 3), (1031, .iconst 0, 1), (1032, .ireturn, 1), (1033, .iload 5, 2), (1035, .ifCond .ne 15, 3), (1038, .aload_n 3, 1), (1039, .iconst 0, 1), (1040, .laload, 1), (1041, .iload 6, 2), (1043, .i2l, 1), (1044, .lcmp, 1), (1045, .ifCond .eq 5, 3), (1048, .iconst 0, 1), (1049, .ireturn, 1), (1050, .goto 164, 3), (1053, .aload_n 1, 1), (1054, .aload_n 0, 1), (1055, .iload 4, 2), (1057, .iconst 1, 1), (1058, .iadd, 1), (1059, .iaload, 1), (1060, .aload_n 0, 1), (1061, .iload 4, 2), (1063, .iconst 2, 1), (1064, .iadd, 1), (1065, .iaload, 1), (1066, .aload_n 3, 1), (1067, .invokestatic 137, 3), (1070, .istore 5, 2), (1072, .aload_n 2, 1), (1073, .aload_n 0, 1), (1074, .iload 4, 2), (1076, .iconst 1, 1), (1077, .iadd, 1), (1078, .iaload, 1), (1079, .aload_n 0, 1), (1080, .iload 4, 2), (1082, .iconst 2, 1), (1083, .iadd, 1), (1084, .iaload, 1), (1085, .invokevirtual 139, 3), (1088, .istore 6, 2), (1090, .aload_n 2, 1), (1091, .invokevirtual 81, 3), (1094, .iload 5, 2), (1096, .if_icmp .eq 5, 3), (1099, .iconst 0, 1), (1100, .ireturn, 1), (1101, .iload 5, 2), (1103, .ifCond .ne 15, 3), (1106, .aload_n 3, 1), (1107, .iconst 0, 1), (1108, .laload, 1), (1109, .iload 6, 2), (1111, .i2l, 1), (1112, .lcmp, 1), (1113, .ifCond .eq 5, 3), (1116, .iconst 0, 1), (1117, .ireturn, 1), (1118, .goto 96, 3), (1121, .aload_n 1, 1), (1122, .aload_n 0, 1), (1123, .iload 4, 2), (1125, .iconst 1, 1), (1126, .iadd, 1), (1127, .iaload, 1), (1128, .aload_n 0, 1), (1129, .iload 4, 2), (1131, .iconst 2, 1), (1132, .iadd, 1), (1133, .iaload, 1), (1134, .aload_n 3, 1), (1135, .invokestatic 140, 3), (1138, .istore 5, 2), (1140, .aload_n 2, 1), (1141, .aload_n 0, 1), (1142, .iload 4, 2), (1144, .iconst 1, 1), (1145, .iadd, 1), (1146, .iaload, 1), (1147, .aload_n 0, 1), (1148, .iload 4, 2)]
theorem c_L_law_6_ok : (c_L_law_6).all (fun q => decide (decode code q.1 = .ok q.2)) = true := by decide +kernel
theorem d_L_law_999 : decode code 999 = .ok (.invokestatic 134, 3) := jx_dec c_L_law_6_ok 0 rfl
theorem d_L_law_1002 : decode code 1002 = .ok (.istore 5, 2) := jx_dec c_L_law_6_ok 1 rfl
theorem d_L_law_1004 : decode code 1004 = .ok (.aload_n 2, 1) := jx_dec c_L_law_6_ok 2 rfl
theorem d_L_law_1005 : decode code 1005 = .ok (.aload_n 0, 1) := jx_dec c_L_law_6_ok 3 rfl
theorem d_L_law_1006 : decode code 1006 = .ok (.iload 4, 2) := jx_dec c_L_law_6_ok 4 rfl
theorem d_L_law_1008 : decode code 1008 = .ok (.iconst 1, 1) := jx_dec c_L_law_6_ok 5 rfl
theorem d_L_law_1009 : decode code 1009 = .ok (.iadd, 1) := jx_dec c_L_law_6_ok 6 rfl
theorem d_L_law_1010 : decode code 1010 = .ok (.iaload, 1) := jx_dec c_L_law_6_ok 7 rfl
theorem d_L_law_1011 : decode code 1011 = .ok (.aload_n 0, 1) := jx_dec c_L_law_6_ok 8 rfl
theorem d_L_law_1012 : decode code 1012 = .ok (.iload 4, 2) := jx_dec c_L_law_6_ok 9 rfl
theorem d_L_law_1014 : decode code 1014 = .ok (.iconst 2, 1) := jx_dec c_L_law_6_ok 10 rfl
theorem d_L_law_1015 : decode code 1015 = .ok (.iadd, 1) := jx_dec c_L_law_6_ok 11 rfl
theorem d_L_law_1016 : decode code 1016 = .ok (.iaload, 1) := jx_dec c_L_law_6_ok 12 rfl
theorem d_L_law_1017 : decode code 1017 = .ok (.invokevirtual 136, 3) := jx_dec c_L_law_6_ok 13 rfl
theorem d_L_law_1020 : decode code 1020 = .ok (.istore 6, 2) := jx_dec c_L_law_6_ok 14 rfl
theorem d_L_law_1022 : decode code 1022 = .ok (.aload_n 2, 1) := jx_dec c_L_law_6_ok 15 rfl
theorem d_L_law_1023 : decode code 1023 = .ok (.invokevirtual 81, 3) := jx_dec c_L_law_6_ok 16 rfl
theorem d_L_law_1026 : decode code 1026 = .ok (.iload 5, 2) := jx_dec c_L_law_6_ok 17 rfl
theorem d_L_law_1028 : decode code 1028 = .ok (.if_icmp .eq 5, 3) := jx_dec c_L_law_6_ok 18 rfl
theorem d_L_law_1031 : decode code 1031 = .ok (.iconst 0, 1) := jx_dec c_L_law_6_ok 19 rfl
theorem d_L_law_1032 : decode code 1032 = .ok (.ireturn, 1) := jx_dec c_L_law_6_ok 20 rfl
theorem d_L_law_1033 : decode code 1033 = .ok (.iload 5, 2) := jx_dec c_L_law_6_ok 21 rfl
theorem d_L_law_1035 : decode code 1035 = .ok (.ifCond .ne 15, 3) := jx_dec c_L_law_6_ok 22 rfl
theorem d_L_law_1038 : decode code 1038 = .ok (.aload_n 3, 1) := jx_dec c_L_law_6_ok 23 rfl
theorem d_L_law_1039 : decode code 1039 = .ok (.iconst 0, 1) := jx_dec c_L_law_6_ok 24 rfl
theorem d_L_law_1040 : decode code 1040 = .ok (.laload, 1) := jx_dec c_L_law_6_ok 25 rfl
theorem d_L_law_1041 : decode code 1041 = .ok (.iload 6, 2) := jx_dec c_L_law_6_ok 26 rfl
theorem d_L_law_1043 : decode code 1043 = .ok (.i2l, 1) := jx_dec c_L_law_6_ok 27 rfl
theorem d_L_law_1044 : decode code 1044 = .ok (.lcmp, 1) := jx_dec c_L_law_6_ok 28 rfl
theorem d_L_law_1045 : decode code 1045 = .ok (.ifCond .eq 5, 3) := jx_dec c_L_law_6_ok 29 rfl
theorem d_L_law_1048 : decode code 1048 = .ok (.iconst 0, 1) := jx_dec c_L_law_6_ok 30 rfl
theorem d_L_law_1049 : decode code 1049 = .ok (.ireturn, 1) := jx_dec c_L_law_6_ok 31 rfl
theorem d_L_law_1050 : decode code 1050 = .ok (.goto 164, 3) := jx_dec c_L_law_6_ok 32 rfl
theorem d_L_law_1053 : decode code 1053 = .ok (.aload_n 1, 1) := jx_dec c_L_law_6_ok 33 rfl
theorem d_L_law_1054 : decode code 1054 = .ok (.aload_n 0, 1) := jx_dec c_L_law_6_ok 34 rfl
theorem d_L_law_1055 : decode code 1055 = .ok (.iload 4, 2) := jx_dec c_L_law_6_ok 35 rfl
theorem d_L_law_1057 : decode code 1057 = .ok (.iconst 1, 1) := jx_dec c_L_law_6_ok 36 rfl
theorem d_L_law_1058 : decode code 1058 = .ok (.iadd, 1) := jx_dec c_L_law_6_ok 37 rfl
theorem d_L_law_1059 : decode code 1059 = .ok (.iaload, 1) := jx_dec c_L_law_6_ok 38 rfl
theorem d_L_law_1060 : decode code 1060 = .ok (.aload_n 0, 1) := jx_dec c_L_law_6_ok 39 rfl
theorem d_L_law_1061 : decode code 1061 = .ok (.iload 4, 2) := jx_dec c_L_law_6_ok 40 rfl
theorem d_L_law_1063 : decode code 1063 = .ok (.iconst 2, 1) := jx_dec c_L_law_6_ok 41 rfl
theorem d_L_law_1064 : decode code 1064 = .ok (.iadd, 1) := jx_dec c_L_law_6_ok 42 rfl
theorem d_L_law_1065 : decode code 1065 = .ok (.iaload, 1) := jx_dec c_L_law_6_ok 43 rfl
theorem d_L_law_1066 : decode code 1066 = .ok (.aload_n 3, 1) := jx_dec c_L_law_6_ok 44 rfl
theorem d_L_law_1067 : decode code 1067 = .ok (.invokestatic 137, 3) := jx_dec c_L_law_6_ok 45 rfl
theorem d_L_law_1070 : decode code 1070 = .ok (.istore 5, 2) := jx_dec c_L_law_6_ok 46 rfl
theorem d_L_law_1072 : decode code 1072 = .ok (.aload_n 2, 1) := jx_dec c_L_law_6_ok 47 rfl
theorem d_L_law_1073 : decode code 1073 = .ok (.aload_n 0, 1) := jx_dec c_L_law_6_ok 48 rfl
theorem d_L_law_1074 : decode code 1074 = .ok (.iload 4, 2) := jx_dec c_L_law_6_ok 49 rfl
theorem d_L_law_1076 : decode code 1076 = .ok (.iconst 1, 1) := jx_dec c_L_law_6_ok 50 rfl
theorem d_L_law_1077 : decode code 1077 = .ok (.iadd, 1) := jx_dec c_L_law_6_ok 51 rfl
theorem d_L_law_1078 : decode code 1078 = .ok (.iaload, 1) := jx_dec c_L_law_6_ok 52 rfl
theorem d_L_law_1079 : decode code 1079 = .ok (.aload_n 0, 1) := jx_dec c_L_law_6_ok 53 rfl
theorem d_L_law_1080 : decode code 1080 = .ok (.iload 4, 2) := jx_dec c_L_law_6_ok 54 rfl
theorem d_L_law_1082 : decode code 1082 = .ok (.iconst 2, 1) := jx_dec c_L_law_6_ok 55 rfl
theorem d_L_law_1083 : decode code 1083 = .ok (.iadd, 1) := jx_dec c_L_law_6_ok 56 rfl
theorem d_L_law_1084 : decode code 1084 = .ok (.iaload, 1) := jx_dec c_L_law_6_ok 57 rfl
theorem d_L_law_1085 : decode code 1085 = .ok (.invokevirtual 139, 3) := jx_dec c_L_law_6_ok 58 rfl
theorem d_L_law_1088 : decode code 1088 = .ok (.istore 6, 2) := jx_dec c_L_law_6_ok 59 rfl
theorem d_L_law_1090 : decode code 1090 = .ok (.aload_n 2, 1) := jx_dec c_L_law_6_ok 60 rfl
theorem d_L_law_1091 : decode code 1091 = .ok (.invokevirtual 81, 3) := jx_dec c_L_law_6_ok 61 rfl
theorem d_L_law_1094 : decode code 1094 = .ok (.iload 5, 2) := jx_dec c_L_law_6_ok 62 rfl
theorem d_L_law_1096 : decode code 1096 = .ok (.if_icmp .eq 5, 3) := jx_dec c_L_law_6_ok 63 rfl
theorem d_L_law_1099 : decode code 1099 = .ok (.iconst 0, 1) := jx_dec c_L_law_6_ok 64 rfl
theorem d_L_law_1100 : decode code 1100 = .ok (.ireturn, 1) := jx_dec c_L_law_6_ok 65 rfl
theorem d_L_law_1101 : decode code 1101 = .ok (.iload 5, 2) := jx_dec c_L_law_6_ok 66 rfl
theorem d_L_law_1103 : decode code 1103 = .ok (.ifCond .ne 15, 3) := jx_dec c_L_law_6_ok 67 rfl
theorem d_L_law_1106 : decode code 1106 = .ok (.aload_n 3, 1) := jx_dec c_L_law_6_ok 68 rfl
theorem d_L_law_1107 : decode code 1107 = .ok (.iconst 0, 1) := jx_dec c_L_law_6_ok 69 rfl
theorem d_L_law_1108 : decode code 1108 = .ok (.laload, 1) := jx_dec c_L_law_6_ok 70 rfl
theorem d_L_law_1109 : decode code 1109 = .ok (.iload 6, 2) := jx_dec c_L_law_6_ok 71 rfl
theorem d_L_law_1111 : decode code 1111 = .ok (.i2l, 1) := jx_dec c_L_law_6_ok 72 rfl
theorem d_L_law_1112 : decode code 1112 = .ok (.lcmp, 1) := jx_dec c_L_law_6_ok 73 rfl
theorem d_L_law_1113 : decode code 1113 = .ok (.ifCond .eq 5, 3) := jx_dec c_L_law_6_ok 74 rfl
theorem d_L_law_1116 : decode code 1116 = .ok (.iconst 0, 1) := jx_dec c_L_law_6_ok 75 rfl
theorem d_L_law_1117 : decode code 1117 = .ok (.ireturn, 1) := jx_dec c_L_law_6_ok 76 rfl
theorem d_L_law_1118 : decode code 1118 = .ok (.goto 96, 3) := jx_dec c_L_law_6_ok 77 rfl
theorem d_L_law_1121 : decode code 1121 = .ok (.aload_n 1, 1) := jx_dec c_L_law_6_ok 78 rfl
theorem d_L_law_1122 : decode code 1122 = .ok (.aload_n 0, 1) := jx_dec c_L_law_6_ok 79 rfl
theorem d_L_law_1123 : decode code 1123 = .ok (.iload 4, 2) := jx_dec c_L_law_6_ok 80 rfl
theorem d_L_law_1125 : decode code 1125 = .ok (.iconst 1, 1) := jx_dec c_L_law_6_ok 81 rfl
theorem d_L_law_1126 : decode code 1126 = .ok (.iadd, 1) := jx_dec c_L_law_6_ok 82 rfl
theorem d_L_law_1127 : decode code 1127 = .ok (.iaload, 1) := jx_dec c_L_law_6_ok 83 rfl
theorem d_L_law_1128 : decode code 1128 = .ok (.aload_n 0, 1) := jx_dec c_L_law_6_ok 84 rfl
theorem d_L_law_1129 : decode code 1129 = .ok (.iload 4, 2) := jx_dec c_L_law_6_ok 85 rfl
theorem d_L_law_1131 : decode code 1131 = .ok (.iconst 2, 1) := jx_dec c_L_law_6_ok 86 rfl
theorem d_L_law_1132 : decode code 1132 = .ok (.iadd, 1) := jx_dec c_L_law_6_ok 87 rfl
theorem d_L_law_1133 : decode code 1133 = .ok (.iaload, 1) := jx_dec c_L_law_6_ok 88 rfl
theorem d_L_law_1134 : decode code 1134 = .ok (.aload_n 3, 1) := jx_dec c_L_law_6_ok 89 rfl
theorem d_L_law_1135 : decode code 1135 = .ok (.invokestatic 140, 3) := jx_dec c_L_law_6_ok 90 rfl
theorem d_L_law_1138 : decode code 1138 = .ok (.istore 5, 2) := jx_dec c_L_law_6_ok 91 rfl
theorem d_L_law_1140 : decode code 1140 = .ok (.aload_n 2, 1) := jx_dec c_L_law_6_ok 92 rfl
theorem d_L_law_1141 : decode code 1141 = .ok (.aload_n 0, 1) := jx_dec c_L_law_6_ok 93 rfl
theorem d_L_law_1142 : decode code 1142 = .ok (.iload 4, 2) := jx_dec c_L_law_6_ok 94 rfl
theorem d_L_law_1144 : decode code 1144 = .ok (.iconst 1, 1) := jx_dec c_L_law_6_ok 95 rfl
theorem d_L_law_1145 : decode code 1145 = .ok (.iadd, 1) := jx_dec c_L_law_6_ok 96 rfl
theorem d_L_law_1146 : decode code 1146 = .ok (.iaload, 1) := jx_dec c_L_law_6_ok 97 rfl
theorem d_L_law_1147 : decode code 1147 = .ok (.aload_n 0, 1) := jx_dec c_L_law_6_ok 98 rfl
theorem d_L_law_1148 : decode code 1148 = .ok (.iload 4, 2) := jx_dec c_L_law_6_ok 99 rfl
def c_L_law_7 : List (Nat × Instr × Nat) := [(1150, .iconst 2, 1), (1151, .iadd, 1), (1152, .iaload, 1), (1153, .invokevirtual 142, 3), (1156, .istore 6, 2), (1158, .aload_n 2, 1), (1159, .invokevirtual 81, 3), (1162, .iload 5, 2), (1164, .if_icmp .eq 5, 3), (1167, .iconst 0, 1), (1168, .ireturn, 1), (1169, .iload 5, 2), (1171, .ifCond .ne 15, 3), (1174, .aload_n 3, 1), (1175, .iconst 0, 1), (1176, .laload, 1), (1177, .iload 6, 2), (1179, .i2l, 1), (1180, .lcmp, 1), (1181, .ifCond .eq 5, 3), (1184, .iconst 0, 1), (1185, .ireturn, 1), (1186, .goto 28, 3), (1189, .aload_n 1, 1), (1190, .aload_n 0, 1), (1191, .iload 4, 2), (1193, .iconst 1, 1), (1194, .iadd, 1), (1195, .iaload, 1), (1196, .invokevirtual 143, 3), (1199, .aload_n 2, 1), (1200, .aload_n 0, 1), (1201, .iload 4, 2), (1203, .iconst 1, 1), (1204, .iadd, 1), (1205, .iaload, 1), (1206, .invokevirtual 146, 3), (1209, .if_icmp .eq 5, 3), (1212, .iconst 0, 1), (1213, .ireturn, 1), (1214, .iinc 4 5, 3), (1217, .goto (-1194), 3), (1220, .iconst 1, 1), (1221, .ireturn, 1)]
theorem c_L_law_7_ok : (c_L_law_7).all (fun q => decide (decode code q.1 = .ok q.2)) = true := by decide +kernel
theorem d_L_law_1150 : decode code 1150 = .ok (.iconst 2, 1) := jx_dec c_L_law_7_ok 0 rfl
theorem d_L_law_1151 : decode code 1151 = .ok (.iadd, 1) := jx_dec c_L_law_7_ok 1 rfl
theorem d_L_law_1152 : decode code 1152 = .ok (.iaload, 1) := jx_dec c_L_law_7_ok 2 rfl
theorem d_L_law_1153 : decode code 1153 = .ok (.invokevirtual 142, 3) := jx_dec c_L_law_7_ok 3 rfl
theorem d_L_law_1156 : decode code 1156 = .ok (.istore 6, 2) := jx_dec c_L_law_7_ok 4 rfl
theorem d_L_law_1158 : decode code 1158 = .ok (.aload_n 2, 1) := jx_dec c_L_law_7_ok 5 rfl
theorem d_L_law_1159 : decode code 1159 = .ok (.invokevirtual 81, 3) := jx_dec c_L_law_7_ok 6 rfl
theorem d_L_law_1162 : decode code 1162 = .ok (.iload 5, 2) := jx_dec c_L_law_7_ok 7 rfl
theorem d_L_law_1164 : decode code 1164 = .ok (.if_icmp .eq 5, 3) := jx_dec c_L_law_7_ok 8 rfl
theorem d_L_law_1167 : decode code 1167 = .ok (.iconst 0, 1) := jx_dec c_L_law_7_ok 9 rfl
theorem d_L_law_1168 : decode code 1168 = .ok (.ireturn, 1) := jx_dec c_L_law_7_ok 10 rfl
theorem d_L_law_1169 : decode code 1169 = .ok (.iload 5, 2) := jx_dec c_L_law_7_ok 11 rfl
theorem d_L_law_1171 : decode code 1171 = .ok (.ifCond .ne 15, 3) := jx_dec c_L_law_7_ok 12 rfl
theorem d_L_law_1174 : decode code 1174 = .ok (.aload_n 3, 1) := jx_dec c_L_law_7_ok 13 rfl
theorem d_L_law_1175 : decode code 1175 = .ok (.iconst 0, 1) := jx_dec c_L_law_7_ok 14 rfl
theorem d_L_law_1176 : decode code 1176 = .ok (.laload, 1) := jx_dec c_L_law_7_ok 15 rfl
theorem d_L_law_1177 : decode code 1177 = .ok (.iload 6, 2) := jx_dec c_L_law_7_ok 16 rfl
theorem d_L_law_1179 : decode code 1179 = .ok (.i2l, 1) := jx_dec c_L_law_7_ok 17 rfl
theorem d_L_law_1180 : decode code 1180 = .ok (.lcmp, 1) := jx_dec c_L_law_7_ok 18 rfl
theorem d_L_law_1181 : decode code 1181 = .ok (.ifCond .eq 5, 3) := jx_dec c_L_law_7_ok 19 rfl
theorem d_L_law_1184 : decode code 1184 = .ok (.iconst 0, 1) := jx_dec c_L_law_7_ok 20 rfl
theorem d_L_law_1185 : decode code 1185 = .ok (.ireturn, 1) := jx_dec c_L_law_7_ok 21 rfl
theorem d_L_law_1186 : decode code 1186 = .ok (.goto 28, 3) := jx_dec c_L_law_7_ok 22 rfl
theorem d_L_law_1189 : decode code 1189 = .ok (.aload_n 1, 1) := jx_dec c_L_law_7_ok 23 rfl
theorem d_L_law_1190 : decode code 1190 = .ok (.aload_n 0, 1) := jx_dec c_L_law_7_ok 24 rfl
theorem d_L_law_1191 : decode code 1191 = .ok (.iload 4, 2) := jx_dec c_L_law_7_ok 25 rfl
theorem d_L_law_1193 : decode code 1193 = .ok (.iconst 1, 1) := jx_dec c_L_law_7_ok 26 rfl
theorem d_L_law_1194 : decode code 1194 = .ok (.iadd, 1) := jx_dec c_L_law_7_ok 27 rfl
theorem d_L_law_1195 : decode code 1195 = .ok (.iaload, 1) := jx_dec c_L_law_7_ok 28 rfl
theorem d_L_law_1196 : decode code 1196 = .ok (.invokevirtual 143, 3) := jx_dec c_L_law_7_ok 29 rfl
theorem d_L_law_1199 : decode code 1199 = .ok (.aload_n 2, 1) := jx_dec c_L_law_7_ok 30 rfl
theorem d_L_law_1200 : decode code 1200 = .ok (.aload_n 0, 1) := jx_dec c_L_law_7_ok 31 rfl
theorem d_L_law_1201 : decode code 1201 = .ok (.iload 4, 2) := jx_dec c_L_law_7_ok 32 rfl
theorem d_L_law_1203 : decode code 1203 = .ok (.iconst 1, 1) := jx_dec c_L_law_7_ok 33 rfl
theorem d_L_law_1204 : decode code 1204 = .ok (.iadd, 1) := jx_dec c_L_law_7_ok 34 rfl
theorem d_L_law_1205 : decode code 1205 = .ok (.iaload, 1) := jx_dec c_L_law_7_ok 35 rfl
theorem d_L_law_1206 : decode code 1206 = .ok (.invokevirtual 146, 3) := jx_dec c_L_law_7_ok 36 rfl
theorem d_L_law_1209 : decode code 1209 = .ok (.if_icmp .eq 5, 3) := jx_dec c_L_law_7_ok 37 rfl
theorem d_L_law_1212 : decode code 1212 = .ok (.iconst 0, 1) := jx_dec c_L_law_7_ok 38 rfl
theorem d_L_law_1213 : decode code 1213 = .ok (.ireturn, 1) := jx_dec c_L_law_7_ok 39 rfl
theorem d_L_law_1214 : decode code 1214 = .ok (.iinc 4 5, 3) := jx_dec c_L_law_7_ok 40 rfl
theorem d_L_law_1217 : decode code 1217 = .ok (.goto (-1194), 3) := jx_dec c_L_law_7_ok 41 rfl
theorem d_L_law_1220 : decode code 1220 = .ok (.iconst 1, 1) := jx_dec c_L_law_7_ok 42 rfl
theorem d_L_law_1221 : decode code 1221 = .ok (.ireturn, 1) := jx_dec c_L_law_7_ok 43 rfl
end
