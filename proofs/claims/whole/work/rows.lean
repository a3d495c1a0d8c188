section
-- ===== PART A: goes FIRST, ahead of the names: the tables' words, and 'selects' of the private methods out of them =====
/-- a private method of a class that the tables say can be made, by its rows of tables_1 -/
def lw_okq (q : MethodName × Nat) : Prop := (q.1.cls ≠ "java/lang/invoke/MethodHandle" ∧ q.1.cls ≠ "java/lang/invoke/VarHandle") ∧ Cond.instantiable q.1.cls q.2 ∈ tables_1 ∧ Cond.privateMethod q.1 ∈ tables_1 ∧ Cond.instanceMethod q.1 ∈ tables_1
theorem lw_p0 : lw_okq (⟨"StraySheep", "finding", "(I)I"⟩, 11) := ⟨⟨by decide +kernel, by decide +kernel⟩, List.mem_of_getElem? (i := 14) (by decide +kernel), List.mem_of_getElem? (i := 174) (by decide +kernel), List.mem_of_getElem? (i := 175) (by decide +kernel)⟩
theorem lw_p1 : lw_okq (⟨"StraySheep", "firstHourOfAtLeast", "([III)I"⟩, 11) := ⟨⟨by decide +kernel, by decide +kernel⟩, List.mem_of_getElem? (i := 14) (by decide +kernel), List.mem_of_getElem? (i := 378) (by decide +kernel), List.mem_of_getElem? (i := 379) (by decide +kernel)⟩
theorem lw_p2 : lw_okq (⟨"StraySheep", "keepsNear", "(II)Z"⟩, 11) := ⟨⟨by decide +kernel, by decide +kernel⟩, List.mem_of_getElem? (i := 14) (by decide +kernel), List.mem_of_getElem? (i := 421) (by decide +kernel), List.mem_of_getElem? (i := 422) (by decide +kernel)⟩
theorem lw_p3 : lw_okq (⟨"StraySheep", "keeperGoesAsTold", "(LStraySheep$Sheet;)Z"⟩, 11) := ⟨⟨by decide +kernel, by decide +kernel⟩, List.mem_of_getElem? (i := 14) (by decide +kernel), List.mem_of_getElem? (i := 437) (by decide +kernel), List.mem_of_getElem? (i := 438) (by decide +kernel)⟩
theorem lw_p4 : lw_okq (⟨"StraySheep", "sheepGoesAsTold", "(LStraySheep$Sheet;I)Z"⟩, 11) := ⟨⟨by decide +kernel, by decide +kernel⟩, List.mem_of_getElem? (i := 14) (by decide +kernel), List.mem_of_getElem? (i := 449) (by decide +kernel), List.mem_of_getElem? (i := 450) (by decide +kernel)⟩
theorem lw_p5 : lw_okq (⟨"StraySheep", "draw", "()I"⟩, 11) := ⟨⟨by decide +kernel, by decide +kernel⟩, List.mem_of_getElem? (i := 14) (by decide +kernel), List.mem_of_getElem? (i := 457) (by decide +kernel), List.mem_of_getElem? (i := 458) (by decide +kernel)⟩
theorem lw_p6 : lw_okq (⟨"StraySheep$Tape", "nextToken", "()V"⟩, 5) := ⟨⟨by decide +kernel, by decide +kernel⟩, List.mem_of_getElem? (i := 84) (by decide +kernel), List.mem_of_getElem? (i := 502) (by decide +kernel), List.mem_of_getElem? (i := 503) (by decide +kernel)⟩
theorem lw_p7 : lw_okq (⟨"StraySheep$Tape", "tokenAt", "(I)I"⟩, 5) := ⟨⟨by decide +kernel, by decide +kernel⟩, List.mem_of_getElem? (i := 84) (by decide +kernel), List.mem_of_getElem? (i := 506) (by decide +kernel), List.mem_of_getElem? (i := 507) (by decide +kernel)⟩
theorem lw_p8 : lw_okq (⟨"StraySheep$Tape", "readItem", "(LStraySheep$Hill;)Z"⟩, 5) := ⟨⟨by decide +kernel, by decide +kernel⟩, List.mem_of_getElem? (i := 84) (by decide +kernel), List.mem_of_getElem? (i := 513) (by decide +kernel), List.mem_of_getElem? (i := 514) (by decide +kernel)⟩
theorem lw_p9 : lw_okq (⟨"StraySheep$Tape", "kindOfWord", "()I"⟩, 5) := ⟨⟨by decide +kernel, by decide +kernel⟩, List.mem_of_getElem? (i := 84) (by decide +kernel), List.mem_of_getElem? (i := 517) (by decide +kernel), List.mem_of_getElem? (i := 518) (by decide +kernel)⟩
theorem lw_p10 : lw_okq (⟨"StraySheep$Tape", "isWord", "(Ljava/lang/String;)Z"⟩, 5) := ⟨⟨by decide +kernel, by decide +kernel⟩, List.mem_of_getElem? (i := 84) (by decide +kernel), List.mem_of_getElem? (i := 531) (by decide +kernel), List.mem_of_getElem? (i := 532) (by decide +kernel)⟩
theorem lw_p11 : lw_okq (⟨"StraySheep$Tape", "readSheep", "(LStraySheep$Hill;I)Z"⟩, 5) := ⟨⟨by decide +kernel, by decide +kernel⟩, List.mem_of_getElem? (i := 84) (by decide +kernel), List.mem_of_getElem? (i := 583) (by decide +kernel), List.mem_of_getElem? (i := 584) (by decide +kernel)⟩
theorem lw_p12 : lw_okq (⟨"StraySheep$Tape", "skipWord", "(Ljava/lang/String;)Z"⟩, 5) := ⟨⟨by decide +kernel, by decide +kernel⟩, List.mem_of_getElem? (i := 84) (by decide +kernel), List.mem_of_getElem? (i := 589) (by decide +kernel), List.mem_of_getElem? (i := 590) (by decide +kernel)⟩
theorem lw_p13 : lw_okq (⟨"StraySheep$Tape", "takeNumber", "(I)I"⟩, 5) := ⟨⟨by decide +kernel, by decide +kernel⟩, List.mem_of_getElem? (i := 84) (by decide +kernel), List.mem_of_getElem? (i := 593) (by decide +kernel), List.mem_of_getElem? (i := 594) (by decide +kernel)⟩
theorem lw_p14 : lw_okq (⟨"StraySheep$Tape", "readFold", "(LStraySheep$Hill;)Z"⟩, 5) := ⟨⟨by decide +kernel, by decide +kernel⟩, List.mem_of_getElem? (i := 84) (by decide +kernel), List.mem_of_getElem? (i := 601) (by decide +kernel), List.mem_of_getElem? (i := 602) (by decide +kernel)⟩
theorem lw_p15 : lw_okq (⟨"StraySheep$Tape", "readKeeper", "(LStraySheep$Hill;)Z"⟩, 5) := ⟨⟨by decide +kernel, by decide +kernel⟩, List.mem_of_getElem? (i := 84) (by decide +kernel), List.mem_of_getElem? (i := 606) (by decide +kernel), List.mem_of_getElem? (i := 607) (by decide +kernel)⟩
def lw_privs_1 : List (MethodName × Nat) := [(⟨"StraySheep", "finding", "(I)I"⟩, 11), (⟨"StraySheep", "firstHourOfAtLeast", "([III)I"⟩, 11), (⟨"StraySheep", "keepsNear", "(II)Z"⟩, 11), (⟨"StraySheep", "keeperGoesAsTold", "(LStraySheep$Sheet;)Z"⟩, 11), (⟨"StraySheep", "sheepGoesAsTold", "(LStraySheep$Sheet;I)Z"⟩, 11), (⟨"StraySheep", "draw", "()I"⟩, 11), (⟨"StraySheep$Tape", "nextToken", "()V"⟩, 5), (⟨"StraySheep$Tape", "tokenAt", "(I)I"⟩, 5), (⟨"StraySheep$Tape", "readItem", "(LStraySheep$Hill;)Z"⟩, 5), (⟨"StraySheep$Tape", "kindOfWord", "()I"⟩, 5), (⟨"StraySheep$Tape", "isWord", "(Ljava/lang/String;)Z"⟩, 5), (⟨"StraySheep$Tape", "readSheep", "(LStraySheep$Hill;I)Z"⟩, 5), (⟨"StraySheep$Tape", "skipWord", "(Ljava/lang/String;)Z"⟩, 5), (⟨"StraySheep$Tape", "takeNumber", "(I)I"⟩, 5), (⟨"StraySheep$Tape", "readFold", "(LStraySheep$Hill;)Z"⟩, 5), (⟨"StraySheep$Tape", "readKeeper", "(LStraySheep$Hill;)Z"⟩, 5)]
theorem lw_r1 : ∀ q ∈ lw_privs_1, lw_okq q := List.forall_mem_cons.mpr ⟨lw_p0, List.forall_mem_cons.mpr ⟨lw_p1, List.forall_mem_cons.mpr ⟨lw_p2, List.forall_mem_cons.mpr ⟨lw_p3, List.forall_mem_cons.mpr ⟨lw_p4, List.forall_mem_cons.mpr ⟨lw_p5, List.forall_mem_cons.mpr ⟨lw_p6, List.forall_mem_cons.mpr ⟨lw_p7, List.forall_mem_cons.mpr ⟨lw_p8, List.forall_mem_cons.mpr ⟨lw_p9, List.forall_mem_cons.mpr ⟨lw_p10, List.forall_mem_cons.mpr ⟨lw_p11, List.forall_mem_cons.mpr ⟨lw_p12, List.forall_mem_cons.mpr ⟨lw_p13, List.forall_mem_cons.mpr ⟨lw_p14, List.forall_mem_cons.mpr ⟨lw_p15, fun _ h => absurd h List.not_mem_nil⟩⟩⟩⟩⟩⟩⟩⟩⟩⟩⟩⟩⟩⟩⟩⟩
theorem lw_p16 : lw_okq (⟨"StraySheep$Tape", "readWolf", "(LStraySheep$Hill;)Z"⟩, 5) := ⟨⟨by decide +kernel, by decide +kernel⟩, List.mem_of_getElem? (i := 84) (by decide +kernel), List.mem_of_getElem? (i := 612) (by decide +kernel), List.mem_of_getElem? (i := 613) (by decide +kernel)⟩
theorem lw_p17 : lw_okq (⟨"StraySheep", "spotsInUse", "()I"⟩, 11) := ⟨⟨by decide +kernel, by decide +kernel⟩, List.mem_of_getElem? (i := 14) (by decide +kernel), List.mem_of_getElem? (i := 684) (by decide +kernel), List.mem_of_getElem? (i := 685) (by decide +kernel)⟩
theorem lw_p18 : lw_okq (⟨"StraySheepModel", "finding", "(I)I"⟩, 24) := ⟨⟨by decide +kernel, by decide +kernel⟩, List.mem_of_getElem? (i := 692) (by decide +kernel), List.mem_of_getElem? (i := 791) (by decide +kernel), List.mem_of_getElem? (i := 792) (by decide +kernel)⟩
theorem lw_p19 : lw_okq (⟨"StraySheepModel", "keeperTo", "(I)I"⟩, 24) := ⟨⟨by decide +kernel, by decide +kernel⟩, List.mem_of_getElem? (i := 692) (by decide +kernel), List.mem_of_getElem? (i := 795) (by decide +kernel), List.mem_of_getElem? (i := 796) (by decide +kernel)⟩
theorem lw_p20 : lw_okq (⟨"StraySheepModel", "keeperAt", "(I)V"⟩, 24) := ⟨⟨by decide +kernel, by decide +kernel⟩, List.mem_of_getElem? (i := 692) (by decide +kernel), List.mem_of_getElem? (i := 799) (by decide +kernel), List.mem_of_getElem? (i := 800) (by decide +kernel)⟩
theorem lw_p21 : lw_okq (⟨"StraySheepModel", "become", "(II)I"⟩, 24) := ⟨⟨by decide +kernel, by decide +kernel⟩, List.mem_of_getElem? (i := 692) (by decide +kernel), List.mem_of_getElem? (i := 806) (by decide +kernel), List.mem_of_getElem? (i := 807) (by decide +kernel)⟩
theorem lw_p22 : lw_okq (⟨"StraySheepModel", "comes", "(II)I"⟩, 24) := ⟨⟨by decide +kernel, by decide +kernel⟩, List.mem_of_getElem? (i := 692) (by decide +kernel), List.mem_of_getElem? (i := 822) (by decide +kernel), List.mem_of_getElem? (i := 823) (by decide +kernel)⟩
theorem lw_p23 : lw_okq (⟨"StraySheepModel", "isSheep", "(I)Z"⟩, 24) := ⟨⟨by decide +kernel, by decide +kernel⟩, List.mem_of_getElem? (i := 692) (by decide +kernel), List.mem_of_getElem? (i := 830) (by decide +kernel), List.mem_of_getElem? (i := 831) (by decide +kernel)⟩
theorem lw_p24 : lw_okq (⟨"StraySheepModel", "far", "(I)I"⟩, 24) := ⟨⟨by decide +kernel, by decide +kernel⟩, List.mem_of_getElem? (i := 692) (by decide +kernel), List.mem_of_getElem? (i := 834) (by decide +kernel), List.mem_of_getElem? (i := 835) (by decide +kernel)⟩
theorem lw_p25 : lw_okq (⟨"StraySheepModel", "sheepIs", "(II)I"⟩, 24) := ⟨⟨by decide +kernel, by decide +kernel⟩, List.mem_of_getElem? (i := 692) (by decide +kernel), List.mem_of_getElem? (i := 838) (by decide +kernel), List.mem_of_getElem? (i := 839) (by decide +kernel)⟩
theorem lw_p26 : lw_okq (⟨"StraySheepModel", "strays", "(I)I"⟩, 24) := ⟨⟨by decide +kernel, by decide +kernel⟩, List.mem_of_getElem? (i := 692) (by decide +kernel), List.mem_of_getElem? (i := 845) (by decide +kernel), List.mem_of_getElem? (i := 846) (by decide +kernel)⟩
theorem lw_p27 : lw_okq (⟨"StraySheepModel", "isAlone", "(I)Z"⟩, 24) := ⟨⟨by decide +kernel, by decide +kernel⟩, List.mem_of_getElem? (i := 692) (by decide +kernel), List.mem_of_getElem? (i := 849) (by decide +kernel), List.mem_of_getElem? (i := 850) (by decide +kernel)⟩
theorem lw_p28 : lw_okq (⟨"StraySheepModel", "fears", "(I)I"⟩, 24) := ⟨⟨by decide +kernel, by decide +kernel⟩, List.mem_of_getElem? (i := 692) (by decide +kernel), List.mem_of_getElem? (i := 853) (by decide +kernel), List.mem_of_getElem? (i := 854) (by decide +kernel)⟩
theorem lw_p29 : lw_okq (⟨"StraySheepModel", "calms", "(I)I"⟩, 24) := ⟨⟨by decide +kernel, by decide +kernel⟩, List.mem_of_getElem? (i := 692) (by decide +kernel), List.mem_of_getElem? (i := 857) (by decide +kernel), List.mem_of_getElem? (i := 858) (by decide +kernel)⟩
theorem lw_p30 : lw_okq (⟨"StraySheepModel", "light", "(I)I"⟩, 24) := ⟨⟨by decide +kernel, by decide +kernel⟩, List.mem_of_getElem? (i := 692) (by decide +kernel), List.mem_of_getElem? (i := 861) (by decide +kernel), List.mem_of_getElem? (i := 862) (by decide +kernel)⟩
theorem lw_p31 : lw_okq (⟨"StraySheepModel", "orNone", "(I)I"⟩, 24) := ⟨⟨by decide +kernel, by decide +kernel⟩, List.mem_of_getElem? (i := 692) (by decide +kernel), List.mem_of_getElem? (i := 877) (by decide +kernel), List.mem_of_getElem? (i := 878) (by decide +kernel)⟩
def lw_privs_2 : List (MethodName × Nat) := [(⟨"StraySheep$Tape", "readWolf", "(LStraySheep$Hill;)Z"⟩, 5), (⟨"StraySheep", "spotsInUse", "()I"⟩, 11), (⟨"StraySheepModel", "finding", "(I)I"⟩, 24), (⟨"StraySheepModel", "keeperTo", "(I)I"⟩, 24), (⟨"StraySheepModel", "keeperAt", "(I)V"⟩, 24), (⟨"StraySheepModel", "become", "(II)I"⟩, 24), (⟨"StraySheepModel", "comes", "(II)I"⟩, 24), (⟨"StraySheepModel", "isSheep", "(I)Z"⟩, 24), (⟨"StraySheepModel", "far", "(I)I"⟩, 24), (⟨"StraySheepModel", "sheepIs", "(II)I"⟩, 24), (⟨"StraySheepModel", "strays", "(I)I"⟩, 24), (⟨"StraySheepModel", "isAlone", "(I)Z"⟩, 24), (⟨"StraySheepModel", "fears", "(I)I"⟩, 24), (⟨"StraySheepModel", "calms", "(I)I"⟩, 24), (⟨"StraySheepModel", "light", "(I)I"⟩, 24), (⟨"StraySheepModel", "orNone", "(I)I"⟩, 24)]
theorem lw_r2 : ∀ q ∈ lw_privs_2, lw_okq q := List.forall_mem_cons.mpr ⟨lw_p16, List.forall_mem_cons.mpr ⟨lw_p17, List.forall_mem_cons.mpr ⟨lw_p18, List.forall_mem_cons.mpr ⟨lw_p19, List.forall_mem_cons.mpr ⟨lw_p20, List.forall_mem_cons.mpr ⟨lw_p21, List.forall_mem_cons.mpr ⟨lw_p22, List.forall_mem_cons.mpr ⟨lw_p23, List.forall_mem_cons.mpr ⟨lw_p24, List.forall_mem_cons.mpr ⟨lw_p25, List.forall_mem_cons.mpr ⟨lw_p26, List.forall_mem_cons.mpr ⟨lw_p27, List.forall_mem_cons.mpr ⟨lw_p28, List.forall_mem_cons.mpr ⟨lw_p29, List.forall_mem_cons.mpr ⟨lw_p30, List.forall_mem_cons.mpr ⟨lw_p31, fun _ h => absurd h List.not_mem_nil⟩⟩⟩⟩⟩⟩⟩⟩⟩⟩⟩⟩⟩⟩⟩⟩
theorem lw_p32 : lw_okq (⟨"StraySheepModel", "setAt", "(I)I"⟩, 24) := ⟨⟨by decide +kernel, by decide +kernel⟩, List.mem_of_getElem? (i := 692) (by decide +kernel), List.mem_of_getElem? (i := 886) (by decide +kernel), List.mem_of_getElem? (i := 887) (by decide +kernel)⟩
theorem lw_p33 : lw_okq (⟨"StraySheepModel", "hoursGo", "(I)V"⟩, 24) := ⟨⟨by decide +kernel, by decide +kernel⟩, List.mem_of_getElem? (i := 692) (by decide +kernel), List.mem_of_getElem? (i := 895) (by decide +kernel), List.mem_of_getElem? (i := 896) (by decide +kernel)⟩
theorem lw_p34 : lw_okq (⟨"StraySheepModel", "hour", "()V"⟩, 24) := ⟨⟨by decide +kernel, by decide +kernel⟩, List.mem_of_getElem? (i := 692) (by decide +kernel), List.mem_of_getElem? (i := 899) (by decide +kernel), List.mem_of_getElem? (i := 900) (by decide +kernel)⟩
theorem lw_p35 : lw_okq (⟨"StraySheepModel", "sheepGo", "()V"⟩, 24) := ⟨⟨by decide +kernel, by decide +kernel⟩, List.mem_of_getElem? (i := 692) (by decide +kernel), List.mem_of_getElem? (i := 903) (by decide +kernel), List.mem_of_getElem? (i := 904) (by decide +kernel)⟩
theorem lw_p36 : lw_okq (⟨"StraySheepModel", "awayFrom", "(II)I"⟩, 24) := ⟨⟨by decide +kernel, by decide +kernel⟩, List.mem_of_getElem? (i := 692) (by decide +kernel), List.mem_of_getElem? (i := 915) (by decide +kernel), List.mem_of_getElem? (i := 916) (by decide +kernel)⟩
theorem lw_p37 : lw_okq (⟨"StraySheepModel", "wolfGoes", "()V"⟩, 24) := ⟨⟨by decide +kernel, by decide +kernel⟩, List.mem_of_getElem? (i := 692) (by decide +kernel), List.mem_of_getElem? (i := 919) (by decide +kernel), List.mem_of_getElem? (i := 920) (by decide +kernel)⟩
theorem lw_p38 : lw_okq (⟨"StraySheepModel", "nearest", "()I"⟩, 24) := ⟨⟨by decide +kernel, by decide +kernel⟩, List.mem_of_getElem? (i := 692) (by decide +kernel), List.mem_of_getElem? (i := 923) (by decide +kernel), List.mem_of_getElem? (i := 924) (by decide +kernel)⟩
theorem lw_p39 : lw_okq (⟨"StraySheepModel", "carries", "()V"⟩, 24) := ⟨⟨by decide +kernel, by decide +kernel⟩, List.mem_of_getElem? (i := 692) (by decide +kernel), List.mem_of_getElem? (i := 927) (by decide +kernel), List.mem_of_getElem? (i := 928) (by decide +kernel)⟩
theorem lw_p40 : lw_okq (⟨"StraySheepModel", "seeks", "()V"⟩, 24) := ⟨⟨by decide +kernel, by decide +kernel⟩, List.mem_of_getElem? (i := 692) (by decide +kernel), List.mem_of_getElem? (i := 931) (by decide +kernel), List.mem_of_getElem? (i := 932) (by decide +kernel)⟩
theorem lw_p41 : lw_okq (⟨"StraySheepModel", "sought", "()I"⟩, 24) := ⟨⟨by decide +kernel, by decide +kernel⟩, List.mem_of_getElem? (i := 692) (by decide +kernel), List.mem_of_getElem? (i := 935) (by decide +kernel), List.mem_of_getElem? (i := 936) (by decide +kernel)⟩
theorem lw_p42 : lw_okq (⟨"StraySheepModel", "sumOf", "(I)I"⟩, 24) := ⟨⟨by decide +kernel, by decide +kernel⟩, List.mem_of_getElem? (i := 692) (by decide +kernel), List.mem_of_getElem? (i := 939) (by decide +kernel), List.mem_of_getElem? (i := 940) (by decide +kernel)⟩
theorem lw_p43 : lw_okq (⟨"StraySheepModel", "lostSet", "()I"⟩, 24) := ⟨⟨by decide +kernel, by decide +kernel⟩, List.mem_of_getElem? (i := 692) (by decide +kernel), List.mem_of_getElem? (i := 947) (by decide +kernel), List.mem_of_getElem? (i := 948) (by decide +kernel)⟩
theorem lw_p44 : lw_okq (⟨"StraySheepModel", "mostAfraid", "()I"⟩, 24) := ⟨⟨by decide +kernel, by decide +kernel⟩, List.mem_of_getElem? (i := 692) (by decide +kernel), List.mem_of_getElem? (i := 951) (by decide +kernel), List.mem_of_getElem? (i := 952) (by decide +kernel)⟩
theorem lw_p45 : lw_okq (⟨"StraySheepModel", "behind", "(II)I"⟩, 24) := ⟨⟨by decide +kernel, by decide +kernel⟩, List.mem_of_getElem? (i := 692) (by decide +kernel), List.mem_of_getElem? (i := 959) (by decide +kernel), List.mem_of_getElem? (i := 960) (by decide +kernel)⟩
theorem lw_p46 : lw_okq (⟨"StraySheepModel", "putBack", "(I)I"⟩, 24) := ⟨⟨by decide +kernel, by decide +kernel⟩, List.mem_of_getElem? (i := 692) (by decide +kernel), List.mem_of_getElem? (i := 966) (by decide +kernel), List.mem_of_getElem? (i := 967) (by decide +kernel)⟩
theorem lw_p47 : lw_okq (⟨"StraySheepModel", "whenIs", "(III)I"⟩, 24) := ⟨⟨by decide +kernel, by decide +kernel⟩, List.mem_of_getElem? (i := 692) (by decide +kernel), List.mem_of_getElem? (i := 978) (by decide +kernel), List.mem_of_getElem? (i := 979) (by decide +kernel)⟩
def lw_privs_3 : List (MethodName × Nat) := [(⟨"StraySheepModel", "setAt", "(I)I"⟩, 24), (⟨"StraySheepModel", "hoursGo", "(I)V"⟩, 24), (⟨"StraySheepModel", "hour", "()V"⟩, 24), (⟨"StraySheepModel", "sheepGo", "()V"⟩, 24), (⟨"StraySheepModel", "awayFrom", "(II)I"⟩, 24), (⟨"StraySheepModel", "wolfGoes", "()V"⟩, 24), (⟨"StraySheepModel", "nearest", "()I"⟩, 24), (⟨"StraySheepModel", "carries", "()V"⟩, 24), (⟨"StraySheepModel", "seeks", "()V"⟩, 24), (⟨"StraySheepModel", "sought", "()I"⟩, 24), (⟨"StraySheepModel", "sumOf", "(I)I"⟩, 24), (⟨"StraySheepModel", "lostSet", "()I"⟩, 24), (⟨"StraySheepModel", "mostAfraid", "()I"⟩, 24), (⟨"StraySheepModel", "behind", "(II)I"⟩, 24), (⟨"StraySheepModel", "putBack", "(I)I"⟩, 24), (⟨"StraySheepModel", "whenIs", "(III)I"⟩, 24)]
theorem lw_r3 : ∀ q ∈ lw_privs_3, lw_okq q := List.forall_mem_cons.mpr ⟨lw_p32, List.forall_mem_cons.mpr ⟨lw_p33, List.forall_mem_cons.mpr ⟨lw_p34, List.forall_mem_cons.mpr ⟨lw_p35, List.forall_mem_cons.mpr ⟨lw_p36, List.forall_mem_cons.mpr ⟨lw_p37, List.forall_mem_cons.mpr ⟨lw_p38, List.forall_mem_cons.mpr ⟨lw_p39, List.forall_mem_cons.mpr ⟨lw_p40, List.forall_mem_cons.mpr ⟨lw_p41, List.forall_mem_cons.mpr ⟨lw_p42, List.forall_mem_cons.mpr ⟨lw_p43, List.forall_mem_cons.mpr ⟨lw_p44, List.forall_mem_cons.mpr ⟨lw_p45, List.forall_mem_cons.mpr ⟨lw_p46, List.forall_mem_cons.mpr ⟨lw_p47, fun _ h => absurd h List.not_mem_nil⟩⟩⟩⟩⟩⟩⟩⟩⟩⟩⟩⟩⟩⟩⟩⟩
theorem lw_p48 : lw_okq (⟨"StraySheepModel", "areHome", "()Z"⟩, 24) := ⟨⟨by decide +kernel, by decide +kernel⟩, List.mem_of_getElem? (i := 692) (by decide +kernel), List.mem_of_getElem? (i := 986) (by decide +kernel), List.mem_of_getElem? (i := 987) (by decide +kernel)⟩
theorem lw_p49 : lw_okq (⟨"StraySheepModel", "leastFor", "(III)I"⟩, 24) := ⟨⟨by decide +kernel, by decide +kernel⟩, List.mem_of_getElem? (i := 692) (by decide +kernel), List.mem_of_getElem? (i := 1001) (by decide +kernel), List.mem_of_getElem? (i := 1002) (by decide +kernel)⟩
theorem lw_p50 : lw_okq (⟨"StraySheepModel", "sumBehind", "(II)I"⟩, 24) := ⟨⟨by decide +kernel, by decide +kernel⟩, List.mem_of_getElem? (i := 692) (by decide +kernel), List.mem_of_getElem? (i := 1005) (by decide +kernel), List.mem_of_getElem? (i := 1006) (by decide +kernel)⟩
theorem lw_p51 : lw_okq (⟨"StraySheepModel", "areNear", "(II)Z"⟩, 24) := ⟨⟨by decide +kernel, by decide +kernel⟩, List.mem_of_getElem? (i := 692) (by decide +kernel), List.mem_of_getElem? (i := 1025) (by decide +kernel), List.mem_of_getElem? (i := 1026) (by decide +kernel)⟩
theorem lw_p52 : lw_okq (⟨"StraySheepModel", "lacks", "(IZ)I"⟩, 24) := ⟨⟨by decide +kernel, by decide +kernel⟩, List.mem_of_getElem? (i := 692) (by decide +kernel), List.mem_of_getElem? (i := 1036) (by decide +kernel), List.mem_of_getElem? (i := 1037) (by decide +kernel)⟩
theorem lw_p53 : lw_okq (⟨"StraySheepModel", "valuesFor", "(IIII)I"⟩, 24) := ⟨⟨by decide +kernel, by decide +kernel⟩, List.mem_of_getElem? (i := 692) (by decide +kernel), List.mem_of_getElem? (i := 1044) (by decide +kernel), List.mem_of_getElem? (i := 1045) (by decide +kernel)⟩
theorem lw_p54 : lw_okq (⟨"StraySheepModel", "isToldWay", "(II)Z"⟩, 24) := ⟨⟨by decide +kernel, by decide +kernel⟩, List.mem_of_getElem? (i := 692) (by decide +kernel), List.mem_of_getElem? (i := 1048) (by decide +kernel), List.mem_of_getElem? (i := 1049) (by decide +kernel)⟩
theorem lw_p55 : lw_okq (⟨"StraySheepModel", "drawn", "()I"⟩, 24) := ⟨⟨by decide +kernel, by decide +kernel⟩, List.mem_of_getElem? (i := 692) (by decide +kernel), List.mem_of_getElem? (i := 1060) (by decide +kernel), List.mem_of_getElem? (i := 1061) (by decide +kernel)⟩
theorem lw_p56 : lw_okq (⟨"StraySheepModel", "token", "()V"⟩, 24) := ⟨⟨by decide +kernel, by decide +kernel⟩, List.mem_of_getElem? (i := 692) (by decide +kernel), List.mem_of_getElem? (i := 1085) (by decide +kernel), List.mem_of_getElem? (i := 1086) (by decide +kernel)⟩
theorem lw_p57 : lw_okq (⟨"StraySheepModel", "byteAt", "(I)I"⟩, 24) := ⟨⟨by decide +kernel, by decide +kernel⟩, List.mem_of_getElem? (i := 692) (by decide +kernel), List.mem_of_getElem? (i := 1089) (by decide +kernel), List.mem_of_getElem? (i := 1090) (by decide +kernel)⟩
theorem lw_p58 : lw_okq (⟨"StraySheepModel", "readItem", "()V"⟩, 24) := ⟨⟨by decide +kernel, by decide +kernel⟩, List.mem_of_getElem? (i := 692) (by decide +kernel), List.mem_of_getElem? (i := 1093) (by decide +kernel), List.mem_of_getElem? (i := 1094) (by decide +kernel)⟩
theorem lw_p59 : lw_okq (⟨"StraySheepModel", "isWord", "(Ljava/lang/String;)Z"⟩, 24) := ⟨⟨by decide +kernel, by decide +kernel⟩, List.mem_of_getElem? (i := 692) (by decide +kernel), List.mem_of_getElem? (i := 1097) (by decide +kernel), List.mem_of_getElem? (i := 1098) (by decide +kernel)⟩
theorem lw_p60 : lw_okq (⟨"StraySheepModel", "readSheep", "(I)V"⟩, 24) := ⟨⟨by decide +kernel, by decide +kernel⟩, List.mem_of_getElem? (i := 692) (by decide +kernel), List.mem_of_getElem? (i := 1103) (by decide +kernel), List.mem_of_getElem? (i := 1104) (by decide +kernel)⟩
theorem lw_p61 : lw_okq (⟨"StraySheepModel", "must", "(Z)V"⟩, 24) := ⟨⟨by decide +kernel, by decide +kernel⟩, List.mem_of_getElem? (i := 692) (by decide +kernel), List.mem_of_getElem? (i := 1107) (by decide +kernel), List.mem_of_getElem? (i := 1108) (by decide +kernel)⟩
theorem lw_p62 : lw_okq (⟨"StraySheepModel", "mayTell", "(Ljava/lang/String;II)I"⟩, 24) := ⟨⟨by decide +kernel, by decide +kernel⟩, List.mem_of_getElem? (i := 692) (by decide +kernel), List.mem_of_getElem? (i := 1112) (by decide +kernel), List.mem_of_getElem? (i := 1113) (by decide +kernel)⟩
theorem lw_p63 : lw_okq (⟨"StraySheepModel", "takesWord", "(Ljava/lang/String;)Z"⟩, 24) := ⟨⟨by decide +kernel, by decide +kernel⟩, List.mem_of_getElem? (i := 692) (by decide +kernel), List.mem_of_getElem? (i := 1116) (by decide +kernel), List.mem_of_getElem? (i := 1117) (by decide +kernel)⟩
def lw_privs_4 : List (MethodName × Nat) := [(⟨"StraySheepModel", "areHome", "()Z"⟩, 24), (⟨"StraySheepModel", "leastFor", "(III)I"⟩, 24), (⟨"StraySheepModel", "sumBehind", "(II)I"⟩, 24), (⟨"StraySheepModel", "areNear", "(II)Z"⟩, 24), (⟨"StraySheepModel", "lacks", "(IZ)I"⟩, 24), (⟨"StraySheepModel", "valuesFor", "(IIII)I"⟩, 24), (⟨"StraySheepModel", "isToldWay", "(II)Z"⟩, 24), (⟨"StraySheepModel", "drawn", "()I"⟩, 24), (⟨"StraySheepModel", "token", "()V"⟩, 24), (⟨"StraySheepModel", "byteAt", "(I)I"⟩, 24), (⟨"StraySheepModel", "readItem", "()V"⟩, 24), (⟨"StraySheepModel", "isWord", "(Ljava/lang/String;)Z"⟩, 24), (⟨"StraySheepModel", "readSheep", "(I)V"⟩, 24), (⟨"StraySheepModel", "must", "(Z)V"⟩, 24), (⟨"StraySheepModel", "mayTell", "(Ljava/lang/String;II)I"⟩, 24), (⟨"StraySheepModel", "takesWord", "(Ljava/lang/String;)Z"⟩, 24)]
theorem lw_r4 : ∀ q ∈ lw_privs_4, lw_okq q := List.forall_mem_cons.mpr ⟨lw_p48, List.forall_mem_cons.mpr ⟨lw_p49, List.forall_mem_cons.mpr ⟨lw_p50, List.forall_mem_cons.mpr ⟨lw_p51, List.forall_mem_cons.mpr ⟨lw_p52, List.forall_mem_cons.mpr ⟨lw_p53, List.forall_mem_cons.mpr ⟨lw_p54, List.forall_mem_cons.mpr ⟨lw_p55, List.forall_mem_cons.mpr ⟨lw_p56, List.forall_mem_cons.mpr ⟨lw_p57, List.forall_mem_cons.mpr ⟨lw_p58, List.forall_mem_cons.mpr ⟨lw_p59, List.forall_mem_cons.mpr ⟨lw_p60, List.forall_mem_cons.mpr ⟨lw_p61, List.forall_mem_cons.mpr ⟨lw_p62, List.forall_mem_cons.mpr ⟨lw_p63, fun _ h => absurd h List.not_mem_nil⟩⟩⟩⟩⟩⟩⟩⟩⟩⟩⟩⟩⟩⟩⟩⟩
theorem lw_p64 : lw_okq (⟨"StraySheepModel", "number", "(II)I"⟩, 24) := ⟨⟨by decide +kernel, by decide +kernel⟩, List.mem_of_getElem? (i := 692) (by decide +kernel), List.mem_of_getElem? (i := 1120) (by decide +kernel), List.mem_of_getElem? (i := 1121) (by decide +kernel)⟩
theorem lw_p65 : lw_okq (⟨"StraySheepModel", "addItem", "(IIII)V"⟩, 24) := ⟨⟨by decide +kernel, by decide +kernel⟩, List.mem_of_getElem? (i := 692) (by decide +kernel), List.mem_of_getElem? (i := 1126) (by decide +kernel), List.mem_of_getElem? (i := 1127) (by decide +kernel)⟩
theorem lw_p66 : lw_okq (⟨"StraySheepModel", "isToldSo", "(I)V"⟩, 24) := ⟨⟨by decide +kernel, by decide +kernel⟩, List.mem_of_getElem? (i := 692) (by decide +kernel), List.mem_of_getElem? (i := 1134) (by decide +kernel), List.mem_of_getElem? (i := 1135) (by decide +kernel)⟩
def lw_privs_5 : List (MethodName × Nat) := [(⟨"StraySheepModel", "number", "(II)I"⟩, 24), (⟨"StraySheepModel", "addItem", "(IIII)V"⟩, 24), (⟨"StraySheepModel", "isToldSo", "(I)V"⟩, 24)]
theorem lw_r5 : ∀ q ∈ lw_privs_5, lw_okq q := List.forall_mem_cons.mpr ⟨lw_p64, List.forall_mem_cons.mpr ⟨lw_p65, List.forall_mem_cons.mpr ⟨lw_p66, fun _ h => absurd h List.not_mem_nil⟩⟩⟩
def lw_privs : List (MethodName × Nat) := lw_privs_1 ++ (lw_privs_2 ++ (lw_privs_3 ++ (lw_privs_4 ++ (lw_privs_5))))
def lw_tbl : List Cond := k2_sels lw_privs ++ tables_1
theorem lw_privs_ok : ∀ q ∈ lw_privs, lw_okq q := by
  show ∀ q ∈ lw_privs_1 ++ (lw_privs_2 ++ (lw_privs_3 ++ (lw_privs_4 ++ (lw_privs_5)))), lw_okq q
  exact List.forall_mem_append.mpr ⟨lw_r1, List.forall_mem_append.mpr ⟨lw_r2, List.forall_mem_append.mpr ⟨lw_r3, List.forall_mem_append.mpr ⟨lw_r4, lw_r5⟩⟩⟩⟩
end
section
def R0 : String := "StraySheep"
def T0 : u_T := fun k => match k with
  | 0 => ("StraySheep", "live", "LStraySheep$Hill;", true)
  | 1 => ("StraySheep", "trial", "LStraySheep$Hill;", true)
  | 2 => ("StraySheep", "kept", "LStraySheep$Hill;", true)
  | 3 => ("StraySheep", "isKept", "Z", false)
  | 4 => ("StraySheep", "spots", "[I", true)
  | 5 => ("StraySheep", "keptSpots", "[I", true)
  | 6 => ("StraySheep", "z", "I", false)
  | 7 => ("StraySheep", "keptZ", "I", false)
  | 8 => ("StraySheep", "tape", "LStraySheep$Tape;", true)
  | 9 => ("StraySheep", "sheets", "[LStraySheep$Sheet;", true)
  | _ => ("StraySheep", "findings", "[I", true)
def ty0 : Nat → FieldType := fun k => match k with
  | 0 => .object "StraySheep$Hill"
  | 1 => .object "StraySheep$Hill"
  | 2 => .object "StraySheep$Hill"
  | 3 => .boolean
  | 4 => .array .int
  | 5 => .array .int
  | 6 => .int
  | 7 => .int
  | 8 => .object "StraySheep$Tape"
  | 9 => .array (.object "StraySheep$Sheet")
  | _ => .array .int
theorem nm0 : ∀ a, a < 11 → ∀ b, b < 11 → a ≠ b → (T0 a).2.1 ≠ (T0 b).2.1 := by decide +kernel
theorem ty0_ok : ∀ k, k < 11 → parseFieldDescriptor (T0 k).2.2.1 = some (ty0 k) := by decide +kernel
def R1 : String := "StraySheep$Hill"
def T1 : u_T := fun k => match k with
  | 0 => ("StraySheep$Hill", "fold", "I", false)
  | 1 => ("StraySheep$Hill", "keeper", "I", false)
  | 2 => ("StraySheep$Hill", "carried", "I", false)
  | 3 => ("StraySheep$Hill", "wolf", "I", false)
  | 4 => ("StraySheep$Hill", "pace", "I", false)
  | 5 => ("StraySheep$Hill", "hour", "I", false)
  | 6 => ("StraySheep$Hill", "size", "I", false)
  | 7 => ("StraySheep$Hill", "kind", "[I", true)
  | 8 => ("StraySheep$Hill", "cell", "[I", true)
  | 9 => ("StraySheep$Hill", "fear", "[I", true)
  | 10 => ("StraySheep$Hill", "lost", "[I", true)
  | _ => ("StraySheep$Hill", "found", "[I", true)
def ty1 : Nat → FieldType := fun k => match k with
  | 0 => .int
  | 1 => .int
  | 2 => .int
  | 3 => .int
  | 4 => .int
  | 5 => .int
  | 6 => .int
  | 7 => .array .int
  | 8 => .array .int
  | 9 => .array .int
  | 10 => .array .int
  | _ => .array .int
theorem nm1 : ∀ a, a < 12 → ∀ b, b < 12 → a ≠ b → (T1 a).2.1 ≠ (T1 b).2.1 := by decide +kernel
theorem ty1_ok : ∀ k, k < 12 → parseFieldDescriptor (T1 k).2.2.1 = some (ty1 k) := by decide +kernel
def R2 : String := "StraySheep$Sheet"
def T2 : u_T := fun k => match k with
  | 0 => ("StraySheep$Sheet", "bits", "I", false)
  | 1 => ("StraySheep$Sheet", "size", "I", false)
  | _ => ("StraySheep$Sheet", "numbers", "[I", true)
def ty2 : Nat → FieldType := fun k => match k with
  | 0 => .int
  | 1 => .int
  | _ => .array .int
theorem nm2 : ∀ a, a < 3 → ∀ b, b < 3 → a ≠ b → (T2 a).2.1 ≠ (T2 b).2.1 := by decide +kernel
theorem ty2_ok : ∀ k, k < 3 → parseFieldDescriptor (T2 k).2.2.1 = some (ty2 k) := by decide +kernel
def R3 : String := "StraySheep$Tape"
def T3 : u_T := fun k => match k with
  | 0 => ("StraySheep$Tape", "bytes", "[I", true)
  | 1 => ("StraySheep$Tape", "length", "I", false)
  | 2 => ("StraySheep$Tape", "place", "I", false)
  | 3 => ("StraySheep$Tape", "behind", "I", false)
  | _ => ("StraySheep$Tape", "token", "I", false)
def ty3 : Nat → FieldType := fun k => match k with
  | 0 => .array .int
  | 1 => .int
  | 2 => .int
  | 3 => .int
  | _ => .int
theorem nm3 : ∀ a, a < 5 → ∀ b, b < 5 → a ≠ b → (T3 a).2.1 ≠ (T3 b).2.1 := by decide +kernel
theorem ty3_ok : ∀ k, k < 5 → parseFieldDescriptor (T3 k).2.2.1 = some (ty3 k) := by decide +kernel
def R4 : String := "StraySheepModel"
def T4 : u_T := fun k => match k with
  | 0 => ("StraySheepModel", "now", "[I", true)
  | 1 => ("StraySheepModel", "kept", "[I", true)
  | 2 => ("StraySheepModel", "aside", "[I", true)
  | 3 => ("StraySheepModel", "isKept", "Z", false)
  | 4 => ("StraySheepModel", "found", "[I", true)
  | 5 => ("StraySheepModel", "tethered", "I", false)
  | 6 => ("StraySheepModel", "tape", "[I", true)
  | 7 => ("StraySheepModel", "taped", "I", false)
  | 8 => ("StraySheepModel", "begins", "I", false)
  | 9 => ("StraySheepModel", "ends", "I", false)
  | 10 => ("StraySheepModel", "sort", "I", false)
  | 11 => ("StraySheepModel", "value", "I", false)
  | 12 => ("StraySheepModel", "isWrong", "Z", false)
  | 13 => ("StraySheepModel", "kindNames", "[Ljava/lang/String;", true)
  | 14 => ("StraySheepModel", "itemWhat", "[I", true)
  | 15 => ("StraySheepModel", "itemA", "[I", true)
  | 16 => ("StraySheepModel", "itemB", "[I", true)
  | 17 => ("StraySheepModel", "itemC", "[I", true)
  | 18 => ("StraySheepModel", "itemMany", "I", false)
  | 19 => ("StraySheepModel", "sheepThen", "I", false)
  | 20 => ("StraySheepModel", "widths", "[I", true)
  | 21 => ("StraySheepModel", "sizes", "[I", true)
  | 22 => ("StraySheepModel", "numbers", "[I", true)
  | _ => ("StraySheepModel", "moved", "[I", true)
def ty4 : Nat → FieldType := fun k => match k with
  | 0 => .array .int
  | 1 => .array .int
  | 2 => .array .int
  | 3 => .boolean
  | 4 => .array .int
  | 5 => .int
  | 6 => .array .int
  | 7 => .int
  | 8 => .int
  | 9 => .int
  | 10 => .int
  | 11 => .int
  | 12 => .boolean
  | 13 => .array (.object "java/lang/String")
  | 14 => .array .int
  | 15 => .array .int
  | 16 => .array .int
  | 17 => .array .int
  | 18 => .int
  | 19 => .int
  | 20 => .array .int
  | 21 => .array .int
  | 22 => .array .int
  | _ => .array .int
theorem nm4 : ∀ a, a < 24 → ∀ b, b < 24 → a ≠ b → (T4 a).2.1 ≠ (T4 b).2.1 := by decide +kernel
theorem ty4_ok : ∀ k, k < 24 → parseFieldDescriptor (T4 k).2.2.1 = some (ty4 k) := by decide +kernel
abbrev cls : List vw_C := [(R0, T0, 11), (R1, T1, 12), (R2, T2, 3), (R3, T3, 5), (R4, T4, 24)]
def LT : List Cond := lw_tbl.filter goodWord
theorem LTm {w : Cond} (i : Nat) (h : lw_tbl[i]? = some w) (hg : goodWord w = true) : w ∈ LT := List.mem_filter.mpr ⟨List.mem_of_getElem? h, hg⟩
theorem LTsub {w : Cond} (h : w ∈ LT) : w ∈ lw_tbl := (List.mem_filter.mp h).1
theorem LTgood : GoodIn LT LT := fun _ hw => ⟨hw, good_of_word (List.mem_filter.mp hw).2⟩
theorem LTr (ws : List Cond) (ps : List Nat) (hp : ws = ps.filterMap (fun i => lw_tbl[i]?)) (h : ws.all goodWord = true) : ∀ w ∈ ws, w ∈ LT := by
  intro w hw
  have h1 := List.all_eq_true.mp h w hw
  rw [hp] at hw
  obtain ⟨i, -, hi⟩ := List.mem_filterMap.mp hw
  exact LTm i hi h1
theorem in0 : ∀ w ∈ u_ws R0 T0 11, w ∈ LT := LTr _ [204, 206, 208, 210, 212, 214, 216, 218, 220, 222, 224] (by decide +kernel) (by decide +kernel)
theorem in1 : ∀ w ∈ u_ws R1 T1 12, w ∈ LT := LTr _ [124, 126, 128, 130, 132, 134, 136, 138, 140, 142, 144, 146] (by decide +kernel) (by decide +kernel)
theorem in2 : ∀ w ∈ u_ws R2 T2 3, w ∈ LT := LTr _ [186, 188, 190] (by decide +kernel) (by decide +kernel)
theorem in3 : ∀ w ∈ u_ws R3 T3 5, w ∈ LT := LTr _ [162, 164, 166, 168, 170] (by decide +kernel) (by decide +kernel)
theorem in4 : ∀ w ∈ u_ws R4 T4 24, w ∈ LT := LTr _ [797, 799, 801, 803, 805, 807, 809, 811, 813, 815, 817, 819, 821, 823, 825, 827, 829, 831, 833, 835, 837, 839, 841, 843] (by decide +kernel) (by decide +kernel)
def fdef (ci : Nat) : List Nat := match ci with
  | 0 => [1, 7, 13, 0, 19, 20, 0, 0, 21, 23, 32]
  | 1 => [0, 0, 0, 0, 0, 0, 0, 1, 2, 3, 4, 5]
  | 2 => [0, 0, 1]
  | 3 => [1, 0, 0, 0, 0]
  | 4 => [1, 2, 3, 0, 4, 0, 5, 0, 0, 0, 0, 0, 0, 6, 7, 8, 9, 10, 0, 0, 11, 12, 13, 14]
  | _ => []
def objL : List (Option Nat) := [some 0, some 1, none, none, none, none, none, some 1, none, none, none, none, none, some 1, none, none, none, none, none, none, none, some 3, none, none, some 2, none, some 2, none, some 2, none, some 2, none, none, some 4, none, none, none, none, none, none, none, none, none, none, none, none, none, none]
def arrL : List (Option Nat) := [none, none, some 8, some 8, some 8, some 8, some 8, none, some 8, some 8, some 8, some 8, some 8, none, some 8, some 8, some 8, some 8, some 8, some 10, some 10, none, some 120, none, none, some 40, none, some 40, none, some 40, none, some 40, some 7, none, some 58, some 58, some 58, some 8, some 120, none, some 120, some 120, some 120, some 120, some 4, some 4, some 160, some 40]
abbrev MM : Type := MethodName × ByteArray × Nat × Option FieldType × Nat × Nat
def S_init : MM := (⟨"StraySheep", "<init>", "()V"⟩, prog_1_method_1_code, 2, none, 2, 40)
def H_init : MM := (⟨"StraySheep$Hill", "<init>", "()V"⟩, prog_2_method_1_code, 1, none, 1, 20)
def T_init : MM := (⟨"StraySheep$Tape", "<init>", "()V"⟩, prog_4_method_1_code, 1, none, 1, 20)
def E_init : MM := (⟨"StraySheep$Sheet", "<init>", "()V"⟩, prog_3_method_1_code, 1, none, 1, 20)
def S_set : MM := (⟨"StraySheep", "set", "(II)I"⟩, prog_1_method_2_code, 4, some .int, 3, 63)
def S_canBeSet : MM := (⟨"StraySheep", "canBeSet", "(II)Z"⟩, prog_1_method_47_code, 2, some .boolean, 2, 42)
def S_isCell : MM := (⟨"StraySheep", "isCell", "(I)Z"⟩, prog_1_method_43_code, 1, some .boolean, 1, 22)
def S_isWithin : MM := (⟨"StraySheep", "isWithin", "(III)Z"⟩, prog_1_method_42_code, 3, some .boolean, 0, 0)
def S_finding : MM := (⟨"StraySheep", "finding", "(I)I"⟩, prog_1_method_41_code, 2, some .int, 0, 0)
def H_feature : MM := (⟨"StraySheep$Hill", "feature", "(I)I"⟩, prog_2_method_7_code, 2, some .int, 0, 0)
def H_moveKeeper : MM := (⟨"StraySheep$Hill", "moveKeeper", "(I)V"⟩, prog_2_method_6_code, 2, none, 1, 21)
def H_has : MM := (⟨"StraySheep$Hill", "has", "(I)Z"⟩, prog_2_method_3_code, 2, some .boolean, 0, 0)
def S_hill : MM := (⟨"StraySheep", "hill", "(I)I"⟩, prog_1_method_3_code, 2, some .int, 1, 22)
def S_sheep : MM := (⟨"StraySheep", "sheep", "(II)I"⟩, prog_1_method_4_code, 3, some .int, 2, 43)
def S_isKind : MM := (⟨"StraySheep", "isKind", "(I)Z"⟩, prog_1_method_44_code, 1, some .boolean, 1, 22)
def H_isFull : MM := (⟨"StraySheep$Hill", "isFull", "()Z"⟩, prog_2_method_4_code, 1, some .boolean, 0, 0)
def H_add : MM := (⟨"StraySheep$Hill", "add", "(II)I"⟩, prog_2_method_5_code, 4, some .int, 1, 20)
def S_of : MM := (⟨"StraySheep", "of", "(II)I"⟩, prog_1_method_5_code, 3, some .int, 4, 87)
def H_trait : MM := (⟨"StraySheep$Hill", "trait", "(II)I"⟩, prog_2_method_8_code, 3, some .int, 3, 65)
def H_far : MM := (⟨"StraySheep$Hill", "far", "(I)I"⟩, prog_2_method_9_code, 2, some .int, 1, 21)
def S_distance : MM := (⟨"StraySheep", "distance", "(II)I"⟩, prog_1_method_61_code, 2, some .int, 0, 0)
def H_strays : MM := (⟨"StraySheep$Hill", "strays", "(I)I"⟩, prog_2_method_17_code, 2, some .int, 2, 44)
def H_straysAsRam : MM := (⟨"StraySheep$Hill", "straysAsRam", "(I)I"⟩, prog_2_method_19_code, 2, some .int, 1, 20)
def H_straysAsSheep : MM := (⟨"StraySheep$Hill", "straysAsSheep", "()I"⟩, prog_2_method_18_code, 1, some .int, 0, 0)
def H_straysAsEwe : MM := (⟨"StraySheep$Hill", "straysAsEwe", "(I)I"⟩, prog_2_method_20_code, 2, some .int, 1, 20)
def H_hasCompany : MM := (⟨"StraySheep$Hill", "hasCompany", "(I)Z"⟩, prog_2_method_21_code, 2, some .boolean, 1, 23)
def H_sheepAt : MM := (⟨"StraySheep$Hill", "sheepAt", "(I)I"⟩, prog_2_method_11_code, 4, some .int, 0, 0)
def S_fearsOf : MM := (⟨"StraySheep", "fearsOf", "(I)I"⟩, prog_1_method_58_code, 1, some .int, 0, 0)
def S_calmsOf : MM := (⟨"StraySheep", "calmsOf", "(I)I"⟩, prog_1_method_59_code, 1, some .int, 0, 0)
def S_lightOf : MM := (⟨"StraySheep", "lightOf", "(I)I"⟩, prog_1_method_60_code, 1, some .int, 0, 0)
def S_change : MM := (⟨"StraySheep", "change", "(III)I"⟩, prog_1_method_6_code, 5, some .int, 4, 87)
def S_canBeChanged : MM := (⟨"StraySheep", "canBeChanged", "(II)Z"⟩, prog_1_method_48_code, 2, some .boolean, 2, 42)
def S_drop : MM := (⟨"StraySheep", "drop", "()I"⟩, prog_1_method_7_code, 2, some .int, 1, 21)
def S_who : MM := (⟨"StraySheep", "who", "(I)I"⟩, prog_1_method_8_code, 2, some .int, 2, 42)
def S_go : MM := (⟨"StraySheep", "go", "(I)I"⟩, prog_1_method_9_code, 2, some .int, 7, 149)
def H_passHours : MM := (⟨"StraySheep$Hill", "passHours", "(I)V"⟩, prog_2_method_22_code, 3, none, 6, 127)
def H_passHour : MM := (⟨"StraySheep$Hill", "passHour", "(I)V"⟩, prog_2_method_23_code, 2, none, 5, 106)
def H_strayAll : MM := (⟨"StraySheep$Hill", "strayAll", "(I)V"⟩, prog_2_method_24_code, 3, none, 3, 66)
def H_strayedFrom : MM := (⟨"StraySheep$Hill", "strayedFrom", "(II)I"⟩, prog_2_method_25_code, 4, some .int, 2, 43)
def S_towards : MM := (⟨"StraySheep", "towards", "(III)I"⟩, prog_1_method_62_code, 3, some .int, 1, 21)
def JM_min : MM := (⟨"java/lang/Math", "min", "(II)I"⟩, prog_8_method_69_code, 2, some .int, 0, 0)
def JM_max : MM := (⟨"java/lang/Math", "max", "(II)I"⟩, prog_8_method_65_code, 2, some .int, 0, 0)
def H_prowl : MM := (⟨"StraySheep$Hill", "prowl", "()V"⟩, prog_2_method_26_code, 2, none, 2, 44)
def H_nearestToWolf : MM := (⟨"StraySheep$Hill", "nearestToWolf", "()I"⟩, prog_2_method_27_code, 4, some .int, 1, 21)
def H_frighten : MM := (⟨"StraySheep$Hill", "frighten", "()V"⟩, prog_2_method_28_code, 2, none, 1, 21)
def H_tend : MM := (⟨"StraySheep$Hill", "tend", "()V"⟩, prog_2_method_29_code, 1, none, 4, 86)
def H_carryHome : MM := (⟨"StraySheep$Hill", "carryHome", "()V"⟩, prog_2_method_30_code, 2, none, 2, 43)
def H_seek : MM := (⟨"StraySheep$Hill", "seek", "()V"⟩, prog_2_method_31_code, 2, none, 3, 65)
def H_sought : MM := (⟨"StraySheep$Hill", "sought", "()I"⟩, prog_2_method_14_code, 4, some .int, 2, 42)
def H_settle : MM := (⟨"StraySheep$Hill", "settle", "()V"⟩, prog_2_method_32_code, 2, none, 1, 21)
def H_total : MM := (⟨"StraySheep$Hill", "total", "([I)I"⟩, prog_2_method_10_code, 4, some .int, 0, 0)
def S_now : MM := (⟨"StraySheep", "now", "(I)I"⟩, prog_1_method_10_code, 2, some .int, 3, 65)
def H_farSheep : MM := (⟨"StraySheep$Hill", "farSheep", "()I"⟩, prog_2_method_12_code, 3, some .int, 2, 42)
def H_mostAfraid : MM := (⟨"StraySheep$Hill", "mostAfraid", "()I"⟩, prog_2_method_15_code, 4, some .int, 0, 0)
def S_ahead : MM := (⟨"StraySheep", "ahead", "(III)I"⟩, prog_1_method_11_code, 4, some .int, 7, 149)
def H_become : MM := (⟨"StraySheep$Hill", "become", "(LStraySheep$Hill;)V"⟩, prog_2_method_2_code, 2, none, 1, 30)
def S_later : MM := (⟨"StraySheep", "later", "(II)I"⟩, prog_1_method_12_code, 3, some .int, 7, 149)
def S_when : MM := (⟨"StraySheep", "when", "(II)I"⟩, prog_1_method_13_code, 3, some .int, 8, 173)
def S_firstHourOfAtLeast : MM := (⟨"StraySheep", "firstHourOfAtLeast", "([III)I"⟩, prog_1_method_49_code, 5, some .int, 7, 149)
def S_home : MM := (⟨"StraySheep", "home", "()I"⟩, prog_1_method_14_code, 2, some .int, 7, 149)
def H_allAtFold : MM := (⟨"StraySheep$Hill", "allAtFold", "()Z"⟩, prog_2_method_13_code, 1, some .boolean, 1, 23)
def S_panic : MM := (⟨"StraySheep", "panic", "(II)I"⟩, prog_1_method_15_code, 3, some .int, 8, 173)
def S_standFor : MM := (⟨"StraySheep", "standFor", "(I)I"⟩, prog_1_method_16_code, 6, some .int, 7, 149)
def S_foldFor : MM := (⟨"StraySheep", "foldFor", "(I)I"⟩, prog_1_method_17_code, 6, some .int, 7, 149)
def S_kindFor : MM := (⟨"StraySheep", "kindFor", "(II)I"⟩, prog_1_method_18_code, 6, some .int, 7, 149)
def S_paceFor : MM := (⟨"StraySheep", "paceFor", "(II)I"⟩, prog_1_method_19_code, 4, some .int, 7, 149)
def S_tether : MM := (⟨"StraySheep", "tether", "(I)I"⟩, prog_1_method_20_code, 6, some .int, 7, 150)
def JI_bitCount : MM := (⟨"java/lang/Integer", "bitCount", "(I)I"⟩, prog_7_method_49_code, 1, some .int, 0, 0)
def S_keepsNear : MM := (⟨"StraySheep", "keepsNear", "(II)Z"⟩, prog_1_method_50_code, 4, some .boolean, 6, 127)
def S_fits : MM := (⟨"StraySheep", "fits", "(II)I"⟩, prog_1_method_21_code, 5, some .int, 8, 171)
def S_isSheet : MM := (⟨"StraySheep", "isSheet", "(I)Z"⟩, prog_1_method_46_code, 1, some .boolean, 1, 22)
def E_isMissing : MM := (⟨"StraySheep$Sheet", "isMissing", "()Z"⟩, prog_3_method_2_code, 1, some .boolean, 0, 0)
def S_keeperGoesAsTold : MM := (⟨"StraySheep", "keeperGoesAsTold", "(LStraySheep$Sheet;)Z"⟩, prog_1_method_51_code, 3, some .boolean, 7, 149)
def E_allows : MM := (⟨"StraySheep$Sheet", "allows", "(II)Z"⟩, prog_3_method_6_code, 3, some .boolean, 0, 0)
def S_kinds : MM := (⟨"StraySheep", "kinds", "(II)I"⟩, prog_1_method_22_code, 5, some .int, 8, 172)
def S_sheepGoesAsTold : MM := (⟨"StraySheep", "sheepGoesAsTold", "(LStraySheep$Sheet;I)Z"⟩, prog_1_method_52_code, 4, some .boolean, 7, 149)
def S_nights : MM := (⟨"StraySheep", "nights", "(I)I"⟩, prog_1_method_23_code, 3, some .int, 7, 149)
def S_draw : MM := (⟨"StraySheep", "draw", "()I"⟩, prog_1_method_53_code, 1, some .int, 0, 0)
def S_odds : MM := (⟨"StraySheep", "odds", "(III)J"⟩, prog_1_method_24_code, 7, some .long, 2, 44)
def H_cellsOutOfReachOf : MM := (⟨"StraySheep$Hill", "cellsOutOfReachOf", "(I)I"⟩, prog_2_method_16_code, 4, some .int, 1, 21)
def S_power : MM := (⟨"StraySheep", "power", "(II)J"⟩, prog_1_method_54_code, 5, some .long, 0, 0)
def S_seed : MM := (⟨"StraySheep", "seed", "(I)I"⟩, prog_1_method_25_code, 3, some .int, 0, 0)
def S_feed : MM := (⟨"StraySheep", "feed", "(II)I"⟩, prog_1_method_26_code, 4, some .int, 2, 42)
def T_hasRoomFor : MM := (⟨"StraySheep$Tape", "hasRoomFor", "(I)Z"⟩, prog_4_method_2_code, 2, some .boolean, 0, 0)
def T_append : MM := (⟨"StraySheep$Tape", "append", "(I)V"⟩, prog_4_method_3_code, 2, none, 1, 21)
def S_wipe : MM := (⟨"StraySheep", "wipe", "()I"⟩, prog_1_method_27_code, 2, some .int, 0, 0)
def S_text : MM := (⟨"StraySheep", "text", "()I"⟩, prog_1_method_28_code, 2, some .int, 9, 196)
def T_readOnto : MM := (⟨"StraySheep$Tape", "readOnto", "(LStraySheep$Hill;)I"⟩, prog_4_method_4_code, 3, some .int, 8, 174)
def T_nextToken : MM := (⟨"StraySheep$Tape", "nextToken", "()V"⟩, prog_4_method_15_code, 1, none, 1, 22)
def T_tokenAt : MM := (⟨"StraySheep$Tape", "tokenAt", "(I)I"⟩, prog_4_method_17_code, 3, some .int, 0, 0)
def T_isLong : MM := (⟨"StraySheep$Tape", "isLong", "(I)Z"⟩, prog_4_method_16_code, 1, some .boolean, 0, 0)
def T_readItem : MM := (⟨"StraySheep$Tape", "readItem", "(LStraySheep$Hill;)Z"⟩, prog_4_method_5_code, 3, some .boolean, 7, 152)
def T_kindOfWord : MM := (⟨"StraySheep$Tape", "kindOfWord", "()I"⟩, prog_4_method_10_code, 2, some .int, 5, 107)
def T_nameOf : MM := (⟨"StraySheep$Tape", "nameOf", "(I)Ljava/lang/String;"⟩, prog_4_method_11_code, 1, some (.object "java/lang/String"), 0, 0)
def T_isWord : MM := (⟨"StraySheep$Tape", "isWord", "(Ljava/lang/String;)Z"⟩, prog_4_method_12_code, 3, some .boolean, 4, 85)
def JS_length : MM := (⟨"java/lang/String", "length", "()I"⟩, prog_9_method_54_code, 1, some .int, 1, 20)
def JS_coder : MM := (⟨"java/lang/String", "coder", "()B"⟩, prog_9_method_152_code, 1, some .byte, 0, 0)
def JS_charAt : MM := (⟨"java/lang/String", "charAt", "(I)C"⟩, prog_9_method_56_code, 2, some .char, 3, 64)
def JS_isLatin1 : MM := (⟨"java/lang/String", "isLatin1", "()Z"⟩, prog_9_method_154_code, 1, some .boolean, 0, 0)
def JL_charAt : MM := (⟨"java/lang/StringLatin1", "charAt", "([BI)C"⟩, prog_10_method_2_code, 2, some .char, 2, 43)
def JS_checkIndex : MM := (⟨"java/lang/String", "checkIndex", "(II)V"⟩, prog_9_method_155_code, 2, none, 1, 22)
def JP_checkIndex : MM := (⟨"jdk/internal/util/Preconditions", "checkIndex", "(IILjava/util/function/BiFunction;)I"⟩, prog_13_method_11_code, 3, some .int, 0, 0)
def T_readSheep : MM := (⟨"StraySheep$Tape", "readSheep", "(LStraySheep$Hill;I)Z"⟩, prog_4_method_6_code, 5, some .boolean, 6, 128)
def T_skipWord : MM := (⟨"StraySheep$Tape", "skipWord", "(Ljava/lang/String;)Z"⟩, prog_4_method_13_code, 2, some .boolean, 5, 107)
def T_takeNumber : MM := (⟨"StraySheep$Tape", "takeNumber", "(I)I"⟩, prog_4_method_14_code, 4, some .int, 2, 42)
def T_readFold : MM := (⟨"StraySheep$Tape", "readFold", "(LStraySheep$Hill;)Z"⟩, prog_4_method_7_code, 3, some .boolean, 3, 65)
def T_readKeeper : MM := (⟨"StraySheep$Tape", "readKeeper", "(LStraySheep$Hill;)Z"⟩, prog_4_method_8_code, 3, some .boolean, 3, 65)
def T_readWolf : MM := (⟨"StraySheep$Tape", "readWolf", "(LStraySheep$Hill;)Z"⟩, prog_4_method_9_code, 4, some .boolean, 6, 128)
def S_hold : MM := (⟨"StraySheep", "hold", "(II)I"⟩, prog_1_method_29_code, 3, some .int, 2, 42)
def S_isSpot : MM := (⟨"StraySheep", "isSpot", "(I)Z"⟩, prog_1_method_45_code, 1, some .boolean, 1, 22)
def S_as : MM := (⟨"StraySheep", "as", "(II)I"⟩, prog_1_method_30_code, 4, some .int, 2, 43)
def S_isUnder : MM := (⟨"StraySheep", "isUnder", "(II)Z"⟩, prog_1_method_56_code, 4, some .boolean, 1, 20)
def S_kindAbove : MM := (⟨"StraySheep", "kindAbove", "(I)I"⟩, prog_1_method_57_code, 1, some .int, 0, 0)
def S_sheet : MM := (⟨"StraySheep", "sheet", "(III)I"⟩, prog_1_method_31_code, 4, some .int, 2, 42)
def E_begin : MM := (⟨"StraySheep$Sheet", "begin", "(II)V"⟩, prog_3_method_3_code, 4, none, 0, 0)
def S_write : MM := (⟨"StraySheep", "write", "(III)I"⟩, prog_1_method_32_code, 4, some .int, 2, 42)
def E_put : MM := (⟨"StraySheep$Sheet", "put", "(II)V"⟩, prog_3_method_4_code, 3, none, 0, 0)
def S_copy : MM := (⟨"StraySheep", "copy", "(IIIII)I"⟩, prog_1_method_33_code, 6, some .int, 2, 42)
def E_hasRun : MM := (⟨"StraySheep$Sheet", "hasRun", "(II)Z"⟩, prog_3_method_5_code, 3, some .boolean, 0, 0)
def S_load : MM := (⟨"StraySheep", "load", "(I)I"⟩, prog_1_method_34_code, 3, some .int, 2, 42)
def S_judge : MM := (⟨"StraySheep", "judge", "(I)I"⟩, prog_1_method_35_code, 3, some .int, 2, 42)
def S_image : MM := (⟨"StraySheep", "image", "()I"⟩, prog_1_method_36_code, 1, some .int, 2, 51)
def S_undo : MM := (⟨"StraySheep", "undo", "()I"⟩, prog_1_method_37_code, 1, some .int, 2, 51)
def S_tear : MM := (⟨"StraySheep", "tear", "()I"⟩, prog_1_method_38_code, 2, some .int, 0, 0)
def S_count : MM := (⟨"StraySheep", "count", "(I)I"⟩, prog_1_method_39_code, 2, some .int, 1, 23)
def S_spotsInUse : MM := (⟨"StraySheep", "spotsInUse", "()I"⟩, prog_1_method_55_code, 3, some .int, 0, 0)
def S_status : MM := (⟨"StraySheep", "status", "(I)I"⟩, prog_1_method_40_code, 4, some .int, 1, 22)
def Q_init : MM := (⟨"StraySheepModel", "<init>", "()V"⟩, prog_6_method_1_code, 2, none, 1, 20)
def Q_set : MM := (⟨"StraySheepModel", "set", "(II)I"⟩, prog_6_method_16_code, 4, some .int, 3, 64)
def Q_within : MM := (⟨"StraySheepModel", "within", "(III)Z"⟩, prog_6_method_3_code, 3, some .boolean, 0, 0)
def Q_isCell : MM := (⟨"StraySheepModel", "isCell", "(I)Z"⟩, prog_6_method_10_code, 1, some .boolean, 1, 22)
def Q_finding : MM := (⟨"StraySheepModel", "finding", "(I)I"⟩, prog_6_method_2_code, 2, some .int, 0, 0)
def Q_keeperTo : MM := (⟨"StraySheepModel", "keeperTo", "(I)I"⟩, prog_6_method_15_code, 3, some .int, 2, 42)
def Q_keeperAt : MM := (⟨"StraySheepModel", "keeperAt", "(I)V"⟩, prog_6_method_14_code, 2, none, 1, 21)
def Q_sheepAt : MM := (⟨"StraySheepModel", "sheepAt", "(II)I"⟩, prog_6_method_11_code, 2, some .int, 0, 0)
def Q_become : MM := (⟨"StraySheepModel", "become", "(II)I"⟩, prog_6_method_4_code, 4, some .int, 0, 0)
def Q_hill : MM := (⟨"StraySheepModel", "hill", "(I)I"⟩, prog_6_method_17_code, 2, some .int, 1, 22)
def Q_sheep : MM := (⟨"StraySheepModel", "sheep", "(II)I"⟩, prog_6_method_20_code, 3, some .int, 2, 45)
def Q_isKind : MM := (⟨"StraySheepModel", "isKind", "(I)Z"⟩, prog_6_method_18_code, 1, some .boolean, 1, 22)
def Q_comes : MM := (⟨"StraySheepModel", "comes", "(II)I"⟩, prog_6_method_19_code, 5, some .int, 1, 21)
def Q_of : MM := (⟨"StraySheepModel", "of", "(II)I"⟩, prog_6_method_27_code, 3, some .int, 4, 90)
def Q_isSheep : MM := (⟨"StraySheepModel", "isSheep", "(I)Z"⟩, prog_6_method_13_code, 2, some .boolean, 1, 22)
def Q_far : MM := (⟨"StraySheepModel", "far", "(I)I"⟩, prog_6_method_21_code, 2, some .int, 2, 43)
def Q_sheepIs : MM := (⟨"StraySheepModel", "sheepIs", "(II)I"⟩, prog_6_method_12_code, 3, some .int, 1, 21)
def JM_abs : MM := (⟨"java/lang/Math", "abs", "(I)I"⟩, prog_8_method_59_code, 1, some .int, 0, 0)
def Q_strays : MM := (⟨"StraySheepModel", "strays", "(I)I"⟩, prog_6_method_23_code, 5, some .int, 3, 66)
def Q_isAlone : MM := (⟨"StraySheepModel", "isAlone", "(I)Z"⟩, prog_6_method_22_code, 4, some .boolean, 2, 43)
def Q_fears : MM := (⟨"StraySheepModel", "fears", "(I)I"⟩, prog_6_method_24_code, 2, some .int, 2, 43)
def Q_calms : MM := (⟨"StraySheepModel", "calms", "(I)I"⟩, prog_6_method_25_code, 2, some .int, 2, 43)
def Q_light : MM := (⟨"StraySheepModel", "light", "(I)I"⟩, prog_6_method_26_code, 2, some .int, 2, 43)
def Q_change : MM := (⟨"StraySheepModel", "change", "(III)I"⟩, prog_6_method_29_code, 4, some .int, 3, 63)
def Q_isField : MM := (⟨"StraySheepModel", "isField", "(II)Z"⟩, prog_6_method_28_code, 2, some .boolean, 2, 42)
def Q_drop : MM := (⟨"StraySheepModel", "drop", "()I"⟩, prog_6_method_30_code, 2, some .int, 2, 42)
def Q_orNone : MM := (⟨"StraySheepModel", "orNone", "(I)I"⟩, prog_6_method_7_code, 2, some .int, 1, 21)
def Q_who : MM := (⟨"StraySheepModel", "who", "(I)I"⟩, prog_6_method_32_code, 2, some .int, 3, 66)
def Q_setAt : MM := (⟨"StraySheepModel", "setAt", "(I)I"⟩, prog_6_method_31_code, 4, some .int, 2, 43)
def Q_go : MM := (⟨"StraySheepModel", "go", "(I)I"⟩, prog_6_method_44_code, 2, some .int, 7, 156)
def Q_hoursGo : MM := (⟨"StraySheepModel", "hoursGo", "(I)V"⟩, prog_6_method_42_code, 3, none, 6, 134)
def Q_hour : MM := (⟨"StraySheepModel", "hour", "()V"⟩, prog_6_method_41_code, 2, none, 5, 113)
def Q_sheepGo : MM := (⟨"StraySheepModel", "sheepGo", "()V"⟩, prog_6_method_35_code, 4, none, 4, 90)
def Q_hasBit : MM := (⟨"StraySheepModel", "hasBit", "(II)Z"⟩, prog_6_method_9_code, 2, some .boolean, 0, 0)
def Q_towards : MM := (⟨"StraySheepModel", "towards", "(III)I"⟩, prog_6_method_33_code, 3, some .int, 1, 21)
def Q_awayFrom : MM := (⟨"StraySheepModel", "awayFrom", "(II)I"⟩, prog_6_method_34_code, 4, some .int, 1, 21)
def Q_wolfGoes : MM := (⟨"StraySheepModel", "wolfGoes", "()V"⟩, prog_6_method_37_code, 5, none, 3, 67)
def Q_nearest : MM := (⟨"StraySheepModel", "nearest", "()I"⟩, prog_6_method_36_code, 5, some .int, 2, 43)
def Q_carries : MM := (⟨"StraySheepModel", "carries", "()V"⟩, prog_6_method_39_code, 2, none, 3, 64)
def Q_seeks : MM := (⟨"StraySheepModel", "seeks", "()V"⟩, prog_6_method_40_code, 2, none, 4, 87)
def Q_sought : MM := (⟨"StraySheepModel", "sought", "()I"⟩, prog_6_method_38_code, 4, some .int, 3, 64)
def Q_sumOf : MM := (⟨"StraySheepModel", "sumOf", "(I)I"⟩, prog_6_method_43_code, 4, some .int, 2, 43)
def Q_now : MM := (⟨"StraySheepModel", "now", "(I)I"⟩, prog_6_method_47_code, 2, some .int, 4, 87)
def Q_lostSet : MM := (⟨"StraySheepModel", "lostSet", "()I"⟩, prog_6_method_45_code, 3, some .int, 3, 64)
def Q_mostAfraid : MM := (⟨"StraySheepModel", "mostAfraid", "()I"⟩, prog_6_method_46_code, 4, some .int, 2, 43)
def Q_ahead : MM := (⟨"StraySheepModel", "ahead", "(III)I"⟩, prog_6_method_50_code, 4, some .int, 8, 178)
def Q_behind : MM := (⟨"StraySheepModel", "behind", "(II)I"⟩, prog_6_method_48_code, 3, some .int, 7, 156)
def Q_copyRow : MM := (⟨"StraySheepModel", "copyRow", "([I[I)V"⟩, prog_6_method_5_code, 3, none, 0, 0)
def Q_putBack : MM := (⟨"StraySheepModel", "putBack", "(I)I"⟩, prog_6_method_6_code, 2, some .int, 1, 22)
def Q_later : MM := (⟨"StraySheepModel", "later", "(II)I"⟩, prog_6_method_51_code, 4, some .int, 8, 178)
def Q_when : MM := (⟨"StraySheepModel", "when", "(II)I"⟩, prog_6_method_53_code, 3, some .int, 7, 158)
def Q_whenIs : MM := (⟨"StraySheepModel", "whenIs", "(III)I"⟩, prog_6_method_52_code, 5, some .int, 6, 134)
def Q_home : MM := (⟨"StraySheepModel", "home", "()I"⟩, prog_6_method_55_code, 2, some .int, 6, 134)
def Q_areHome : MM := (⟨"StraySheepModel", "areHome", "()Z"⟩, prog_6_method_54_code, 1, some .boolean, 3, 66)
def Q_panic : MM := (⟨"StraySheepModel", "panic", "(II)I"⟩, prog_6_method_56_code, 3, some .int, 7, 158)
def Q_standFor : MM := (⟨"StraySheepModel", "standFor", "(I)I"⟩, prog_6_method_59_code, 2, some .int, 9, 206)
def Q_isThought : MM := (⟨"StraySheepModel", "isThought", "(I)Z"⟩, prog_6_method_57_code, 1, some .boolean, 1, 22)
def Q_leastFor : MM := (⟨"StraySheepModel", "leastFor", "(III)I"⟩, prog_6_method_58_code, 9, some .int, 8, 178)
def Q_sumBehind : MM := (⟨"StraySheepModel", "sumBehind", "(II)I"⟩, prog_6_method_49_code, 3, some .int, 7, 156)
def Q_foldFor : MM := (⟨"StraySheepModel", "foldFor", "(I)I"⟩, prog_6_method_60_code, 2, some .int, 9, 206)
def Q_kindFor : MM := (⟨"StraySheepModel", "kindFor", "(II)I"⟩, prog_6_method_61_code, 9, some .int, 8, 178)
def Q_paceFor : MM := (⟨"StraySheepModel", "paceFor", "(II)I"⟩, prog_6_method_62_code, 6, some .int, 8, 178)
def Q_tether : MM := (⟨"StraySheepModel", "tether", "(I)I"⟩, prog_6_method_64_code, 4, some .int, 8, 179)
def Q_areNear : MM := (⟨"StraySheepModel", "areNear", "(II)Z"⟩, prog_6_method_63_code, 4, some .boolean, 7, 156)
def Q_bits : MM := (⟨"StraySheepModel", "bits", "(I)I"⟩, prog_6_method_8_code, 3, some .int, 0, 0)
def Q_fits : MM := (⟨"StraySheepModel", "fits", "(II)I"⟩, prog_6_method_68_code, 4, some .int, 8, 186)
def Q_lacks : MM := (⟨"StraySheepModel", "lacks", "(IZ)I"⟩, prog_6_method_65_code, 3, some .int, 2, 42)
def Q_isSheet : MM := (⟨"StraySheepModel", "isSheet", "(I)Z"⟩, prog_6_method_91_code, 1, some .boolean, 1, 22)
def Q_valuesFor : MM := (⟨"StraySheepModel", "valuesFor", "(IIII)I"⟩, prog_6_method_67_code, 8, some .int, 7, 159)
def Q_isToldWay : MM := (⟨"StraySheepModel", "isToldWay", "(II)Z"⟩, prog_6_method_66_code, 6, some .boolean, 6, 134)
def Q_kinds : MM := (⟨"StraySheepModel", "kinds", "(II)I"⟩, prog_6_method_69_code, 4, some .int, 8, 186)
def Q_nights : MM := (⟨"StraySheepModel", "nights", "(I)I"⟩, prog_6_method_71_code, 3, some .int, 6, 134)
def Q_drawn : MM := (⟨"StraySheepModel", "drawn", "()I"⟩, prog_6_method_70_code, 1, some .int, 0, 0)
def Q_odds : MM := (⟨"StraySheepModel", "odds", "(III)J"⟩, prog_6_method_72_code, 10, some .long, 2, 43)
def Q_seed : MM := (⟨"StraySheepModel", "seed", "(I)I"⟩, prog_6_method_73_code, 2, some .int, 1, 23)
def Q_feed : MM := (⟨"StraySheepModel", "feed", "(II)I"⟩, prog_6_method_74_code, 4, some .int, 1, 22)
def Q_wipe : MM := (⟨"StraySheepModel", "wipe", "()I"⟩, prog_6_method_75_code, 2, some .int, 0, 0)
def Q_text : MM := (⟨"StraySheepModel", "text", "()I"⟩, prog_6_method_87_code, 2, some .int, 9, 198)
def Q_token : MM := (⟨"StraySheepModel", "token", "()V"⟩, prog_6_method_77_code, 2, none, 1, 22)
def Q_byteAt : MM := (⟨"StraySheepModel", "byteAt", "(I)I"⟩, prog_6_method_76_code, 2, some .int, 0, 0)
def Q_readItem : MM := (⟨"StraySheepModel", "readItem", "()V"⟩, prog_6_method_85_code, 3, none, 8, 176)
def Q_isWord : MM := (⟨"StraySheepModel", "isWord", "(Ljava/lang/String;)Z"⟩, prog_6_method_78_code, 4, some .boolean, 4, 85)
def Q_readSheep : MM := (⟨"StraySheepModel", "readSheep", "(I)V"⟩, prog_6_method_84_code, 4, none, 7, 153)
def Q_must : MM := (⟨"StraySheepModel", "must", "(Z)V"⟩, prog_6_method_79_code, 2, none, 2, 43)
def Q_mayTell : MM := (⟨"StraySheepModel", "mayTell", "(Ljava/lang/String;II)I"⟩, prog_6_method_83_code, 4, some .int, 6, 130)
def Q_takesWord : MM := (⟨"StraySheepModel", "takesWord", "(Ljava/lang/String;)Z"⟩, prog_6_method_82_code, 3, some .boolean, 5, 108)
def Q_number : MM := (⟨"StraySheepModel", "number", "(II)I"⟩, prog_6_method_80_code, 4, some .int, 3, 64)
def Q_addItem : MM := (⟨"StraySheepModel", "addItem", "(IIII)V"⟩, prog_6_method_81_code, 5, none, 0, 0)
def Q_isToldSo : MM := (⟨"StraySheepModel", "isToldSo", "(I)V"⟩, prog_6_method_86_code, 5, none, 2, 45)
def Q_hold : MM := (⟨"StraySheepModel", "hold", "(II)I"⟩, prog_6_method_89_code, 3, some .int, 2, 43)
def Q_isSpot : MM := (⟨"StraySheepModel", "isSpot", "(I)Z"⟩, prog_6_method_88_code, 1, some .boolean, 1, 22)
def Q_as : MM := (⟨"StraySheepModel", "as", "(II)I"⟩, prog_6_method_90_code, 4, some .int, 2, 43)
def Q_isUnder : MM := (⟨"StraySheepModel", "isUnder", "(II)Z"⟩, prog_6_method_97_code, 3, some .boolean, 1, 20)
def Q_above : MM := (⟨"StraySheepModel", "above", "(I)I"⟩, prog_6_method_96_code, 1, some .int, 0, 0)
def Q_sheet : MM := (⟨"StraySheepModel", "sheet", "(III)I"⟩, prog_6_method_93_code, 5, some .int, 2, 42)
def Q_write : MM := (⟨"StraySheepModel", "write", "(III)I"⟩, prog_6_method_94_code, 4, some .int, 2, 42)
def Q_cutTo : MM := (⟨"StraySheepModel", "cutTo", "(II)I"⟩, prog_6_method_92_code, 2, some .int, 0, 0)
def Q_copy : MM := (⟨"StraySheepModel", "copy", "(IIIII)I"⟩, prog_6_method_95_code, 7, some .int, 2, 42)
def Q_load : MM := (⟨"StraySheepModel", "load", "(I)I"⟩, prog_6_method_98_code, 3, some .int, 3, 64)
def Q_judge : MM := (⟨"StraySheepModel", "judge", "(I)I"⟩, prog_6_method_99_code, 3, some .int, 3, 64)
def Q_image : MM := (⟨"StraySheepModel", "image", "()I"⟩, prog_6_method_100_code, 1, some .int, 1, 22)
def Q_undo : MM := (⟨"StraySheepModel", "undo", "()I"⟩, prog_6_method_101_code, 1, some .int, 1, 22)
def Q_tear : MM := (⟨"StraySheepModel", "tear", "()I"⟩, prog_6_method_102_code, 2, some .int, 0, 0)
def Q_count : MM := (⟨"StraySheepModel", "count", "(I)I"⟩, prog_6_method_103_code, 4, some .int, 3, 66)
def Q_status : MM := (⟨"StraySheepModel", "status", "(I)I"⟩, prog_6_method_104_code, 2, some .int, 1, 22)
end
section
/-! THE WORLD: 48 cells at addresses g.1 0 .. g.1 47; what changes in them is Wd: cell, place -> int -/
abbrev Wd : Type := Nat → Nat → Int32
abbrev GG : Type := (Nat → Nat) × va_G × (ClassId × ClassId × ClassId) × (Nat → Nat) × (Nat → Nat)
def up (w : Wd) (k j : Nat) (v : Int32) : Wd := fun k' => if k' = k then upd (w k) j v else w k'
theorem up_same (w : Wd) (k j : Nat) (v : Int32) : up w k j v k = upd (w k) j v := if_pos rfl
theorem up_other (w : Wd) (k j : Nat) (v : Int32) {k' : Nat} (h : k' ≠ k) : up w k j v k' = w k' := if_neg h
def upR (w : Wd) (k : Nat) (f : Nat → Int32) : Wd := fun k' => if k' = k then f else w k'
theorem upR_same (w : Wd) (k : Nat) (f : Nat → Int32) : upR w k f k = f := if_pos rfl
theorem upR_other (w : Wd) (k : Nat) (f : Nat → Int32) {k' : Nat} (h : k' ≠ k) : upR w k f k' = w k' := if_neg h
def objC (k : Nat) : Option Nat := (objL[k]?).getD none
def arrN (k : Nat) : Option Nat := (arrL[k]?).getD none
theorem objC_lt {k ci : Nat} (h : objC k = some ci) : k < 48 := by
  unfold objC at h
  cases e : objL[k]? with
  | none => rw [e] at h; cases h
  | some x => exact (List.getElem?_eq_some_iff.mp e).1
theorem arrN_lt {k n : Nat} (h : arrN k = some n) : k < 48 := by
  unfold arrN at h
  cases e : arrL[k]? with
  | none => rw [e] at h; cases h
  | some x => exact (List.getElem?_eq_some_iff.mp e).1
theorem obj_arr : ∀ k, k < 48 → ((objL[k]?).getD none).isSome = true → ((arrL[k]?).getD none) = none := by decide +kernel
def fOf (g : GG) (w : Wd) (k ci : Nat) : List Value := (fdef ci).zipIdx.map (fun q => if q.1 = 0 then .int (w k q.2) else .ref (g.1 (k + q.1)))
def cellOf (g : GG) (w : Wd) (k : Nat) : va_E := match objC k with
  | some ci => .inr (ci, fOf g w k ci)
  | none => match arrN k with
    | some n => .inl (g.2.2.1.1, n, .inl (w k))
    | none => if k = 23 then .inl (g.2.2.1.2.1, 4, .inr (.inr (.inr (.inr (fun j => some (g.1 (24 + 2 * j)))))))
      else .inl (g.2.2.1.2.2, 7, .inr (.inr (.inr (.inr (fun j => some (g.2.2.2.1 j))))))
def wsW (g : GG) (w : Wd) : va_W := (List.range 48).map (fun k => (g.1 k, cellOf g w k))
def tysG (g : GG) : List (ClassId × FieldType) := [(g.2.2.1.1, .int), (g.2.2.1.2.1, .object "StraySheep$Sheet"), (g.2.2.1.2.2, .object "java/lang/String")]
def Hv (g : GG) (w : Wd) (H : Heap) : Prop := va_P g.2.1 cls (wsW g w) H
def Ad (g : GG) : Nat → Prop := fun q => ∃ k, k < 48 ∧ q = g.1 k
theorem wsW_at (g : GG) (w : Wd) {k : Nat} (h : k < 48) : (wsW g w)[k]? = some (g.1 k, cellOf g w k) := by
  unfold wsW
  rw [List.getElem?_map, List.getElem?_range h]
  rfl
theorem wsW_len (g : GG) (w : Wd) : (wsW g w).length = 48 := by simp [wsW]
theorem wsW_of {g : GG} {w : Wd} {k : Nat} {q : Nat × va_E} (h : (wsW g w)[k]? = some q) : k < 48 ∧ q = (g.1 k, cellOf g w k) := by
  have hk : k < 48 := by have := (List.getElem?_eq_some_iff.mp h).1; rw [wsW_len] at this; exact this
  rw [wsW_at g w hk] at h
  exact ⟨hk, (Option.some.inj h).symm⟩
theorem cellOf_obj (g : GG) (w : Wd) {k ci : Nat} (h : objC k = some ci) : cellOf g w k = .inr (ci, fOf g w k ci) := by
  unfold cellOf
  rw [h]
theorem cellOf_arr (g : GG) (w : Wd) {k n : Nat} (h : arrN k = some n) : cellOf g w k = .inl (g.2.2.1.1, n, .inl (w k)) := by
  have ho : objC k = none := by
    cases e : objC k with
    | none => rfl
    | some ci =>
      have := obj_arr k (objC_lt e) (by show (objC k).isSome = true; rw [e]; rfl)
      have h2 : arrN k = none := this
      rw [h] at h2; cases h2
  unfold cellOf
  rw [ho, h]
theorem cellOf_congr {g : GG} {w w1 : Wd} {k : Nat} (h : w1 k = w k) : cellOf g w1 k = cellOf g w k := by
  unfold cellOf fOf
  rw [h]
theorem wsW_set {g : GG} {w w1 : Wd} {k : Nat} {e : va_E} (hk : k < 48) (he : cellOf g w1 k = e) (ho : ∀ k', k' ≠ k → w1 k' = w k') : (wsW g w).set k (g.1 k, e) = wsW g w1 := by
  apply List.ext_getElem?
  intro i
  by_cases hi : i < 48
  · by_cases hik : i = k
    · subst hik
      rw [List.getElem?_set_self (by rw [wsW_len]; exact hk), wsW_at g w1 hk, he]
    · rw [List.getElem?_set_ne (Ne.symm hik), wsW_at g w hi, wsW_at g w1 hi, cellOf_congr (ho i hik)]
  · rw [List.getElem?_eq_none (by rw [List.length_set, wsW_len]; omega), List.getElem?_eq_none (by rw [wsW_len]; omega)]
theorem fOf_get (g : GG) (w : Wd) (k ci : Nat) {j o : Nat} (h : (fdef ci)[j]? = some o) : (fOf g w k ci)[j]? = some (if o = 0 then .int (w k j) else .ref (g.1 (k + o))) := by
  unfold fOf
  rw [List.getElem?_map, List.getElem?_zipIdx, h]
  simp
theorem fOf_len (g : GG) (w : Wd) (k ci : Nat) : (fOf g w k ci).length = (fdef ci).length := by simp [fOf]
theorem fOf_set (g : GG) (w : Wd) (k ci : Nat) {j : Nat} (v : Int32) (h : (fdef ci)[j]? = some 0) : fOf g (up w k j v) k ci = (fOf g w k ci).set j (.int v) := by
  have hj : j < (fdef ci).length := (List.getElem?_eq_some_iff.mp h).1
  apply List.ext_getElem?
  intro i
  by_cases hi : i < (fdef ci).length
  · have hget : (fdef ci)[i]? = some (fdef ci)[i] := List.getElem?_eq_getElem hi
    rw [fOf_get g _ k ci hget]
    by_cases hij : i = j
    · subst hij
      rw [List.getElem?_set_self (by rw [fOf_len]; exact hj)]
      have h0 : (fdef ci)[i] = 0 := by rw [h] at hget; exact (Option.some.inj hget).symm
      rw [h0, up_same]
      simp [upd]
    · rw [List.getElem?_set_ne (Ne.symm hij), fOf_get g w k ci hget, up_same]
      simp [upd, hij]
  · rw [List.getElem?_eq_none (by rw [fOf_len]; omega), List.getElem?_eq_none (by rw [List.length_set, fOf_len]; omega)]
/-! what holds of the machine all the while -/
def NW : List Cond := lw_tbl.filter (fun w => match w with | .methodLinkNest .. => true | _ => false)
def sTx : List String := ["sheep", "ram", "ewe", "lamb", "orphan", "wanderer", "leader", "fold", "keeper", "wolf", "at", "fear", "lost", "pace"]
def sBy : List (List Int32) := [[115, 104, 101, 101, 112], [114, 97, 109], [101, 119, 101], [108, 97, 109, 98], [111, 114, 112, 104, 97, 110], [119, 97, 110, 100, 101, 114, 101, 114], [108, 101, 97, 100, 101, 114], [102, 111, 108, 100], [107, 101, 101, 112, 101, 114], [119, 111, 108, 102], [97, 116], [102, 101, 97, 114], [108, 111, 115, 116], [112, 97, 99, 101]]
def SW (own : String) (k i : Nat) : Prop := Cond.stringRef own k (sTx.getD i "") ∈ lw_tbl
def Cx (g : GG) (U : State) : Prop := va_K g.2.1 cls (tysG g) U ∧ (∀ i j, i < 48 → j < 48 → g.1 i = g.1 j → i = j) ∧ (∀ w ∈ NW, va_Nw w U) ∧ (∀ own k i, i < 14 → SW own k i → vk_R own k (sTx.getD i "") (g.2.2.2.1 i) U)
def Hx (g : GG) (U : State) (H : Heap) : Prop := (∀ i : Nat, i < 14 → va_O "java/lang/String" (g.2.2.2.1 i) (Ad g) U H ∧ va_OF "java/lang/String" "coder" "B" (.int 0) (g.2.2.2.1 i) (Ad g) U H ∧ va_OF "java/lang/String" "value" "[B" (.ref (g.2.2.2.2 i)) (g.2.2.2.1 i) (Ad g) U H ∧ va_T .byte (g.2.2.2.2 i) (sBy.getD i []).length (fun j => .int ((sBy.getD i []).getD j 0)) (Ad g) U H) ∧ va_Z "java/lang/String" "COMPACT_STRINGS" "Z" (.int 1) (Ad g) U H ∧ va_Zq "jdk/internal/util/Preconditions" "SIOOBE_FORMATTER" "Ljava/util/function/BiFunction;" (Ad g) U H
theorem va_Zq.mv {C n d : String} {A : Nat → Prop} {u U : State} {H : Heap} (hvm : u.vm.Alike U.vm) (h : va_Zq C n d A u H) : va_Zq C n d A U H := h.elim (fun h => Or.inl (h.moved hvm)) (fun ⟨t, h⟩ => Or.inr ⟨t, h.moved hvm⟩)
theorem va_Zq.kp {C n d : String} {A : Nat → Prop} {U : State} {H H1 : Heap} (h : va_Zq C n d A U H) (hq : ∀ a : Nat, a < H.size → ¬ A a → H1[a]? = H[a]?) : va_Zq C n d A U H1 := h.elim (fun h => Or.inl (h.kept hq)) (fun ⟨t, h⟩ => Or.inr ⟨t, h.kept hq⟩)
theorem Hx.moved {g : GG} {u U : State} {H : Heap} (hvm : u.vm.Alike U.vm) (h : Hx g u H) : Hx g U H :=
  ⟨fun i hi => ⟨va_O.moved hvm (h.1 i hi).1, va_OF.moved hvm (h.1 i hi).2.1, va_OF.moved hvm (h.1 i hi).2.2.1, va_T.moved hvm (h.1 i hi).2.2.2⟩, h.2.1.moved hvm, h.2.2.mv hvm⟩
theorem Hx.kept {g : GG} {U : State} {H H1 : Heap} (h : Hx g U H) (hq : ∀ a : Nat, a < H.size → ¬ Ad g a → H1[a]? = H[a]?) : Hx g U H1 :=
  ⟨fun i hi => ⟨(h.1 i hi).1.kept hq, (h.1 i hi).2.1.kept hq, (h.1 i hi).2.2.1.kept hq, (h.1 i hi).2.2.2.kept hq⟩, h.2.1.kept hq, h.2.2.kp hq⟩
theorem NW_is {w : Cond} (h : w ∈ NW) : ∃ a i x b, w = .methodLinkNest a i x b := by
  have h1 := (List.mem_filter.mp h).2
  cases w <;> first | exact ⟨_, _, _, _, rfl⟩ | cases h1
theorem Cx.warm {g : GG} {s U : State} (hW : s.WarmedH U.vm) (h : Cx g s) : Cx g U :=
  ⟨va_K.moved hW.alike h.1, h.2.1, fun w hw => by
    obtain ⟨a, i, x, b, rfl⟩ := NW_is hw
    exact va_Nw.warmM hW (h.2.2.1 _ hw), fun own k i hi hs => vk_R.warm hW (h.2.2.2 own k i hi hs)⟩
theorem Cx.same {g : GG} {s U : State} (hvm : U.vm = s.vm) (h : Cx g s) : Cx g U :=
  ⟨va_K.moved (by rw [hvm]; exact Vm.Alike.refl _) h.1, h.2.1, fun w hw => by
    obtain ⟨a, i, x, b, rfl⟩ := NW_is hw
    exact va_Nw.same rfl hvm.symm (h.2.2.1 _ hw), fun own k i hi hs => vk_R.same hvm (h.2.2.2 own k i hi hs)⟩
theorem Cx.D {g : GG} {s : State} (h : Cx g s) (w : Wd) : va_D (Ad g) (wsW g w) := by
  refine ⟨fun i j p q hi hj hpq => ?_, fun k q hk => ?_⟩
  · obtain ⟨h1, rfl⟩ := wsW_of hi
    obtain ⟨h2, rfl⟩ := wsW_of hj
    exact h.2.1 i j h1 h2 hpq
  · obtain ⟨h1, rfl⟩ := wsW_of hk
    exact ⟨k, h1, rfl⟩
def Fx (g : GG) (M : MM) (p : Program) (s : State) (m : MethodId) (args : Array Value) (meth : Method) (c : Code) : Prop :=
  p.tables.exec = Jvm.exec ∧ c.code = M.2.1 ∧ c.maxLocals = M.2.2.1 ∧ meth.sig.returnType = M.2.2.2.1 ∧ meth.locks = false ∧ s.vm.findClass M.1.cls = some m.cls ∧ (∀ w ∈ LT, w.before args s = true) ∧ Cx g s ∧ Hx g s s.heap
/-! locals by their places -/
def lvh (ls : Array Slot) (nL : Nat) (lv : List (Option Value)) : Prop := ls.size = nL ∧ lv_wf ls ∧ ∀ (i : Nat) (v : Value), lv[i]? = some (some v) → ls[i]? = some (.val v)
def lvasc (lv : List (Option Value)) : List (Nat × Value) := lv.zipIdx.filterMap (fun q => q.1.map (fun v => (q.2, v)))
theorem mem_lvasc {lv : List (Option Value)} {i : Nat} {v : Value} : (i, v) ∈ lvasc lv ↔ lv[i]? = some (some v) := by
  unfold lvasc
  rw [List.mem_filterMap]
  constructor
  · rintro ⟨⟨o, k⟩, hm, he⟩
    have hm2 := List.mem_zipIdx_iff_getElem?.mp hm
    cases o with
    | none => cases he
    | some u =>
      simp at he
      obtain ⟨rfl, rfl⟩ := he
      exact hm2
  · intro h
    exact ⟨(some v, i), List.mem_zipIdx_iff_getElem?.mpr h, rfl⟩
theorem lvh.has {ls : Array Slot} {nL : Nat} {lv : List (Option Value)} (h : lvh ls nL lv) : lv_has ls nL (lvasc lv) := ⟨h.1, h.2.1, fun q hq => h.2.2 q.1 q.2 (mem_lvasc.mp hq)⟩
def okst (lv : List (Option Value)) (i : Nat) : Bool := match i with
  | 0 => true
  | k + 1 => match lv[k]? with
    | some (some u) => !(u.category == 2)
    | _ => true
theorem lvh.st1 {ls' : Array Slot} {nL : Nat} {lv : List (Option Value)} {i : Nat} {v : Value} (hok : okst lv i = true) (h : lv_has ls' nL ((i, v) :: (lvasc lv).filter (fun q => !(q.1 == i) && !(q.1 + 1 == i && q.2.category == 2)))) : lvh ls' nL (lv.set i (some v)) := by
  refine ⟨h.1, h.2.1, fun j u hj => ?_⟩
  by_cases hji : j = i
  · subst hji
    have hl : j < lv.length := by have := (List.getElem?_eq_some_iff.mp hj).1; rw [List.length_set] at this; exact this
    rw [List.getElem?_set_self hl] at hj
    cases hj
    exact h.2.2 (j, v) List.mem_cons_self
  · rw [List.getElem?_set_ne (Ne.symm hji)] at hj
    refine h.2.2 (j, u) (List.mem_cons_of_mem _ (List.mem_filter.mpr ⟨mem_lvasc.mpr hj, ?_⟩))
    have h1 : (j == i) = false := by simpa using hji
    by_cases h2 : j + 1 = i
    · subst h2
      simp only [okst, hj] at hok
      simp only [h1, Bool.not_false, Bool.true_and, beq_self_eq_true]
      exact hok
    · have h3 : (j + 1 == i) = false := by simpa using h2
      simp [h1, h3]
theorem lvh.st2 {ls' : Array Slot} {nL : Nat} {lv : List (Option Value)} {i : Nat} {v : Value} (hok : okst lv i = true) (h : lv_has ls' nL ((i, v) :: (lvasc lv).filter (fun q => !(q.1 == i) && (!(q.1 == i + 1) && !(q.1 + 1 == i && q.2.category == 2))))) : lvh ls' nL ((lv.set i (some v)).set (i + 1) none) := by
  refine ⟨h.1, h.2.1, fun j u hj => ?_⟩
  by_cases hj1 : j = i + 1
  · subst hj1
    have hl : i + 1 < (lv.set i (some v)).length := by have := (List.getElem?_eq_some_iff.mp hj).1; rw [List.length_set] at this; exact this
    rw [List.getElem?_set_self hl] at hj
    cases hj
  rw [List.getElem?_set_ne (Ne.symm hj1)] at hj
  by_cases hji : j = i
  · subst hji
    have hl : j < lv.length := by have := (List.getElem?_eq_some_iff.mp hj).1; rw [List.length_set] at this; exact this
    rw [List.getElem?_set_self hl] at hj
    cases hj
    exact h.2.2 (j, v) List.mem_cons_self
  · rw [List.getElem?_set_ne (Ne.symm hji)] at hj
    refine h.2.2 (j, u) (List.mem_cons_of_mem _ (List.mem_filter.mpr ⟨mem_lvasc.mpr hj, ?_⟩))
    have h1 : (j == i) = false := by simpa using hji
    have h0 : (j == i + 1) = false := by simpa using hj1
    by_cases h2 : j + 1 = i
    · subst h2
      simp only [okst, hj] at hok
      simp only [h1, h0, Bool.not_false, Bool.true_and, beq_self_eq_true]
      exact hok
    · have h3 : (j + 1 == i) = false := by simpa using h2
      simp [h1, h0, h3]
/-! THE JUDGEMENT: the body of M, at pc, with locals lv, stack st, world w, comes to its end with an answer and a world of Q -/
def Qq (g : GG) (Q : Option Value → Wd → Prop) : Array Value → State → Outcome → State → Prop := fun _ st oc t => (∃ (r : Option Value) (w' : Wd), oc = .returned r ∧ Q r w' ∧ Hv g w' t.heap) ∧ va_F (Ad g) st t
def rmM (M : MM) : Room := { frames := M.2.2.2.2.1, cells := 0, slots := 0, locals := M.2.2.2.2.2 }
def Go (l : Launch) (g : GG) (M : MM) (pc : Nat) (lv : List (Option Value)) (st : List Value) (w : Wd) (Q : Option Value → Wd → Prop) : Prop :=
  ∀ (p : Program) (e : Env) (s : State) (m : MethodId) (args : Array Value) (below : List Frame) (meth : Method) (c : Code) (H : Heap) (locs : List Loc) (ls : Array Slot),
    Fx g M p s m args meth c → Hv g w H → va_S (Ad g) s.heap H locs → lvh ls M.2.2.1 lv →
    W p l e (rmM M) s m args below meth c H locs 0 0 (MQ below (Qq g Q) args s 0 0 (Ad g)) (F0 m pc ls st)
def Res (l : Launch) (g : GG) (M : MM) (as : List Value) (w : Wd) (Q : Option Value → Wd → Prop) : Prop :=
  Met l M.1 (Cond.code M.1 M.2.1 M.2.2.1 M.2.2.2.1 :: LT) (rmM M) (va_Pc as (fun U => Cx g U ∧ Hx g U U.heap ∧ Hv g w U.heap)) (Qq g Q) 0 0 (Ad g)
def Is (r : Option Value) (w' : Wd) : Option Value → Wd → Prop := fun r1 w1 => r1 = r ∧ w1 = w'
end
section
/-! decoded instructions; what comes next -/
def Dc (M : MM) (pc : Nat) (i : Instr) (len n : Nat) : Prop := decode M.2.1 pc = .ok (i, len) ∧ pc + len = n
section ROWS
variable {l : Launch} {g : GG} {M : MM} {pc n : Nat} {lv : List (Option Value)} {st : List Value} {w : Wd} {Q : Option Value → Wd → Prop}
theorem g_iconst {z : Int} {v : Int32} (hd : Dc M pc (.iconst z) 1 n) (hv : Int32.ofInt z = v) (k : Go l g M n lv (.int v :: st) w Q) : Go l g M pc lv (st) w Q := by
  obtain ⟨hd, rfl⟩ := hd
  exact fun p e s m args below meth c H locs ls F hP hS hl => lv_iconst F.1 F.2.1 hd hv (k p e s m args below meth c H locs ls F hP hS hl)
theorem g_bipush {z : Int} {v : Int32} (hd : Dc M pc (.bipush z) 2 n) (hv : (Int8.ofInt z).toInt32 = v) (k : Go l g M n lv (.int v :: st) w Q) : Go l g M pc lv (st) w Q := by
  obtain ⟨hd, rfl⟩ := hd
  exact fun p e s m args below meth c H locs ls F hP hS hl => lv_bipush F.1 F.2.1 hd hv (k p e s m args below meth c H locs ls F hP hS hl)
theorem g_sipush {z : Int} {v : Int32} (hd : Dc M pc (.sipush z) 3 n) (hv : (Int16.ofInt z).toInt32 = v) (k : Go l g M n lv (.int v :: st) w Q) : Go l g M pc lv (st) w Q := by
  obtain ⟨hd, rfl⟩ := hd
  exact fun p e s m args below meth c H locs ls F hP hS hl => lv_sipush F.1 F.2.1 hd hv (k p e s m args below meth c H locs ls F hP hS hl)
theorem g_lconst {z : Fin 2} {v : Int64} (hd : Dc M pc (.lconst z) 1 n) (hv : Int64.ofNat (z : Nat) = v) (k : Go l g M n lv (.long v :: st) w Q) : Go l g M pc lv (st) w Q := by
  obtain ⟨hd, rfl⟩ := hd
  exact fun p e s m args below meth c H locs ls F hP hS hl => lv_lconst F.1 F.2.1 hd hv (k p e s m args below meth c H locs ls F hP hS hl)
theorem g_iload_n {z : Fin 4} {x : Int32} (hd : Dc M pc (.iload_n z) 1 n) (hi : lv[(z : Nat)]? = some (some (.int x))) (k : Go l g M n lv (.int x :: st) w Q) : Go l g M pc lv (st) w Q := by
  obtain ⟨hd, rfl⟩ := hd
  exact fun p e s m args below meth c H locs ls F hP hS hl => lv_iload_n F.1 F.2.1 hd rfl (hl.2.2 _ _ hi) (k p e s m args below meth c H locs ls F hP hS hl)
theorem g_iload {i : Nat} {x : Int32} (hd : Dc M pc (.iload i) 2 n) (hi : lv[i]? = some (some (.int x))) (k : Go l g M n lv (.int x :: st) w Q) : Go l g M pc lv (st) w Q := by
  obtain ⟨hd, rfl⟩ := hd
  exact fun p e s m args below meth c H locs ls F hP hS hl => lv_iload F.1 F.2.1 hd (hl.2.2 _ _ hi) (k p e s m args below meth c H locs ls F hP hS hl)
theorem g_lload_n {z : Fin 4} {x : Int64} (hd : Dc M pc (.lload_n z) 1 n) (hi : lv[(z : Nat)]? = some (some (.long x))) (k : Go l g M n lv (.long x :: st) w Q) : Go l g M pc lv (st) w Q := by
  obtain ⟨hd, rfl⟩ := hd
  exact fun p e s m args below meth c H locs ls F hP hS hl => lv_lload_n F.1 F.2.1 hd rfl (hl.2.2 _ _ hi) (k p e s m args below meth c H locs ls F hP hS hl)
theorem g_lload {i : Nat} {x : Int64} (hd : Dc M pc (.lload i) 2 n) (hi : lv[i]? = some (some (.long x))) (k : Go l g M n lv (.long x :: st) w Q) : Go l g M pc lv (st) w Q := by
  obtain ⟨hd, rfl⟩ := hd
  exact fun p e s m args below meth c H locs ls F hP hS hl => lv_lload F.1 F.2.1 hd (hl.2.2 _ _ hi) (k p e s m args below meth c H locs ls F hP hS hl)
theorem g_aload_n {z : Fin 4} {x : Nat} (hd : Dc M pc (.aload_n z) 1 n) (hi : lv[(z : Nat)]? = some (some (.ref x))) (k : Go l g M n lv (.ref x :: st) w Q) : Go l g M pc lv (st) w Q := by
  obtain ⟨hd, rfl⟩ := hd
  exact fun p e s m args below meth c H locs ls F hP hS hl => lv_aload_n F.1 F.2.1 hd rfl (hl.2.2 _ _ hi) (k p e s m args below meth c H locs ls F hP hS hl)
theorem g_aload {i : Nat} {x : Nat} (hd : Dc M pc (.aload i) 2 n) (hi : lv[i]? = some (some (.ref x))) (k : Go l g M n lv (.ref x :: st) w Q) : Go l g M pc lv (st) w Q := by
  obtain ⟨hd, rfl⟩ := hd
  exact fun p e s m args below meth c H locs ls F hP hS hl => lv_aload F.1 F.2.1 hd (hl.2.2 _ _ hi) (k p e s m args below meth c H locs ls F hP hS hl)
theorem g_aload_nN {z : Fin 4} (hd : Dc M pc (.aload_n z) 1 n) (hi : lv[(z : Nat)]? = some (some .null)) (k : Go l g M n lv (.null :: st) w Q) : Go l g M pc lv (st) w Q := by
  obtain ⟨hd, rfl⟩ := hd
  exact fun p e s m args below meth c H locs ls F hP hS hl => lv_aload_nN F.1 F.2.1 hd rfl (hl.2.2 _ _ hi) (k p e s m args below meth c H locs ls F hP hS hl)
theorem g_iadd {x y : Int32} (hd : Dc M pc .iadd 1 n) (k : Go l g M n lv (.int (x + y) :: st) w Q) : Go l g M pc lv (.int y :: .int x :: st) w Q := by
  obtain ⟨hd, rfl⟩ := hd
  exact fun p e s m args below meth c H locs ls F hP hS hl => lv_iadd F.1 F.2.1 hd (k p e s m args below meth c H locs ls F hP hS hl)
theorem g_isub {x y : Int32} (hd : Dc M pc .isub 1 n) (k : Go l g M n lv (.int (x - y) :: st) w Q) : Go l g M pc lv (.int y :: .int x :: st) w Q := by
  obtain ⟨hd, rfl⟩ := hd
  exact fun p e s m args below meth c H locs ls F hP hS hl => lv_isub F.1 F.2.1 hd (k p e s m args below meth c H locs ls F hP hS hl)
theorem g_imul {x y : Int32} (hd : Dc M pc .imul 1 n) (k : Go l g M n lv (.int (x * y) :: st) w Q) : Go l g M pc lv (.int y :: .int x :: st) w Q := by
  obtain ⟨hd, rfl⟩ := hd
  exact fun p e s m args below meth c H locs ls F hP hS hl => lv_imul F.1 F.2.1 hd (k p e s m args below meth c H locs ls F hP hS hl)
theorem g_iand {x y : Int32} (hd : Dc M pc .iand 1 n) (k : Go l g M n lv (.int (x &&& y) :: st) w Q) : Go l g M pc lv (.int y :: .int x :: st) w Q := by
  obtain ⟨hd, rfl⟩ := hd
  exact fun p e s m args below meth c H locs ls F hP hS hl => lv_iand F.1 F.2.1 hd (k p e s m args below meth c H locs ls F hP hS hl)
theorem g_ior {x y : Int32} (hd : Dc M pc .ior 1 n) (k : Go l g M n lv (.int (x ||| y) :: st) w Q) : Go l g M pc lv (.int y :: .int x :: st) w Q := by
  obtain ⟨hd, rfl⟩ := hd
  exact fun p e s m args below meth c H locs ls F hP hS hl => lv_ior F.1 F.2.1 hd (k p e s m args below meth c H locs ls F hP hS hl)
theorem g_ixor {x y : Int32} (hd : Dc M pc .ixor 1 n) (k : Go l g M n lv (.int (x ^^^ y) :: st) w Q) : Go l g M pc lv (.int y :: .int x :: st) w Q := by
  obtain ⟨hd, rfl⟩ := hd
  exact fun p e s m args below meth c H locs ls F hP hS hl => lv_ixor F.1 F.2.1 hd (k p e s m args below meth c H locs ls F hP hS hl)
theorem g_ishl {x y : Int32} (hd : Dc M pc .ishl 1 n) (k : Go l g M n lv (.int (x <<< (y &&& 31)) :: st) w Q) : Go l g M pc lv (.int y :: .int x :: st) w Q := by
  obtain ⟨hd, rfl⟩ := hd
  exact fun p e s m args below meth c H locs ls F hP hS hl => lv_ishl F.1 F.2.1 hd (k p e s m args below meth c H locs ls F hP hS hl)
theorem g_ishr {x y : Int32} (hd : Dc M pc .ishr 1 n) (k : Go l g M n lv (.int (x >>> (y &&& 31)) :: st) w Q) : Go l g M pc lv (.int y :: .int x :: st) w Q := by
  obtain ⟨hd, rfl⟩ := hd
  exact fun p e s m args below meth c H locs ls F hP hS hl => lv_ishr F.1 F.2.1 hd (k p e s m args below meth c H locs ls F hP hS hl)
theorem g_idiv {x y : Int32} (hd : Dc M pc .idiv 1 n) (hne : ¬ y = 0) (k : Go l g M n lv (.int (x / y) :: st) w Q) : Go l g M pc lv (.int y :: .int x :: st) w Q := by
  obtain ⟨hd, rfl⟩ := hd
  exact fun p e s m args below meth c H locs ls F hP hS hl => lv_idiv F.1 F.2.1 hd hne (k p e s m args below meth c H locs ls F hP hS hl)
theorem g_irem {x y : Int32} (hd : Dc M pc .irem 1 n) (hne : ¬ y = 0) (k : Go l g M n lv (.int (x - x / y * y) :: st) w Q) : Go l g M pc lv (.int y :: .int x :: st) w Q := by
  obtain ⟨hd, rfl⟩ := hd
  exact fun p e s m args below meth c H locs ls F hP hS hl => lv_irem F.1 F.2.1 hd hne (k p e s m args below meth c H locs ls F hP hS hl)
theorem g_iushr {x y : Int32} (hd : Dc M pc .iushr 1 n) (k : Go l g M n lv (.int ((x.toUInt32 >>> (y.toUInt32 &&& Int32.toUInt32 31)).toInt32) :: st) w Q) : Go l g M pc lv (.int y :: .int x :: st) w Q := by
  obtain ⟨hd, rfl⟩ := hd
  exact fun p e s m args below meth c H locs ls F hP hS hl => lv_iushr F.1 F.2.1 hd rfl (k p e s m args below meth c H locs ls F hP hS hl)
theorem g_ineg {x : Int32} (hd : Dc M pc .ineg 1 n) (k : Go l g M n lv (.int (-x) :: st) w Q) : Go l g M pc lv (.int x :: st) w Q := by
  obtain ⟨hd, rfl⟩ := hd
  exact fun p e s m args below meth c H locs ls F hP hS hl => lv_ineg F.1 F.2.1 hd (k p e s m args below meth c H locs ls F hP hS hl)
theorem g_ladd {x y : Int64} (hd : Dc M pc .ladd 1 n) (k : Go l g M n lv (.long (x + y) :: st) w Q) : Go l g M pc lv (.long y :: .long x :: st) w Q := by
  obtain ⟨hd, rfl⟩ := hd
  exact fun p e s m args below meth c H locs ls F hP hS hl => lv_ladd F.1 F.2.1 hd (k p e s m args below meth c H locs ls F hP hS hl)
theorem g_lmul {x y : Int64} (hd : Dc M pc .lmul 1 n) (k : Go l g M n lv (.long (x * y) :: st) w Q) : Go l g M pc lv (.long y :: .long x :: st) w Q := by
  obtain ⟨hd, rfl⟩ := hd
  exact fun p e s m args below meth c H locs ls F hP hS hl => lv_lmul F.1 F.2.1 hd (k p e s m args below meth c H locs ls F hP hS hl)
theorem g_lcmp {x y : Int64} (hd : Dc M pc .lcmp 1 n) (k : Go l g M n lv (.int (lg_cmp x y) :: st) w Q) : Go l g M pc lv (.long y :: .long x :: st) w Q := by
  obtain ⟨hd, rfl⟩ := hd
  exact fun p e s m args below meth c H locs ls F hP hS hl => W.lcmp F.1 F.2.1 hd (k p e s m args below meth c H locs ls F hP hS hl)
theorem g_i2l {x : Int32} (hd : Dc M pc .i2l 1 n) (k : Go l g M n lv (.long x.toInt64 :: st) w Q) : Go l g M pc lv (.int x :: st) w Q := by
  obtain ⟨hd, rfl⟩ := hd
  exact fun p e s m args below meth c H locs ls F hP hS hl => lv_i2l F.1 F.2.1 hd rfl (k p e s m args below meth c H locs ls F hP hS hl)
theorem g_i2b {x : Int32} (hd : Dc M pc .i2b 1 n) (k : Go l g M n lv (.int x.toInt8.toInt32 :: st) w Q) : Go l g M pc lv (.int x :: st) w Q := by
  obtain ⟨hd, rfl⟩ := hd
  exact fun p e s m args below meth c H locs ls F hP hS hl => lv_i2b F.1 F.2.1 hd rfl (k p e s m args below meth c H locs ls F hP hS hl)
theorem g_i2s {x : Int32} (hd : Dc M pc .i2s 1 n) (k : Go l g M n lv (.int x.toInt16.toInt32 :: st) w Q) : Go l g M pc lv (.int x :: st) w Q := by
  obtain ⟨hd, rfl⟩ := hd
  exact fun p e s m args below meth c H locs ls F hP hS hl => lv_i2s F.1 F.2.1 hd rfl (k p e s m args below meth c H locs ls F hP hS hl)
theorem g_i2c {x : Int32} (hd : Dc M pc .i2c 1 n) (k : Go l g M n lv (.int (x.toUInt32 % 65536).toInt32 :: st) w Q) : Go l g M pc lv (.int x :: st) w Q := by
  obtain ⟨hd, rfl⟩ := hd
  exact fun p e s m args below meth c H locs ls F hP hS hl => lv_i2c F.1 F.2.1 hd rfl (k p e s m args below meth c H locs ls F hP hS hl)
theorem g_dup {a : Value} (hd : Dc M pc .dup 1 n) (ha : a.category = 1) (k : Go l g M n lv (a :: a :: st) w Q) : Go l g M pc lv (a :: st) w Q := by
  obtain ⟨hd, rfl⟩ := hd
  exact fun p e s m args below meth c H locs ls F hP hS hl => lv_dup F.1 F.2.1 hd ha (k p e s m args below meth c H locs ls F hP hS hl)
theorem g_pop {a : Value} (hd : Dc M pc .pop 1 n) (ha : a.category = 1) (k : Go l g M n lv (st) w Q) : Go l g M pc lv (a :: st) w Q := by
  obtain ⟨hd, rfl⟩ := hd
  exact fun p e s m args below meth c H locs ls F hP hS hl => lv_pop F.1 F.2.1 hd ha (k p e s m args below meth c H locs ls F hP hS hl)
theorem g_dup2 {a b : Value} (hd : Dc M pc .dup2 1 n) (ha : a.category = 1) (hb : b.category = 1) (k : Go l g M n lv (a :: b :: a :: b :: st) w Q) : Go l g M pc lv (a :: b :: st) w Q := by
  obtain ⟨hd, rfl⟩ := hd
  exact fun p e s m args below meth c H locs ls F hP hS hl => lv_dup2_11 F.1 F.2.1 hd ha hb (k p e s m args below meth c H locs ls F hP hS hl)
theorem g_dup_x1 {a b : Value} (hd : Dc M pc .dup_x1 1 n) (ha : a.category = 1) (hb : b.category = 1) (k : Go l g M n lv (a :: b :: a :: st) w Q) : Go l g M pc lv (a :: b :: st) w Q := by
  obtain ⟨hd, rfl⟩ := hd
  exact fun p e s m args below meth c H locs ls F hP hS hl => lv_dup_x1 F.1 F.2.1 hd ha hb (k p e s m args below meth c H locs ls F hP hS hl)
theorem g_istore_n {z : Fin 4} {x : Int32} {lv2 : List (Option Value)} (hd : Dc M pc (.istore_n z) 1 n) (hn : (z : Nat) < M.2.2.1) (hok : okst lv (z : Nat) = true) (he : (lv.set (z : Nat) (some (.int x))) = lv2) (k : Go l g M n lv2 st w Q) : Go l g M pc lv (.int x :: st) w Q := by
  obtain ⟨hd, rfl⟩ := hd
  subst he
  exact fun p e s m args below meth c H locs ls F hP hS hl => lv_istore_n F.1 F.2.1 hd rfl hl.has hn rfl (fun ls2 h2 => k p e s m args below meth c H locs ls2 F hP hS (lvh.st1 hok h2))
theorem g_istore {i : Nat} {x : Int32} {lv2 : List (Option Value)} (hd : Dc M pc (.istore i) 2 n) (hn : i < M.2.2.1) (hok : okst lv i = true) (he : (lv.set i (some (.int x))) = lv2) (k : Go l g M n lv2 st w Q) : Go l g M pc lv (.int x :: st) w Q := by
  obtain ⟨hd, rfl⟩ := hd
  subst he
  exact fun p e s m args below meth c H locs ls F hP hS hl => lv_istore F.1 F.2.1 hd hl.has hn rfl (fun ls2 h2 => k p e s m args below meth c H locs ls2 F hP hS (lvh.st1 hok h2))
theorem g_astore_n {z : Fin 4} {x : Nat} {lv2 : List (Option Value)} (hd : Dc M pc (.astore_n z) 1 n) (hn : (z : Nat) < M.2.2.1) (hok : okst lv (z : Nat) = true) (he : (lv.set (z : Nat) (some (.ref x))) = lv2) (k : Go l g M n lv2 st w Q) : Go l g M pc lv (.ref x :: st) w Q := by
  obtain ⟨hd, rfl⟩ := hd
  subst he
  exact fun p e s m args below meth c H locs ls F hP hS hl => lv_astore_n F.1 F.2.1 hd rfl hl.has hn rfl (fun ls2 h2 => k p e s m args below meth c H locs ls2 F hP hS (lvh.st1 hok h2))
theorem g_astore {i : Nat} {x : Nat} {lv2 : List (Option Value)} (hd : Dc M pc (.astore i) 2 n) (hn : i < M.2.2.1) (hok : okst lv i = true) (he : (lv.set i (some (.ref x))) = lv2) (k : Go l g M n lv2 st w Q) : Go l g M pc lv (.ref x :: st) w Q := by
  obtain ⟨hd, rfl⟩ := hd
  subst he
  exact fun p e s m args below meth c H locs ls F hP hS hl => lv_astore F.1 F.2.1 hd hl.has hn rfl (fun ls2 h2 => k p e s m args below meth c H locs ls2 F hP hS (lvh.st1 hok h2))
theorem g_lstore_n {z : Fin 4} {x : Int64} {lv2 : List (Option Value)} (hd : Dc M pc (.lstore_n z) 1 n) (hn : (z : Nat) + 1 < M.2.2.1) (hok : okst lv (z : Nat) = true) (he : ((lv.set (z : Nat) (some (.long x))).set ((z : Nat) + 1) none) = lv2) (k : Go l g M n lv2 st w Q) : Go l g M pc lv (.long x :: st) w Q := by
  obtain ⟨hd, rfl⟩ := hd
  subst he
  exact fun p e s m args below meth c H locs ls F hP hS hl => lv_lstore_n F.1 F.2.1 hd rfl hl.has hn rfl (fun ls2 h2 => k p e s m args below meth c H locs ls2 F hP hS (lvh.st2 hok h2))
theorem g_lstore {i : Nat} {x : Int64} {lv2 : List (Option Value)} (hd : Dc M pc (.lstore i) 2 n) (hn : i + 1 < M.2.2.1) (hok : okst lv i = true) (he : ((lv.set i (some (.long x))).set (i + 1) none) = lv2) (k : Go l g M n lv2 st w Q) : Go l g M pc lv (.long x :: st) w Q := by
  obtain ⟨hd, rfl⟩ := hd
  subst he
  exact fun p e s m args below meth c H locs ls F hP hS hl => lv_lstore F.1 F.2.1 hd hl.has hn rfl (fun ls2 h2 => k p e s m args below meth c H locs ls2 F hP hS (lvh.st2 hok h2))
theorem g_iinc {i : Nat} {z : Int} {x v : Int32} {lv2 : List (Option Value)} (hd : Dc M pc (.iinc i z) 3 n) (hi : lv[i]? = some (some (.int x))) (hv : x + Int32.ofInt z = v) (hn : i < M.2.2.1) (hok : okst lv i = true) (he : lv.set i (some (.int v)) = lv2) (k : Go l g M n lv2 st w Q) : Go l g M pc lv st w Q := by
  obtain ⟨hd, rfl⟩ := hd
  subst he
  intro p e s m args below meth c H locs ls F hP hS hl
  obtain ⟨k0, hk0⟩ := List.getElem?_of_mem (mem_lvasc.mpr hi)
  exact lv_iinc F.1 F.2.1 hd hl.has hk0 hv hn rfl (fun ls2 h2 => k p e s m args below meth c H locs ls2 F hP hS (lvh.st1 hok h2))
theorem g_if_eq {x : Int32} {off : Int} {tgt : Nat} (hd : Dc M pc (.ifCond .eq off) 3 n) (ht : (pc : Int) + off = (tgt : Int)) (kt : x = 0 → Go l g M tgt lv st w Q) (kf : ¬ x = 0 → Go l g M n lv st w Q) : Go l g M pc lv (.int x :: st) w Q := by
  obtain ⟨hd, rfl⟩ := hd
  exact fun p e s m args below meth c H locs ls F hP hS hl => lv_if_eq F.1 F.2.1 hd ht (fun h => kt h p e s m args below meth c H locs ls F hP hS hl) (fun h => kf h p e s m args below meth c H locs ls F hP hS hl)
theorem g_icmp_eq {x y : Int32} {off : Int} {tgt : Nat} (hd : Dc M pc (.if_icmp .eq off) 3 n) (ht : (pc : Int) + off = (tgt : Int)) (kt : x = y → Go l g M tgt lv st w Q) (kf : ¬ x = y → Go l g M n lv st w Q) : Go l g M pc lv (.int y :: .int x :: st) w Q := by
  obtain ⟨hd, rfl⟩ := hd
  exact fun p e s m args below meth c H locs ls F hP hS hl => lv_icmp_eq F.1 F.2.1 hd ht (fun h => kt h p e s m args below meth c H locs ls F hP hS hl) (fun h => kf h p e s m args below meth c H locs ls F hP hS hl)
theorem g_if_ne {x : Int32} {off : Int} {tgt : Nat} (hd : Dc M pc (.ifCond .ne off) 3 n) (ht : (pc : Int) + off = (tgt : Int)) (kt : ¬ x = 0 → Go l g M tgt lv st w Q) (kf : x = 0 → Go l g M n lv st w Q) : Go l g M pc lv (.int x :: st) w Q := by
  obtain ⟨hd, rfl⟩ := hd
  exact fun p e s m args below meth c H locs ls F hP hS hl => lv_if_ne F.1 F.2.1 hd ht (fun h => kt h p e s m args below meth c H locs ls F hP hS hl) (fun h => kf h p e s m args below meth c H locs ls F hP hS hl)
theorem g_icmp_ne {x y : Int32} {off : Int} {tgt : Nat} (hd : Dc M pc (.if_icmp .ne off) 3 n) (ht : (pc : Int) + off = (tgt : Int)) (kt : ¬ x = y → Go l g M tgt lv st w Q) (kf : x = y → Go l g M n lv st w Q) : Go l g M pc lv (.int y :: .int x :: st) w Q := by
  obtain ⟨hd, rfl⟩ := hd
  exact fun p e s m args below meth c H locs ls F hP hS hl => lv_icmp_ne F.1 F.2.1 hd ht (fun h => kt h p e s m args below meth c H locs ls F hP hS hl) (fun h => kf h p e s m args below meth c H locs ls F hP hS hl)
theorem g_if_lt {x : Int32} {off : Int} {tgt : Nat} (hd : Dc M pc (.ifCond .lt off) 3 n) (ht : (pc : Int) + off = (tgt : Int)) (kt : x < 0 → Go l g M tgt lv st w Q) (kf : ¬ x < 0 → Go l g M n lv st w Q) : Go l g M pc lv (.int x :: st) w Q := by
  obtain ⟨hd, rfl⟩ := hd
  exact fun p e s m args below meth c H locs ls F hP hS hl => lv_if_lt F.1 F.2.1 hd ht (fun h => kt h p e s m args below meth c H locs ls F hP hS hl) (fun h => kf h p e s m args below meth c H locs ls F hP hS hl)
theorem g_icmp_lt {x y : Int32} {off : Int} {tgt : Nat} (hd : Dc M pc (.if_icmp .lt off) 3 n) (ht : (pc : Int) + off = (tgt : Int)) (kt : x < y → Go l g M tgt lv st w Q) (kf : ¬ x < y → Go l g M n lv st w Q) : Go l g M pc lv (.int y :: .int x :: st) w Q := by
  obtain ⟨hd, rfl⟩ := hd
  exact fun p e s m args below meth c H locs ls F hP hS hl => lv_icmp_lt F.1 F.2.1 hd ht (fun h => kt h p e s m args below meth c H locs ls F hP hS hl) (fun h => kf h p e s m args below meth c H locs ls F hP hS hl)
theorem g_if_ge {x : Int32} {off : Int} {tgt : Nat} (hd : Dc M pc (.ifCond .ge off) 3 n) (ht : (pc : Int) + off = (tgt : Int)) (kt : 0 ≤ x → Go l g M tgt lv st w Q) (kf : ¬ 0 ≤ x → Go l g M n lv st w Q) : Go l g M pc lv (.int x :: st) w Q := by
  obtain ⟨hd, rfl⟩ := hd
  exact fun p e s m args below meth c H locs ls F hP hS hl => lv_if_ge F.1 F.2.1 hd ht (fun h => kt h p e s m args below meth c H locs ls F hP hS hl) (fun h => kf h p e s m args below meth c H locs ls F hP hS hl)
theorem g_icmp_ge {x y : Int32} {off : Int} {tgt : Nat} (hd : Dc M pc (.if_icmp .ge off) 3 n) (ht : (pc : Int) + off = (tgt : Int)) (kt : y ≤ x → Go l g M tgt lv st w Q) (kf : ¬ y ≤ x → Go l g M n lv st w Q) : Go l g M pc lv (.int y :: .int x :: st) w Q := by
  obtain ⟨hd, rfl⟩ := hd
  exact fun p e s m args below meth c H locs ls F hP hS hl => lv_icmp_ge F.1 F.2.1 hd ht (fun h => kt h p e s m args below meth c H locs ls F hP hS hl) (fun h => kf h p e s m args below meth c H locs ls F hP hS hl)
theorem g_if_gt {x : Int32} {off : Int} {tgt : Nat} (hd : Dc M pc (.ifCond .gt off) 3 n) (ht : (pc : Int) + off = (tgt : Int)) (kt : 0 < x → Go l g M tgt lv st w Q) (kf : ¬ 0 < x → Go l g M n lv st w Q) : Go l g M pc lv (.int x :: st) w Q := by
  obtain ⟨hd, rfl⟩ := hd
  exact fun p e s m args below meth c H locs ls F hP hS hl => lv_if_gt F.1 F.2.1 hd ht (fun h => kt h p e s m args below meth c H locs ls F hP hS hl) (fun h => kf h p e s m args below meth c H locs ls F hP hS hl)
theorem g_icmp_gt {x y : Int32} {off : Int} {tgt : Nat} (hd : Dc M pc (.if_icmp .gt off) 3 n) (ht : (pc : Int) + off = (tgt : Int)) (kt : y < x → Go l g M tgt lv st w Q) (kf : ¬ y < x → Go l g M n lv st w Q) : Go l g M pc lv (.int y :: .int x :: st) w Q := by
  obtain ⟨hd, rfl⟩ := hd
  exact fun p e s m args below meth c H locs ls F hP hS hl => lv_icmp_gt F.1 F.2.1 hd ht (fun h => kt h p e s m args below meth c H locs ls F hP hS hl) (fun h => kf h p e s m args below meth c H locs ls F hP hS hl)
theorem g_if_le {x : Int32} {off : Int} {tgt : Nat} (hd : Dc M pc (.ifCond .le off) 3 n) (ht : (pc : Int) + off = (tgt : Int)) (kt : x ≤ 0 → Go l g M tgt lv st w Q) (kf : ¬ x ≤ 0 → Go l g M n lv st w Q) : Go l g M pc lv (.int x :: st) w Q := by
  obtain ⟨hd, rfl⟩ := hd
  exact fun p e s m args below meth c H locs ls F hP hS hl => lv_if_le F.1 F.2.1 hd ht (fun h => kt h p e s m args below meth c H locs ls F hP hS hl) (fun h => kf h p e s m args below meth c H locs ls F hP hS hl)
theorem g_icmp_le {x y : Int32} {off : Int} {tgt : Nat} (hd : Dc M pc (.if_icmp .le off) 3 n) (ht : (pc : Int) + off = (tgt : Int)) (kt : x ≤ y → Go l g M tgt lv st w Q) (kf : ¬ x ≤ y → Go l g M n lv st w Q) : Go l g M pc lv (.int y :: .int x :: st) w Q := by
  obtain ⟨hd, rfl⟩ := hd
  exact fun p e s m args below meth c H locs ls F hP hS hl => lv_icmp_le F.1 F.2.1 hd ht (fun h => kt h p e s m args below meth c H locs ls F hP hS hl) (fun h => kf h p e s m args below meth c H locs ls F hP hS hl)
theorem g_goto {off : Int} {tgt : Nat} (hd : Dc M pc (.goto off) 3 n) (ht : (pc : Int) + off = (tgt : Int)) (k : Go l g M tgt lv st w Q) : Go l g M pc lv st w Q := by
  obtain ⟨hd, rfl⟩ := hd
  exact fun p e s m args below meth c H locs ls F hP hS hl => lv_goto F.1 F.2.1 hd ht (k p e s m args below meth c H locs ls F hP hS hl)
theorem g_lookup {dflt : Int} {ps : Array (Int × Int)} {len : Nat} {x : Int32} {off : Int} {tgt : Nat} (hd : Dc M pc (.lookupswitch dflt ps) len n) (hp : (ps.toList.zip (ps.toList.drop 1)).all (fun (a, next) => a.1 < next.1) = true) (ho : Op.lookupswitch.offset ps.toList dflt x.toInt = off) (ht : (pc : Int) + off = (tgt : Int)) (k : Go l g M tgt lv st w Q) : Go l g M pc lv (.int x :: st) w Q := by
  obtain ⟨hd, rfl⟩ := hd
  exact fun p e s m args below meth c H locs ls F hP hS hl => lv_lookup F.1 F.2.1 hd hp ho ht (k p e s m args below meth c H locs ls F hP hS hl)
theorem g_tabOut {dflt lo hi : Int} {offs : Array Int} {len : Nat} {x : Int32} {tgt : Nat} (hd : Dc M pc (.tableswitch dflt lo hi offs) len n) (h : x.toInt < lo ∨ hi < x.toInt) (ht : (pc : Int) + dflt = (tgt : Int)) (k : Go l g M tgt lv st w Q) : Go l g M pc lv (.int x :: st) w Q := by
  obtain ⟨hd, rfl⟩ := hd
  exact fun p e s m args below meth c H locs ls F hP hS hl => lv_tableOut F.1 F.2.1 hd h ht (k p e s m args below meth c H locs ls F hP hS hl)
theorem g_tabIn {dflt lo hi : Int} {offs : Array Int} {len : Nat} {x : Int32} {off : Int} {tgt : Nat} (hd : Dc M pc (.tableswitch dflt lo hi offs) len n) (h1 : ¬ x.toInt < lo) (h2 : ¬ hi < x.toInt) (ho : offs[(x.toInt - lo).toNat]? = some off) (ht : (pc : Int) + off = (tgt : Int)) (k : Go l g M tgt lv st w Q) : Go l g M pc lv (.int x :: st) w Q := by
  obtain ⟨hd, rfl⟩ := hd
  exact fun p e s m args below meth c H locs ls F hP hS hl => lv_tableIn F.1 F.2.1 hd h1 h2 ho ht (k p e s m args below meth c H locs ls F hP hS hl)
theorem g_iret {x : Int32} {ty : FieldType} (hd : Dc M pc .ireturn 1 n) (hr : M.2.2.2.1 = some ty) (hn : narrow ty (.int x) = .int x) (hq : Q (some (.int x)) w) : Go l g M pc lv [.int x] w Q := by
  obtain ⟨hd, rfl⟩ := hd
  exact fun p e s m args below meth c H locs ls F hP hS hl => W.zret F.1 F.2.1 (F.2.2.2.1.trans hr) hn (fun t ht hW => ⟨⟨some (.int x), w, rfl, hq, by rw [ht]; exact hP⟩, hS.F ht⟩) hS.2.2 hd F.2.2.2.2.1
theorem g_lret {x : Int64} (hd : Dc M pc .lreturn 1 n) (hr : M.2.2.2.1 = some .long) (hq : Q (some (.long x)) w) : Go l g M pc lv [.long x] w Q := by
  obtain ⟨hd, rfl⟩ := hd
  exact fun p e s m args below meth c H locs ls F hP hS hl => W.lret F.1 F.2.1 (F.2.2.2.1.trans hr) (fun t ht hW => ⟨⟨some (.long x), w, rfl, hq, by rw [ht]; exact hP⟩, hS.F ht⟩) hS.2.2 hd F.2.2.2.2.1
theorem g_aret {x : Nat} {C : String} (hd : Dc M pc .areturn 1 n) (hr : M.2.2.2.1 = some (.object C)) (hq : Q (some (.ref x)) w) : Go l g M pc lv [.ref x] w Q := by
  obtain ⟨hd, rfl⟩ := hd
  exact fun p e s m args below meth c H locs ls F hP hS hl => W.aret F.1 F.2.1 (F.2.2.2.1.trans hr) (Or.inl ⟨_, rfl⟩) (Or.inr ⟨_, rfl⟩) (fun t ht hW => ⟨⟨some (.ref x), w, rfl, hq, by rw [ht]; exact hP⟩, hS.F ht⟩) hS.2.2 hd F.2.2.2.2.1
theorem g_vret (hd : Dc M pc .return_ 1 n) (hr : M.2.2.2.1 = none) (hq : Q none w) : Go l g M pc lv [] w Q := by
  obtain ⟨hd, rfl⟩ := hd
  exact fun p e s m args below meth c H locs ls F hP hS hl => W.vret F.1 F.2.1 (F.2.2.2.1.trans hr) (fun t ht hW => ⟨⟨none, w, rfl, hq, by rw [ht]; exact hP⟩, hS.F ht⟩) hS.2.2 hd F.2.2.2.2.1
end ROWS
end
