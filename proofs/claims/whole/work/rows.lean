section
-- ===== PART A: goes FIRST, ahead of the names: the tables' words, and 'selects' of the private methods out of them =====
/-- a private method of a class that the tables say can be made, by its rows of tables_1 -/
def lw_okq (q : MethodName × Nat) : Prop := (q.1.cls ≠ "java/lang/invoke/MethodHandle" ∧ q.1.cls ≠ "java/lang/invoke/VarHandle") ∧ Cond.instantiable q.1.cls q.2 ∈ tables_1 ∧ Cond.privateMethod q.1 ∈ tables_1 ∧ Cond.instanceMethod q.1 ∈ tables_1
theorem lw_p0 : lw_okq (⟨"StraySheep", "finding", "(I)I"⟩, 11) := ⟨⟨by decide +kernel, by decide +kernel⟩, List.mem_of_getElem? (i := 14) (by decide +kernel), List.mem_of_getElem? (i := 174) (by decide +kernel), List.mem_of_getElem? (i := 175) (by decide +kernel)⟩
theorem lw_p1 : lw_okq (⟨"StraySheep", "firstHourOfAtLeast", "([III)I"⟩, 11) := ⟨⟨by decide +kernel, by decide +kernel⟩, List.mem_of_getElem? (i := 14) (by decide +kernel), List.mem_of_getElem? (i := 378) (by decide +kernel), List.mem_of_getElem? (i := 379) (by decide +kernel)⟩
theorem lw_p2 : lw_okq (⟨"StraySheep", "keepsNear", "(II)Z"⟩, 11) := ⟨⟨by decide +kernel, by decide +kernel⟩, List.mem_of_getElem? (i := 14) (by decide +kernel), List.mem_of_getElem? (i := 421) (by decide +kernel), List.mem_of_getElem? (i := 422) (by decide +kernel)⟩
theorem lw_p3 : lw_okq (⟨"StraySheep", "keeperGoesAsTold", "(LStraySheep$Sheet;)Z"⟩, 11) := ⟨⟨by decide +kernel, by decide +kernel⟩, List.mem_of_getElem? (i := 14) (by decide +kernel), List.mem_of_getElem? (i := 437) (by decide +kernel), List.mem_of_getElem? (i := 438) (by decide +kernel)⟩
theorem lw_p4 : lw_okq (⟨"StraySheep", "sheepGoesAsTold", "(LStraySheep$Sheet;I)Z"⟩, 11) := ⟨⟨by decide +kernel, by decide +kernel⟩, List.mem_of_getElem? (i := 14) (by decide +kernel), List.mem_of_getElem? (i := 449) (by decide +kernel), List.mem_of_getElem? (i := 450) (by decide +kernel)⟩
theorem lw_p5 : lw_okq (⟨"StraySheep", "draw", "()I"⟩, 11) := ⟨⟨by decide +kernel, by decide +kernel⟩, List.mem_of_getElem? (i := 14) (by decide +kernel), List.mem_of_getElem? (i := 457) (by decide +kernel), List.mem_of_getElem? (i := 458) (by decide +kernel)⟩
theorem lw_p6 : lw_okq (⟨"StraySheep$Tape", "nextToken", "()V"⟩, 5) := ⟨⟨by decide +kernel, by decide +kernel⟩, List.mem_of_getElem? (i := 84) (by decide +kernel), List.mem_of_getElem? (i := 502) (by decide +kernel), List.mem_of_getElem? (i := 503) (by decide +kernel)⟩
theorem lw_p7 : lw_okq (⟨"StraySheep$Tape", "tokenAt", "(I)I"⟩, 5) := ⟨⟨by decide +kernel, by decide +kernel⟩, List.mem_of_getElem? (i := 84) (by decide +kernel), List.mem_of_getElem? (i := 506) (by decide +kernel), List.mem_of_getElem? (i := 507) (by decide +kernel)⟩
theorem lw_p8 : lw_okq (⟨"StraySheep$Tape", "readItem", "(LStraySheep$Hill;)Z"⟩, 5) := ⟨⟨by decide +kernel, by decide +kernel⟩, List.mem_of_getElem? (i := 84) (by decide +kernel), List.mem_of_getElem? (i := 513) (by decide +kernel), List.mem_of_getElem? (i := 514) (by decide +kernel)⟩
theorem lw_p9 : lw_okq (⟨"StraySheep$Tape", "kindOfWord", "()I"⟩, 5) := ⟨⟨by decide +kernel, by decide +kernel⟩, List.mem_of_getElem? (i := 84) (by decide +kernel), List.mem_of_getElem? (i := 517) (by decide +kernel), List.mem_of_getElem? (i := 518) (by decide +kernel)⟩
theorem lw_p10 : lw_okq (⟨"StraySheep$Tape", "isWord", "(Ljava/lang/String;)Z"⟩, 5) := ⟨⟨by decide +kernel, by decide +kernel⟩, List.mem_of_getElem? (i := 84) (by decide +kernel), List.mem_of_getElem? (i := 531) (by decide +kernel), List.mem_of_getElem? (i := 532) (by decide +kernel)⟩
theorem lw_p11 : lw_okq (⟨"StraySheep$Tape", "readSheep", "(LStraySheep$Hill;I)Z"⟩, 5) := ⟨⟨by decide +kernel, by decide +kernel⟩, List.mem_of_getElem? (i := 84) (by decide +kernel), List.mem_of_getElem? (i := 583) (by decide +kernel), List.mem_of_getElem? (i := 584) (by decide +kernel)⟩
theorem lw_p12 : lw_okq (⟨"StraySheep$Tape", "skipWord", "(Ljava/lang/String;)Z"⟩, 5) := ⟨⟨by decide +kernel, by decide +kernel⟩, List.mem_of_getElem? (i := 84) (by decide +kernel), List.mem_of_getElem? (i := 589) (by decide +kernel), List.mem_of_getElem? (i := 590) (by decide +kernel)⟩
theorem lw_p13 : lw_okq (⟨"StraySheep$Tape", "takeNumber", "(I)I"⟩, 5) := ⟨⟨by decide +kernel, by decide +kernel⟩, List.mem_of_getElem? (i := 84) (by decide +kernel), List.mem_of_getElem? (i := 593) (by decide +kernel), List.mem_of_getElem? (i := 594) (by decide +kernel)⟩
theorem lw_p14 : lw_okq (⟨"StraySheep$Tape", "readFold", "(LStraySheep$Hill;)Z"⟩, 5) := ⟨⟨by decide +kernel, by decide +kernel⟩, List.mem_of_getElem? (i := 84) (by decide +kernel), List.mem_of_getElem? (i := 601) (by decide +kernel), List.mem_of_getElem? (i := 602) (by decide +kernel)⟩
theorem lw_p15 : lw_okq (⟨"StraySheep$Tape", "readKeeper", "(LStraySheep$Hill;)Z"⟩, 5) := ⟨⟨by decide +kernel, by decide +kernel⟩, List.mem_of_getElem? (i := 84) (by decide +kernel), List.mem_of_getElem? (i := 606) (by decide +kernel), List.mem_of_getElem? (i := 607) (by decide +kernel)⟩
def lw_privs_1 : List (MethodName × Nat) := [(⟨"StraySheep", "finding", "(I)I"⟩, 11), (⟨"StraySheep", "firstHourOfAtLeast", "([III)I"⟩, 11), (⟨"StraySheep", "keepsNear", "(II)Z"⟩, 11), (⟨"StraySheep", "keeperGoesAsTold", "(LStraySheep$Sheet;)Z"⟩, 11), (⟨"StraySheep", "sheepGoesAsTold", "(LStraySheep$Sheet;I)Z"⟩, 11), (⟨"StraySheep", "draw", "()I"⟩, 11), (⟨"StraySheep$Tape", "nextToken", "()V"⟩, 5), (⟨"StraySheep$Tape", "tokenAt", "(I)I"⟩, 5), (⟨"StraySheep$Tape", "readItem", "(LStraySheep$Hill;)Z"⟩, 5), (⟨"StraySheep$Tape", "kindOfWord", "()I"⟩, 5), (⟨"StraySheep$Tape", "isWord", "(Ljava/lang/String;)Z"⟩, 5), (⟨"StraySheep$Tape", "readSheep", "(LStraySheep$Hill;I)Z"⟩, 5), (⟨"StraySheep$Tape", "skipWord", "(Ljava/lang/String;)Z"⟩, 5), (⟨"StraySheep$Tape", "takeNumber", "(I)I"⟩, 5), (⟨"StraySheep$Tape", "readFold", "(LStraySheep$Hill;)Z"⟩, 5), (⟨"StraySheep$Tape", "readKeeper", "(LStraySheep$Hill;)Z"⟩, 5)]
theorem lw_r1 : ∀ q ∈ lw_privs_1, lw_okq q := List.forall_mem_cons.mpr ⟨lw_p0, List.forall_mem_cons.mpr ⟨lw_p1, List.forall_mem_cons.mpr ⟨lw_p2, List.forall_mem_cons.mpr ⟨lw_p3, List.forall_mem_cons.mpr ⟨lw_p4, List.forall_mem_cons.mpr ⟨lw_p5, List.forall_mem_cons.mpr ⟨lw_p6, List.forall_mem_cons.mpr ⟨lw_p7, List.forall_mem_cons.mpr ⟨lw_p8, List.forall_mem_cons.mpr ⟨lw_p9, List.forall_mem_cons.mpr ⟨lw_p10, List.forall_mem_cons.mpr ⟨lw_p11, List.forall_mem_cons.mpr ⟨lw_p12, List.forall_mem_cons.mpr ⟨lw_p13, List.forall_mem_cons.mpr ⟨lw_p14, List.forall_mem_cons.mpr ⟨lw_p15, fun _ h => absurd h List.not_mem_nil⟩⟩⟩⟩⟩⟩⟩⟩⟩⟩⟩⟩⟩⟩⟩⟩
theorem lw_p16 : lw_okq (⟨"StraySheep$Tape", "readWolf", "(LStraySheep$Hill;)Z"⟩, 5) := ⟨⟨by decide +kernel, by decide +kernel⟩, List.mem_of_getElem? (i := 84) (by decide +kernel), List.mem_of_getElem? (i := 612) (by decide +kernel), List.mem_of_getElem? (i := 613) (by decide +kernel)⟩
theorem lw_p17 : lw_okq (⟨"StraySheep", "spotsInUse", "()I"⟩, 11) := ⟨⟨by decide +kernel, by decide +kernel⟩, List.mem_of_getElem? (i := 14) (by decide +kernel), List.mem_of_getElem? (i := 684) (by decide +kernel), List.mem_of_getElem? (i := 685) (by decide +kernel)⟩
theorem lw_p18 : lw_okq (⟨"StraySheepModel", "finding", "(I)I"⟩, 24) := ⟨⟨by decide +kernel, by decide +kernel⟩, List.mem_of_getElem? (i := 692) (by decide +kernel), List.mem_of_getElem? (i := 791) (by decide +kernel), List.mem_of_getElem? (i := 792) (by decide +kernel)⟩
theorem lw_p19 : lw_okq (⟨"StraySheepModel", "keeperTo", "(I)I"⟩, 24) := ⟨⟨by decide +kernel, by decide +kernel⟩, List.mem_of_getElem? (i := 692) (by decide +kernel), List.mem_of_getElem? (i := 795) (by decide +kernel), List.mem_of_getElem? (i := 796) (by decide +kernel)⟩
theorem lw_p20 : lw_okq (⟨"StraySheepModel", "keeperAt", "(I)V"⟩, 24) := ⟨⟨by decide +kernel, by decide +kernel⟩, List.mem_of_getElem? (i := 692) (by decide +kernel), List.mem_of_getElem? (i := 799) (by decide +kernel), List.mem_of_getElem? (i := 800) (by decide +kernel)⟩
theorem lw_p21 : lw_okq (⟨"StraySheepModel", "become", "(II)I"⟩, 24) := ⟨⟨by decide +kernel, by decide +kernel⟩, List.mem_of_getElem? (i := 692) (by decide +kernel), List.mem_of_getElem? (i := 806) (by decide +kernel), List.mem_of_getElem? (i := 807) (by decide +kernel)⟩
theorem lw_p22 : lw_okq (⟨"StraySheepModel", "comes", "(II)I"⟩, 24) := ⟨⟨by decide +kernel, by decide +kernel⟩, List.mem_of_getElem? (i := 692) (by decide +kernel), List.mem_of_getElem? (i := 822) (by decide +kernel), List.mem_of_getElem? (i := 823) (by decide +kernel)⟩
theorem lw_p23 : lw_okq (⟨"StraySheepModel", "isSheep", "(I)Z"⟩, 24) := ⟨⟨by decide +kernel, by decide +kernel⟩, List.mem_of_getElem? (i := 692) (by decide +kernel), List.mem_of_getElem? (i := 830) (by decide +kernel), List.mem_of_getElem? (i := 831) (by decide +kernel)⟩
theorem lw_p24 : lw_okq (⟨"StraySheepModel", "far", "(I)I"⟩, 24) := ⟨⟨by decide +kernel, by decide +kernel⟩, List.mem_of_getElem? (i := 692) (by decide +kernel), List.mem_of_getElem? (i := 834) (by decide +kernel), List.mem_of_getElem? (i := 835) (by decide +kernel)⟩
theorem lw_p25 : lw_okq (⟨"StraySheepModel", "sheepIs", "(II)I"⟩, 24) := ⟨⟨by decide +kernel, by decide +kernel⟩, List.mem_of_getElem? (i := 692) (by decide +kernel), List.mem_of_getElem? (i := 838) (by decide +kernel), List.mem_of_getElem? (i := 839) (by decide +kernel)⟩
theorem lw_p26 : lw_okq (⟨"StraySheepModel", "strays", "(I)I"⟩, 24) := ⟨⟨by decide +kernel, by decide +kernel⟩, List.mem_of_getElem? (i := 692) (by decide +kernel), List.mem_of_getElem? (i := 845) (by decide +kernel), List.mem_of_getElem? (i := 846) (by decide +kernel)⟩
theorem lw_p27 : lw_okq (⟨"StraySheepModel", "isAlone", "(I)Z"⟩, 24) := ⟨⟨by decide +kernel, by decide +kernel⟩, List.mem_of_getElem? (i := 692) (by decide +kernel), List.mem_of_getElem? (i := 849) (by decide +kernel), List.mem_of_getElem? (i := 850) (by decide +kernel)⟩
theorem lw_p28 : lw_okq (⟨"StraySheepModel", "fears", "(I)I"⟩, 24) := ⟨⟨by decide +kernel, by decide +kernel⟩, List.mem_of_getElem? (i := 692) (by decide +kernel), List.mem_of_getElem? (i := 853) (by decide +kernel), List.mem_of_getElem? (i := 854) (by decide +kernel)⟩
theorem lw_p29 : lw_okq (⟨"StraySheepModel", "calms", "(I)I"⟩, 24) := ⟨⟨by decide +kernel, by decide +kernel⟩, List.mem_of_getElem? (i := 692) (by decide +kernel), List.mem_of_getElem? (i := 857) (by decide +kernel), List.mem_of_getElem? (i := 858) (by decide +kernel)⟩
theorem lw_p30 : lw_okq (⟨"StraySheepModel", "light", "(I)I"⟩, 24) := ⟨⟨by decide +kernel, by decide +kernel⟩, List.mem_of_getElem? (i := 692) (by decide +kernel), List.mem_of_getElem? (i := 861) (by decide +kernel), List.mem_of_getElem? (i := 862) (by decide +kernel)⟩
theorem lw_p31 : lw_okq (⟨"StraySheepModel", "orNone", "(I)I"⟩, 24) := ⟨⟨by decide +kernel, by decide +kernel⟩, List.mem_of_getElem? (i := 692) (by decide +kernel), List.mem_of_getElem? (i := 877) (by decide +kernel), List.mem_of_getElem? (i := 878) (by decide +kernel)⟩
def lw_privs_2 : List (MethodName × Nat) := [(⟨"StraySheep$Tape", "readWolf", "(LStraySheep$Hill;)Z"⟩, 5), (⟨"StraySheep", "spotsInUse", "()I"⟩, 11), (⟨"StraySheepModel", "finding", "(I)I"⟩, 24), (⟨"StraySheepModel", "keeperTo", "(I)I"⟩, 24), (⟨"StraySheepModel", "keeperAt", "(I)V"⟩, 24), (⟨"StraySheepModel", "become", "(II)I"⟩, 24), (⟨"StraySheepModel", "comes", "(II)I"⟩, 24), (⟨"StraySheepModel", "isSheep", "(I)Z"⟩, 24), (⟨"StraySheepModel", "far", "(I)I"⟩, 24), (⟨"StraySheepModel", "sheepIs", "(II)I"⟩, 24), (⟨"StraySheepModel", "strays", "(I)I"⟩, 24), (⟨"StraySheepModel", "isAlone", "(I)Z"⟩, 24), (⟨"StraySheepModel", "fears", "(I)I"⟩, 24), (⟨"StraySheepModel", "calms", "(I)I"⟩, 24), (⟨"StraySheepModel", "light", "(I)I"⟩, 24), (⟨"StraySheepModel", "orNone", "(I)I"⟩, 24)]
theorem lw_r2 : ∀ q ∈ lw_privs_2, lw_okq q := List.forall_mem_cons.mpr ⟨lw_p16, List.forall_mem_cons.mpr ⟨lw_p17, List.forall_mem_cons.mpr ⟨lw_p18, List.forall_mem_cons.mpr ⟨lw_p19, List.forall_mem_cons.mpr ⟨lw_p20, List.forall_mem_cons.mpr ⟨lw_p21, List.forall_mem_cons.mpr ⟨lw_p22, List.forall_mem_cons.mpr ⟨lw_p23, List.forall_mem_cons.mpr ⟨lw_p24, List.forall_mem_cons.mpr ⟨lw_p25, List.forall_mem_cons.mpr ⟨lw_p26, List.forall_mem_cons.mpr ⟨lw_p27, List.forall_mem_cons.mpr ⟨lw_p28, List.forall_mem_cons.mpr ⟨lw_p29, List.forall_mem_cons.mpr ⟨lw_p30, List.forall_mem_cons.mpr ⟨lw_p31, fun _ h => absurd h List.not_mem_nil⟩⟩⟩⟩⟩⟩⟩⟩⟩⟩⟩⟩⟩⟩⟩⟩
theorem lw_p32 : lw_okq (⟨"StraySheepModel", "setAt", "(I)I"⟩, 24) := ⟨⟨by decide +kernel, by decide +kernel⟩, List.mem_of_getElem? (i := 692) (by decide +kernel), List.mem_of_getElem? (i := 886) (by decide +kernel), List.mem_of_getElem? (i := 887) (by decide +kernel)⟩
theorem lw_p33 : lw_okq (⟨"StraySheepModel", "hoursGo", "(I)V"⟩, 24) := ⟨⟨by decide +kernel, by decide +kernel⟩, List.mem_of_getElem? (i := 692) (by decide +kernel), List.mem_of_getElem? (i := 895) (by decide +kernel), List.mem_of_getElem? (i := 896) (by decide +kernel)⟩
theorem lw_p34 : lw_okq (⟨"StraySheepModel", "hour", "()V"⟩, 24) := ⟨⟨by decide +kernel, by decide +kernel⟩, List.mem_of_getElem? (i := 692) (by decide +kernel), List.mem_of_getElem? (i := 899) (by decide +kernel), List.mem_of_getElem? (i := 900) (by decide +kernel)⟩
theorem lw_p35 : lw_okq (⟨"StraySheepModel", "sheepGo", "()V"⟩, 24) := ⟨⟨by decide +kernel, by decide +kernel⟩, List.mem_of_getElem? (i := 692) (by decide +kernel), List.mem_of_getElem? (i := 903) (by decide +kernel), List.mem_of_getElem? (i := 904) (by decide +kernel)⟩
theorem lw_p36 : lw_okq (⟨"StraySheepModel", "awayFrom", "(II)I"⟩, 24) := ⟨⟨by decide +kernel, by decide +kernel⟩, List.mem_of_getElem? (i := 692) (by decide +kernel), List.mem_of_getElem? (i := 915) (by decide +kernel), List.mem_of_getElem? (i := 916) (by decide +kernel)⟩
theorem lw_p37 : lw_okq (⟨"StraySheepModel", "wolfGoes", "()V"⟩, 24) := ⟨⟨by decide +kernel, by decide +kernel⟩, List.mem_of_getElem? (i := 692) (by decide +kernel), List.mem_of_getElem? (i := 919) (by decide +kernel), List.mem_of_getElem? (i := 920) (by decide +kernel)⟩
theorem lw_p38 : lw_okq (⟨"StraySheepModel", "nearest", "()I"⟩, 24) := ⟨⟨by decide +kernel, by decide +kernel⟩, List.mem_of_getElem? (i := 692) (by decide +kernel), List.mem_of_getElem? (i := 923) (by decide +kernel), List.mem_of_getElem? (i := 924) (by decide +kernel)⟩
theorem lw_p39 : lw_okq (⟨"StraySheepModel", "carries", "()V"⟩, 24) := ⟨⟨by decide +kernel, by decide +kernel⟩, List.mem_of_getElem? (i := 692) (by decide +kernel), List.mem_of_getElem? (i := 927) (by decide +kernel), List.mem_of_getElem? (i := 928) (by decide +kernel)⟩
theorem lw_p40 : lw_okq (⟨"StraySheepModel", "seeks", "()V"⟩, 24) := ⟨⟨by decide +kernel, by decide +kernel⟩, List.mem_of_getElem? (i := 692) (by decide +kernel), List.mem_of_getElem? (i := 931) (by decide +kernel), List.mem_of_getElem? (i := 932) (by decide +kernel)⟩
theorem lw_p41 : lw_okq (⟨"StraySheepModel", "sought", "()I"⟩, 24) := ⟨⟨by decide +kernel, by decide +kernel⟩, List.mem_of_getElem? (i := 692) (by decide +kernel), List.mem_of_getElem? (i := 935) (by decide +kernel), List.mem_of_getElem? (i := 936) (by decide +kernel)⟩
theorem lw_p42 : lw_okq (⟨"StraySheepModel", "sumOf", "(I)I"⟩, 24) := ⟨⟨by decide +kernel, by decide +kernel⟩, List.mem_of_getElem? (i := 692) (by decide +kernel), List.mem_of_getElem? (i := 939) (by decide +kernel), List.mem_of_getElem? (i := 940) (by decide +kernel)⟩
theorem lw_p43 : lw_okq (⟨"StraySheepModel", "lostSet", "()I"⟩, 24) := ⟨⟨by decide +kernel, by decide +kernel⟩, List.mem_of_getElem? (i := 692) (by decide +kernel), List.mem_of_getElem? (i := 947) (by decide +kernel), List.mem_of_getElem? (i := 948) (by decide +kernel)⟩
theorem lw_p44 : lw_okq (⟨"StraySheepModel", "mostAfraid", "()I"⟩, 24) := ⟨⟨by decide +kernel, by decide +kernel⟩, List.mem_of_getElem? (i := 692) (by decide +kernel), List.mem_of_getElem? (i := 951) (by decide +kernel), List.mem_of_getElem? (i := 952) (by decide +kernel)⟩
theorem lw_p45 : lw_okq (⟨"StraySheepModel", "behind", "(II)I"⟩, 24) := ⟨⟨by decide +kernel, by decide +kernel⟩, List.mem_of_getElem? (i := 692) (by decide +kernel), List.mem_of_getElem? (i := 959) (by decide +kernel), List.mem_of_getElem? (i := 960) (by decide +kernel)⟩
theorem lw_p46 : lw_okq (⟨"StraySheepModel", "putBack", "(I)I"⟩, 24) := ⟨⟨by decide +kernel, by decide +kernel⟩, List.mem_of_getElem? (i := 692) (by decide +kernel), List.mem_of_getElem? (i := 966) (by decide +kernel), List.mem_of_getElem? (i := 967) (by decide +kernel)⟩
theorem lw_p47 : lw_okq (⟨"StraySheepModel", "whenIs", "(III)I"⟩, 24) := ⟨⟨by decide +kernel, by decide +kernel⟩, List.mem_of_getElem? (i := 692) (by decide +kernel), List.mem_of_getElem? (i := 978) (by decide +kernel), List.mem_of_getElem? (i := 979) (by decide +kernel)⟩
def lw_privs_3 : List (MethodName × Nat) := [(⟨"StraySheepModel", "setAt", "(I)I"⟩, 24), (⟨"StraySheepModel", "hoursGo", "(I)V"⟩, 24), (⟨"StraySheepModel", "hour", "()V"⟩, 24), (⟨"StraySheepModel", "sheepGo", "()V"⟩, 24), (⟨"StraySheepModel", "awayFrom", "(II)I"⟩, 24), (⟨"StraySheepModel", "wolfGoes", "()V"⟩, 24), (⟨"StraySheepModel", "nearest", "()I"⟩, 24), (⟨"StraySheepModel", "carries", "()V"⟩, 24), (⟨"StraySheepModel", "seeks", "()V"⟩, 24), (⟨"StraySheepModel", "sought", "()I"⟩, 24), (⟨"StraySheepModel", "sumOf", "(I)I"⟩, 24), (⟨"StraySheepModel", "lostSet", "()I"⟩, 24), (⟨"StraySheepModel", "mostAfraid", "()I"⟩, 24), (⟨"StraySheepModel", "behind", "(II)I"⟩, 24), (⟨"StraySheepModel", "putBack", "(I)I"⟩, 24), (⟨"StraySheepModel", "whenIs", "(III)I"⟩, 24)]
theorem lw_r3 : ∀ q ∈ lw_privs_3, lw_okq q := List.forall_mem_cons.mpr ⟨lw_p32, List.forall_mem_cons.mpr ⟨lw_p33, List.forall_mem_cons.mpr ⟨lw_p34, List.forall_mem_cons.mpr ⟨lw_p35, List.forall_mem_cons.mpr ⟨lw_p36, List.forall_mem_cons.mpr ⟨lw_p37, List.forall_mem_cons.mpr ⟨lw_p38, List.forall_mem_cons.mpr ⟨lw_p39, List.forall_mem_cons.mpr ⟨lw_p40, List.forall_mem_cons.mpr ⟨lw_p41, List.forall_mem_cons.mpr ⟨lw_p42, List.forall_mem_cons.mpr ⟨lw_p43, List.forall_mem_cons.mpr ⟨lw_p44, List.forall_mem_cons.mpr ⟨lw_p45, List.forall_mem_cons.mpr ⟨lw_p46, List.forall_mem_cons.mpr ⟨lw_p47, fun _ h => absurd h List.not_mem_nil⟩⟩⟩⟩⟩⟩⟩⟩⟩⟩⟩⟩⟩⟩⟩⟩
theorem lw_p48 : lw_okq (⟨"StraySheepModel", "areHome", "()Z"⟩, 24) := ⟨⟨by decide +kernel, by decide +kernel⟩, List.mem_of_getElem? (i := 692) (by decide +kernel), List.mem_of_getElem? (i := 986) (by decide +kernel), List.mem_of_getElem? (i := 987) (by decide +kernel)⟩
theorem lw_p49 : lw_okq (⟨"StraySheepModel", "leastFor", "(III)I"⟩, 24) := ⟨⟨by decide +kernel, by decide +kernel⟩, List.mem_of_getElem? (i := 692) (by decide +kernel), List.mem_of_getElem? (i := 1001) (by decide +kernel), List.mem_of_getElem? (i := 1002) (by decide +kernel)⟩
theorem lw_p50 : lw_okq (⟨"StraySheepModel", "sumBehind", "(II)I"⟩, 24) := ⟨⟨by decide +kernel, by decide +kernel⟩, List.mem_of_getElem? (i := 692) (by decide +kernel), List.mem_of_getElem? (i := 1005) (by decide +kernel), List.mem_of_getElem? (i := 1006) (by decide +kernel)⟩
theorem lw_p51 : lw_okq (⟨"StraySheepModel", "areNear", "(II)Z"⟩, 24) := ⟨⟨by decide +kernel, by decide +kernel⟩, List.mem_of_getElem? (i := 692) (by decide +kernel), List.mem_of_getElem? (i := 1025) (by decide +kernel), List.mem_of_getElem? (i := 1026) (by decide +kernel)⟩
theorem lw_p52 : lw_okq (⟨"StraySheepModel", "lacks", "(IZ)I"⟩, 24) := ⟨⟨by decide +kernel, by decide +kernel⟩, List.mem_of_getElem? (i := 692) (by decide +kernel), List.mem_of_getElem? (i := 1036) (by decide +kernel), List.mem_of_getElem? (i := 1037) (by decide +kernel)⟩
theorem lw_p53 : lw_okq (⟨"StraySheepModel", "valuesFor", "(IIII)I"⟩, 24) := ⟨⟨by decide +kernel, by decide +kernel⟩, List.mem_of_getElem? (i := 692) (by decide +kernel), List.mem_of_getElem? (i := 1044) (by decide +kernel), List.mem_of_getElem? (i := 1045) (by decide +kernel)⟩
theorem lw_p54 : lw_okq (⟨"StraySheepModel", "isToldWay", "(II)Z"⟩, 24) := ⟨⟨by decide +kernel, by decide +kernel⟩, List.mem_of_getElem? (i := 692) (by decide +kernel), List.mem_of_getElem? (i := 1048) (by decide +kernel), List.mem_of_getElem? (i := 1049) (by decide +kernel)⟩
theorem lw_p55 : lw_okq (⟨"StraySheepModel", "drawn", "()I"⟩, 24) := ⟨⟨by decide +kernel, by decide +kernel⟩, List.mem_of_getElem? (i := 692) (by decide +kernel), List.mem_of_getElem? (i := 1060) (by decide +kernel), List.mem_of_getElem? (i := 1061) (by decide +kernel)⟩
theorem lw_p56 : lw_okq (⟨"StraySheepModel", "token", "()V"⟩, 24) := ⟨⟨by decide +kernel, by decide +kernel⟩, List.mem_of_getElem? (i := 692) (by decide +kernel), List.mem_of_getElem? (i := 1085) (by decide +kernel), List.mem_of_getElem? (i := 1086) (by decide +kernel)⟩
theorem lw_p57 : lw_okq (⟨"StraySheepModel", "byteAt", "(I)I"⟩, 24) := ⟨⟨by decide +kernel, by decide +kernel⟩, List.mem_of_getElem? (i := 692) (by decide +kernel), List.mem_of_getElem? (i := 1089) (by decide +kernel), List.mem_of_getElem? (i := 1090) (by decide +kernel)⟩
theorem lw_p58 : lw_okq (⟨"StraySheepModel", "readItem", "()V"⟩, 24) := ⟨⟨by decide +kernel, by decide +kernel⟩, List.mem_of_getElem? (i := 692) (by decide +kernel), List.mem_of_getElem? (i := 1093) (by decide +kernel), List.mem_of_getElem? (i := 1094) (by decide +kernel)⟩
theorem lw_p59 : lw_okq (⟨"StraySheepModel", "isWord", "(Ljava/lang/String;)Z"⟩, 24) := ⟨⟨by decide +kernel, by decide +kernel⟩, List.mem_of_getElem? (i := 692) (by decide +kernel), List.mem_of_getElem? (i := 1097) (by decide +kernel), List.mem_of_getElem? (i := 1098) (by decide +kernel)⟩
theorem lw_p60 : lw_okq (⟨"StraySheepModel", "readSheep", "(I)V"⟩, 24) := ⟨⟨by decide +kernel, by decide +kernel⟩, List.mem_of_getElem? (i := 692) (by decide +kernel), List.mem_of_getElem? (i := 1103) (by decide +kernel), List.mem_of_getElem? (i := 1104) (by decide +kernel)⟩
theorem lw_p61 : lw_okq (⟨"StraySheepModel", "must", "(Z)V"⟩, 24) := ⟨⟨by decide +kernel, by decide +kernel⟩, List.mem_of_getElem? (i := 692) (by decide +kernel), List.mem_of_getElem? (i := 1107) (by decide +kernel), List.mem_of_getElem? (i := 1108) (by decide +kernel)⟩
theorem lw_p62 : lw_okq (⟨"StraySheepModel", "mayTell", "(Ljava/lang/String;II)I"⟩, 24) := ⟨⟨by decide +kernel, by decide +kernel⟩, List.mem_of_getElem? (i := 692) (by decide +kernel), List.mem_of_getElem? (i := 1112) (by decide +kernel), List.mem_of_getElem? (i := 1113) (by decide +kernel)⟩
theorem lw_p63 : lw_okq (⟨"StraySheepModel", "takesWord", "(Ljava/lang/String;)Z"⟩, 24) := ⟨⟨by decide +kernel, by decide +kernel⟩, List.mem_of_getElem? (i := 692) (by decide +kernel), List.mem_of_getElem? (i := 1116) (by decide +kernel), List.mem_of_getElem? (i := 1117) (by decide +kernel)⟩
def lw_privs_4 : List (MethodName × Nat) := [(⟨"StraySheepModel", "areHome", "()Z"⟩, 24), (⟨"StraySheepModel", "leastFor", "(III)I"⟩, 24), (⟨"StraySheepModel", "sumBehind", "(II)I"⟩, 24), (⟨"StraySheepModel", "areNear", "(II)Z"⟩, 24), (⟨"StraySheepModel", "lacks", "(IZ)I"⟩, 24), (⟨"StraySheepModel", "valuesFor", "(IIII)I"⟩, 24), (⟨"StraySheepModel", "isToldWay", "(II)Z"⟩, 24), (⟨"StraySheepModel", "drawn", "()I"⟩, 24), (⟨"StraySheepModel", "token", "()V"⟩, 24), (⟨"StraySheepModel", "byteAt", "(I)I"⟩, 24), (⟨"StraySheepModel", "readItem", "()V"⟩, 24), (⟨"StraySheepModel", "isWord", "(Ljava/lang/String;)Z"⟩, 24), (⟨"StraySheepModel", "readSheep", "(I)V"⟩, 24), (⟨"StraySheepModel", "must", "(Z)V"⟩, 24), (⟨"StraySheepModel", "mayTell", "(Ljava/lang/String;II)I"⟩, 24), (⟨"StraySheepModel", "takesWord", "(Ljava/lang/String;)Z"⟩, 24)]
theorem lw_r4 : ∀ q ∈ lw_privs_4, lw_okq q := List.forall_mem_cons.mpr ⟨lw_p48, List.forall_mem_cons.mpr ⟨lw_p49, List.forall_mem_cons.mpr ⟨lw_p50, List.forall_mem_cons.mpr ⟨lw_p51, List.forall_mem_cons.mpr ⟨lw_p52, List.forall_mem_cons.mpr ⟨lw_p53, List.forall_mem_cons.mpr ⟨lw_p54, List.forall_mem_cons.mpr ⟨lw_p55, List.forall_mem_cons.mpr ⟨lw_p56, List.forall_mem_cons.mpr ⟨lw_p57, List.forall_mem_cons.mpr ⟨lw_p58, List.forall_mem_cons.mpr ⟨lw_p59, List.forall_mem_cons.mpr ⟨lw_p60, List.forall_mem_cons.mpr ⟨lw_p61, List.forall_mem_cons.mpr ⟨lw_p62, List.forall_mem_cons.mpr ⟨lw_p63, fun _ h => absurd h List.not_mem_nil⟩⟩⟩⟩⟩⟩⟩⟩⟩⟩⟩⟩⟩⟩⟩⟩
theorem lw_p64 : lw_okq (⟨"StraySheepModel", "number", "(II)I"⟩, 24) := ⟨⟨by decide +kernel, by decide +kernel⟩, List.mem_of_getElem? (i := 692) (by decide +kernel), List.mem_of_getElem? (i := 1120) (by decide +kernel), List.mem_of_getElem? (i := 1121) (by decide +kernel)⟩
theorem lw_p65 : lw_okq (⟨"StraySheepModel", "addItem", "(IIII)V"⟩, 24) := ⟨⟨by decide +kernel, by decide +kernel⟩, List.mem_of_getElem? (i := 692) (by decide +kernel), List.mem_of_getElem? (i := 1126) (by decide +kernel), List.mem_of_getElem? (i := 1127) (by decide +kernel)⟩
theorem lw_p66 : lw_okq (⟨"StraySheepModel", "isToldSo", "(I)V"⟩, 24) := ⟨⟨by decide +kernel, by decide +kernel⟩, List.mem_of_getElem? (i := 692) (by decide +kernel), List.mem_of_getElem? (i := 1134) (by decide +kernel), List.mem_of_getElem? (i := 1135) (by decide +kernel)⟩
def lw_privs_5 : List (MethodName × Nat) := [(⟨"StraySheepModel", "number", "(II)I"⟩, 24), (⟨"StraySheepModel", "addItem", "(IIII)V"⟩, 24), (⟨"StraySheepModel", "isToldSo", "(I)V"⟩, 24)]
theorem lw_r5 : ∀ q ∈ lw_privs_5, lw_okq q := List.forall_mem_cons.mpr ⟨lw_p64, List.forall_mem_cons.mpr ⟨lw_p65, List.forall_mem_cons.mpr ⟨lw_p66, fun _ h => absurd h List.not_mem_nil⟩⟩⟩
def lw_privs : List (MethodName × Nat) := lw_privs_1 ++ (lw_privs_2 ++ (lw_privs_3 ++ (lw_privs_4 ++ (lw_privs_5))))
def lw_tbl : List Cond := k2_sels lw_privs ++ tables_1
theorem lw_privs_ok : ∀ q ∈ lw_privs, lw_okq q := by
  show ∀ q ∈ lw_privs_1 ++ (lw_privs_2 ++ (lw_privs_3 ++ (lw_privs_4 ++ (lw_privs_5)))), lw_okq q
  exact List.forall_mem_append.mpr ⟨lw_r1, List.forall_mem_append.mpr ⟨lw_r2, List.forall_mem_append.mpr ⟨lw_r3, List.forall_mem_append.mpr ⟨lw_r4, lw_r5⟩⟩⟩⟩
end
section
def R0 : String := "StraySheep"
def T0 : u_T := fun k => match k with
  | 0 => ("StraySheep", "live", "LStraySheep$Hill;", true)
  | 1 => ("StraySheep", "trial", "LStraySheep$Hill;", true)
  | 2 => ("StraySheep", "kept", "LStraySheep$Hill;", true)
  | 3 => ("StraySheep", "isKept", "Z", false)
  | 4 => ("StraySheep", "spots", "[I", true)
  | 5 => ("StraySheep", "keptSpots", "[I", true)
  | 6 => ("StraySheep", "z", "I", false)
  | 7 => ("StraySheep", "keptZ", "I", false)
  | 8 => ("StraySheep", "tape", "LStraySheep$Tape;", true)
  | 9 => ("StraySheep", "sheets", "[LStraySheep$Sheet;", true)
  | _ => ("StraySheep", "findings", "[I", true)
def ty0 : Nat → FieldType := fun k => match k with
  | 0 => .object "StraySheep$Hill"
  | 1 => .object "StraySheep$Hill"
  | 2 => .object "StraySheep$Hill"
  | 3 => .boolean
  | 4 => .array .int
  | 5 => .array .int
  | 6 => .int
  | 7 => .int
  | 8 => .object "StraySheep$Tape"
  | 9 => .array (.object "StraySheep$Sheet")
  | _ => .array .int
theorem nm0 : ∀ a, a < 11 → ∀ b, b < 11 → a ≠ b → (T0 a).2.1 ≠ (T0 b).2.1 := by decide +kernel
theorem ty0_ok : ∀ k, k < 11 → parseFieldDescriptor (T0 k).2.2.1 = some (ty0 k) := by decide +kernel
def R1 : String := "StraySheep$Hill"
def T1 : u_T := fun k => match k with
  | 0 => ("StraySheep$Hill", "fold", "I", false)
  | 1 => ("StraySheep$Hill", "keeper", "I", false)
  | 2 => ("StraySheep$Hill", "carried", "I", false)
  | 3 => ("StraySheep$Hill", "wolf", "I", false)
  | 4 => ("StraySheep$Hill", "pace", "I", false)
  | 5 => ("StraySheep$Hill", "hour", "I", false)
  | 6 => ("StraySheep$Hill", "size", "I", false)
  | 7 => ("StraySheep$Hill", "kind", "[I", true)
  | 8 => ("StraySheep$Hill", "cell", "[I", true)
  | 9 => ("StraySheep$Hill", "fear", "[I", true)
  | 10 => ("StraySheep$Hill", "lost", "[I", true)
  | _ => ("StraySheep$Hill", "found", "[I", true)
def ty1 : Nat → FieldType := fun k => match k with
  | 0 => .int
  | 1 => .int
  | 2 => .int
  | 3 => .int
  | 4 => .int
  | 5 => .int
  | 6 => .int
  | 7 => .array .int
  | 8 => .array .int
  | 9 => .array .int
  | 10 => .array .int
  | _ => .array .int
theorem nm1 : ∀ a, a < 12 → ∀ b, b < 12 → a ≠ b → (T1 a).2.1 ≠ (T1 b).2.1 := by decide +kernel
theorem ty1_ok : ∀ k, k < 12 → parseFieldDescriptor (T1 k).2.2.1 = some (ty1 k) := by decide +kernel
def R2 : String := "StraySheep$Sheet"
def T2 : u_T := fun k => match k with
  | 0 => ("StraySheep$Sheet", "bits", "I", false)
  | 1 => ("StraySheep$Sheet", "size", "I", false)
  | _ => ("StraySheep$Sheet", "numbers", "[I", true)
def ty2 : Nat → FieldType := fun k => match k with
  | 0 => .int
  | 1 => .int
  | _ => .array .int
theorem nm2 : ∀ a, a < 3 → ∀ b, b < 3 → a ≠ b → (T2 a).2.1 ≠ (T2 b).2.1 := by decide +kernel
theorem ty2_ok : ∀ k, k < 3 → parseFieldDescriptor (T2 k).2.2.1 = some (ty2 k) := by decide +kernel
def R3 : String := "StraySheep$Tape"
def T3 : u_T := fun k => match k with
  | 0 => ("StraySheep$Tape", "bytes", "[I", true)
  | 1 => ("StraySheep$Tape", "length", "I", false)
  | 2 => ("StraySheep$Tape", "place", "I", false)
  | 3 => ("StraySheep$Tape", "behind", "I", false)
  | _ => ("StraySheep$Tape", "token", "I", false)
def ty3 : Nat → FieldType := fun k => match k with
  | 0 => .array .int
  | 1 => .int
  | 2 => .int
  | 3 => .int
  | _ => .int
theorem nm3 : ∀ a, a < 5 → ∀ b, b < 5 → a ≠ b → (T3 a).2.1 ≠ (T3 b).2.1 := by decide +kernel
theorem ty3_ok : ∀ k, k < 5 → parseFieldDescriptor (T3 k).2.2.1 = some (ty3 k) := by decide +kernel
def R4 : String := "StraySheepModel"
def T4 : u_T := fun k => match k with
  | 0 => ("StraySheepModel", "now", "[I", true)
  | 1 => ("StraySheepModel", "kept", "[I", true)
  | 2 => ("StraySheepModel", "aside", "[I", true)
  | 3 => ("StraySheepModel", "isKept", "Z", false)
  | 4 => ("StraySheepModel", "found", "[I", true)
  | 5 => ("StraySheepModel", "tethered", "I", false)
  | 6 => ("StraySheepModel", "tape", "[I", true)
  | 7 => ("StraySheepModel", "taped", "I", false)
  | 8 => ("StraySheepModel", "begins", "I", false)
  | 9 => ("StraySheepModel", "ends", "I", false)
  | 10 => ("StraySheepModel", "sort", "I", false)
  | 11 => ("StraySheepModel", "value", "I", false)
  | 12 => ("StraySheepModel", "isWrong", "Z", false)
  | 13 => ("StraySheepModel", "kindNames", "[Ljava/lang/String;", true)
  | 14 => ("StraySheepModel", "itemWhat", "[I", true)
  | 15 => ("StraySheepModel", "itemA", "[I", true)
  | 16 => ("StraySheepModel", "itemB", "[I", true)
  | 17 => ("StraySheepModel", "itemC", "[I", true)
  | 18 => ("StraySheepModel", "itemMany", "I", false)
  | 19 => ("StraySheepModel", "sheepThen", "I", false)
  | 20 => ("StraySheepModel", "widths", "[I", true)
  | 21 => ("StraySheepModel", "sizes", "[I", true)
  | 22 => ("StraySheepModel", "numbers", "[I", true)
  | _ => ("StraySheepModel", "moved", "[I", true)
def ty4 : Nat → FieldType := fun k => match k with
  | 0 => .array .int
  | 1 => .array .int
  | 2 => .array .int
  | 3 => .boolean
  | 4 => .array .int
  | 5 => .int
  | 6 => .array .int
  | 7 => .int
  | 8 => .int
  | 9 => .int
  | 10 => .int
  | 11 => .int
  | 12 => .boolean
  | 13 => .array (.object "java/lang/String")
  | 14 => .array .int
  | 15 => .array .int
  | 16 => .array .int
  | 17 => .array .int
  | 18 => .int
  | 19 => .int
  | 20 => .array .int
  | 21 => .array .int
  | 22 => .array .int
  | _ => .array .int
theorem nm4 : ∀ a, a < 24 → ∀ b, b < 24 → a ≠ b → (T4 a).2.1 ≠ (T4 b).2.1 := by decide +kernel
theorem ty4_ok : ∀ k, k < 24 → parseFieldDescriptor (T4 k).2.2.1 = some (ty4 k) := by decide +kernel
abbrev cls : List vw_C := [(R0, T0, 11), (R1, T1, 12), (R2, T2, 3), (R3, T3, 5), (R4, T4, 24)]
def LT : List Cond := lw_tbl.filter goodWord
theorem LTm {w : Cond} (i : Nat) (h : lw_tbl[i]? = some w) (hg : goodWord w = true) : w ∈ LT := List.mem_filter.mpr ⟨List.mem_of_getElem? h, hg⟩
theorem LTsub {w : Cond} (h : w ∈ LT) : w ∈ lw_tbl := (List.mem_filter.mp h).1
theorem LTgood : GoodIn LT LT := fun _ hw => ⟨hw, good_of_word (List.mem_filter.mp hw).2⟩
theorem LTr (ws : List Cond) (ps : List Nat) (hp : ws = ps.filterMap (fun i => lw_tbl[i]?)) (h : ws.all goodWord = true) : ∀ w ∈ ws, w ∈ LT := by
  intro w hw
  have h1 := List.all_eq_true.mp h w hw
  rw [hp] at hw
  obtain ⟨i, -, hi⟩ := List.mem_filterMap.mp hw
  exact LTm i hi h1
theorem in0 : ∀ w ∈ u_ws R0 T0 11, w ∈ LT := LTr _ [204, 206, 208, 210, 212, 214, 216, 218, 220, 222, 224] (by decide +kernel) (by decide +kernel)
theorem in1 : ∀ w ∈ u_ws R1 T1 12, w ∈ LT := LTr _ [124, 126, 128, 130, 132, 134, 136, 138, 140, 142, 144, 146] (by decide +kernel) (by decide +kernel)
theorem in2 : ∀ w ∈ u_ws R2 T2 3, w ∈ LT := LTr _ [186, 188, 190] (by decide +kernel) (by decide +kernel)
theorem in3 : ∀ w ∈ u_ws R3 T3 5, w ∈ LT := LTr _ [162, 164, 166, 168, 170] (by decide +kernel) (by decide +kernel)
theorem in4 : ∀ w ∈ u_ws R4 T4 24, w ∈ LT := LTr _ [797, 799, 801, 803, 805, 807, 809, 811, 813, 815, 817, 819, 821, 823, 825, 827, 829, 831, 833, 835, 837, 839, 841, 843] (by decide +kernel) (by decide +kernel)
def fdef (ci : Nat) : List Nat := match ci with
  | 0 => [1, 7, 13, 0, 19, 20, 0, 0, 21, 23, 32]
  | 1 => [0, 0, 0, 0, 0, 0, 0, 1, 2, 3, 4, 5]
  | 2 => [0, 0, 1]
  | 3 => [1, 0, 0, 0, 0]
  | 4 => [1, 2, 3, 0, 4, 0, 5, 0, 0, 0, 0, 0, 0, 6, 7, 8, 9, 10, 0, 0, 11, 12, 13, 14]
  | _ => []
def objL : List (Option Nat) := [some 0, some 1, none, none, none, none, none, some 1, none, none, none, none, none, some 1, none, none, none, none, none, none, none, some 3, none, none, some 2, none, some 2, none, some 2, none, some 2, none, none, some 4, none, none, none, none, none, none, none, none, none, none, none, none, none, none]
def arrL : List (Option Nat) := [none, none, some 8, some 8, some 8, some 8, some 8, none, some 8, some 8, some 8, some 8, some 8, none, some 8, some 8, some 8, some 8, some 8, some 10, some 10, none, some 120, none, none, some 40, none, some 40, none, some 40, none, some 40, some 7, none, some 58, some 58, some 58, some 8, some 120, none, some 120, some 120, some 120, some 120, some 4, some 4, some 160, some 40]
abbrev MM : Type := MethodName × ByteArray × Nat × Option FieldType × Nat × Nat
def S_init : MM := (⟨"StraySheep", "<init>", "()V"⟩, prog_1_method_1_code, 2, none, 2, 40)
def H_init : MM := (⟨"StraySheep$Hill", "<init>", "()V"⟩, prog_2_method_1_code, 1, none, 1, 20)
def T_init : MM := (⟨"StraySheep$Tape", "<init>", "()V"⟩, prog_4_method_1_code, 1, none, 1, 20)
def E_init : MM := (⟨"StraySheep$Sheet", "<init>", "()V"⟩, prog_3_method_1_code, 1, none, 1, 20)
def S_set : MM := (⟨"StraySheep", "set", "(II)I"⟩, prog_1_method_2_code, 4, some .int, 3, 63)
def S_canBeSet : MM := (⟨"StraySheep", "canBeSet", "(II)Z"⟩, prog_1_method_47_code, 2, some .boolean, 2, 42)
def S_isCell : MM := (⟨"StraySheep", "isCell", "(I)Z"⟩, prog_1_method_43_code, 1, some .boolean, 1, 22)
def S_isWithin : MM := (⟨"StraySheep", "isWithin", "(III)Z"⟩, prog_1_method_42_code, 3, some .boolean, 0, 0)
def S_finding : MM := (⟨"StraySheep", "finding", "(I)I"⟩, prog_1_method_41_code, 2, some .int, 0, 0)
def H_feature : MM := (⟨"StraySheep$Hill", "feature", "(I)I"⟩, prog_2_method_7_code, 2, some .int, 0, 0)
def H_moveKeeper : MM := (⟨"StraySheep$Hill", "moveKeeper", "(I)V"⟩, prog_2_method_6_code, 2, none, 1, 21)
def H_has : MM := (⟨"StraySheep$Hill", "has", "(I)Z"⟩, prog_2_method_3_code, 2, some .boolean, 0, 0)
def S_hill : MM := (⟨"StraySheep", "hill", "(I)I"⟩, prog_1_method_3_code, 2, some .int, 1, 22)
def S_sheep : MM := (⟨"StraySheep", "sheep", "(II)I"⟩, prog_1_method_4_code, 3, some .int, 2, 43)
def S_isKind : MM := (⟨"StraySheep", "isKind", "(I)Z"⟩, prog_1_method_44_code, 1, some .boolean, 1, 22)
def H_isFull : MM := (⟨"StraySheep$Hill", "isFull", "()Z"⟩, prog_2_method_4_code, 1, some .boolean, 0, 0)
def H_add : MM := (⟨"StraySheep$Hill", "add", "(II)I"⟩, prog_2_method_5_code, 4, some .int, 1, 20)
def S_of : MM := (⟨"StraySheep", "of", "(II)I"⟩, prog_1_method_5_code, 3, some .int, 4, 87)
def H_trait : MM := (⟨"StraySheep$Hill", "trait", "(II)I"⟩, prog_2_method_8_code, 3, some .int, 3, 65)
def H_far : MM := (⟨"StraySheep$Hill", "far", "(I)I"⟩, prog_2_method_9_code, 2, some .int, 1, 21)
def S_distance : MM := (⟨"StraySheep", "distance", "(II)I"⟩, prog_1_method_61_code, 2, some .int, 0, 0)
def H_strays : MM := (⟨"StraySheep$Hill", "strays", "(I)I"⟩, prog_2_method_17_code, 2, some .int, 2, 44)
def H_straysAsRam : MM := (⟨"StraySheep$Hill", "straysAsRam", "(I)I"⟩, prog_2_method_19_code, 2, some .int, 1, 20)
def H_straysAsSheep : MM := (⟨"StraySheep$Hill", "straysAsSheep", "()I"⟩, prog_2_method_18_code, 1, some .int, 0, 0)
def H_straysAsEwe : MM := (⟨"StraySheep$Hill", "straysAsEwe", "(I)I"⟩, prog_2_method_20_code, 2, some .int, 1, 20)
def H_hasCompany : MM := (⟨"StraySheep$Hill", "hasCompany", "(I)Z"⟩, prog_2_method_21_code, 2, some .boolean, 1, 23)
def H_sheepAt : MM := (⟨"StraySheep$Hill", "sheepAt", "(I)I"⟩, prog_2_method_11_code, 4, some .int, 0, 0)
def S_fearsOf : MM := (⟨"StraySheep", "fearsOf", "(I)I"⟩, prog_1_method_58_code, 1, some .int, 0, 0)
def S_calmsOf : MM := (⟨"StraySheep", "calmsOf", "(I)I"⟩, prog_1_method_59_code, 1, some .int, 0, 0)
def S_lightOf : MM := (⟨"StraySheep", "lightOf", "(I)I"⟩, prog_1_method_60_code, 1, some .int, 0, 0)
def S_change : MM := (⟨"StraySheep", "change", "(III)I"⟩, prog_1_method_6_code, 5, some .int, 4, 87)
def S_canBeChanged : MM := (⟨"StraySheep", "canBeChanged", "(II)Z"⟩, prog_1_method_48_code, 2, some .boolean, 2, 42)
def S_drop : MM := (⟨"StraySheep", "drop", "()I"⟩, prog_1_method_7_code, 2, some .int, 1, 21)
def S_who : MM := (⟨"StraySheep", "who", "(I)I"⟩, prog_1_method_8_code, 2, some .int, 2, 42)
def S_go : MM := (⟨"StraySheep", "go", "(I)I"⟩, prog_1_method_9_code, 2, some .int, 7, 149)
def H_passHours : MM := (⟨"StraySheep$Hill", "passHours", "(I)V"⟩, prog_2_method_22_code, 3, none, 6, 127)
def H_passHour : MM := (⟨"StraySheep$Hill", "passHour", "(I)V"⟩, prog_2_method_23_code, 2, none, 5, 106)
def H_strayAll : MM := (⟨"StraySheep$Hill", "strayAll", "(I)V"⟩, prog_2_method_24_code, 3, none, 3, 66)
def H_strayedFrom : MM := (⟨"StraySheep$Hill", "strayedFrom", "(II)I"⟩, prog_2_method_25_code, 4, some .int, 2, 43)
def S_towards : MM := (⟨"StraySheep", "towards", "(III)I"⟩, prog_1_method_62_code, 3, some .int, 1, 21)
def JM_min : MM := (⟨"java/lang/Math", "min", "(II)I"⟩, prog_8_method_69_code, 2, some .int, 0, 0)
def JM_max : MM := (⟨"java/lang/Math", "max", "(II)I"⟩, prog_8_method_65_code, 2, some .int, 0, 0)
def H_prowl : MM := (⟨"StraySheep$Hill", "prowl", "()V"⟩, prog_2_method_26_code, 2, none, 2, 44)
def H_nearestToWolf : MM := (⟨"StraySheep$Hill", "nearestToWolf", "()I"⟩, prog_2_method_27_code, 4, some .int, 1, 21)
def H_frighten : MM := (⟨"StraySheep$Hill", "frighten", "()V"⟩, prog_2_method_28_code, 2, none, 1, 21)
def H_tend : MM := (⟨"StraySheep$Hill", "tend", "()V"⟩, prog_2_method_29_code, 1, none, 4, 86)
def H_carryHome : MM := (⟨"StraySheep$Hill", "carryHome", "()V"⟩, prog_2_method_30_code, 2, none, 2, 43)
def H_seek : MM := (⟨"StraySheep$Hill", "seek", "()V"⟩, prog_2_method_31_code, 2, none, 3, 65)
def H_sought : MM := (⟨"StraySheep$Hill", "sought", "()I"⟩, prog_2_method_14_code, 4, some .int, 2, 42)
def H_settle : MM := (⟨"StraySheep$Hill", "settle", "()V"⟩, prog_2_method_32_code, 2, none, 1, 21)
def H_total : MM := (⟨"StraySheep$Hill", "total", "([I)I"⟩, prog_2_method_10_code, 4, some .int, 0, 0)
def S_now : MM := (⟨"StraySheep", "now", "(I)I"⟩, prog_1_method_10_code, 2, some .int, 3, 65)
def H_farSheep : MM := (⟨"StraySheep$Hill", "farSheep", "()I"⟩, prog_2_method_12_code, 3, some .int, 2, 42)
def H_mostAfraid : MM := (⟨"StraySheep$Hill", "mostAfraid", "()I"⟩, prog_2_method_15_code, 4, some .int, 0, 0)
def S_ahead : MM := (⟨"StraySheep", "ahead", "(III)I"⟩, prog_1_method_11_code, 4, some .int, 7, 149)
def H_become : MM := (⟨"StraySheep$Hill", "become", "(LStraySheep$Hill;)V"⟩, prog_2_method_2_code, 2, none, 1, 30)
def S_later : MM := (⟨"StraySheep", "later", "(II)I"⟩, prog_1_method_12_code, 3, some .int, 7, 149)
def S_when : MM := (⟨"StraySheep", "when", "(II)I"⟩, prog_1_method_13_code, 3, some .int, 8, 173)
def S_firstHourOfAtLeast : MM := (⟨"StraySheep", "firstHourOfAtLeast", "([III)I"⟩, prog_1_method_49_code, 5, some .int, 7, 149)
def S_home : MM := (⟨"StraySheep", "home", "()I"⟩, prog_1_method_14_code, 2, some .int, 7, 149)
def H_allAtFold : MM := (⟨"StraySheep$Hill", "allAtFold", "()Z"⟩, prog_2_method_13_code, 1, some .boolean, 1, 23)
def S_panic : MM := (⟨"StraySheep", "panic", "(II)I"⟩, prog_1_method_15_code, 3, some .int, 8, 173)
def S_standFor : MM := (⟨"StraySheep", "standFor", "(I)I"⟩, prog_1_method_16_code, 6, some .int, 7, 149)
def S_foldFor : MM := (⟨"StraySheep", "foldFor", "(I)I"⟩, prog_1_method_17_code, 6, some .int, 7, 149)
def S_kindFor : MM := (⟨"StraySheep", "kindFor", "(II)I"⟩, prog_1_method_18_code, 6, some .int, 7, 149)
def S_paceFor : MM := (⟨"StraySheep", "paceFor", "(II)I"⟩, prog_1_method_19_code, 4, some .int, 7, 149)
def S_tether : MM := (⟨"StraySheep", "tether", "(I)I"⟩, prog_1_method_20_code, 6, some .int, 7, 150)
def JI_bitCount : MM := (⟨"java/lang/Integer", "bitCount", "(I)I"⟩, prog_7_method_49_code, 1, some .int, 0, 0)
def S_keepsNear : MM := (⟨"StraySheep", "keepsNear", "(II)Z"⟩, prog_1_method_50_code, 4, some .boolean, 6, 127)
def S_fits : MM := (⟨"StraySheep", "fits", "(II)I"⟩, prog_1_method_21_code, 5, some .int, 8, 171)
def S_isSheet : MM := (⟨"StraySheep", "isSheet", "(I)Z"⟩, prog_1_method_46_code, 1, some .boolean, 1, 22)
def E_isMissing : MM := (⟨"StraySheep$Sheet", "isMissing", "()Z"⟩, prog_3_method_2_code, 1, some .boolean, 0, 0)
def S_keeperGoesAsTold : MM := (⟨"StraySheep", "keeperGoesAsTold", "(LStraySheep$Sheet;)Z"⟩, prog_1_method_51_code, 3, some .boolean, 7, 149)
def E_allows : MM := (⟨"StraySheep$Sheet", "allows", "(II)Z"⟩, prog_3_method_6_code, 3, some .boolean, 0, 0)
def S_kinds : MM := (⟨"StraySheep", "kinds", "(II)I"⟩, prog_1_method_22_code, 5, some .int, 8, 172)
def S_sheepGoesAsTold : MM := (⟨"StraySheep", "sheepGoesAsTold", "(LStraySheep$Sheet;I)Z"⟩, prog_1_method_52_code, 4, some .boolean, 7, 149)
def S_nights : MM := (⟨"StraySheep", "nights", "(I)I"⟩, prog_1_method_23_code, 3, some .int, 7, 149)
def S_draw : MM := (⟨"StraySheep", "draw", "()I"⟩, prog_1_method_53_code, 1, some .int, 0, 0)
def S_odds : MM := (⟨"StraySheep", "odds", "(III)J"⟩, prog_1_method_24_code, 7, some .long, 2, 44)
def H_cellsOutOfReachOf : MM := (⟨"StraySheep$Hill", "cellsOutOfReachOf", "(I)I"⟩, prog_2_method_16_code, 4, some .int, 1, 21)
def S_power : MM := (⟨"StraySheep", "power", "(II)J"⟩, prog_1_method_54_code, 5, some .long, 0, 0)
def S_seed : MM := (⟨"StraySheep", "seed", "(I)I"⟩, prog_1_method_25_code, 3, some .int, 0, 0)
def S_feed : MM := (⟨"StraySheep", "feed", "(II)I"⟩, prog_1_method_26_code, 4, some .int, 2, 42)
def T_hasRoomFor : MM := (⟨"StraySheep$Tape", "hasRoomFor", "(I)Z"⟩, prog_4_method_2_code, 2, some .boolean, 0, 0)
def T_append : MM := (⟨"StraySheep$Tape", "append", "(I)V"⟩, prog_4_method_3_code, 2, none, 1, 21)
def S_wipe : MM := (⟨"StraySheep", "wipe", "()I"⟩, prog_1_method_27_code, 2, some .int, 0, 0)
def S_text : MM := (⟨"StraySheep", "text", "()I"⟩, prog_1_method_28_code, 2, some .int, 9, 196)
def T_readOnto : MM := (⟨"StraySheep$Tape", "readOnto", "(LStraySheep$Hill;)I"⟩, prog_4_method_4_code, 3, some .int, 8, 174)
def T_nextToken : MM := (⟨"StraySheep$Tape", "nextToken", "()V"⟩, prog_4_method_15_code, 1, none, 1, 22)
def T_tokenAt : MM := (⟨"StraySheep$Tape", "tokenAt", "(I)I"⟩, prog_4_method_17_code, 3, some .int, 0, 0)
def T_isLong : MM := (⟨"StraySheep$Tape", "isLong", "(I)Z"⟩, prog_4_method_16_code, 1, some .boolean, 0, 0)
def T_readItem : MM := (⟨"StraySheep$Tape", "readItem", "(LStraySheep$Hill;)Z"⟩, prog_4_method_5_code, 3, some .boolean, 7, 152)
def T_kindOfWord : MM := (⟨"StraySheep$Tape", "kindOfWord", "()I"⟩, prog_4_method_10_code, 2, some .int, 5, 107)
def T_nameOf : MM := (⟨"StraySheep$Tape", "nameOf", "(I)Ljava/lang/String;"⟩, prog_4_method_11_code, 1, some (.object "java/lang/String"), 0, 0)
def T_isWord : MM := (⟨"StraySheep$Tape", "isWord", "(Ljava/lang/String;)Z"⟩, prog_4_method_12_code, 3, some .boolean, 4, 85)
def JS_length : MM := (⟨"java/lang/String", "length", "()I"⟩, prog_9_method_54_code, 1, some .int, 1, 20)
def JS_coder : MM := (⟨"java/lang/String", "coder", "()B"⟩, prog_9_method_152_code, 1, some .byte, 0, 0)
def JS_charAt : MM := (⟨"java/lang/String", "charAt", "(I)C"⟩, prog_9_method_56_code, 2, some .char, 3, 64)
def JS_isLatin1 : MM := (⟨"java/lang/String", "isLatin1", "()Z"⟩, prog_9_method_154_code, 1, some .boolean, 0, 0)
def JL_charAt : MM := (⟨"java/lang/StringLatin1", "charAt", "([BI)C"⟩, prog_10_method_2_code, 2, some .char, 2, 43)
def JS_checkIndex : MM := (⟨"java/lang/String", "checkIndex", "(II)V"⟩, prog_9_method_155_code, 2, none, 1, 22)
def JP_checkIndex : MM := (⟨"jdk/internal/util/Preconditions", "checkIndex", "(IILjava/util/function/BiFunction;)I"⟩, prog_13_method_11_code, 3, some .int, 0, 0)
def T_readSheep : MM := (⟨"StraySheep$Tape", "readSheep", "(LStraySheep$Hill;I)Z"⟩, prog_4_method_6_code, 5, some .boolean, 6, 128)
def T_skipWord : MM := (⟨"StraySheep$Tape", "skipWord", "(Ljava/lang/String;)Z"⟩, prog_4_method_13_code, 2, some .boolean, 5, 107)
def T_takeNumber : MM := (⟨"StraySheep$Tape", "takeNumber", "(I)I"⟩, prog_4_method_14_code, 4, some .int, 2, 42)
def T_readFold : MM := (⟨"StraySheep$Tape", "readFold", "(LStraySheep$Hill;)Z"⟩, prog_4_method_7_code, 3, some .boolean, 3, 65)
def T_readKeeper : MM := (⟨"StraySheep$Tape", "readKeeper", "(LStraySheep$Hill;)Z"⟩, prog_4_method_8_code, 3, some .boolean, 3, 65)
def T_readWolf : MM := (⟨"StraySheep$Tape", "readWolf", "(LStraySheep$Hill;)Z"⟩, prog_4_method_9_code, 4, some .boolean, 6, 128)
def S_hold : MM := (⟨"StraySheep", "hold", "(II)I"⟩, prog_1_method_29_code, 3, some .int, 2, 42)
def S_isSpot : MM := (⟨"StraySheep", "isSpot", "(I)Z"⟩, prog_1_method_45_code, 1, some .boolean, 1, 22)
def S_as : MM := (⟨"StraySheep", "as", "(II)I"⟩, prog_1_method_30_code, 4, some .int, 2, 43)
def S_isUnder : MM := (⟨"StraySheep", "isUnder", "(II)Z"⟩, prog_1_method_56_code, 4, some .boolean, 1, 20)
def S_kindAbove : MM := (⟨"StraySheep", "kindAbove", "(I)I"⟩, prog_1_method_57_code, 1, some .int, 0, 0)
def S_sheet : MM := (⟨"StraySheep", "sheet", "(III)I"⟩, prog_1_method_31_code, 4, some .int, 2, 42)
def E_begin : MM := (⟨"StraySheep$Sheet", "begin", "(II)V"⟩, prog_3_method_3_code, 4, none, 0, 0)
def S_write : MM := (⟨"StraySheep", "write", "(III)I"⟩, prog_1_method_32_code, 4, some .int, 2, 42)
def E_put : MM := (⟨"StraySheep$Sheet", "put", "(II)V"⟩, prog_3_method_4_code, 3, none, 0, 0)
def S_copy : MM := (⟨"StraySheep", "copy", "(IIIII)I"⟩, prog_1_method_33_code, 6, some .int, 2, 42)
def E_hasRun : MM := (⟨"StraySheep$Sheet", "hasRun", "(II)Z"⟩, prog_3_method_5_code, 3, some .boolean, 0, 0)
def S_load : MM := (⟨"StraySheep", "load", "(I)I"⟩, prog_1_method_34_code, 3, some .int, 2, 42)
def S_judge : MM := (⟨"StraySheep", "judge", "(I)I"⟩, prog_1_method_35_code, 3, some .int, 2, 42)
def S_image : MM := (⟨"StraySheep", "image", "()I"⟩, prog_1_method_36_code, 1, some .int, 2, 51)
def S_undo : MM := (⟨"StraySheep", "undo", "()I"⟩, prog_1_method_37_code, 1, some .int, 2, 51)
def S_tear : MM := (⟨"StraySheep", "tear", "()I"⟩, prog_1_method_38_code, 2, some .int, 0, 0)
def S_count : MM := (⟨"StraySheep", "count", "(I)I"⟩, prog_1_method_39_code, 2, some .int, 1, 23)
def S_spotsInUse : MM := (⟨"StraySheep", "spotsInUse", "()I"⟩, prog_1_method_55_code, 3, some .int, 0, 0)
def S_status : MM := (⟨"StraySheep", "status", "(I)I"⟩, prog_1_method_40_code, 4, some .int, 1, 22)
def Q_init : MM := (⟨"StraySheepModel", "<init>", "()V"⟩, prog_6_method_1_code, 2, none, 1, 20)
def Q_set : MM := (⟨"StraySheepModel", "set", "(II)I"⟩, prog_6_method_16_code, 4, some .int, 3, 64)
def Q_within : MM := (⟨"StraySheepModel", "within", "(III)Z"⟩, prog_6_method_3_code, 3, some .boolean, 0, 0)
def Q_isCell : MM := (⟨"StraySheepModel", "isCell", "(I)Z"⟩, prog_6_method_10_code, 1, some .boolean, 1, 22)
def Q_finding : MM := (⟨"StraySheepModel", "finding", "(I)I"⟩, prog_6_method_2_code, 2, some .int, 0, 0)
def Q_keeperTo : MM := (⟨"StraySheepModel", "keeperTo", "(I)I"⟩, prog_6_method_15_code, 3, some .int, 2, 42)
def Q_keeperAt : MM := (⟨"StraySheepModel", "keeperAt", "(I)V"⟩, prog_6_method_14_code, 2, none, 1, 21)
def Q_sheepAt : MM := (⟨"StraySheepModel", "sheepAt", "(II)I"⟩, prog_6_method_11_code, 2, some .int, 0, 0)
def Q_become : MM := (⟨"StraySheepModel", "become", "(II)I"⟩, prog_6_method_4_code, 4, some .int, 0, 0)
def Q_hill : MM := (⟨"StraySheepModel", "hill", "(I)I"⟩, prog_6_method_17_code, 2, some .int, 1, 22)
def Q_sheep : MM := (⟨"StraySheepModel", "sheep", "(II)I"⟩, prog_6_method_20_code, 3, some .int, 2, 45)
def Q_isKind : MM := (⟨"StraySheepModel", "isKind", "(I)Z"⟩, prog_6_method_18_code, 1, some .boolean, 1, 22)
def Q_comes : MM := (⟨"StraySheepModel", "comes", "(II)I"⟩, prog_6_method_19_code, 5, some .int, 1, 21)
def Q_of : MM := (⟨"StraySheepModel", "of", "(II)I"⟩, prog_6_method_27_code, 3, some .int, 4, 90)
def Q_isSheep : MM := (⟨"StraySheepModel", "isSheep", "(I)Z"⟩, prog_6_method_13_code, 2, some .boolean, 1, 22)
def Q_far : MM := (⟨"StraySheepModel", "far", "(I)I"⟩, prog_6_method_21_code, 2, some .int, 2, 43)
def Q_sheepIs : MM := (⟨"StraySheepModel", "sheepIs", "(II)I"⟩, prog_6_method_12_code, 3, some .int, 1, 21)
def JM_abs : MM := (⟨"java/lang/Math", "abs", "(I)I"⟩, prog_8_method_59_code, 1, some .int, 0, 0)
def Q_strays : MM := (⟨"StraySheepModel", "strays", "(I)I"⟩, prog_6_method_23_code, 5, some .int, 3, 66)
def Q_isAlone : MM := (⟨"StraySheepModel", "isAlone", "(I)Z"⟩, prog_6_method_22_code, 4, some .boolean, 2, 43)
def Q_fears : MM := (⟨"StraySheepModel", "fears", "(I)I"⟩, prog_6_method_24_code, 2, some .int, 2, 43)
def Q_calms : MM := (⟨"StraySheepModel", "calms", "(I)I"⟩, prog_6_method_25_code, 2, some .int, 2, 43)
def Q_light : MM := (⟨"StraySheepModel", "light", "(I)I"⟩, prog_6_method_26_code, 2, some .int, 2, 43)
def Q_change : MM := (⟨"StraySheepModel", "change", "(III)I"⟩, prog_6_method_29_code, 4, some .int, 3, 63)
def Q_isField : MM := (⟨"StraySheepModel", "isField", "(II)Z"⟩, prog_6_method_28_code, 2, some .boolean, 2, 42)
def Q_drop : MM := (⟨"StraySheepModel", "drop", "()I"⟩, prog_6_method_30_code, 2, some .int, 2, 42)
def Q_orNone : MM := (⟨"StraySheepModel", "orNone", "(I)I"⟩, prog_6_method_7_code, 2, some .int, 1, 21)
def Q_who : MM := (⟨"StraySheepModel", "who", "(I)I"⟩, prog_6_method_32_code, 2, some .int, 3, 66)
def Q_setAt : MM := (⟨"StraySheepModel", "setAt", "(I)I"⟩, prog_6_method_31_code, 4, some .int, 2, 43)
def Q_go : MM := (⟨"StraySheepModel", "go", "(I)I"⟩, prog_6_method_44_code, 2, some .int, 7, 156)
def Q_hoursGo : MM := (⟨"StraySheepModel", "hoursGo", "(I)V"⟩, prog_6_method_42_code, 3, none, 6, 134)
def Q_hour : MM := (⟨"StraySheepModel", "hour", "()V"⟩, prog_6_method_41_code, 2, none, 5, 113)
def Q_sheepGo : MM := (⟨"StraySheepModel", "sheepGo", "()V"⟩, prog_6_method_35_code, 4, none, 4, 90)
def Q_hasBit : MM := (⟨"StraySheepModel", "hasBit", "(II)Z"⟩, prog_6_method_9_code, 2, some .boolean, 0, 0)
def Q_towards : MM := (⟨"StraySheepModel", "towards", "(III)I"⟩, prog_6_method_33_code, 3, some .int, 1, 21)
def Q_awayFrom : MM := (⟨"StraySheepModel", "awayFrom", "(II)I"⟩, prog_6_method_34_code, 4, some .int, 1, 21)
def Q_wolfGoes : MM := (⟨"StraySheepModel", "wolfGoes", "()V"⟩, prog_6_method_37_code, 5, none, 3, 67)
def Q_nearest : MM := (⟨"StraySheepModel", "nearest", "()I"⟩, prog_6_method_36_code, 5, some .int, 2, 43)
def Q_carries : MM := (⟨"StraySheepModel", "carries", "()V"⟩, prog_6_method_39_code, 2, none, 3, 64)
def Q_seeks : MM := (⟨"StraySheepModel", "seeks", "()V"⟩, prog_6_method_40_code, 2, none, 4, 87)
def Q_sought : MM := (⟨"StraySheepModel", "sought", "()I"⟩, prog_6_method_38_code, 4, some .int, 3, 64)
def Q_sumOf : MM := (⟨"StraySheepModel", "sumOf", "(I)I"⟩, prog_6_method_43_code, 4, some .int, 2, 43)
def Q_now : MM := (⟨"StraySheepModel", "now", "(I)I"⟩, prog_6_method_47_code, 2, some .int, 4, 87)
def Q_lostSet : MM := (⟨"StraySheepModel", "lostSet", "()I"⟩, prog_6_method_45_code, 3, some .int, 3, 64)
def Q_mostAfraid : MM := (⟨"StraySheepModel", "mostAfraid", "()I"⟩, prog_6_method_46_code, 4, some .int, 2, 43)
def Q_ahead : MM := (⟨"StraySheepModel", "ahead", "(III)I"⟩, prog_6_method_50_code, 4, some .int, 8, 178)
def Q_behind : MM := (⟨"StraySheepModel", "behind", "(II)I"⟩, prog_6_method_48_code, 3, some .int, 7, 156)
def Q_copyRow : MM := (⟨"StraySheepModel", "copyRow", "([I[I)V"⟩, prog_6_method_5_code, 3, none, 0, 0)
def Q_putBack : MM := (⟨"StraySheepModel", "putBack", "(I)I"⟩, prog_6_method_6_code, 2, some .int, 1, 22)
def Q_later : MM := (⟨"StraySheepModel", "later", "(II)I"⟩, prog_6_method_51_code, 4, some .int, 8, 178)
def Q_when : MM := (⟨"StraySheepModel", "when", "(II)I"⟩, prog_6_method_53_code, 3, some .int, 7, 158)
def Q_whenIs : MM := (⟨"StraySheepModel", "whenIs", "(III)I"⟩, prog_6_method_52_code, 5, some .int, 6, 134)
def Q_home : MM := (⟨"StraySheepModel", "home", "()I"⟩, prog_6_method_55_code, 2, some .int, 6, 134)
def Q_areHome : MM := (⟨"StraySheepModel", "areHome", "()Z"⟩, prog_6_method_54_code, 1, some .boolean, 3, 66)
def Q_panic : MM := (⟨"StraySheepModel", "panic", "(II)I"⟩, prog_6_method_56_code, 3, some .int, 7, 158)
def Q_standFor : MM := (⟨"StraySheepModel", "standFor", "(I)I"⟩, prog_6_method_59_code, 2, some .int, 9, 206)
def Q_isThought : MM := (⟨"StraySheepModel", "isThought", "(I)Z"⟩, prog_6_method_57_code, 1, some .boolean, 1, 22)
def Q_leastFor : MM := (⟨"StraySheepModel", "leastFor", "(III)I"⟩, prog_6_method_58_code, 9, some .int, 8, 178)
def Q_sumBehind : MM := (⟨"StraySheepModel", "sumBehind", "(II)I"⟩, prog_6_method_49_code, 3, some .int, 7, 156)
def Q_foldFor : MM := (⟨"StraySheepModel", "foldFor", "(I)I"⟩, prog_6_method_60_code, 2, some .int, 9, 206)
def Q_kindFor : MM := (⟨"StraySheepModel", "kindFor", "(II)I"⟩, prog_6_method_61_code, 9, some .int, 8, 178)
def Q_paceFor : MM := (⟨"StraySheepModel", "paceFor", "(II)I"⟩, prog_6_method_62_code, 6, some .int, 8, 178)
def Q_tether : MM := (⟨"StraySheepModel", "tether", "(I)I"⟩, prog_6_method_64_code, 4, some .int, 8, 179)
def Q_areNear : MM := (⟨"StraySheepModel", "areNear", "(II)Z"⟩, prog_6_method_63_code, 4, some .boolean, 7, 156)
def Q_bits : MM := (⟨"StraySheepModel", "bits", "(I)I"⟩, prog_6_method_8_code, 3, some .int, 0, 0)
def Q_fits : MM := (⟨"StraySheepModel", "fits", "(II)I"⟩, prog_6_method_68_code, 4, some .int, 8, 186)
def Q_lacks : MM := (⟨"StraySheepModel", "lacks", "(IZ)I"⟩, prog_6_method_65_code, 3, some .int, 2, 42)
def Q_isSheet : MM := (⟨"StraySheepModel", "isSheet", "(I)Z"⟩, prog_6_method_91_code, 1, some .boolean, 1, 22)
def Q_valuesFor : MM := (⟨"StraySheepModel", "valuesFor", "(IIII)I"⟩, prog_6_method_67_code, 8, some .int, 7, 159)
def Q_isToldWay : MM := (⟨"StraySheepModel", "isToldWay", "(II)Z"⟩, prog_6_method_66_code, 6, some .boolean, 6, 134)
def Q_kinds : MM := (⟨"StraySheepModel", "kinds", "(II)I"⟩, prog_6_method_69_code, 4, some .int, 8, 186)
def Q_nights : MM := (⟨"StraySheepModel", "nights", "(I)I"⟩, prog_6_method_71_code, 3, some .int, 6, 134)
def Q_drawn : MM := (⟨"StraySheepModel", "drawn", "()I"⟩, prog_6_method_70_code, 1, some .int, 0, 0)
def Q_odds : MM := (⟨"StraySheepModel", "odds", "(III)J"⟩, prog_6_method_72_code, 10, some .long, 2, 43)
def Q_seed : MM := (⟨"StraySheepModel", "seed", "(I)I"⟩, prog_6_method_73_code, 2, some .int, 1, 23)
def Q_feed : MM := (⟨"StraySheepModel", "feed", "(II)I"⟩, prog_6_method_74_code, 4, some .int, 1, 22)
def Q_wipe : MM := (⟨"StraySheepModel", "wipe", "()I"⟩, prog_6_method_75_code, 2, some .int, 0, 0)
def Q_text : MM := (⟨"StraySheepModel", "text", "()I"⟩, prog_6_method_87_code, 2, some .int, 9, 198)
def Q_token : MM := (⟨"StraySheepModel", "token", "()V"⟩, prog_6_method_77_code, 2, none, 1, 22)
def Q_byteAt : MM := (⟨"StraySheepModel", "byteAt", "(I)I"⟩, prog_6_method_76_code, 2, some .int, 0, 0)
def Q_readItem : MM := (⟨"StraySheepModel", "readItem", "()V"⟩, prog_6_method_85_code, 3, none, 8, 176)
def Q_isWord : MM := (⟨"StraySheepModel", "isWord", "(Ljava/lang/String;)Z"⟩, prog_6_method_78_code, 4, some .boolean, 4, 85)
def Q_readSheep : MM := (⟨"StraySheepModel", "readSheep", "(I)V"⟩, prog_6_method_84_code, 4, none, 7, 153)
def Q_must : MM := (⟨"StraySheepModel", "must", "(Z)V"⟩, prog_6_method_79_code, 2, none, 2, 43)
def Q_mayTell : MM := (⟨"StraySheepModel", "mayTell", "(Ljava/lang/String;II)I"⟩, prog_6_method_83_code, 4, some .int, 6, 130)
def Q_takesWord : MM := (⟨"StraySheepModel", "takesWord", "(Ljava/lang/String;)Z"⟩, prog_6_method_82_code, 3, some .boolean, 5, 108)
def Q_number : MM := (⟨"StraySheepModel", "number", "(II)I"⟩, prog_6_method_80_code, 4, some .int, 3, 64)
def Q_addItem : MM := (⟨"StraySheepModel", "addItem", "(IIII)V"⟩, prog_6_method_81_code, 5, none, 0, 0)
def Q_isToldSo : MM := (⟨"StraySheepModel", "isToldSo", "(I)V"⟩, prog_6_method_86_code, 5, none, 2, 45)
def Q_hold : MM := (⟨"StraySheepModel", "hold", "(II)I"⟩, prog_6_method_89_code, 3, some .int, 2, 43)
def Q_isSpot : MM := (⟨"StraySheepModel", "isSpot", "(I)Z"⟩, prog_6_method_88_code, 1, some .boolean, 1, 22)
def Q_as : MM := (⟨"StraySheepModel", "as", "(II)I"⟩, prog_6_method_90_code, 4, some .int, 2, 43)
def Q_isUnder : MM := (⟨"StraySheepModel", "isUnder", "(II)Z"⟩, prog_6_method_97_code, 3, some .boolean, 1, 20)
def Q_above : MM := (⟨"StraySheepModel", "above", "(I)I"⟩, prog_6_method_96_code, 1, some .int, 0, 0)
def Q_sheet : MM := (⟨"StraySheepModel", "sheet", "(III)I"⟩, prog_6_method_93_code, 5, some .int, 2, 42)
def Q_write : MM := (⟨"StraySheepModel", "write", "(III)I"⟩, prog_6_method_94_code, 4, some .int, 2, 42)
def Q_cutTo : MM := (⟨"StraySheepModel", "cutTo", "(II)I"⟩, prog_6_method_92_code, 2, some .int, 0, 0)
def Q_copy : MM := (⟨"StraySheepModel", "copy", "(IIIII)I"⟩, prog_6_method_95_code, 7, some .int, 2, 42)
def Q_load : MM := (⟨"StraySheepModel", "load", "(I)I"⟩, prog_6_method_98_code, 3, some .int, 3, 64)
def Q_judge : MM := (⟨"StraySheepModel", "judge", "(I)I"⟩, prog_6_method_99_code, 3, some .int, 3, 64)
def Q_image : MM := (⟨"StraySheepModel", "image", "()I"⟩, prog_6_method_100_code, 1, some .int, 1, 22)
def Q_undo : MM := (⟨"StraySheepModel", "undo", "()I"⟩, prog_6_method_101_code, 1, some .int, 1, 22)
def Q_tear : MM := (⟨"StraySheepModel", "tear", "()I"⟩, prog_6_method_102_code, 2, some .int, 0, 0)
def Q_count : MM := (⟨"StraySheepModel", "count", "(I)I"⟩, prog_6_method_103_code, 4, some .int, 3, 66)
def Q_status : MM := (⟨"StraySheepModel", "status", "(I)I"⟩, prog_6_method_104_code, 2, some .int, 1, 22)
end
section
/-! THE WORLD: 48 cells at addresses g.1 0 .. g.1 47; what changes in them is Wd: cell, place -> int -/
abbrev Wd : Type := Nat → Nat → Int32
abbrev GG : Type := (Nat → Nat) × va_G × (ClassId × ClassId × ClassId) × (Nat → Nat) × (Nat → Nat)
def up (w : Wd) (k j : Nat) (v : Int32) : Wd := fun k' => if k' = k then upd (w k) j v else w k'
theorem up_same (w : Wd) (k j : Nat) (v : Int32) : up w k j v k = upd (w k) j v := if_pos rfl
theorem up_other (w : Wd) (k j : Nat) (v : Int32) {k' : Nat} (h : k' ≠ k) : up w k j v k' = w k' := if_neg h
def upR (w : Wd) (k : Nat) (f : Nat → Int32) : Wd := fun k' => if k' = k then f else w k'
theorem upR_same (w : Wd) (k : Nat) (f : Nat → Int32) : upR w k f k = f := if_pos rfl
theorem upR_other (w : Wd) (k : Nat) (f : Nat → Int32) {k' : Nat} (h : k' ≠ k) : upR w k f k' = w k' := if_neg h
def objC (k : Nat) : Option Nat := (objL[k]?).getD none
def arrN (k : Nat) : Option Nat := (arrL[k]?).getD none
theorem objC_lt {k ci : Nat} (h : objC k = some ci) : k < 48 := by
  unfold objC at h
  cases e : objL[k]? with
  | none => rw [e] at h; cases h
  | some x => exact (List.getElem?_eq_some_iff.mp e).1
theorem arrN_lt {k n : Nat} (h : arrN k = some n) : k < 48 := by
  unfold arrN at h
  cases e : arrL[k]? with
  | none => rw [e] at h; cases h
  | some x => exact (List.getElem?_eq_some_iff.mp e).1
theorem obj_arr : ∀ k, k < 48 → ((objL[k]?).getD none).isSome = true → ((arrL[k]?).getD none) = none := by decide +kernel
def fOf (g : GG) (w : Wd) (k ci : Nat) : List Value := (fdef ci).zipIdx.map (fun q => if q.1 = 0 then .int (w k q.2) else .ref (g.1 (k + q.1)))
def cellOf (g : GG) (w : Wd) (k : Nat) : va_E := match objC k with
  | some ci => .inr (ci, fOf g w k ci)
  | none => match arrN k with
    | some n => .inl (g.2.2.1.1, n, .inl (w k))
    | none => if k = 23 then .inl (g.2.2.1.2.1, 4, .inr (.inr (.inr (.inr (fun j => some (g.1 (24 + 2 * j)))))))
      else .inl (g.2.2.1.2.2, 7, .inr (.inr (.inr (.inr (fun j => some (g.2.2.2.1 j))))))
def wsW (g : GG) (w : Wd) : va_W := (List.range 48).map (fun k => (g.1 k, cellOf g w k))
def tysG (g : GG) : List (ClassId × FieldType) := [(g.2.2.1.1, .int), (g.2.2.1.2.1, .object "StraySheep$Sheet"), (g.2.2.1.2.2, .object "java/lang/String")]
def Hv (g : GG) (w : Wd) (H : Heap) : Prop := va_P g.2.1 cls (wsW g w) H
def Ad (g : GG) : Nat → Prop := fun q => ∃ k, k < 48 ∧ q = g.1 k
theorem wsW_at (g : GG) (w : Wd) {k : Nat} (h : k < 48) : (wsW g w)[k]? = some (g.1 k, cellOf g w k) := by
  unfold wsW
  rw [List.getElem?_map, List.getElem?_range h]
  rfl
theorem wsW_len (g : GG) (w : Wd) : (wsW g w).length = 48 := by simp [wsW]
theorem wsW_of {g : GG} {w : Wd} {k : Nat} {q : Nat × va_E} (h : (wsW g w)[k]? = some q) : k < 48 ∧ q = (g.1 k, cellOf g w k) := by
  have hk : k < 48 := by have := (List.getElem?_eq_some_iff.mp h).1; rw [wsW_len] at this; exact this
  rw [wsW_at g w hk] at h
  exact ⟨hk, (Option.some.inj h).symm⟩
theorem cellOf_obj (g : GG) (w : Wd) {k ci : Nat} (h : objC k = some ci) : cellOf g w k = .inr (ci, fOf g w k ci) := by
  unfold cellOf
  rw [h]
theorem cellOf_arr (g : GG) (w : Wd) {k n : Nat} (h : arrN k = some n) : cellOf g w k = .inl (g.2.2.1.1, n, .inl (w k)) := by
  have ho : objC k = none := by
    cases e : objC k with
    | none => rfl
    | some ci =>
      have := obj_arr k (objC_lt e) (by show (objC k).isSome = true; rw [e]; rfl)
      have h2 : arrN k = none := this
      rw [h] at h2; cases h2
  unfold cellOf
  rw [ho, h]
theorem cellOf_congr {g : GG} {w w1 : Wd} {k : Nat} (h : w1 k = w k) : cellOf g w1 k = cellOf g w k := by
  unfold cellOf fOf
  rw [h]
theorem wsW_set {g : GG} {w w1 : Wd} {k : Nat} {e : va_E} (hk : k < 48) (he : cellOf g w1 k = e) (ho : ∀ k', k' ≠ k → w1 k' = w k') : (wsW g w).set k (g.1 k, e) = wsW g w1 := by
  apply List.ext_getElem?
  intro i
  by_cases hi : i < 48
  · by_cases hik : i = k
    · subst hik
      rw [List.getElem?_set_self (by rw [wsW_len]; exact hk), wsW_at g w1 hk, he]
    · rw [List.getElem?_set_ne (Ne.symm hik), wsW_at g w hi, wsW_at g w1 hi, cellOf_congr (ho i hik)]
  · rw [List.getElem?_eq_none (by rw [List.length_set, wsW_len]; omega), List.getElem?_eq_none (by rw [wsW_len]; omega)]
theorem fOf_get (g : GG) (w : Wd) (k ci : Nat) {j o : Nat} (h : (fdef ci)[j]? = some o) : (fOf g w k ci)[j]? = some (if o = 0 then .int (w k j) else .ref (g.1 (k + o))) := by
  unfold fOf
  rw [List.getElem?_map, List.getElem?_zipIdx, h]
  simp
theorem fOf_len (g : GG) (w : Wd) (k ci : Nat) : (fOf g w k ci).length = (fdef ci).length := by simp [fOf]
theorem fOf_set (g : GG) (w : Wd) (k ci : Nat) {j : Nat} (v : Int32) (h : (fdef ci)[j]? = some 0) : fOf g (up w k j v) k ci = (fOf g w k ci).set j (.int v) := by
  have hj : j < (fdef ci).length := (List.getElem?_eq_some_iff.mp h).1
  apply List.ext_getElem?
  intro i
  by_cases hi : i < (fdef ci).length
  · have hget : (fdef ci)[i]? = some (fdef ci)[i] := List.getElem?_eq_getElem hi
    rw [fOf_get g _ k ci hget]
    by_cases hij : i = j
    · subst hij
      rw [List.getElem?_set_self (by rw [fOf_len]; exact hj)]
      have h0 : (fdef ci)[i] = 0 := by rw [h] at hget; exact (Option.some.inj hget).symm
      rw [h0, up_same]
      simp [upd]
    · rw [List.getElem?_set_ne (Ne.symm hij), fOf_get g w k ci hget, up_same]
      simp [upd, hij]
  · rw [List.getElem?_eq_none (by rw [fOf_len]; omega), List.getElem?_eq_none (by rw [List.length_set, fOf_len]; omega)]
/-! what holds of the machine all the while -/
def NW : List Cond := lw_tbl.filter (fun w => match w with | .methodLinkNest .. => true | _ => false)
def sTx : List String := ["sheep", "ram", "ewe", "lamb", "orphan", "wanderer", "leader", "fold", "keeper", "wolf", "at", "fear", "lost", "pace"]
def sBy : List (List Int32) := [[115, 104, 101, 101, 112], [114, 97, 109], [101, 119, 101], [108, 97, 109, 98], [111, 114, 112, 104, 97, 110], [119, 97, 110, 100, 101, 114, 101, 114], [108, 101, 97, 100, 101, 114], [102, 111, 108, 100], [107, 101, 101, 112, 101, 114], [119, 111, 108, 102], [97, 116], [102, 101, 97, 114], [108, 111, 115, 116], [112, 97, 99, 101]]
def SW (own : String) (k i : Nat) : Prop := Cond.stringRef own k (sTx.getD i "") ∈ lw_tbl
def Cx (g : GG) (U : State) : Prop := va_K g.2.1 cls (tysG g) U ∧ (∀ i j, i < 48 → j < 48 → g.1 i = g.1 j → i = j) ∧ (∀ w ∈ NW, va_Nw w U) ∧ (∀ own k i, i < 14 → SW own k i → vk_R own k (sTx.getD i "") (g.2.2.2.1 i) U)
def Hx (g : GG) (U : State) (H : Heap) : Prop := (∀ i : Nat, i < 14 → va_O "java/lang/String" (g.2.2.2.1 i) (Ad g) U H ∧ va_OF "java/lang/String" "coder" "B" (.int 0) (g.2.2.2.1 i) (Ad g) U H ∧ va_OF "java/lang/String" "value" "[B" (.ref (g.2.2.2.2 i)) (g.2.2.2.1 i) (Ad g) U H ∧ va_T .byte (g.2.2.2.2 i) (sBy.getD i []).length (fun j => .int ((sBy.getD i []).getD j 0)) (Ad g) U H) ∧ va_Z "java/lang/String" "COMPACT_STRINGS" "Z" (.int 1) (Ad g) U H ∧ va_Zq "jdk/internal/util/Preconditions" "SIOOBE_FORMATTER" "Ljava/util/function/BiFunction;" (Ad g) U H
theorem va_Zq.mv {C n d : String} {A : Nat → Prop} {u U : State} {H : Heap} (hvm : u.vm.Alike U.vm) (h : va_Zq C n d A u H) : va_Zq C n d A U H := h.elim (fun h => Or.inl (h.moved hvm)) (fun ⟨t, h⟩ => Or.inr ⟨t, h.moved hvm⟩)
theorem va_Zq.kp {C n d : String} {A : Nat → Prop} {U : State} {H H1 : Heap} (h : va_Zq C n d A U H) (hq : ∀ a : Nat, a < H.size → ¬ A a → H1[a]? = H[a]?) : va_Zq C n d A U H1 := h.elim (fun h => Or.inl (h.kept hq)) (fun ⟨t, h⟩ => Or.inr ⟨t, h.kept hq⟩)
theorem Hx.moved {g : GG} {u U : State} {H : Heap} (hvm : u.vm.Alike U.vm) (h : Hx g u H) : Hx g U H :=
  ⟨fun i hi => ⟨va_O.moved hvm (h.1 i hi).1, va_OF.moved hvm (h.1 i hi).2.1, va_OF.moved hvm (h.1 i hi).2.2.1, va_T.moved hvm (h.1 i hi).2.2.2⟩, h.2.1.moved hvm, h.2.2.mv hvm⟩
theorem Hx.kept {g : GG} {U : State} {H H1 : Heap} (h : Hx g U H) (hq : ∀ a : Nat, a < H.size → ¬ Ad g a → H1[a]? = H[a]?) : Hx g U H1 :=
  ⟨fun i hi => ⟨(h.1 i hi).1.kept hq, (h.1 i hi).2.1.kept hq, (h.1 i hi).2.2.1.kept hq, (h.1 i hi).2.2.2.kept hq⟩, h.2.1.kept hq, h.2.2.kp hq⟩
theorem NW_is {w : Cond} (h : w ∈ NW) : ∃ a i x b, w = .methodLinkNest a i x b := by
  have h1 := (List.mem_filter.mp h).2
  cases w <;> first | exact ⟨_, _, _, _, rfl⟩ | cases h1
theorem Cx.warm {g : GG} {s U : State} (hW : s.WarmedH U.vm) (h : Cx g s) : Cx g U :=
  ⟨va_K.moved hW.alike h.1, h.2.1, fun w hw => by
    obtain ⟨a, i, x, b, rfl⟩ := NW_is hw
    exact va_Nw.warmM hW (h.2.2.1 _ hw), fun own k i hi hs => vk_R.warm hW (h.2.2.2 own k i hi hs)⟩
theorem Cx.same {g : GG} {s U : State} (hvm : U.vm = s.vm) (h : Cx g s) : Cx g U :=
  ⟨va_K.moved (by rw [hvm]; exact Vm.Alike.refl _) h.1, h.2.1, fun w hw => by
    obtain ⟨a, i, x, b, rfl⟩ := NW_is hw
    exact va_Nw.same rfl hvm.symm (h.2.2.1 _ hw), fun own k i hi hs => vk_R.same hvm (h.2.2.2 own k i hi hs)⟩
theorem Cx.D {g : GG} {s : State} (h : Cx g s) (w : Wd) : va_D (Ad g) (wsW g w) := by
  refine ⟨fun i j p q hi hj hpq => ?_, fun k q hk => ?_⟩
  · obtain ⟨h1, rfl⟩ := wsW_of hi
    obtain ⟨h2, rfl⟩ := wsW_of hj
    exact h.2.1 i j h1 h2 hpq
  · obtain ⟨h1, rfl⟩ := wsW_of hk
    exact ⟨k, h1, rfl⟩
def Fx (g : GG) (M : MM) (p : Program) (s : State) (m : MethodId) (args : Array Value) (meth : Method) (c : Code) : Prop :=
  p.tables.exec = Jvm.exec ∧ c.code = M.2.1 ∧ c.maxLocals = M.2.2.1 ∧ meth.sig.returnType = M.2.2.2.1 ∧ meth.locks = false ∧ s.vm.findClass M.1.cls = some m.cls ∧ (∀ w ∈ LT, w.before args s = true) ∧ Cx g s ∧ Hx g s s.heap
/-! locals by their places -/
def lvh (ls : Array Slot) (nL : Nat) (lv : List (Option Value)) : Prop := ls.size = nL ∧ lv_wf ls ∧ ∀ (i : Nat) (v : Value), lv[i]? = some (some v) → ls[i]? = some (.val v)
def lvasc (lv : List (Option Value)) : List (Nat × Value) := lv.zipIdx.filterMap (fun q => q.1.map (fun v => (q.2, v)))
theorem mem_lvasc {lv : List (Option Value)} {i : Nat} {v : Value} : (i, v) ∈ lvasc lv ↔ lv[i]? = some (some v) := by
  unfold lvasc
  rw [List.mem_filterMap]
  constructor
  · rintro ⟨⟨o, k⟩, hm, he⟩
    have hm2 := List.mem_zipIdx_iff_getElem?.mp hm
    cases o with
    | none => cases he
    | some u =>
      simp at he
      obtain ⟨rfl, rfl⟩ := he
      exact hm2
  · intro h
    exact ⟨(some v, i), List.mem_zipIdx_iff_getElem?.mpr h, rfl⟩
theorem lvh.has {ls : Array Slot} {nL : Nat} {lv : List (Option Value)} (h : lvh ls nL lv) : lv_has ls nL (lvasc lv) := ⟨h.1, h.2.1, fun q hq => h.2.2 q.1 q.2 (mem_lvasc.mp hq)⟩
def okst (lv : List (Option Value)) (i : Nat) : Bool := match i with
  | 0 => true
  | k + 1 => match lv[k]? with
    | some (some u) => !(u.category == 2)
    | _ => true
theorem lvh.st1 {ls' : Array Slot} {nL : Nat} {lv : List (Option Value)} {i : Nat} {v : Value} (hok : okst lv i = true) (h : lv_has ls' nL ((i, v) :: (lvasc lv).filter (fun q => !(q.1 == i) && !(q.1 + 1 == i && q.2.category == 2)))) : lvh ls' nL (lv.set i (some v)) := by
  refine ⟨h.1, h.2.1, fun j u hj => ?_⟩
  by_cases hji : j = i
  · subst hji
    have hl : j < lv.length := by have := (List.getElem?_eq_some_iff.mp hj).1; rw [List.length_set] at this; exact this
    rw [List.getElem?_set_self hl] at hj
    cases hj
    exact h.2.2 (j, v) List.mem_cons_self
  · rw [List.getElem?_set_ne (Ne.symm hji)] at hj
    refine h.2.2 (j, u) (List.mem_cons_of_mem _ (List.mem_filter.mpr ⟨mem_lvasc.mpr hj, ?_⟩))
    have h1 : (j == i) = false := by simpa using hji
    by_cases h2 : j + 1 = i
    · subst h2
      simp only [okst, hj] at hok
      simp only [h1, Bool.not_false, Bool.true_and, beq_self_eq_true]
      exact hok
    · have h3 : (j + 1 == i) = false := by simpa using h2
      simp [h1, h3]
theorem lvh.st2 {ls' : Array Slot} {nL : Nat} {lv : List (Option Value)} {i : Nat} {v : Value} (hok : okst lv i = true) (h : lv_has ls' nL ((i, v) :: (lvasc lv).filter (fun q => !(q.1 == i) && (!(q.1 == i + 1) && !(q.1 + 1 == i && q.2.category == 2))))) : lvh ls' nL ((lv.set i (some v)).set (i + 1) none) := by
  refine ⟨h.1, h.2.1, fun j u hj => ?_⟩
  by_cases hj1 : j = i + 1
  · subst hj1
    have hl : i + 1 < (lv.set i (some v)).length := by have := (List.getElem?_eq_some_iff.mp hj).1; rw [List.length_set] at this; exact this
    rw [List.getElem?_set_self hl] at hj
    cases hj
  rw [List.getElem?_set_ne (Ne.symm hj1)] at hj
  by_cases hji : j = i
  · subst hji
    have hl : j < lv.length := by have := (List.getElem?_eq_some_iff.mp hj).1; rw [List.length_set] at this; exact this
    rw [List.getElem?_set_self hl] at hj
    cases hj
    exact h.2.2 (j, v) List.mem_cons_self
  · rw [List.getElem?_set_ne (Ne.symm hji)] at hj
    refine h.2.2 (j, u) (List.mem_cons_of_mem _ (List.mem_filter.mpr ⟨mem_lvasc.mpr hj, ?_⟩))
    have h1 : (j == i) = false := by simpa using hji
    have h0 : (j == i + 1) = false := by simpa using hj1
    by_cases h2 : j + 1 = i
    · subst h2
      simp only [okst, hj] at hok
      simp only [h1, h0, Bool.not_false, Bool.true_and, beq_self_eq_true]
      exact hok
    · have h3 : (j + 1 == i) = false := by simpa using h2
      simp [h1, h0, h3]
/-! THE JUDGEMENT: the body of M, at pc, with locals lv, stack st, world w, comes to its end with an answer and a world of Q -/
def Qq (g : GG) (Q : Option Value → Wd → Prop) : Array Value → State → Outcome → State → Prop := fun _ st oc t => (∃ (r : Option Value) (w' : Wd), oc = .returned r ∧ Q r w' ∧ Hv g w' t.heap) ∧ va_F (Ad g) st t
def rmM (M : MM) : Room := { frames := M.2.2.2.2.1, cells := 0, slots := 0, locals := M.2.2.2.2.2 }
def Go (l : Launch) (g : GG) (M : MM) (pc : Nat) (lv : List (Option Value)) (st : List Value) (w : Wd) (Q : Option Value → Wd → Prop) : Prop :=
  ∀ (p : Program) (e : Env) (s : State) (m : MethodId) (args : Array Value) (below : List Frame) (meth : Method) (c : Code) (H : Heap) (locs : List Loc) (ls : Array Slot),
    Fx g M p s m args meth c → Hv g w H → va_S (Ad g) s.heap H locs → lvh ls M.2.2.1 lv →
    W p l e (rmM M) s m args below meth c H locs 0 0 (MQ below (Qq g Q) args s 0 0 (Ad g)) (F0 m pc ls st)
def Res (l : Launch) (g : GG) (M : MM) (as : List Value) (w : Wd) (Q : Option Value → Wd → Prop) : Prop :=
  Met l M.1 (Cond.code M.1 M.2.1 M.2.2.1 M.2.2.2.1 :: LT) (rmM M) (va_Pc as (fun U => Cx g U ∧ Hx g U U.heap ∧ Hv g w U.heap)) (Qq g Q) 0 0 (Ad g)
def Is (r : Option Value) (w' : Wd) : Option Value → Wd → Prop := fun r1 w1 => r1 = r ∧ w1 = w'
end
section
/-! decoded instructions; what comes next -/
def Dc (M : MM) (pc : Nat) (i : Instr) (len n : Nat) : Prop := decode M.2.1 pc = .ok (i, len) ∧ pc + len = n
section ROWS
variable {l : Launch} {g : GG} {M : MM} {pc n : Nat} {lv : List (Option Value)} {st : List Value} {w : Wd} {Q : Option Value → Wd → Prop}
theorem g_iconst {z : Int} {v : Int32} (hd : Dc M pc (.iconst z) 1 n) (hv : Int32.ofInt z = v) (k : Go l g M n lv (.int v :: st) w Q) : Go l g M pc lv (st) w Q := by
  obtain ⟨hd, rfl⟩ := hd
  exact fun p e s m args below meth c H locs ls F hP hS hl => lv_iconst F.1 F.2.1 hd hv (k p e s m args below meth c H locs ls F hP hS hl)
theorem g_bipush {z : Int} {v : Int32} (hd : Dc M pc (.bipush z) 2 n) (hv : (Int8.ofInt z).toInt32 = v) (k : Go l g M n lv (.int v :: st) w Q) : Go l g M pc lv (st) w Q := by
  obtain ⟨hd, rfl⟩ := hd
  exact fun p e s m args below meth c H locs ls F hP hS hl => lv_bipush F.1 F.2.1 hd hv (k p e s m args below meth c H locs ls F hP hS hl)
theorem g_sipush {z : Int} {v : Int32} (hd : Dc M pc (.sipush z) 3 n) (hv : (Int16.ofInt z).toInt32 = v) (k : Go l g M n lv (.int v :: st) w Q) : Go l g M pc lv (st) w Q := by
  obtain ⟨hd, rfl⟩ := hd
  exact fun p e s m args below meth c H locs ls F hP hS hl => lv_sipush F.1 F.2.1 hd hv (k p e s m args below meth c H locs ls F hP hS hl)
theorem g_lconst {z : Fin 2} {v : Int64} (hd : Dc M pc (.lconst z) 1 n) (hv : Int64.ofNat (z : Nat) = v) (k : Go l g M n lv (.long v :: st) w Q) : Go l g M pc lv (st) w Q := by
  obtain ⟨hd, rfl⟩ := hd
  exact fun p e s m args below meth c H locs ls F hP hS hl => lv_lconst F.1 F.2.1 hd hv (k p e s m args below meth c H locs ls F hP hS hl)
theorem g_iload_n {z : Fin 4} {x : Int32} (hd : Dc M pc (.iload_n z) 1 n) (hi : lv[(z : Nat)]? = some (some (.int x))) (k : Go l g M n lv (.int x :: st) w Q) : Go l g M pc lv (st) w Q := by
  obtain ⟨hd, rfl⟩ := hd
  exact fun p e s m args below meth c H locs ls F hP hS hl => lv_iload_n F.1 F.2.1 hd rfl (hl.2.2 _ _ hi) (k p e s m args below meth c H locs ls F hP hS hl)
theorem g_iload {i : Nat} {x : Int32} (hd : Dc M pc (.iload i) 2 n) (hi : lv[i]? = some (some (.int x))) (k : Go l g M n lv (.int x :: st) w Q) : Go l g M pc lv (st) w Q := by
  obtain ⟨hd, rfl⟩ := hd
  exact fun p e s m args below meth c H locs ls F hP hS hl => lv_iload F.1 F.2.1 hd (hl.2.2 _ _ hi) (k p e s m args below meth c H locs ls F hP hS hl)
theorem g_lload_n {z : Fin 4} {x : Int64} (hd : Dc M pc (.lload_n z) 1 n) (hi : lv[(z : Nat)]? = some (some (.long x))) (k : Go l g M n lv (.long x :: st) w Q) : Go l g M pc lv (st) w Q := by
  obtain ⟨hd, rfl⟩ := hd
  exact fun p e s m args below meth c H locs ls F hP hS hl => lv_lload_n F.1 F.2.1 hd rfl (hl.2.2 _ _ hi) (k p e s m args below meth c H locs ls F hP hS hl)
theorem g_lload {i : Nat} {x : Int64} (hd : Dc M pc (.lload i) 2 n) (hi : lv[i]? = some (some (.long x))) (k : Go l g M n lv (.long x :: st) w Q) : Go l g M pc lv (st) w Q := by
  obtain ⟨hd, rfl⟩ := hd
  exact fun p e s m args below meth c H locs ls F hP hS hl => lv_lload F.1 F.2.1 hd (hl.2.2 _ _ hi) (k p e s m args below meth c H locs ls F hP hS hl)
theorem g_aload_n {z : Fin 4} {x : Nat} (hd : Dc M pc (.aload_n z) 1 n) (hi : lv[(z : Nat)]? = some (some (.ref x))) (k : Go l g M n lv (.ref x :: st) w Q) : Go l g M pc lv (st) w Q := by
  obtain ⟨hd, rfl⟩ := hd
  exact fun p e s m args below meth c H locs ls F hP hS hl => lv_aload_n F.1 F.2.1 hd rfl (hl.2.2 _ _ hi) (k p e s m args below meth c H locs ls F hP hS hl)
theorem g_aload {i : Nat} {x : Nat} (hd : Dc M pc (.aload i) 2 n) (hi : lv[i]? = some (some (.ref x))) (k : Go l g M n lv (.ref x :: st) w Q) : Go l g M pc lv (st) w Q := by
  obtain ⟨hd, rfl⟩ := hd
  exact fun p e s m args below meth c H locs ls F hP hS hl => lv_aload F.1 F.2.1 hd (hl.2.2 _ _ hi) (k p e s m args below meth c H locs ls F hP hS hl)
theorem g_aload_nN {z : Fin 4} (hd : Dc M pc (.aload_n z) 1 n) (hi : lv[(z : Nat)]? = some (some .null)) (k : Go l g M n lv (.null :: st) w Q) : Go l g M pc lv (st) w Q := by
  obtain ⟨hd, rfl⟩ := hd
  exact fun p e s m args below meth c H locs ls F hP hS hl => lv_aload_nN F.1 F.2.1 hd rfl (hl.2.2 _ _ hi) (k p e s m args below meth c H locs ls F hP hS hl)
theorem g_iadd {x y : Int32} (hd : Dc M pc .iadd 1 n) (k : Go l g M n lv (.int (x + y) :: st) w Q) : Go l g M pc lv (.int y :: .int x :: st) w Q := by
  obtain ⟨hd, rfl⟩ := hd
  exact fun p e s m args below meth c H locs ls F hP hS hl => lv_iadd F.1 F.2.1 hd (k p e s m args below meth c H locs ls F hP hS hl)
theorem g_isub {x y : Int32} (hd : Dc M pc .isub 1 n) (k : Go l g M n lv (.int (x - y) :: st) w Q) : Go l g M pc lv (.int y :: .int x :: st) w Q := by
  obtain ⟨hd, rfl⟩ := hd
  exact fun p e s m args below meth c H locs ls F hP hS hl => lv_isub F.1 F.2.1 hd (k p e s m args below meth c H locs ls F hP hS hl)
theorem g_imul {x y : Int32} (hd : Dc M pc .imul 1 n) (k : Go l g M n lv (.int (x * y) :: st) w Q) : Go l g M pc lv (.int y :: .int x :: st) w Q := by
  obtain ⟨hd, rfl⟩ := hd
  exact fun p e s m args below meth c H locs ls F hP hS hl => lv_imul F.1 F.2.1 hd (k p e s m args below meth c H locs ls F hP hS hl)
theorem g_iand {x y : Int32} (hd : Dc M pc .iand 1 n) (k : Go l g M n lv (.int (x &&& y) :: st) w Q) : Go l g M pc lv (.int y :: .int x :: st) w Q := by
  obtain ⟨hd, rfl⟩ := hd
  exact fun p e s m args below meth c H locs ls F hP hS hl => lv_iand F.1 F.2.1 hd (k p e s m args below meth c H locs ls F hP hS hl)
theorem g_ior {x y : Int32} (hd : Dc M pc .ior 1 n) (k : Go l g M n lv (.int (x ||| y) :: st) w Q) : Go l g M pc lv (.int y :: .int x :: st) w Q := by
  obtain ⟨hd, rfl⟩ := hd
  exact fun p e s m args below meth c H locs ls F hP hS hl => lv_ior F.1 F.2.1 hd (k p e s m args below meth c H locs ls F hP hS hl)
theorem g_ixor {x y : Int32} (hd : Dc M pc .ixor 1 n) (k : Go l g M n lv (.int (x ^^^ y) :: st) w Q) : Go l g M pc lv (.int y :: .int x :: st) w Q := by
  obtain ⟨hd, rfl⟩ := hd
  exact fun p e s m args below meth c H locs ls F hP hS hl => lv_ixor F.1 F.2.1 hd (k p e s m args below meth c H locs ls F hP hS hl)
theorem g_ishl {x y : Int32} (hd : Dc M pc .ishl 1 n) (k : Go l g M n lv (.int (x <<< (y &&& 31)) :: st) w Q) : Go l g M pc lv (.int y :: .int x :: st) w Q := by
  obtain ⟨hd, rfl⟩ := hd
  exact fun p e s m args below meth c H locs ls F hP hS hl => lv_ishl F.1 F.2.1 hd (k p e s m args below meth c H locs ls F hP hS hl)
theorem g_ishr {x y : Int32} (hd : Dc M pc .ishr 1 n) (k : Go l g M n lv (.int (x >>> (y &&& 31)) :: st) w Q) : Go l g M pc lv (.int y :: .int x :: st) w Q := by
  obtain ⟨hd, rfl⟩ := hd
  exact fun p e s m args below meth c H locs ls F hP hS hl => lv_ishr F.1 F.2.1 hd (k p e s m args below meth c H locs ls F hP hS hl)
theorem g_idiv {x y : Int32} (hd : Dc M pc .idiv 1 n) (hne : ¬ y = 0) (k : Go l g M n lv (.int (x / y) :: st) w Q) : Go l g M pc lv (.int y :: .int x :: st) w Q := by
  obtain ⟨hd, rfl⟩ := hd
  exact fun p e s m args below meth c H locs ls F hP hS hl => lv_idiv F.1 F.2.1 hd hne (k p e s m args below meth c H locs ls F hP hS hl)
theorem g_irem {x y : Int32} (hd : Dc M pc .irem 1 n) (hne : ¬ y = 0) (k : Go l g M n lv (.int (x - x / y * y) :: st) w Q) : Go l g M pc lv (.int y :: .int x :: st) w Q := by
  obtain ⟨hd, rfl⟩ := hd
  exact fun p e s m args below meth c H locs ls F hP hS hl => lv_irem F.1 F.2.1 hd hne (k p e s m args below meth c H locs ls F hP hS hl)
theorem g_iushr {x y : Int32} (hd : Dc M pc .iushr 1 n) (k : Go l g M n lv (.int ((x.toUInt32 >>> (y.toUInt32 &&& Int32.toUInt32 31)).toInt32) :: st) w Q) : Go l g M pc lv (.int y :: .int x :: st) w Q := by
  obtain ⟨hd, rfl⟩ := hd
  exact fun p e s m args below meth c H locs ls F hP hS hl => lv_iushr F.1 F.2.1 hd rfl (k p e s m args below meth c H locs ls F hP hS hl)
theorem g_ineg {x : Int32} (hd : Dc M pc .ineg 1 n) (k : Go l g M n lv (.int (-x) :: st) w Q) : Go l g M pc lv (.int x :: st) w Q := by
  obtain ⟨hd, rfl⟩ := hd
  exact fun p e s m args below meth c H locs ls F hP hS hl => lv_ineg F.1 F.2.1 hd (k p e s m args below meth c H locs ls F hP hS hl)
theorem g_ladd {x y : Int64} (hd : Dc M pc .ladd 1 n) (k : Go l g M n lv (.long (x + y) :: st) w Q) : Go l g M pc lv (.long y :: .long x :: st) w Q := by
  obtain ⟨hd, rfl⟩ := hd
  exact fun p e s m args below meth c H locs ls F hP hS hl => lv_ladd F.1 F.2.1 hd (k p e s m args below meth c H locs ls F hP hS hl)
theorem g_lmul {x y : Int64} (hd : Dc M pc .lmul 1 n) (k : Go l g M n lv (.long (x * y) :: st) w Q) : Go l g M pc lv (.long y :: .long x :: st) w Q := by
  obtain ⟨hd, rfl⟩ := hd
  exact fun p e s m args below meth c H locs ls F hP hS hl => lv_lmul F.1 F.2.1 hd (k p e s m args below meth c H locs ls F hP hS hl)
theorem g_lcmp {x y : Int64} (hd : Dc M pc .lcmp 1 n) (k : Go l g M n lv (.int (lg_cmp x y) :: st) w Q) : Go l g M pc lv (.long y :: .long x :: st) w Q := by
  obtain ⟨hd, rfl⟩ := hd
  exact fun p e s m args below meth c H locs ls F hP hS hl => W.lcmp F.1 F.2.1 hd (k p e s m args below meth c H locs ls F hP hS hl)
theorem g_i2l {x : Int32} (hd : Dc M pc .i2l 1 n) (k : Go l g M n lv (.long x.toInt64 :: st) w Q) : Go l g M pc lv (.int x :: st) w Q := by
  obtain ⟨hd, rfl⟩ := hd
  exact fun p e s m args below meth c H locs ls F hP hS hl => lv_i2l F.1 F.2.1 hd rfl (k p e s m args below meth c H locs ls F hP hS hl)
theorem g_i2b {x : Int32} (hd : Dc M pc .i2b 1 n) (k : Go l g M n lv (.int x.toInt8.toInt32 :: st) w Q) : Go l g M pc lv (.int x :: st) w Q := by
  obtain ⟨hd, rfl⟩ := hd
  exact fun p e s m args below meth c H locs ls F hP hS hl => lv_i2b F.1 F.2.1 hd rfl (k p e s m args below meth c H locs ls F hP hS hl)
theorem g_i2s {x : Int32} (hd : Dc M pc .i2s 1 n) (k : Go l g M n lv (.int x.toInt16.toInt32 :: st) w Q) : Go l g M pc lv (.int x :: st) w Q := by
  obtain ⟨hd, rfl⟩ := hd
  exact fun p e s m args below meth c H locs ls F hP hS hl => lv_i2s F.1 F.2.1 hd rfl (k p e s m args below meth c H locs ls F hP hS hl)
theorem g_i2c {x : Int32} (hd : Dc M pc .i2c 1 n) (k : Go l g M n lv (.int (x.toUInt32 % 65536).toInt32 :: st) w Q) : Go l g M pc lv (.int x :: st) w Q := by
  obtain ⟨hd, rfl⟩ := hd
  exact fun p e s m args below meth c H locs ls F hP hS hl => lv_i2c F.1 F.2.1 hd rfl (k p e s m args below meth c H locs ls F hP hS hl)
theorem g_dup {a : Value} (hd : Dc M pc .dup 1 n) (ha : a.category = 1) (k : Go l g M n lv (a :: a :: st) w Q) : Go l g M pc lv (a :: st) w Q := by
  obtain ⟨hd, rfl⟩ := hd
  exact fun p e s m args below meth c H locs ls F hP hS hl => lv_dup F.1 F.2.1 hd ha (k p e s m args below meth c H locs ls F hP hS hl)
theorem g_pop {a : Value} (hd : Dc M pc .pop 1 n) (ha : a.category = 1) (k : Go l g M n lv (st) w Q) : Go l g M pc lv (a :: st) w Q := by
  obtain ⟨hd, rfl⟩ := hd
  exact fun p e s m args below meth c H locs ls F hP hS hl => lv_pop F.1 F.2.1 hd ha (k p e s m args below meth c H locs ls F hP hS hl)
theorem g_dup2 {a b : Value} (hd : Dc M pc .dup2 1 n) (ha : a.category = 1) (hb : b.category = 1) (k : Go l g M n lv (a :: b :: a :: b :: st) w Q) : Go l g M pc lv (a :: b :: st) w Q := by
  obtain ⟨hd, rfl⟩ := hd
  exact fun p e s m args below meth c H locs ls F hP hS hl => lv_dup2_11 F.1 F.2.1 hd ha hb (k p e s m args below meth c H locs ls F hP hS hl)
theorem g_dup_x1 {a b : Value} (hd : Dc M pc .dup_x1 1 n) (ha : a.category = 1) (hb : b.category = 1) (k : Go l g M n lv (a :: b :: a :: st) w Q) : Go l g M pc lv (a :: b :: st) w Q := by
  obtain ⟨hd, rfl⟩ := hd
  exact fun p e s m args below meth c H locs ls F hP hS hl => lv_dup_x1 F.1 F.2.1 hd ha hb (k p e s m args below meth c H locs ls F hP hS hl)
theorem g_istore_n {z : Fin 4} {x : Int32} {lv2 : List (Option Value)} (hd : Dc M pc (.istore_n z) 1 n) (hn : (z : Nat) < M.2.2.1) (hok : okst lv (z : Nat) = true) (he : (lv.set (z : Nat) (some (.int x))) = lv2) (k : Go l g M n lv2 st w Q) : Go l g M pc lv (.int x :: st) w Q := by
  obtain ⟨hd, rfl⟩ := hd
  subst he
  exact fun p e s m args below meth c H locs ls F hP hS hl => lv_istore_n F.1 F.2.1 hd rfl hl.has hn rfl (fun ls2 h2 => k p e s m args below meth c H locs ls2 F hP hS (lvh.st1 hok h2))
theorem g_istore {i : Nat} {x : Int32} {lv2 : List (Option Value)} (hd : Dc M pc (.istore i) 2 n) (hn : i < M.2.2.1) (hok : okst lv i = true) (he : (lv.set i (some (.int x))) = lv2) (k : Go l g M n lv2 st w Q) : Go l g M pc lv (.int x :: st) w Q := by
  obtain ⟨hd, rfl⟩ := hd
  subst he
  exact fun p e s m args below meth c H locs ls F hP hS hl => lv_istore F.1 F.2.1 hd hl.has hn rfl (fun ls2 h2 => k p e s m args below meth c H locs ls2 F hP hS (lvh.st1 hok h2))
theorem g_astore_n {z : Fin 4} {x : Nat} {lv2 : List (Option Value)} (hd : Dc M pc (.astore_n z) 1 n) (hn : (z : Nat) < M.2.2.1) (hok : okst lv (z : Nat) = true) (he : (lv.set (z : Nat) (some (.ref x))) = lv2) (k : Go l g M n lv2 st w Q) : Go l g M pc lv (.ref x :: st) w Q := by
  obtain ⟨hd, rfl⟩ := hd
  subst he
  exact fun p e s m args below meth c H locs ls F hP hS hl => lv_astore_n F.1 F.2.1 hd rfl hl.has hn rfl (fun ls2 h2 => k p e s m args below meth c H locs ls2 F hP hS (lvh.st1 hok h2))
theorem g_astore {i : Nat} {x : Nat} {lv2 : List (Option Value)} (hd : Dc M pc (.astore i) 2 n) (hn : i < M.2.2.1) (hok : okst lv i = true) (he : (lv.set i (some (.ref x))) = lv2) (k : Go l g M n lv2 st w Q) : Go l g M pc lv (.ref x :: st) w Q := by
  obtain ⟨hd, rfl⟩ := hd
  subst he
  exact fun p e s m args below meth c H locs ls F hP hS hl => lv_astore F.1 F.2.1 hd hl.has hn rfl (fun ls2 h2 => k p e s m args below meth c H locs ls2 F hP hS (lvh.st1 hok h2))
theorem g_lstore_n {z : Fin 4} {x : Int64} {lv2 : List (Option Value)} (hd : Dc M pc (.lstore_n z) 1 n) (hn : (z : Nat) + 1 < M.2.2.1) (hok : okst lv (z : Nat) = true) (he : ((lv.set (z : Nat) (some (.long x))).set ((z : Nat) + 1) none) = lv2) (k : Go l g M n lv2 st w Q) : Go l g M pc lv (.long x :: st) w Q := by
  obtain ⟨hd, rfl⟩ := hd
  subst he
  exact fun p e s m args below meth c H locs ls F hP hS hl => lv_lstore_n F.1 F.2.1 hd rfl hl.has hn rfl (fun ls2 h2 => k p e s m args below meth c H locs ls2 F hP hS (lvh.st2 hok h2))
theorem g_lstore {i : Nat} {x : Int64} {lv2 : List (Option Value)} (hd : Dc M pc (.lstore i) 2 n) (hn : i + 1 < M.2.2.1) (hok : okst lv i = true) (he : ((lv.set i (some (.long x))).set (i + 1) none) = lv2) (k : Go l g M n lv2 st w Q) : Go l g M pc lv (.long x :: st) w Q := by
  obtain ⟨hd, rfl⟩ := hd
  subst he
  exact fun p e s m args below meth c H locs ls F hP hS hl => lv_lstore F.1 F.2.1 hd hl.has hn rfl (fun ls2 h2 => k p e s m args below meth c H locs ls2 F hP hS (lvh.st2 hok h2))
theorem g_iinc {i : Nat} {z : Int} {x v : Int32} {lv2 : List (Option Value)} (hd : Dc M pc (.iinc i z) 3 n) (hi : lv[i]? = some (some (.int x))) (hv : x + Int32.ofInt z = v) (hn : i < M.2.2.1) (hok : okst lv i = true) (he : lv.set i (some (.int v)) = lv2) (k : Go l g M n lv2 st w Q) : Go l g M pc lv st w Q := by
  obtain ⟨hd, rfl⟩ := hd
  subst he
  intro p e s m args below meth c H locs ls F hP hS hl
  obtain ⟨k0, hk0⟩ := List.getElem?_of_mem (mem_lvasc.mpr hi)
  exact lv_iinc F.1 F.2.1 hd hl.has hk0 hv hn rfl (fun ls2 h2 => k p e s m args below meth c H locs ls2 F hP hS (lvh.st1 hok h2))
theorem g_if_eq {x : Int32} {off : Int} {tgt : Nat} (hd : Dc M pc (.ifCond .eq off) 3 n) (ht : (pc : Int) + off = (tgt : Int)) (kt : x = 0 → Go l g M tgt lv st w Q) (kf : ¬ x = 0 → Go l g M n lv st w Q) : Go l g M pc lv (.int x :: st) w Q := by
  obtain ⟨hd, rfl⟩ := hd
  exact fun p e s m args below meth c H locs ls F hP hS hl => lv_if_eq F.1 F.2.1 hd ht (fun h => kt h p e s m args below meth c H locs ls F hP hS hl) (fun h => kf h p e s m args below meth c H locs ls F hP hS hl)
theorem g_icmp_eq {x y : Int32} {off : Int} {tgt : Nat} (hd : Dc M pc (.if_icmp .eq off) 3 n) (ht : (pc : Int) + off = (tgt : Int)) (kt : x = y → Go l g M tgt lv st w Q) (kf : ¬ x = y → Go l g M n lv st w Q) : Go l g M pc lv (.int y :: .int x :: st) w Q := by
  obtain ⟨hd, rfl⟩ := hd
  exact fun p e s m args below meth c H locs ls F hP hS hl => lv_icmp_eq F.1 F.2.1 hd ht (fun h => kt h p e s m args below meth c H locs ls F hP hS hl) (fun h => kf h p e s m args below meth c H locs ls F hP hS hl)
theorem g_if_ne {x : Int32} {off : Int} {tgt : Nat} (hd : Dc M pc (.ifCond .ne off) 3 n) (ht : (pc : Int) + off = (tgt : Int)) (kt : ¬ x = 0 → Go l g M tgt lv st w Q) (kf : x = 0 → Go l g M n lv st w Q) : Go l g M pc lv (.int x :: st) w Q := by
  obtain ⟨hd, rfl⟩ := hd
  exact fun p e s m args below meth c H locs ls F hP hS hl => lv_if_ne F.1 F.2.1 hd ht (fun h => kt h p e s m args below meth c H locs ls F hP hS hl) (fun h => kf h p e s m args below meth c H locs ls F hP hS hl)
theorem g_icmp_ne {x y : Int32} {off : Int} {tgt : Nat} (hd : Dc M pc (.if_icmp .ne off) 3 n) (ht : (pc : Int) + off = (tgt : Int)) (kt : ¬ x = y → Go l g M tgt lv st w Q) (kf : x = y → Go l g M n lv st w Q) : Go l g M pc lv (.int y :: .int x :: st) w Q := by
  obtain ⟨hd, rfl⟩ := hd
  exact fun p e s m args below meth c H locs ls F hP hS hl => lv_icmp_ne F.1 F.2.1 hd ht (fun h => kt h p e s m args below meth c H locs ls F hP hS hl) (fun h => kf h p e s m args below meth c H locs ls F hP hS hl)
theorem g_if_lt {x : Int32} {off : Int} {tgt : Nat} (hd : Dc M pc (.ifCond .lt off) 3 n) (ht : (pc : Int) + off = (tgt : Int)) (kt : x < 0 → Go l g M tgt lv st w Q) (kf : ¬ x < 0 → Go l g M n lv st w Q) : Go l g M pc lv (.int x :: st) w Q := by
  obtain ⟨hd, rfl⟩ := hd
  exact fun p e s m args below meth c H locs ls F hP hS hl => lv_if_lt F.1 F.2.1 hd ht (fun h => kt h p e s m args below meth c H locs ls F hP hS hl) (fun h => kf h p e s m args below meth c H locs ls F hP hS hl)
theorem g_icmp_lt {x y : Int32} {off : Int} {tgt : Nat} (hd : Dc M pc (.if_icmp .lt off) 3 n) (ht : (pc : Int) + off = (tgt : Int)) (kt : x < y → Go l g M tgt lv st w Q) (kf : ¬ x < y → Go l g M n lv st w Q) : Go l g M pc lv (.int y :: .int x :: st) w Q := by
  obtain ⟨hd, rfl⟩ := hd
  exact fun p e s m args below meth c H locs ls F hP hS hl => lv_icmp_lt F.1 F.2.1 hd ht (fun h => kt h p e s m args below meth c H locs ls F hP hS hl) (fun h => kf h p e s m args below meth c H locs ls F hP hS hl)
theorem g_if_ge {x : Int32} {off : Int} {tgt : Nat} (hd : Dc M pc (.ifCond .ge off) 3 n) (ht : (pc : Int) + off = (tgt : Int)) (kt : 0 ≤ x → Go l g M tgt lv st w Q) (kf : ¬ 0 ≤ x → Go l g M n lv st w Q) : Go l g M pc lv (.int x :: st) w Q := by
  obtain ⟨hd, rfl⟩ := hd
  exact fun p e s m args below meth c H locs ls F hP hS hl => lv_if_ge F.1 F.2.1 hd ht (fun h => kt h p e s m args below meth c H locs ls F hP hS hl) (fun h => kf h p e s m args below meth c H locs ls F hP hS hl)
theorem g_icmp_ge {x y : Int32} {off : Int} {tgt : Nat} (hd : Dc M pc (.if_icmp .ge off) 3 n) (ht : (pc : Int) + off = (tgt : Int)) (kt : y ≤ x → Go l g M tgt lv st w Q) (kf : ¬ y ≤ x → Go l g M n lv st w Q) : Go l g M pc lv (.int y :: .int x :: st) w Q := by
  obtain ⟨hd, rfl⟩ := hd
  exact fun p e s m args below meth c H locs ls F hP hS hl => lv_icmp_ge F.1 F.2.1 hd ht (fun h => kt h p e s m args below meth c H locs ls F hP hS hl) (fun h => kf h p e s m args below meth c H locs ls F hP hS hl)
theorem g_if_gt {x : Int32} {off : Int} {tgt : Nat} (hd : Dc M pc (.ifCond .gt off) 3 n) (ht : (pc : Int) + off = (tgt : Int)) (kt : 0 < x → Go l g M tgt lv st w Q) (kf : ¬ 0 < x → Go l g M n lv st w Q) : Go l g M pc lv (.int x :: st) w Q := by
  obtain ⟨hd, rfl⟩ := hd
  exact fun p e s m args below meth c H locs ls F hP hS hl => lv_if_gt F.1 F.2.1 hd ht (fun h => kt h p e s m args below meth c H locs ls F hP hS hl) (fun h => kf h p e s m args below meth c H locs ls F hP hS hl)
theorem g_icmp_gt {x y : Int32} {off : Int} {tgt : Nat} (hd : Dc M pc (.if_icmp .gt off) 3 n) (ht : (pc : Int) + off = (tgt : Int)) (kt : y < x → Go l g M tgt lv st w Q) (kf : ¬ y < x → Go l g M n lv st w Q) : Go l g M pc lv (.int y :: .int x :: st) w Q := by
  obtain ⟨hd, rfl⟩ := hd
  exact fun p e s m args below meth c H locs ls F hP hS hl => lv_icmp_gt F.1 F.2.1 hd ht (fun h => kt h p e s m args below meth c H locs ls F hP hS hl) (fun h => kf h p e s m args below meth c H locs ls F hP hS hl)
theorem g_if_le {x : Int32} {off : Int} {tgt : Nat} (hd : Dc M pc (.ifCond .le off) 3 n) (ht : (pc : Int) + off = (tgt : Int)) (kt : x ≤ 0 → Go l g M tgt lv st w Q) (kf : ¬ x ≤ 0 → Go l g M n lv st w Q) : Go l g M pc lv (.int x :: st) w Q := by
  obtain ⟨hd, rfl⟩ := hd
  exact fun p e s m args below meth c H locs ls F hP hS hl => lv_if_le F.1 F.2.1 hd ht (fun h => kt h p e s m args below meth c H locs ls F hP hS hl) (fun h => kf h p e s m args below meth c H locs ls F hP hS hl)
theorem g_icmp_le {x y : Int32} {off : Int} {tgt : Nat} (hd : Dc M pc (.if_icmp .le off) 3 n) (ht : (pc : Int) + off = (tgt : Int)) (kt : x ≤ y → Go l g M tgt lv st w Q) (kf : ¬ x ≤ y → Go l g M n lv st w Q) : Go l g M pc lv (.int y :: .int x :: st) w Q := by
  obtain ⟨hd, rfl⟩ := hd
  exact fun p e s m args below meth c H locs ls F hP hS hl => lv_icmp_le F.1 F.2.1 hd ht (fun h => kt h p e s m args below meth c H locs ls F hP hS hl) (fun h => kf h p e s m args below meth c H locs ls F hP hS hl)
theorem g_goto {off : Int} {tgt : Nat} (hd : Dc M pc (.goto off) 3 n) (ht : (pc : Int) + off = (tgt : Int)) (k : Go l g M tgt lv st w Q) : Go l g M pc lv st w Q := by
  obtain ⟨hd, rfl⟩ := hd
  exact fun p e s m args below meth c H locs ls F hP hS hl => lv_goto F.1 F.2.1 hd ht (k p e s m args below meth c H locs ls F hP hS hl)
theorem g_lookup {dflt : Int} {ps : Array (Int × Int)} {len : Nat} {x : Int32} {off : Int} {tgt : Nat} (hd : Dc M pc (.lookupswitch dflt ps) len n) (hp : (ps.toList.zip (ps.toList.drop 1)).all (fun (a, next) => a.1 < next.1) = true) (ho : Op.lookupswitch.offset ps.toList dflt x.toInt = off) (ht : (pc : Int) + off = (tgt : Int)) (k : Go l g M tgt lv st w Q) : Go l g M pc lv (.int x :: st) w Q := by
  obtain ⟨hd, rfl⟩ := hd
  exact fun p e s m args below meth c H locs ls F hP hS hl => lv_lookup F.1 F.2.1 hd hp ho ht (k p e s m args below meth c H locs ls F hP hS hl)
theorem g_tabOut {dflt lo hi : Int} {offs : Array Int} {len : Nat} {x : Int32} {tgt : Nat} (hd : Dc M pc (.tableswitch dflt lo hi offs) len n) (h : x.toInt < lo ∨ hi < x.toInt) (ht : (pc : Int) + dflt = (tgt : Int)) (k : Go l g M tgt lv st w Q) : Go l g M pc lv (.int x :: st) w Q := by
  obtain ⟨hd, rfl⟩ := hd
  exact fun p e s m args below meth c H locs ls F hP hS hl => lv_tableOut F.1 F.2.1 hd h ht (k p e s m args below meth c H locs ls F hP hS hl)
theorem g_tabIn {dflt lo hi : Int} {offs : Array Int} {len : Nat} {x : Int32} {off : Int} {tgt : Nat} (hd : Dc M pc (.tableswitch dflt lo hi offs) len n) (h1 : ¬ x.toInt < lo) (h2 : ¬ hi < x.toInt) (ho : offs[(x.toInt - lo).toNat]? = some off) (ht : (pc : Int) + off = (tgt : Int)) (k : Go l g M tgt lv st w Q) : Go l g M pc lv (.int x :: st) w Q := by
  obtain ⟨hd, rfl⟩ := hd
  exact fun p e s m args below meth c H locs ls F hP hS hl => lv_tableIn F.1 F.2.1 hd h1 h2 ho ht (k p e s m args below meth c H locs ls F hP hS hl)
theorem g_iret {x : Int32} {ty : FieldType} (hd : Dc M pc .ireturn 1 n) (hr : M.2.2.2.1 = some ty) (hn : narrow ty (.int x) = .int x) (hq : Q (some (.int x)) w) : Go l g M pc lv [.int x] w Q := by
  obtain ⟨hd, rfl⟩ := hd
  exact fun p e s m args below meth c H locs ls F hP hS hl => W.zret F.1 F.2.1 (F.2.2.2.1.trans hr) hn (fun t ht hW => ⟨⟨some (.int x), w, rfl, hq, by rw [ht]; exact hP⟩, hS.F ht⟩) hS.2.2 hd F.2.2.2.2.1
theorem g_lret {x : Int64} (hd : Dc M pc .lreturn 1 n) (hr : M.2.2.2.1 = some .long) (hq : Q (some (.long x)) w) : Go l g M pc lv [.long x] w Q := by
  obtain ⟨hd, rfl⟩ := hd
  exact fun p e s m args below meth c H locs ls F hP hS hl => W.lret F.1 F.2.1 (F.2.2.2.1.trans hr) (fun t ht hW => ⟨⟨some (.long x), w, rfl, hq, by rw [ht]; exact hP⟩, hS.F ht⟩) hS.2.2 hd F.2.2.2.2.1
theorem g_aret {x : Nat} {C : String} (hd : Dc M pc .areturn 1 n) (hr : M.2.2.2.1 = some (.object C)) (hq : Q (some (.ref x)) w) : Go l g M pc lv [.ref x] w Q := by
  obtain ⟨hd, rfl⟩ := hd
  exact fun p e s m args below meth c H locs ls F hP hS hl => W.aret F.1 F.2.1 (F.2.2.2.1.trans hr) (Or.inl ⟨_, rfl⟩) (Or.inr ⟨_, rfl⟩) (fun t ht hW => ⟨⟨some (.ref x), w, rfl, hq, by rw [ht]; exact hP⟩, hS.F ht⟩) hS.2.2 hd F.2.2.2.2.1
theorem g_vret (hd : Dc M pc .return_ 1 n) (hr : M.2.2.2.1 = none) (hq : Q none w) : Go l g M pc lv [] w Q := by
  obtain ⟨hd, rfl⟩ := hd
  exact fun p e s m args below meth c H locs ls F hP hS hl => W.vret F.1 F.2.1 (F.2.2.2.1.trans hr) (fun t ht hW => ⟨⟨none, w, rfl, hq, by rw [ht]; exact hP⟩, hS.F ht⟩) hS.2.2 hd F.2.2.2.2.1
end ROWS
end
section
/-! fields, arrays, constants -/
def clsOk (ci : Nat) (C : String) (T : u_T) (N : Nat) (ty : Nat → FieldType) : Prop := cls[ci]? = some (C, T, N) ∧ (∀ w ∈ u_ws C T N, w ∈ LT) ∧ (∀ k, k < N → parseFieldDescriptor (T k).2.2.1 = some (ty k)) ∧ (∀ a, a < N → ∀ b, b < N → a ≠ b → (T a).2.1 ≠ (T b).2.1) ∧ (fdef ci).length = N
theorem ok0 : clsOk 0 R0 T0 11 ty0 := ⟨rfl, in0, ty0_ok, nm0, rfl⟩
theorem ok1 : clsOk 1 R1 T1 12 ty1 := ⟨rfl, in1, ty1_ok, nm1, rfl⟩
theorem ok2 : clsOk 2 R2 T2 3 ty2 := ⟨rfl, in2, ty2_ok, nm2, rfl⟩
theorem ok3 : clsOk 3 R3 T3 5 ty3 := ⟨rfl, in3, ty3_ok, nm3, rfl⟩
theorem ok4 : clsOk 4 R4 T4 24 ty4 := ⟨rfl, in4, ty4_ok, nm4, rfl⟩
/-- entry idx of own's pool is field j of class ci -/
def Fk (own : String) (idx ci j : Nat) (ty : FieldType) (fin : Bool) : Prop := ∃ C T N tyf, clsOk ci C T N tyf ∧ j < N ∧ Cond.fieldLink own idx (T j).1 (T j).2.1 (T j).2.2.1 ∈ LT ∧ tyf j = ty ∧ (T j).2.2.2 = fin
section HROWS
variable {l : Launch} {g : GG} {M : MM} {pc n : Nat} {lv : List (Option Value)} {st : List Value} {w : Wd} {Q : Option Value → Wd → Prop}
theorem g_getI {k ci j idx : Nat} {ty : FieldType} {fin : Bool} (hd : Dc M pc (.getfield idx) 3 n) (hf : Fk M.1.cls idx ci j ty fin) (ho : objC k = some ci) (hj : (fdef ci)[j]? = some 0) (kk : Go l g M n lv (.int (w k j) :: st) w Q) : Go l g M pc lv (.ref (g.1 k) :: st) w Q := by
  obtain ⟨hd, rfl⟩ := hd
  obtain ⟨C, T, N, tyf, ⟨c1, c2, c3, c4, c5⟩, hjN, hl, -, -⟩ := hf
  intro p e s m args below meth c H locs ls F hP hS hlv
  exact va_get (D := g.2.1) (cl := cls) (C := C) (T := T) (N := N) (ci := ci) (ref := (T j).1) (v := .int (w k j)) F.1 F.2.1 F.2.2.2.2.2.2.1 c2 F.2.2.2.2.2.1 F.2.2.2.2.2.2.2.1.1 hP k (by rw [wsW_at g w (objC_lt ho), cellOf_obj g w ho]) c1 j hjN (F.2.2.2.2.2.2.1 _ hl) (fun _ h => h) (by rw [fOf_get g w k ci hj]; rfl) hd (kk p e s m args below meth c H locs ls F hP hS hlv)
theorem g_getR {k ci j o idx : Nat} {ty : FieldType} {fin : Bool} (hd : Dc M pc (.getfield idx) 3 n) (hf : Fk M.1.cls idx ci j ty fin) (ho : objC k = some ci) (hj : (fdef ci)[j]? = some (o + 1)) (kk : Go l g M n lv (.ref (g.1 (k + (o + 1))) :: st) w Q) : Go l g M pc lv (.ref (g.1 k) :: st) w Q := by
  obtain ⟨hd, rfl⟩ := hd
  obtain ⟨C, T, N, tyf, ⟨c1, c2, c3, c4, c5⟩, hjN, hl, -, -⟩ := hf
  intro p e s m args below meth c H locs ls F hP hS hlv
  exact va_get (D := g.2.1) (cl := cls) (C := C) (T := T) (N := N) (ci := ci) (ref := (T j).1) (v := .ref (g.1 (k + (o + 1)))) F.1 F.2.1 F.2.2.2.2.2.2.1 c2 F.2.2.2.2.2.1 F.2.2.2.2.2.2.2.1.1 hP k (by rw [wsW_at g w (objC_lt ho), cellOf_obj g w ho]) c1 j hjN (F.2.2.2.2.2.2.1 _ hl) (fun _ h => h) (by rw [fOf_get g w k ci hj]; rfl) hd (kk p e s m args below meth c H locs ls F hP hS hlv)
theorem g_putI {k ci j idx : Nat} {ty : FieldType} {x : Int32} (hd : Dc M pc (.putfield idx) 3 n) (hf : Fk M.1.cls idx ci j ty false) (ho : objC k = some ci) (hj : (fdef ci)[j]? = some 0) (hn : narrow ty (.int x) = .int x) (hfit : fits ty (.int x) = true) (kk : Go l g M n lv st (up w k j x) Q) : Go l g M pc lv (.int x :: .ref (g.1 k) :: st) w Q := by
  obtain ⟨hd, rfl⟩ := hd
  obtain ⟨C, T, N, tyf, ⟨c1, c2, c3, c4, c5⟩, hjN, hl, hty, hfin⟩ := hf
  intro p e s m args below meth c H locs ls F hP hS hlv
  refine va_put (D := g.2.1) (cl := cls) (C := C) (T := T) (N := N) (ci := ci) (ref := (T j).1) (A := Ad g) F.1 F.2.1 F.2.2.2.2.2.2.1 c2 tyf c3 c4 F.2.2.2.2.2.1 F.2.2.2.2.2.2.2.1.1 hP (F.2.2.2.2.2.2.2.1.D w) hS k (by rw [wsW_at g w (objC_lt ho), cellOf_obj g w ho]) c1 j hjN (F.2.2.2.2.2.2.1 _ hl) (fun _ h => h) hfin (c3 j hjN) (by rw [hty]; exact hn) (by rw [hty]; exact hfit) (by rw [fOf_len, c5]; exact hjN) hd (fun H1 locs1 hP1 hD1 hS1 => ?_)
  rw [wsW_set (w1 := up w k j x) (objC_lt ho) (by rw [cellOf_obj g _ ho, fOf_set g w k ci x hj]) (fun k' hk' => up_other w k j x hk')] at hP1
  exact kk p e s m args below meth c H1 locs1 ls F hP1 hS1 hlv
theorem g_iald {k N : Nat} {i : Int32} (hd : Dc M pc .iaload 1 n) (ha : arrN k = some N) (hi : vp_in i N) (kk : Go l g M n lv (.int (w k i.toNatClampNeg) :: st) w Q) : Go l g M pc lv (.int i :: .ref (g.1 k) :: st) w Q := by
  obtain ⟨hd, rfl⟩ := hd
  intro p e s m args below meth c H locs ls F hP hS hlv
  exact va_iald F.1 F.2.1 F.2.2.2.2.2.2.2.1.1 hP k 0 (by rw [wsW_at g w (arrN_lt ha), cellOf_arr g w ha]) rfl hi hd (kk p e s m args below meth c H locs ls F hP hS hlv)
theorem g_iast {k N : Nat} {i x : Int32} (hd : Dc M pc .iastore 1 n) (ha : arrN k = some N) (hi : vp_in i N) (kk : Go l g M n lv st (up w k i.toNatClampNeg x) Q) : Go l g M pc lv (.int x :: .int i :: .ref (g.1 k) :: st) w Q := by
  obtain ⟨hd, rfl⟩ := hd
  intro p e s m args below meth c H locs ls F hP hS hlv
  refine va_iast F.1 F.2.1 F.2.2.2.2.2.2.2.1.1 hP (F.2.2.2.2.2.2.2.1.D w) hS k 0 (by rw [wsW_at g w (arrN_lt ha), cellOf_arr g w ha]) rfl hi hd (fun H1 locs1 hP1 hD1 hS1 => ?_)
  rw [wsW_set (w1 := up w k i.toNatClampNeg x) (arrN_lt ha) (by rw [cellOf_arr g _ ha, up_same]) (fun k' hk' => up_other w k _ x hk')] at hP1
  exact kk p e s m args below meth c H1 locs1 ls F hP1 hS1 hlv
theorem g_ialdN {k N i : Nat} (hd : Dc M pc .iaload 1 n) (ha : arrN k = some N) (hi : i < N) (hN : N < 2 ^ 31) (kk : Go l g M n lv (.int (w k i) :: st) w Q) : Go l g M pc lv (.int (nI i) :: .ref (g.1 k) :: st) w Q :=
  g_iald hd ha (vp_in_nI hi hN) (by rw [nI_clamp (by omega)]; exact kk)
theorem g_iastN {k N i : Nat} {x : Int32} (hd : Dc M pc .iastore 1 n) (ha : arrN k = some N) (hi : i < N) (hN : N < 2 ^ 31) (kk : Go l g M n lv st (up w k i x) Q) : Go l g M pc lv (.int x :: .int (nI i) :: .ref (g.1 k) :: st) w Q :=
  g_iast hd ha (vp_in_nI hi hN) (by rw [nI_clamp (by omega)]; exact kk)
theorem cellOf_23 (g : GG) (w : Wd) : cellOf g w 23 = .inl (g.2.2.1.2.1, 4, .inr (.inr (.inr (.inr (fun j => some (g.1 (24 + 2 * j))))))) := rfl
theorem cellOf_39 (g : GG) (w : Wd) : cellOf g w 39 = .inl (g.2.2.1.2.2, 7, .inr (.inr (.inr (.inr (fun j => some (g.2.2.2.1 j)))))) := rfl
theorem g_sheetN {i : Nat} (hd : Dc M pc .aaload 1 n) (hi : i < 4) (kk : Go l g M n lv (.ref (g.1 (24 + 2 * i)) :: st) w Q) : Go l g M pc lv (.int (nI i) :: .ref (g.1 23) :: st) w Q := by
  obtain ⟨hd, rfl⟩ := hd
  intro p e s m args below meth c H locs ls F hP hS hlv
  refine va_aldq F.1 F.2.1 F.2.2.2.2.2.2.2.1.1 hP 23 1 (by rw [wsW_at g w (by decide), cellOf_23]) rfl (vp_in_nI hi (by decide)) hd ?_
  rw [nI_clamp (by omega)]
  exact kk p e s m args below meth c H locs ls F hP hS hlv
theorem g_knameN {i : Nat} (hd : Dc M pc .aaload 1 n) (hi : i < 7) (kk : Go l g M n lv (.ref (g.2.2.2.1 i) :: st) w Q) : Go l g M pc lv (.int (nI i) :: .ref (g.1 39) :: st) w Q := by
  obtain ⟨hd, rfl⟩ := hd
  intro p e s m args below meth c H locs ls F hP hS hlv
  refine va_aldq F.1 F.2.1 F.2.2.2.2.2.2.2.1.1 hP 39 2 (by rw [wsW_at g w (by decide), cellOf_39]) rfl (vp_in_nI hi (by decide)) hd ?_
  rw [nI_clamp (by omega)]
  exact kk p e s m args below meth c H locs ls F hP hS hlv
theorem g_klen (hd : Dc M pc .arraylength 1 n) (kk : Go l g M n lv (.int 7 :: st) w Q) : Go l g M pc lv (.ref (g.1 39) :: st) w Q := by
  obtain ⟨hd, rfl⟩ := hd
  intro p e s m args below meth c H locs ls F hP hS hlv
  exact va_alen F.1 F.2.1 F.2.2.2.2.2.2.2.1.1 hP 39 2 (by rw [wsW_at g w (by decide), cellOf_39]) rfl rfl hd (kk p e s m args below meth c H locs ls F hP hS hlv)
theorem g_ldc {idx : Nat} {v : Int32} (hd : Dc M pc (.ldc idx) 2 n) (hk : Cond.constant M.1.cls idx v ∈ LT) (kk : Go l g M n lv (.int v :: st) w Q) : Go l g M pc lv st w Q := by
  obtain ⟨hd, rfl⟩ := hd
  exact fun p e s m args below meth c H locs ls F hP hS hlv => lv_ldc F.1 F.2.1 F.2.2.2.2.2.1 (F.2.2.2.2.2.2.1 _ hk) hd (kk p e s m args below meth c H locs ls F hP hS hlv)
theorem g_ldcw {idx : Nat} {v : Int32} (hd : Dc M pc (.ldc_w idx) 3 n) (hk : Cond.constant M.1.cls idx v ∈ LT) (kk : Go l g M n lv (.int v :: st) w Q) : Go l g M pc lv st w Q := by
  obtain ⟨hd, rfl⟩ := hd
  exact fun p e s m args below meth c H locs ls F hP hS hlv => lv_ldcw F.1 F.2.1 F.2.2.2.2.2.1 (F.2.2.2.2.2.2.1 _ hk) hd (kk p e s m args below meth c H locs ls F hP hS hlv)
theorem g_ldcS {idx i : Nat} (hd : Dc M pc (.ldc idx) 2 n) (hi : i < 14) (hk : SW M.1.cls idx i) (kk : Go l g M n lv (.ref (g.2.2.2.1 i) :: st) w Q) : Go l g M pc lv st w Q := by
  obtain ⟨hd, rfl⟩ := hd
  exact fun p e s m args below meth c H locs ls F hP hS hlv => va_ldcS F.1 F.2.1 F.2.2.2.2.2.1 (F.2.2.2.2.2.2.2.1.2.2.2 _ _ i hi hk) hd (kk p e s m args below meth c H locs ls F hP hS hlv)
/-! what isn't seen of a world may be changed -/
def vis (k j : Nat) : Prop := (∃ ci, objC k = some ci ∧ (fdef ci)[j]? = some 0) ∨ (∃ N, arrN k = some N ∧ j < N)
theorem Hv.agree {g : GG} {w w1 : Wd} {H : Heap} (h : Hv g w H) (ha : ∀ k j, vis k j → w1 k j = w k j) : Hv g w1 H := by
  intro k q hk
  obtain ⟨hk48, rfl⟩ := wsW_of hk
  have h0 := h k _ (wsW_at g w hk48)
  cases ho : objC k with
  | some ci =>
    rw [cellOf_obj g _ ho] at h0 ⊢
    have e : fOf g w1 k ci = fOf g w k ci := by
      apply List.ext_getElem?
      intro i
      by_cases hi : i < (fdef ci).length
      · have hget : (fdef ci)[i]? = some (fdef ci)[i] := List.getElem?_eq_getElem hi
        rw [fOf_get g _ k ci hget, fOf_get g _ k ci hget]
        by_cases h00 : (fdef ci)[i] = 0
        · rw [ha k i (Or.inl ⟨ci, ho, by rw [hget, h00]⟩)]
        · rw [if_neg h00, if_neg h00]
      · rw [List.getElem?_eq_none (by rw [fOf_len]; omega), List.getElem?_eq_none (by rw [fOf_len]; omega)]
    rw [e]
    exact h0
  | none =>
    cases hn : arrN k with
    | some N =>
      rw [cellOf_arr g _ hn] at h0 ⊢
      have h1 : H[g.1 k]? = some (vp_cell g.2.2.1.1 (N, .inl (w k))) := h0
      show H[g.1 k]? = some (vp_cell g.2.2.1.1 (N, .inl (w1 k)))
      rw [h1]
      congr 1
      rw [vp_cell_i, vp_cell_i]
      simp only [arrV]
      congr 1
      apply Array.ext
      · simp
      · intro i h1 h2
        simp at h1 ⊢
        rw [ha k i (Or.inr ⟨N, hn, h1⟩)]
    | none =>
      have e : cellOf g w1 k = cellOf g w k := by
        unfold cellOf
        rw [ho, hn]
      rw [e]
      exact h0
theorem g_agree {w1 : Wd} (ha : ∀ k j, vis k j → w1 k j = w k j) (kk : Go l g M pc lv st w1 Q) : Go l g M pc lv st w Q :=
  fun p e s m args below meth c H locs ls F hP hS hlv => kk p e s m args below meth c H locs ls F (hP.agree ha) hS hlv
end HROWS
end
section
/-! entry and calls -/
theorem lg_len1 : ∀ (vs : List Value), (∀ v ∈ vs, v.category = 1) → (lg_sl vs).length = vs.length
  | [], _ => rfl
  | v :: vs, h => by
    have h1 : v.category = 1 := h v List.mem_cons_self
    have ih := lg_len1 vs (fun u hu => h u (List.mem_cons_of_mem _ hu))
    show ((if v.category = 2 then [Slot.val v, .second] else [.val v]) ++ lg_sl vs).length = _
    rw [if_neg (by omega)]
    simp [ih]
    try omega
theorem lv_args1 : ∀ (vs : List Value) (o i : Nat) (v : Value), (∀ v ∈ vs, v.category = 1) → vs[i]? = some v → (o + i, v) ∈ lv_args o vs
  | [], _, _, _, _, h => by simp at h
  | u :: vs, o, 0, v, _, h => by
    simp at h
    subst h
    exact List.mem_cons_self
  | u :: vs, o, i + 1, v, hc, h => by
    have h1 : u.category = 1 := hc u List.mem_cons_self
    have ih := lv_args1 vs (o + 1) i v (fun z hz => hc z (List.mem_cons_of_mem _ hz)) (by simpa using h)
    show (o + (i + 1), v) ∈ (o, u) :: lv_args (if u.category = 2 then o + 2 else o + 1) vs
    rw [if_neg (by omega)]
    refine List.mem_cons_of_mem _ ?_
    have e : o + (i + 1) = o + 1 + i := by omega
    rw [e]
    exact ih
theorem Res.of {l : Launch} {g : GG} {M : MM} {as : List Value} {w : Wd} {Q : Option Value → Wd → Prop} (hp : plainName M.1.cls = true) (hcat : ∀ v ∈ as, v.category = 1) (hlen : as.length ≤ M.2.2.1) {lv : List (Option Value)} (hlv : as.map some ++ List.replicate (M.2.2.1 - as.length) none = lv) (k : Go l g M 0 lv [] w Q) : Res l g M as w Q := by
  subst hlv
  refine Met.ofW (cc := M.2.1) (maxL := M.2.2.1) (ret := M.2.2.2.1) hp rfl ?_
  intro p e s m args below meth c s₁ B hml hv
  obtain ⟨rfl, hC, hH, hP⟩ := hv
  rw [lg_entry_eq]
  have hl := lv_entry as (n := M.2.2.1) (by rw [lg_len1 as hcat]; exact hlen)
  have hts := atoms_spec (ws := Cond.code M.1 M.2.1 M.2.2.1 M.2.2.2.1 :: LT) B.pre
  refine k p e s m _ below meth c s.heap [] _ ⟨B.exec, B.bytes, hml, B.returns, B.notSynchronized, findClass_of_methodNamed B.named, fun w hw => hts w (List.mem_cons_of_mem _ hw), hC, hH⟩ hP va_S.rf ⟨hl.1, hl.2.1, fun i v hi => ?_⟩
  have hi2 : as[i]? = some v := by
    by_cases hlt : i < as.length
    · rw [List.getElem?_append_left (by simpa using hlt), List.getElem?_map] at hi
      cases e : as[i]? with
      | none => rw [e] at hi; cases hi
      | some u => rw [e] at hi; simp at hi; rw [hi]
    · rw [List.getElem?_append_right (by simp; omega)] at hi
      have := List.mem_of_getElem? hi
      have := List.eq_of_mem_replicate this
      cases this
  have := hl.2.2 (i, v) (by have h2 := lv_args1 as 0 i v hcat hi2; rw [Nat.zero_add] at h2; exact h2)
  exact this
theorem good_cons {M' : MM} (h : Cond.code M'.1 M'.2.1 M'.2.2.1 M'.2.2.2.1 ∈ LT) : GoodIn LT (Cond.code M'.1 M'.2.1 M'.2.2.1 M'.2.2.2.1 :: LT) := fun w hw => (List.mem_cons.mp hw).elim (fun e => by rw [e]; exact LTgood _ h) (fun h2 => LTgood w h2)
section CROWS
variable {l : Launch} {g : GG} {M M' : MM} {pc n : Nat} {lv : List (Option Value)} {st rest as : List Value} {w : Wd} {Q Q' : Option Value → Wd → Prop}
theorem blind_of : FrameBlind (va_Pc as (fun U => Cx g U ∧ Hx g U U.heap ∧ Hv g w U.heap)) := fun a U gf mk h => ⟨h.1, Cx.same (s := U) rfl h.2.1, Hx.moved (u := U) (Vm.Alike.refl U.vm) h.2.2.1, h.2.2.2⟩
theorem pre_of {p : Program} {s : State} {m : MethodId} {args : Array Value} {meth : Method} {c : Code} {H : Heap} {locs : List Loc} (F : Fx g M p s m args meth c) (hP : Hv g w H) (hS : va_S (Ad g) s.heap H locs) : ∀ U : State, U.heap = H → s.WarmedH U.vm → va_Pc as (fun U => Cx g U ∧ Hx g U U.heap ∧ Hv g w U.heap) as.toArray U :=
  fun U hU hW => ⟨rfl, F.2.2.2.2.2.2.2.1.warm hW, by rw [hU]; exact (F.2.2.2.2.2.2.2.2.kept hS.2.1).moved hW.alike, by rw [hU]; exact hP⟩
theorem callGo (hrun : ∀ (p : Program) (e : Env) (s : State) (m : MethodId) (args : Array Value) (below : List Frame) (meth : Method) (c : Code) (H : Heap) (locs : List Loc) (ls : Array Slot), Fx g M p s m args meth c → Hv g w H → va_S (Ad g) s.heap H locs → lvh ls M.2.2.1 lv → va_Run p l e (rmM M) s m args below meth c H locs 0 0 0 0 (F0 m pc ls st) rest (Qq g Q' as.toArray) (Ad g))
    (k : ∀ r w', Q' r w' → Go l g M (pc + 3) lv (r.toList ++ rest) w' Q) : Go l g M pc lv st w Q := by
  intro p e s m args below meth c H locs ls F hP hS hlv T hT X
  obtain ⟨v, st₀, t, T', L, h0, X', hL, e1, e2, ⟨⟨r, w', hv, hq, hw'⟩, hz, hk⟩, stp⟩ := hrun p e s m args below meth c H locs ls F hP hS hlv T hT X
  cases hv
  rw [h0] at hz hk
  obtain ⟨t2, a1, b1⟩ := k v w' hq p e s m args below meth c T'.heap (locs ++ L) ls F (by rw [e1]; exact hw')
    ⟨Nat.le_trans hS.1 (by rw [e1]; exact hz), fun q h1 h2 => by rw [e1, hk q (Nat.lt_of_lt_of_le h1 hS.1) h2]; exact hS.2.1 q h1 h2, fun q hq => by
      rcases List.mem_append.mp hq with h | h
      · exact hS.2.2 q h
      · exact hL q h⟩ hlv T' rfl X'
  exact ⟨t2, stp t2 a1, b1⟩
/-- entry idx of M's pool is the static method M', with na arguments; its room is in M's -/
def CkS (M : MM) (idx : Nat) (M' : MM) (na : Nat) : Prop := Cond.methodLink M.1.cls idx M'.1 ∈ LT ∧ Cond.static M'.1 ∈ LT ∧ Cond.initialized M'.1.cls ∈ LT ∧ Cond.code M'.1 M'.2.1 M'.2.2.1 M'.2.2.2.1 ∈ LT ∧ (M'.1.cls ≠ "java/lang/invoke/MethodHandle" ∧ M'.1.cls ≠ "java/lang/invoke/VarHandle" ∧ (parseMethodDescriptor M'.1.desc).map (fun d => d.parameters.length) = some na) ∧ ((rmM M').frames + 1 ≤ (rmM M).frames ∧ 8 + (M'.2.2.1 + 11) + (rmM M').locals ≤ (rmM M).locals)
def CkN (M : MM) (idx : Nat) (M' : MM) (na : Nat) : Prop := (∃ host, Cond.methodLinkNest M.1.cls idx M'.1 host ∈ NW) ∧ Cond.static M'.1 ∈ LT ∧ Cond.initialized M'.1.cls ∈ LT ∧ Cond.code M'.1 M'.2.1 M'.2.2.1 M'.2.2.2.1 ∈ LT ∧ (M'.1.cls ≠ "java/lang/invoke/MethodHandle" ∧ M'.1.cls ≠ "java/lang/invoke/VarHandle" ∧ (parseMethodDescriptor M'.1.desc).map (fun d => d.parameters.length) = some na) ∧ ((rmM M').frames + 1 ≤ (rmM M).frames ∧ 8 + (M'.2.2.1 + 11) + (rmM M').locals ≤ (rmM M).locals)
def CkV (M : MM) (idx : Nat) (M' : MM) (na : Nat) : Prop := Cond.methodLink M.1.cls idx M'.1 ∈ LT ∧ Cond.instanceMethod M'.1 ∈ LT ∧ Cond.selects M'.1.cls M'.1 M'.1 ∈ LT ∧ Cond.initialized M'.1.cls ∈ LT ∧ Cond.code M'.1 M'.2.1 M'.2.2.1 M'.2.2.2.1 ∈ LT ∧ (M'.1.cls ≠ "java/lang/invoke/MethodHandle" ∧ M'.1.cls ≠ "java/lang/invoke/VarHandle" ∧ (parseMethodDescriptor M'.1.desc).map (fun d => d.parameters.length) = some na) ∧ ((rmM M').frames + 1 ≤ (rmM M).frames ∧ 8 + (M'.2.2.1 + 11) + (rmM M').locals ≤ (rmM M).locals)
theorem g_callS {idx : Nat} (hd : Dc M pc (.invokestatic idx) 3 n) (hk : CkS M idx M' as.length) (hr : Res l g M' as w Q') (hcat : (rest.map fun v => v.category).sum ≤ 8) (hst : st = as.reverse ++ rest) (k : ∀ r w', Q' r w' → Go l g M n lv (r.toList ++ rest) w' Q) : Go l g M pc lv st w Q := by
  obtain ⟨hd, rfl⟩ := hd
  obtain ⟨k1, k2, k3, k4, k5, k6⟩ := hk
  refine callGo (M := M) (as := as) (rest := rest) (Q' := Q') (fun p e s m args below meth c H locs ls F hP hS hlv => ?_) k
  exact va_runS (As := as) (rest := rest) (n := as.length) (bytes := M'.2.1) (maxL := M'.2.2.1) (ret := M'.2.2.2.1) ⟨F.1, F.2.1, F.2.2.1, F.2.2.2.2.2.1, F.2.2.2.2.2.2.1⟩ hr ⟨callB_of as.length F.2.2.2.2.2.2.1 (good_cons k4) rfl rfl rfl (F.2.2.2.2.2.2.1 _ k3) (F.2.2.2.2.2.2.1 _ k1) k5 k6, F.2.2.2.2.2.2.1 _ k2⟩ ⟨blind_of, pre_of F hP hS⟩ rfl rfl hlv.1 hst (lv_room hcat) hd ⟨Nat.le_refl _, Nat.le_refl _⟩
theorem g_callN {idx : Nat} (hd : Dc M pc (.invokestatic idx) 3 n) (hk : CkN M idx M' as.length) (hr : Res l g M' as w Q') (hcat : (rest.map fun v => v.category).sum ≤ 8) (hst : st = as.reverse ++ rest) (k : ∀ r w', Q' r w' → Go l g M n lv (r.toList ++ rest) w' Q) : Go l g M pc lv st w Q := by
  obtain ⟨hd, rfl⟩ := hd
  obtain ⟨⟨host, k1⟩, k2, k3, k4, k5, k6⟩ := hk
  refine callGo (M := M) (as := as) (rest := rest) (Q' := Q') (fun p e s m args below meth c H locs ls F hP hS hlv => ?_) k
  exact va_runSN (As := as) (rest := rest) (n := as.length) (bytes := M'.2.1) (maxL := M'.2.2.1) (ret := M'.2.2.2.1) ⟨F.1, F.2.1, F.2.2.1, F.2.2.2.2.2.1, F.2.2.2.2.2.2.1⟩ hr ⟨va_cnB as.length F.2.2.2.2.2.2.1 (good_cons k4) rfl rfl rfl (F.2.2.2.2.2.2.2.1.2.2.1 _ k1) (F.2.2.2.2.2.2.1 _ k3) k5 k6, F.2.2.2.2.2.2.1 _ k2, trivial⟩ ⟨blind_of, pre_of F hP hS⟩ rfl rfl hlv.1 hst (lv_room hcat) hd ⟨Nat.le_refl _, Nat.le_refl _⟩
/-- a call on an object of the world -/
theorem g_callV {idx b ci : Nat} (hd : Dc M pc (.invokevirtual idx) 3 n) (hk : CkV M idx M' as.length) (ho : objC b = some ci) (hc : (cls[ci]?).map (fun q => q.1) = some M'.1.cls) (hr : Res l g M' (.ref (g.1 b) :: as) w Q') (hcat : (rest.map fun v => v.category).sum ≤ 8) (hst : st = as.reverse ++ .ref (g.1 b) :: rest) (k : ∀ r w', Q' r w' → Go l g M n lv (r.toList ++ rest) w' Q) : Go l g M pc lv st w Q := by
  obtain ⟨hd, rfl⟩ := hd
  obtain ⟨k1, k2, k7, k3, k4, k5, k6⟩ := hk
  refine callGo (M := M) (as := .ref (g.1 b) :: as) (rest := rest) (Q' := Q') (fun p e s m args below meth c H locs ls F hP hS hlv => ?_) k
  have hrecv : ∃ cellB : Cell, H[g.1 b]? = some cellB ∧ cellB.vm.isStatics = false ∧ s.vm.findClass M'.1.cls = some cellB.cls := by
    cases hq : cls[ci]? with
    | none => rw [hq] at hc; cases hc
    | some q =>
      rw [hq] at hc
      have hc2 : q.1 = M'.1.cls := Option.some.inj hc
      obtain ⟨cell, h1, h2, h3⟩ := va_recv F.2.2.2.2.2.2.2.1.1 hP hq (by rw [wsW_at g w (objC_lt ho), cellOf_obj g w ho])
      exact ⟨cell, h1, h2, by rw [← hc2]; exact h3⟩
  exact va_runV (As := as) (rest := rest) (n := as.length) (b := g.1 b) (C := M'.1.cls) (bytes := M'.2.1) (maxL := M'.2.2.1) (ret := M'.2.2.2.1) ⟨F.1, F.2.1, F.2.2.1, F.2.2.2.2.2.1, F.2.2.2.2.2.2.1⟩ hr ⟨callB_of as.length F.2.2.2.2.2.2.1 (good_cons k4) rfl rfl rfl (F.2.2.2.2.2.2.1 _ k3) (F.2.2.2.2.2.2.1 _ k1) k5 k6, F.2.2.2.2.2.2.1 _ k2, F.2.2.2.2.2.2.1 _ k7⟩ ⟨blind_of, hrecv, pre_of F hP hS⟩ rfl rfl hlv.1 hst (lv_room hcat) hd ⟨Nat.le_refl _, Nat.le_refl _⟩
/-- a call on a String constant -/
theorem g_callT {idx i : Nat} (hd : Dc M pc (.invokevirtual idx) 3 n) (hk : CkV M idx M' as.length) (hi : i < 14) (hc : M'.1.cls = "java/lang/String") (hr : Res l g M' (.ref (g.2.2.2.1 i) :: as) w Q') (hcat : (rest.map fun v => v.category).sum ≤ 8) (hst : st = as.reverse ++ .ref (g.2.2.2.1 i) :: rest) (k : ∀ r w', Q' r w' → Go l g M n lv (r.toList ++ rest) w' Q) : Go l g M pc lv st w Q := by
  obtain ⟨hd, rfl⟩ := hd
  obtain ⟨k1, k2, k7, k3, k4, k5, k6⟩ := hk
  refine callGo (M := M) (as := .ref (g.2.2.2.1 i) :: as) (rest := rest) (Q' := Q') (fun p e s m args below meth c H locs ls F hP hS hlv => ?_) k
  have hrecv : ∃ cellB : Cell, H[g.2.2.2.1 i]? = some cellB ∧ cellB.vm.isStatics = false ∧ s.vm.findClass M'.1.cls = some cellB.cls := by
    obtain ⟨cell, h1, h2, h3, -⟩ := (F.2.2.2.2.2.2.2.2.1 i hi).1.kept hS.2.1
    exact ⟨cell, h1, h2, by rw [hc]; exact h3⟩
  exact va_runV (As := as) (rest := rest) (n := as.length) (b := g.2.2.2.1 i) (C := M'.1.cls) (bytes := M'.2.1) (maxL := M'.2.2.1) (ret := M'.2.2.2.1) ⟨F.1, F.2.1, F.2.2.1, F.2.2.2.2.2.1, F.2.2.2.2.2.2.1⟩ hr ⟨callB_of as.length F.2.2.2.2.2.2.1 (good_cons k4) rfl rfl rfl (F.2.2.2.2.2.2.1 _ k3) (F.2.2.2.2.2.2.1 _ k1) k5 k6, F.2.2.2.2.2.2.1 _ k2, F.2.2.2.2.2.2.1 _ k7⟩ ⟨blind_of, hrecv, pre_of F hP hS⟩ rfl rfl hlv.1 hst (lv_room hcat) hd ⟨Nat.le_refl _, Nat.le_refl _⟩
/-- System.arraycopy between int arrays of the world -/
theorem g_acopy {idx k0 k1 N0 N1 sp dp len : Nat} (hd : Dc M pc (.invokestatic idx) 3 n) (hl : Cond.methodLink M.1.cls idx arraycopyName ∈ LT) (hnat : Cond.native arraycopyName ∈ LT) (hst2 : Cond.static arraycopyName ∈ LT) (hini : Cond.initialized "java/lang/System" ∈ LT) (ha0 : arrN k0 = some N0) (ha1 : arrN k1 = some N1) (h0 : sp + len ≤ N0) (h1 : dp + len ≤ N1) (hN0 : N0 < 2 ^ 31) (hN1 : N1 < 2 ^ 31) (hfr : 1 ≤ (rmM M).frames) (hlo : (st.map fun v => v.category).sum + (nativeFrameWords "java/lang/System" "arraycopy" 5 + 11) ≤ (rmM M).locals)
    (kk : Go l g M n lv st (upR w k1 (va_cpy (w k0) (w k1) sp dp len)) Q) : Go l g M pc lv (.int (nI len) :: .int (nI dp) :: .ref (g.1 k1) :: .int (nI sp) :: .ref (g.1 k0) :: st) w Q := by
  obtain ⟨hd, rfl⟩ := hd
  intro p e s m args below meth c H locs ls F hP hS hlv
  have c1 : (nI sp).toNatClampNeg = sp := nI_clamp (by omega)
  have c2 : (nI dp).toNatClampNeg = dp := nI_clamp (by omega)
  have c3 : (nI len).toNatClampNeg = len := nI_clamp (by omega)
  refine va_copyi (ty := .int) F.1 F.2.1 (by rw [F.2.2.1]; exact hlv.1.symm) F.2.2.2.2.2.1 (F.2.2.2.2.2.2.1 _ hl) (F.2.2.2.2.2.2.1 _ hnat) (F.2.2.2.2.2.2.1 _ hst2) (F.2.2.2.2.2.2.1 _ hini) F.2.2.2.2.2.2.2.1.1 hP (F.2.2.2.2.2.2.2.1.D w) hS k0 k1 0 0 (by rw [wsW_at g w (arrN_lt ha0), cellOf_arr g w ha0]) (by rw [wsW_at g w (arrN_lt ha1), cellOf_arr g w ha1]) rfl rfl rfl (nI_pos (by omega)) (nI_pos (by omega)) (nI_pos (by omega)) (by rw [c1, c3]; exact h0) (by rw [c2, c3]; exact h1) (fun i _ => rfl) hfr hlo hd (fun H1 locs1 hP1 hD1 hS1 => ?_)
  rw [c1, c2, c3, wsW_set (w1 := upR w k1 (va_cpy (w k0) (w k1) sp dp len)) (arrN_lt ha1) (by rw [cellOf_arr g _ ha1, upR_same]) (fun k' hk' => upR_other w k1 _ hk')] at hP1
  exact kk p e s m args below meth c H1 locs1 ls F hP1 hS1 hlv
end CROWS
end
section
section AROWS
variable {l : Launch} {g : GG} {M M' : MM} {pc n idx : Nat} {lv : List (Option Value)} {rest : List Value} {w w' : Wd} {Q Q' : Option Value → Wd → Prop} {v : Value}
theorem gS1 {x1 : Value} (hd : Dc M pc (.invokestatic idx) 3 n) (hk : CkS M idx M' 1) (hr : Res l g M' [x1] w (Is (some v) w')) (hcat : (rest.map fun v => v.category).sum ≤ 8) (k : Go l g M n lv (v :: rest) w' Q) : Go l g M pc lv (x1 :: rest) w Q :=
  g_callS (as := [x1]) (rest := rest) hd hk hr hcat rfl (fun r w1 h => by obtain ⟨rfl, rfl⟩ := h; exact k)
theorem gS1v {x1 : Value} (hd : Dc M pc (.invokestatic idx) 3 n) (hk : CkS M idx M' 1) (hr : Res l g M' [x1] w (Is none w')) (hcat : (rest.map fun v => v.category).sum ≤ 8) (k : Go l g M n lv rest w' Q) : Go l g M pc lv (x1 :: rest) w Q :=
  g_callS (as := [x1]) (rest := rest) hd hk hr hcat rfl (fun r w1 h => by obtain ⟨rfl, rfl⟩ := h; exact k)
theorem gS1q {x1 : Value} (hd : Dc M pc (.invokestatic idx) 3 n) (hk : CkS M idx M' 1) (hr : Res l g M' [x1] w Q') (hcat : (rest.map fun v => v.category).sum ≤ 8) (k : ∀ r w', Q' r w' → Go l g M n lv (r.toList ++ rest) w' Q) : Go l g M pc lv (x1 :: rest) w Q :=
  g_callS (as := [x1]) (rest := rest) hd hk hr hcat rfl k
theorem gS2 {x1 x2 : Value} (hd : Dc M pc (.invokestatic idx) 3 n) (hk : CkS M idx M' 2) (hr : Res l g M' [x1, x2] w (Is (some v) w')) (hcat : (rest.map fun v => v.category).sum ≤ 8) (k : Go l g M n lv (v :: rest) w' Q) : Go l g M pc lv (x2 :: x1 :: rest) w Q :=
  g_callS (as := [x1, x2]) (rest := rest) hd hk hr hcat rfl (fun r w1 h => by obtain ⟨rfl, rfl⟩ := h; exact k)
theorem gS2v {x1 x2 : Value} (hd : Dc M pc (.invokestatic idx) 3 n) (hk : CkS M idx M' 2) (hr : Res l g M' [x1, x2] w (Is none w')) (hcat : (rest.map fun v => v.category).sum ≤ 8) (k : Go l g M n lv rest w' Q) : Go l g M pc lv (x2 :: x1 :: rest) w Q :=
  g_callS (as := [x1, x2]) (rest := rest) hd hk hr hcat rfl (fun r w1 h => by obtain ⟨rfl, rfl⟩ := h; exact k)
theorem gS2q {x1 x2 : Value} (hd : Dc M pc (.invokestatic idx) 3 n) (hk : CkS M idx M' 2) (hr : Res l g M' [x1, x2] w Q') (hcat : (rest.map fun v => v.category).sum ≤ 8) (k : ∀ r w', Q' r w' → Go l g M n lv (r.toList ++ rest) w' Q) : Go l g M pc lv (x2 :: x1 :: rest) w Q :=
  g_callS (as := [x1, x2]) (rest := rest) hd hk hr hcat rfl k
theorem gS3 {x1 x2 x3 : Value} (hd : Dc M pc (.invokestatic idx) 3 n) (hk : CkS M idx M' 3) (hr : Res l g M' [x1, x2, x3] w (Is (some v) w')) (hcat : (rest.map fun v => v.category).sum ≤ 8) (k : Go l g M n lv (v :: rest) w' Q) : Go l g M pc lv (x3 :: x2 :: x1 :: rest) w Q :=
  g_callS (as := [x1, x2, x3]) (rest := rest) hd hk hr hcat rfl (fun r w1 h => by obtain ⟨rfl, rfl⟩ := h; exact k)
theorem gS3v {x1 x2 x3 : Value} (hd : Dc M pc (.invokestatic idx) 3 n) (hk : CkS M idx M' 3) (hr : Res l g M' [x1, x2, x3] w (Is none w')) (hcat : (rest.map fun v => v.category).sum ≤ 8) (k : Go l g M n lv rest w' Q) : Go l g M pc lv (x3 :: x2 :: x1 :: rest) w Q :=
  g_callS (as := [x1, x2, x3]) (rest := rest) hd hk hr hcat rfl (fun r w1 h => by obtain ⟨rfl, rfl⟩ := h; exact k)
theorem gS3q {x1 x2 x3 : Value} (hd : Dc M pc (.invokestatic idx) 3 n) (hk : CkS M idx M' 3) (hr : Res l g M' [x1, x2, x3] w Q') (hcat : (rest.map fun v => v.category).sum ≤ 8) (k : ∀ r w', Q' r w' → Go l g M n lv (r.toList ++ rest) w' Q) : Go l g M pc lv (x3 :: x2 :: x1 :: rest) w Q :=
  g_callS (as := [x1, x2, x3]) (rest := rest) hd hk hr hcat rfl k
theorem gS4 {x1 x2 x3 x4 : Value} (hd : Dc M pc (.invokestatic idx) 3 n) (hk : CkS M idx M' 4) (hr : Res l g M' [x1, x2, x3, x4] w (Is (some v) w')) (hcat : (rest.map fun v => v.category).sum ≤ 8) (k : Go l g M n lv (v :: rest) w' Q) : Go l g M pc lv (x4 :: x3 :: x2 :: x1 :: rest) w Q :=
  g_callS (as := [x1, x2, x3, x4]) (rest := rest) hd hk hr hcat rfl (fun r w1 h => by obtain ⟨rfl, rfl⟩ := h; exact k)
theorem gS4v {x1 x2 x3 x4 : Value} (hd : Dc M pc (.invokestatic idx) 3 n) (hk : CkS M idx M' 4) (hr : Res l g M' [x1, x2, x3, x4] w (Is none w')) (hcat : (rest.map fun v => v.category).sum ≤ 8) (k : Go l g M n lv rest w' Q) : Go l g M pc lv (x4 :: x3 :: x2 :: x1 :: rest) w Q :=
  g_callS (as := [x1, x2, x3, x4]) (rest := rest) hd hk hr hcat rfl (fun r w1 h => by obtain ⟨rfl, rfl⟩ := h; exact k)
theorem gS4q {x1 x2 x3 x4 : Value} (hd : Dc M pc (.invokestatic idx) 3 n) (hk : CkS M idx M' 4) (hr : Res l g M' [x1, x2, x3, x4] w Q') (hcat : (rest.map fun v => v.category).sum ≤ 8) (k : ∀ r w', Q' r w' → Go l g M n lv (r.toList ++ rest) w' Q) : Go l g M pc lv (x4 :: x3 :: x2 :: x1 :: rest) w Q :=
  g_callS (as := [x1, x2, x3, x4]) (rest := rest) hd hk hr hcat rfl k
theorem gS5 {x1 x2 x3 x4 x5 : Value} (hd : Dc M pc (.invokestatic idx) 3 n) (hk : CkS M idx M' 5) (hr : Res l g M' [x1, x2, x3, x4, x5] w (Is (some v) w')) (hcat : (rest.map fun v => v.category).sum ≤ 8) (k : Go l g M n lv (v :: rest) w' Q) : Go l g M pc lv (x5 :: x4 :: x3 :: x2 :: x1 :: rest) w Q :=
  g_callS (as := [x1, x2, x3, x4, x5]) (rest := rest) hd hk hr hcat rfl (fun r w1 h => by obtain ⟨rfl, rfl⟩ := h; exact k)
theorem gS5v {x1 x2 x3 x4 x5 : Value} (hd : Dc M pc (.invokestatic idx) 3 n) (hk : CkS M idx M' 5) (hr : Res l g M' [x1, x2, x3, x4, x5] w (Is none w')) (hcat : (rest.map fun v => v.category).sum ≤ 8) (k : Go l g M n lv rest w' Q) : Go l g M pc lv (x5 :: x4 :: x3 :: x2 :: x1 :: rest) w Q :=
  g_callS (as := [x1, x2, x3, x4, x5]) (rest := rest) hd hk hr hcat rfl (fun r w1 h => by obtain ⟨rfl, rfl⟩ := h; exact k)
theorem gS5q {x1 x2 x3 x4 x5 : Value} (hd : Dc M pc (.invokestatic idx) 3 n) (hk : CkS M idx M' 5) (hr : Res l g M' [x1, x2, x3, x4, x5] w Q') (hcat : (rest.map fun v => v.category).sum ≤ 8) (k : ∀ r w', Q' r w' → Go l g M n lv (r.toList ++ rest) w' Q) : Go l g M pc lv (x5 :: x4 :: x3 :: x2 :: x1 :: rest) w Q :=
  g_callS (as := [x1, x2, x3, x4, x5]) (rest := rest) hd hk hr hcat rfl k
theorem gN1 {x1 : Value} (hd : Dc M pc (.invokestatic idx) 3 n) (hk : CkN M idx M' 1) (hr : Res l g M' [x1] w (Is (some v) w')) (hcat : (rest.map fun v => v.category).sum ≤ 8) (k : Go l g M n lv (v :: rest) w' Q) : Go l g M pc lv (x1 :: rest) w Q :=
  g_callN (as := [x1]) (rest := rest) hd hk hr hcat rfl (fun r w1 h => by obtain ⟨rfl, rfl⟩ := h; exact k)
theorem gN1v {x1 : Value} (hd : Dc M pc (.invokestatic idx) 3 n) (hk : CkN M idx M' 1) (hr : Res l g M' [x1] w (Is none w')) (hcat : (rest.map fun v => v.category).sum ≤ 8) (k : Go l g M n lv rest w' Q) : Go l g M pc lv (x1 :: rest) w Q :=
  g_callN (as := [x1]) (rest := rest) hd hk hr hcat rfl (fun r w1 h => by obtain ⟨rfl, rfl⟩ := h; exact k)
theorem gN1q {x1 : Value} (hd : Dc M pc (.invokestatic idx) 3 n) (hk : CkN M idx M' 1) (hr : Res l g M' [x1] w Q') (hcat : (rest.map fun v => v.category).sum ≤ 8) (k : ∀ r w', Q' r w' → Go l g M n lv (r.toList ++ rest) w' Q) : Go l g M pc lv (x1 :: rest) w Q :=
  g_callN (as := [x1]) (rest := rest) hd hk hr hcat rfl k
theorem gN2 {x1 x2 : Value} (hd : Dc M pc (.invokestatic idx) 3 n) (hk : CkN M idx M' 2) (hr : Res l g M' [x1, x2] w (Is (some v) w')) (hcat : (rest.map fun v => v.category).sum ≤ 8) (k : Go l g M n lv (v :: rest) w' Q) : Go l g M pc lv (x2 :: x1 :: rest) w Q :=
  g_callN (as := [x1, x2]) (rest := rest) hd hk hr hcat rfl (fun r w1 h => by obtain ⟨rfl, rfl⟩ := h; exact k)
theorem gN2v {x1 x2 : Value} (hd : Dc M pc (.invokestatic idx) 3 n) (hk : CkN M idx M' 2) (hr : Res l g M' [x1, x2] w (Is none w')) (hcat : (rest.map fun v => v.category).sum ≤ 8) (k : Go l g M n lv rest w' Q) : Go l g M pc lv (x2 :: x1 :: rest) w Q :=
  g_callN (as := [x1, x2]) (rest := rest) hd hk hr hcat rfl (fun r w1 h => by obtain ⟨rfl, rfl⟩ := h; exact k)
theorem gN2q {x1 x2 : Value} (hd : Dc M pc (.invokestatic idx) 3 n) (hk : CkN M idx M' 2) (hr : Res l g M' [x1, x2] w Q') (hcat : (rest.map fun v => v.category).sum ≤ 8) (k : ∀ r w', Q' r w' → Go l g M n lv (r.toList ++ rest) w' Q) : Go l g M pc lv (x2 :: x1 :: rest) w Q :=
  g_callN (as := [x1, x2]) (rest := rest) hd hk hr hcat rfl k
theorem gN3 {x1 x2 x3 : Value} (hd : Dc M pc (.invokestatic idx) 3 n) (hk : CkN M idx M' 3) (hr : Res l g M' [x1, x2, x3] w (Is (some v) w')) (hcat : (rest.map fun v => v.category).sum ≤ 8) (k : Go l g M n lv (v :: rest) w' Q) : Go l g M pc lv (x3 :: x2 :: x1 :: rest) w Q :=
  g_callN (as := [x1, x2, x3]) (rest := rest) hd hk hr hcat rfl (fun r w1 h => by obtain ⟨rfl, rfl⟩ := h; exact k)
theorem gN3v {x1 x2 x3 : Value} (hd : Dc M pc (.invokestatic idx) 3 n) (hk : CkN M idx M' 3) (hr : Res l g M' [x1, x2, x3] w (Is none w')) (hcat : (rest.map fun v => v.category).sum ≤ 8) (k : Go l g M n lv rest w' Q) : Go l g M pc lv (x3 :: x2 :: x1 :: rest) w Q :=
  g_callN (as := [x1, x2, x3]) (rest := rest) hd hk hr hcat rfl (fun r w1 h => by obtain ⟨rfl, rfl⟩ := h; exact k)
theorem gN3q {x1 x2 x3 : Value} (hd : Dc M pc (.invokestatic idx) 3 n) (hk : CkN M idx M' 3) (hr : Res l g M' [x1, x2, x3] w Q') (hcat : (rest.map fun v => v.category).sum ≤ 8) (k : ∀ r w', Q' r w' → Go l g M n lv (r.toList ++ rest) w' Q) : Go l g M pc lv (x3 :: x2 :: x1 :: rest) w Q :=
  g_callN (as := [x1, x2, x3]) (rest := rest) hd hk hr hcat rfl k
theorem gN4 {x1 x2 x3 x4 : Value} (hd : Dc M pc (.invokestatic idx) 3 n) (hk : CkN M idx M' 4) (hr : Res l g M' [x1, x2, x3, x4] w (Is (some v) w')) (hcat : (rest.map fun v => v.category).sum ≤ 8) (k : Go l g M n lv (v :: rest) w' Q) : Go l g M pc lv (x4 :: x3 :: x2 :: x1 :: rest) w Q :=
  g_callN (as := [x1, x2, x3, x4]) (rest := rest) hd hk hr hcat rfl (fun r w1 h => by obtain ⟨rfl, rfl⟩ := h; exact k)
theorem gN4v {x1 x2 x3 x4 : Value} (hd : Dc M pc (.invokestatic idx) 3 n) (hk : CkN M idx M' 4) (hr : Res l g M' [x1, x2, x3, x4] w (Is none w')) (hcat : (rest.map fun v => v.category).sum ≤ 8) (k : Go l g M n lv rest w' Q) : Go l g M pc lv (x4 :: x3 :: x2 :: x1 :: rest) w Q :=
  g_callN (as := [x1, x2, x3, x4]) (rest := rest) hd hk hr hcat rfl (fun r w1 h => by obtain ⟨rfl, rfl⟩ := h; exact k)
theorem gN4q {x1 x2 x3 x4 : Value} (hd : Dc M pc (.invokestatic idx) 3 n) (hk : CkN M idx M' 4) (hr : Res l g M' [x1, x2, x3, x4] w Q') (hcat : (rest.map fun v => v.category).sum ≤ 8) (k : ∀ r w', Q' r w' → Go l g M n lv (r.toList ++ rest) w' Q) : Go l g M pc lv (x4 :: x3 :: x2 :: x1 :: rest) w Q :=
  g_callN (as := [x1, x2, x3, x4]) (rest := rest) hd hk hr hcat rfl k
theorem gN5 {x1 x2 x3 x4 x5 : Value} (hd : Dc M pc (.invokestatic idx) 3 n) (hk : CkN M idx M' 5) (hr : Res l g M' [x1, x2, x3, x4, x5] w (Is (some v) w')) (hcat : (rest.map fun v => v.category).sum ≤ 8) (k : Go l g M n lv (v :: rest) w' Q) : Go l g M pc lv (x5 :: x4 :: x3 :: x2 :: x1 :: rest) w Q :=
  g_callN (as := [x1, x2, x3, x4, x5]) (rest := rest) hd hk hr hcat rfl (fun r w1 h => by obtain ⟨rfl, rfl⟩ := h; exact k)
theorem gN5v {x1 x2 x3 x4 x5 : Value} (hd : Dc M pc (.invokestatic idx) 3 n) (hk : CkN M idx M' 5) (hr : Res l g M' [x1, x2, x3, x4, x5] w (Is none w')) (hcat : (rest.map fun v => v.category).sum ≤ 8) (k : Go l g M n lv rest w' Q) : Go l g M pc lv (x5 :: x4 :: x3 :: x2 :: x1 :: rest) w Q :=
  g_callN (as := [x1, x2, x3, x4, x5]) (rest := rest) hd hk hr hcat rfl (fun r w1 h => by obtain ⟨rfl, rfl⟩ := h; exact k)
theorem gN5q {x1 x2 x3 x4 x5 : Value} (hd : Dc M pc (.invokestatic idx) 3 n) (hk : CkN M idx M' 5) (hr : Res l g M' [x1, x2, x3, x4, x5] w Q') (hcat : (rest.map fun v => v.category).sum ≤ 8) (k : ∀ r w', Q' r w' → Go l g M n lv (r.toList ++ rest) w' Q) : Go l g M pc lv (x5 :: x4 :: x3 :: x2 :: x1 :: rest) w Q :=
  g_callN (as := [x1, x2, x3, x4, x5]) (rest := rest) hd hk hr hcat rfl k
theorem gV0 {b ci : Nat} (hd : Dc M pc (.invokevirtual idx) 3 n) (hk : CkV M idx M' 0) (ho : objC b = some ci) (hc : (cls[ci]?).map (fun q => q.1) = some M'.1.cls) (hr : Res l g M' [.ref (g.1 b)] w (Is (some v) w')) (hcat : (rest.map fun v => v.category).sum ≤ 8) (k : Go l g M n lv (v :: rest) w' Q) : Go l g M pc lv (.ref (g.1 b) :: rest) w Q :=
  g_callV (as := []) (rest := rest) hd hk ho hc hr hcat rfl (fun r w1 h => by obtain ⟨rfl, rfl⟩ := h; exact k)
theorem gV0v {b ci : Nat} (hd : Dc M pc (.invokevirtual idx) 3 n) (hk : CkV M idx M' 0) (ho : objC b = some ci) (hc : (cls[ci]?).map (fun q => q.1) = some M'.1.cls) (hr : Res l g M' [.ref (g.1 b)] w (Is none w')) (hcat : (rest.map fun v => v.category).sum ≤ 8) (k : Go l g M n lv rest w' Q) : Go l g M pc lv (.ref (g.1 b) :: rest) w Q :=
  g_callV (as := []) (rest := rest) hd hk ho hc hr hcat rfl (fun r w1 h => by obtain ⟨rfl, rfl⟩ := h; exact k)
theorem gV0q {b ci : Nat} (hd : Dc M pc (.invokevirtual idx) 3 n) (hk : CkV M idx M' 0) (ho : objC b = some ci) (hc : (cls[ci]?).map (fun q => q.1) = some M'.1.cls) (hr : Res l g M' [.ref (g.1 b)] w Q') (hcat : (rest.map fun v => v.category).sum ≤ 8) (k : ∀ r w', Q' r w' → Go l g M n lv (r.toList ++ rest) w' Q) : Go l g M pc lv (.ref (g.1 b) :: rest) w Q :=
  g_callV (as := []) (rest := rest) hd hk ho hc hr hcat rfl k
theorem gV1 {b ci : Nat} {x1 : Value} (hd : Dc M pc (.invokevirtual idx) 3 n) (hk : CkV M idx M' 1) (ho : objC b = some ci) (hc : (cls[ci]?).map (fun q => q.1) = some M'.1.cls) (hr : Res l g M' [.ref (g.1 b), x1] w (Is (some v) w')) (hcat : (rest.map fun v => v.category).sum ≤ 8) (k : Go l g M n lv (v :: rest) w' Q) : Go l g M pc lv (x1 :: .ref (g.1 b) :: rest) w Q :=
  g_callV (as := [x1]) (rest := rest) hd hk ho hc hr hcat rfl (fun r w1 h => by obtain ⟨rfl, rfl⟩ := h; exact k)
theorem gV1v {b ci : Nat} {x1 : Value} (hd : Dc M pc (.invokevirtual idx) 3 n) (hk : CkV M idx M' 1) (ho : objC b = some ci) (hc : (cls[ci]?).map (fun q => q.1) = some M'.1.cls) (hr : Res l g M' [.ref (g.1 b), x1] w (Is none w')) (hcat : (rest.map fun v => v.category).sum ≤ 8) (k : Go l g M n lv rest w' Q) : Go l g M pc lv (x1 :: .ref (g.1 b) :: rest) w Q :=
  g_callV (as := [x1]) (rest := rest) hd hk ho hc hr hcat rfl (fun r w1 h => by obtain ⟨rfl, rfl⟩ := h; exact k)
theorem gV1q {b ci : Nat} {x1 : Value} (hd : Dc M pc (.invokevirtual idx) 3 n) (hk : CkV M idx M' 1) (ho : objC b = some ci) (hc : (cls[ci]?).map (fun q => q.1) = some M'.1.cls) (hr : Res l g M' [.ref (g.1 b), x1] w Q') (hcat : (rest.map fun v => v.category).sum ≤ 8) (k : ∀ r w', Q' r w' → Go l g M n lv (r.toList ++ rest) w' Q) : Go l g M pc lv (x1 :: .ref (g.1 b) :: rest) w Q :=
  g_callV (as := [x1]) (rest := rest) hd hk ho hc hr hcat rfl k
theorem gV2 {b ci : Nat} {x1 x2 : Value} (hd : Dc M pc (.invokevirtual idx) 3 n) (hk : CkV M idx M' 2) (ho : objC b = some ci) (hc : (cls[ci]?).map (fun q => q.1) = some M'.1.cls) (hr : Res l g M' [.ref (g.1 b), x1, x2] w (Is (some v) w')) (hcat : (rest.map fun v => v.category).sum ≤ 8) (k : Go l g M n lv (v :: rest) w' Q) : Go l g M pc lv (x2 :: x1 :: .ref (g.1 b) :: rest) w Q :=
  g_callV (as := [x1, x2]) (rest := rest) hd hk ho hc hr hcat rfl (fun r w1 h => by obtain ⟨rfl, rfl⟩ := h; exact k)
theorem gV2v {b ci : Nat} {x1 x2 : Value} (hd : Dc M pc (.invokevirtual idx) 3 n) (hk : CkV M idx M' 2) (ho : objC b = some ci) (hc : (cls[ci]?).map (fun q => q.1) = some M'.1.cls) (hr : Res l g M' [.ref (g.1 b), x1, x2] w (Is none w')) (hcat : (rest.map fun v => v.category).sum ≤ 8) (k : Go l g M n lv rest w' Q) : Go l g M pc lv (x2 :: x1 :: .ref (g.1 b) :: rest) w Q :=
  g_callV (as := [x1, x2]) (rest := rest) hd hk ho hc hr hcat rfl (fun r w1 h => by obtain ⟨rfl, rfl⟩ := h; exact k)
theorem gV2q {b ci : Nat} {x1 x2 : Value} (hd : Dc M pc (.invokevirtual idx) 3 n) (hk : CkV M idx M' 2) (ho : objC b = some ci) (hc : (cls[ci]?).map (fun q => q.1) = some M'.1.cls) (hr : Res l g M' [.ref (g.1 b), x1, x2] w Q') (hcat : (rest.map fun v => v.category).sum ≤ 8) (k : ∀ r w', Q' r w' → Go l g M n lv (r.toList ++ rest) w' Q) : Go l g M pc lv (x2 :: x1 :: .ref (g.1 b) :: rest) w Q :=
  g_callV (as := [x1, x2]) (rest := rest) hd hk ho hc hr hcat rfl k
theorem gV3 {b ci : Nat} {x1 x2 x3 : Value} (hd : Dc M pc (.invokevirtual idx) 3 n) (hk : CkV M idx M' 3) (ho : objC b = some ci) (hc : (cls[ci]?).map (fun q => q.1) = some M'.1.cls) (hr : Res l g M' [.ref (g.1 b), x1, x2, x3] w (Is (some v) w')) (hcat : (rest.map fun v => v.category).sum ≤ 8) (k : Go l g M n lv (v :: rest) w' Q) : Go l g M pc lv (x3 :: x2 :: x1 :: .ref (g.1 b) :: rest) w Q :=
  g_callV (as := [x1, x2, x3]) (rest := rest) hd hk ho hc hr hcat rfl (fun r w1 h => by obtain ⟨rfl, rfl⟩ := h; exact k)
theorem gV3v {b ci : Nat} {x1 x2 x3 : Value} (hd : Dc M pc (.invokevirtual idx) 3 n) (hk : CkV M idx M' 3) (ho : objC b = some ci) (hc : (cls[ci]?).map (fun q => q.1) = some M'.1.cls) (hr : Res l g M' [.ref (g.1 b), x1, x2, x3] w (Is none w')) (hcat : (rest.map fun v => v.category).sum ≤ 8) (k : Go l g M n lv rest w' Q) : Go l g M pc lv (x3 :: x2 :: x1 :: .ref (g.1 b) :: rest) w Q :=
  g_callV (as := [x1, x2, x3]) (rest := rest) hd hk ho hc hr hcat rfl (fun r w1 h => by obtain ⟨rfl, rfl⟩ := h; exact k)
theorem gV3q {b ci : Nat} {x1 x2 x3 : Value} (hd : Dc M pc (.invokevirtual idx) 3 n) (hk : CkV M idx M' 3) (ho : objC b = some ci) (hc : (cls[ci]?).map (fun q => q.1) = some M'.1.cls) (hr : Res l g M' [.ref (g.1 b), x1, x2, x3] w Q') (hcat : (rest.map fun v => v.category).sum ≤ 8) (k : ∀ r w', Q' r w' → Go l g M n lv (r.toList ++ rest) w' Q) : Go l g M pc lv (x3 :: x2 :: x1 :: .ref (g.1 b) :: rest) w Q :=
  g_callV (as := [x1, x2, x3]) (rest := rest) hd hk ho hc hr hcat rfl k
theorem gV4 {b ci : Nat} {x1 x2 x3 x4 : Value} (hd : Dc M pc (.invokevirtual idx) 3 n) (hk : CkV M idx M' 4) (ho : objC b = some ci) (hc : (cls[ci]?).map (fun q => q.1) = some M'.1.cls) (hr : Res l g M' [.ref (g.1 b), x1, x2, x3, x4] w (Is (some v) w')) (hcat : (rest.map fun v => v.category).sum ≤ 8) (k : Go l g M n lv (v :: rest) w' Q) : Go l g M pc lv (x4 :: x3 :: x2 :: x1 :: .ref (g.1 b) :: rest) w Q :=
  g_callV (as := [x1, x2, x3, x4]) (rest := rest) hd hk ho hc hr hcat rfl (fun r w1 h => by obtain ⟨rfl, rfl⟩ := h; exact k)
theorem gV4v {b ci : Nat} {x1 x2 x3 x4 : Value} (hd : Dc M pc (.invokevirtual idx) 3 n) (hk : CkV M idx M' 4) (ho : objC b = some ci) (hc : (cls[ci]?).map (fun q => q.1) = some M'.1.cls) (hr : Res l g M' [.ref (g.1 b), x1, x2, x3, x4] w (Is none w')) (hcat : (rest.map fun v => v.category).sum ≤ 8) (k : Go l g M n lv rest w' Q) : Go l g M pc lv (x4 :: x3 :: x2 :: x1 :: .ref (g.1 b) :: rest) w Q :=
  g_callV (as := [x1, x2, x3, x4]) (rest := rest) hd hk ho hc hr hcat rfl (fun r w1 h => by obtain ⟨rfl, rfl⟩ := h; exact k)
theorem gV4q {b ci : Nat} {x1 x2 x3 x4 : Value} (hd : Dc M pc (.invokevirtual idx) 3 n) (hk : CkV M idx M' 4) (ho : objC b = some ci) (hc : (cls[ci]?).map (fun q => q.1) = some M'.1.cls) (hr : Res l g M' [.ref (g.1 b), x1, x2, x3, x4] w Q') (hcat : (rest.map fun v => v.category).sum ≤ 8) (k : ∀ r w', Q' r w' → Go l g M n lv (r.toList ++ rest) w' Q) : Go l g M pc lv (x4 :: x3 :: x2 :: x1 :: .ref (g.1 b) :: rest) w Q :=
  g_callV (as := [x1, x2, x3, x4]) (rest := rest) hd hk ho hc hr hcat rfl k
theorem gV5 {b ci : Nat} {x1 x2 x3 x4 x5 : Value} (hd : Dc M pc (.invokevirtual idx) 3 n) (hk : CkV M idx M' 5) (ho : objC b = some ci) (hc : (cls[ci]?).map (fun q => q.1) = some M'.1.cls) (hr : Res l g M' [.ref (g.1 b), x1, x2, x3, x4, x5] w (Is (some v) w')) (hcat : (rest.map fun v => v.category).sum ≤ 8) (k : Go l g M n lv (v :: rest) w' Q) : Go l g M pc lv (x5 :: x4 :: x3 :: x2 :: x1 :: .ref (g.1 b) :: rest) w Q :=
  g_callV (as := [x1, x2, x3, x4, x5]) (rest := rest) hd hk ho hc hr hcat rfl (fun r w1 h => by obtain ⟨rfl, rfl⟩ := h; exact k)
theorem gV5v {b ci : Nat} {x1 x2 x3 x4 x5 : Value} (hd : Dc M pc (.invokevirtual idx) 3 n) (hk : CkV M idx M' 5) (ho : objC b = some ci) (hc : (cls[ci]?).map (fun q => q.1) = some M'.1.cls) (hr : Res l g M' [.ref (g.1 b), x1, x2, x3, x4, x5] w (Is none w')) (hcat : (rest.map fun v => v.category).sum ≤ 8) (k : Go l g M n lv rest w' Q) : Go l g M pc lv (x5 :: x4 :: x3 :: x2 :: x1 :: .ref (g.1 b) :: rest) w Q :=
  g_callV (as := [x1, x2, x3, x4, x5]) (rest := rest) hd hk ho hc hr hcat rfl (fun r w1 h => by obtain ⟨rfl, rfl⟩ := h; exact k)
theorem gV5q {b ci : Nat} {x1 x2 x3 x4 x5 : Value} (hd : Dc M pc (.invokevirtual idx) 3 n) (hk : CkV M idx M' 5) (ho : objC b = some ci) (hc : (cls[ci]?).map (fun q => q.1) = some M'.1.cls) (hr : Res l g M' [.ref (g.1 b), x1, x2, x3, x4, x5] w Q') (hcat : (rest.map fun v => v.category).sum ≤ 8) (k : ∀ r w', Q' r w' → Go l g M n lv (r.toList ++ rest) w' Q) : Go l g M pc lv (x5 :: x4 :: x3 :: x2 :: x1 :: .ref (g.1 b) :: rest) w Q :=
  g_callV (as := [x1, x2, x3, x4, x5]) (rest := rest) hd hk ho hc hr hcat rfl k
theorem gT0 {i : Nat} (hd : Dc M pc (.invokevirtual idx) 3 n) (hk : CkV M idx M' 0) (hi : i < 14) (hc : M'.1.cls = "java/lang/String") (hr : Res l g M' [.ref (g.2.2.2.1 i)] w (Is (some v) w')) (hcat : (rest.map fun v => v.category).sum ≤ 8) (k : Go l g M n lv (v :: rest) w' Q) : Go l g M pc lv (.ref (g.2.2.2.1 i) :: rest) w Q :=
  g_callT (as := []) (rest := rest) hd hk hi hc hr hcat rfl (fun r w1 h => by obtain ⟨rfl, rfl⟩ := h; exact k)
theorem gT0v {i : Nat} (hd : Dc M pc (.invokevirtual idx) 3 n) (hk : CkV M idx M' 0) (hi : i < 14) (hc : M'.1.cls = "java/lang/String") (hr : Res l g M' [.ref (g.2.2.2.1 i)] w (Is none w')) (hcat : (rest.map fun v => v.category).sum ≤ 8) (k : Go l g M n lv rest w' Q) : Go l g M pc lv (.ref (g.2.2.2.1 i) :: rest) w Q :=
  g_callT (as := []) (rest := rest) hd hk hi hc hr hcat rfl (fun r w1 h => by obtain ⟨rfl, rfl⟩ := h; exact k)
theorem gT0q {i : Nat} (hd : Dc M pc (.invokevirtual idx) 3 n) (hk : CkV M idx M' 0) (hi : i < 14) (hc : M'.1.cls = "java/lang/String") (hr : Res l g M' [.ref (g.2.2.2.1 i)] w Q') (hcat : (rest.map fun v => v.category).sum ≤ 8) (k : ∀ r w', Q' r w' → Go l g M n lv (r.toList ++ rest) w' Q) : Go l g M pc lv (.ref (g.2.2.2.1 i) :: rest) w Q :=
  g_callT (as := []) (rest := rest) hd hk hi hc hr hcat rfl k
theorem gT1 {i : Nat} {x1 : Value} (hd : Dc M pc (.invokevirtual idx) 3 n) (hk : CkV M idx M' 1) (hi : i < 14) (hc : M'.1.cls = "java/lang/String") (hr : Res l g M' [.ref (g.2.2.2.1 i), x1] w (Is (some v) w')) (hcat : (rest.map fun v => v.category).sum ≤ 8) (k : Go l g M n lv (v :: rest) w' Q) : Go l g M pc lv (x1 :: .ref (g.2.2.2.1 i) :: rest) w Q :=
  g_callT (as := [x1]) (rest := rest) hd hk hi hc hr hcat rfl (fun r w1 h => by obtain ⟨rfl, rfl⟩ := h; exact k)
theorem gT1v {i : Nat} {x1 : Value} (hd : Dc M pc (.invokevirtual idx) 3 n) (hk : CkV M idx M' 1) (hi : i < 14) (hc : M'.1.cls = "java/lang/String") (hr : Res l g M' [.ref (g.2.2.2.1 i), x1] w (Is none w')) (hcat : (rest.map fun v => v.category).sum ≤ 8) (k : Go l g M n lv rest w' Q) : Go l g M pc lv (x1 :: .ref (g.2.2.2.1 i) :: rest) w Q :=
  g_callT (as := [x1]) (rest := rest) hd hk hi hc hr hcat rfl (fun r w1 h => by obtain ⟨rfl, rfl⟩ := h; exact k)
theorem gT1q {i : Nat} {x1 : Value} (hd : Dc M pc (.invokevirtual idx) 3 n) (hk : CkV M idx M' 1) (hi : i < 14) (hc : M'.1.cls = "java/lang/String") (hr : Res l g M' [.ref (g.2.2.2.1 i), x1] w Q') (hcat : (rest.map fun v => v.category).sum ≤ 8) (k : ∀ r w', Q' r w' → Go l g M n lv (r.toList ++ rest) w' Q) : Go l g M pc lv (x1 :: .ref (g.2.2.2.1 i) :: rest) w Q :=
  g_callT (as := [x1]) (rest := rest) hd hk hi hc hr hcat rfl k
theorem gT2 {i : Nat} {x1 x2 : Value} (hd : Dc M pc (.invokevirtual idx) 3 n) (hk : CkV M idx M' 2) (hi : i < 14) (hc : M'.1.cls = "java/lang/String") (hr : Res l g M' [.ref (g.2.2.2.1 i), x1, x2] w (Is (some v) w')) (hcat : (rest.map fun v => v.category).sum ≤ 8) (k : Go l g M n lv (v :: rest) w' Q) : Go l g M pc lv (x2 :: x1 :: .ref (g.2.2.2.1 i) :: rest) w Q :=
  g_callT (as := [x1, x2]) (rest := rest) hd hk hi hc hr hcat rfl (fun r w1 h => by obtain ⟨rfl, rfl⟩ := h; exact k)
theorem gT2v {i : Nat} {x1 x2 : Value} (hd : Dc M pc (.invokevirtual idx) 3 n) (hk : CkV M idx M' 2) (hi : i < 14) (hc : M'.1.cls = "java/lang/String") (hr : Res l g M' [.ref (g.2.2.2.1 i), x1, x2] w (Is none w')) (hcat : (rest.map fun v => v.category).sum ≤ 8) (k : Go l g M n lv rest w' Q) : Go l g M pc lv (x2 :: x1 :: .ref (g.2.2.2.1 i) :: rest) w Q :=
  g_callT (as := [x1, x2]) (rest := rest) hd hk hi hc hr hcat rfl (fun r w1 h => by obtain ⟨rfl, rfl⟩ := h; exact k)
theorem gT2q {i : Nat} {x1 x2 : Value} (hd : Dc M pc (.invokevirtual idx) 3 n) (hk : CkV M idx M' 2) (hi : i < 14) (hc : M'.1.cls = "java/lang/String") (hr : Res l g M' [.ref (g.2.2.2.1 i), x1, x2] w Q') (hcat : (rest.map fun v => v.category).sum ≤ 8) (k : ∀ r w', Q' r w' → Go l g M n lv (r.toList ++ rest) w' Q) : Go l g M pc lv (x2 :: x1 :: .ref (g.2.2.2.1 i) :: rest) w Q :=
  g_callT (as := [x1, x2]) (rest := rest) hd hk hi hc hr hcat rfl k
theorem gT3 {i : Nat} {x1 x2 x3 : Value} (hd : Dc M pc (.invokevirtual idx) 3 n) (hk : CkV M idx M' 3) (hi : i < 14) (hc : M'.1.cls = "java/lang/String") (hr : Res l g M' [.ref (g.2.2.2.1 i), x1, x2, x3] w (Is (some v) w')) (hcat : (rest.map fun v => v.category).sum ≤ 8) (k : Go l g M n lv (v :: rest) w' Q) : Go l g M pc lv (x3 :: x2 :: x1 :: .ref (g.2.2.2.1 i) :: rest) w Q :=
  g_callT (as := [x1, x2, x3]) (rest := rest) hd hk hi hc hr hcat rfl (fun r w1 h => by obtain ⟨rfl, rfl⟩ := h; exact k)
theorem gT3v {i : Nat} {x1 x2 x3 : Value} (hd : Dc M pc (.invokevirtual idx) 3 n) (hk : CkV M idx M' 3) (hi : i < 14) (hc : M'.1.cls = "java/lang/String") (hr : Res l g M' [.ref (g.2.2.2.1 i), x1, x2, x3] w (Is none w')) (hcat : (rest.map fun v => v.category).sum ≤ 8) (k : Go l g M n lv rest w' Q) : Go l g M pc lv (x3 :: x2 :: x1 :: .ref (g.2.2.2.1 i) :: rest) w Q :=
  g_callT (as := [x1, x2, x3]) (rest := rest) hd hk hi hc hr hcat rfl (fun r w1 h => by obtain ⟨rfl, rfl⟩ := h; exact k)
theorem gT3q {i : Nat} {x1 x2 x3 : Value} (hd : Dc M pc (.invokevirtual idx) 3 n) (hk : CkV M idx M' 3) (hi : i < 14) (hc : M'.1.cls = "java/lang/String") (hr : Res l g M' [.ref (g.2.2.2.1 i), x1, x2, x3] w Q') (hcat : (rest.map fun v => v.category).sum ≤ 8) (k : ∀ r w', Q' r w' → Go l g M n lv (r.toList ++ rest) w' Q) : Go l g M pc lv (x3 :: x2 :: x1 :: .ref (g.2.2.2.1 i) :: rest) w Q :=
  g_callT (as := [x1, x2, x3]) (rest := rest) hd hk hi hc hr hcat rfl k
theorem gT4 {i : Nat} {x1 x2 x3 x4 : Value} (hd : Dc M pc (.invokevirtual idx) 3 n) (hk : CkV M idx M' 4) (hi : i < 14) (hc : M'.1.cls = "java/lang/String") (hr : Res l g M' [.ref (g.2.2.2.1 i), x1, x2, x3, x4] w (Is (some v) w')) (hcat : (rest.map fun v => v.category).sum ≤ 8) (k : Go l g M n lv (v :: rest) w' Q) : Go l g M pc lv (x4 :: x3 :: x2 :: x1 :: .ref (g.2.2.2.1 i) :: rest) w Q :=
  g_callT (as := [x1, x2, x3, x4]) (rest := rest) hd hk hi hc hr hcat rfl (fun r w1 h => by obtain ⟨rfl, rfl⟩ := h; exact k)
theorem gT4v {i : Nat} {x1 x2 x3 x4 : Value} (hd : Dc M pc (.invokevirtual idx) 3 n) (hk : CkV M idx M' 4) (hi : i < 14) (hc : M'.1.cls = "java/lang/String") (hr : Res l g M' [.ref (g.2.2.2.1 i), x1, x2, x3, x4] w (Is none w')) (hcat : (rest.map fun v => v.category).sum ≤ 8) (k : Go l g M n lv rest w' Q) : Go l g M pc lv (x4 :: x3 :: x2 :: x1 :: .ref (g.2.2.2.1 i) :: rest) w Q :=
  g_callT (as := [x1, x2, x3, x4]) (rest := rest) hd hk hi hc hr hcat rfl (fun r w1 h => by obtain ⟨rfl, rfl⟩ := h; exact k)
theorem gT4q {i : Nat} {x1 x2 x3 x4 : Value} (hd : Dc M pc (.invokevirtual idx) 3 n) (hk : CkV M idx M' 4) (hi : i < 14) (hc : M'.1.cls = "java/lang/String") (hr : Res l g M' [.ref (g.2.2.2.1 i), x1, x2, x3, x4] w Q') (hcat : (rest.map fun v => v.category).sum ≤ 8) (k : ∀ r w', Q' r w' → Go l g M n lv (r.toList ++ rest) w' Q) : Go l g M pc lv (x4 :: x3 :: x2 :: x1 :: .ref (g.2.2.2.1 i) :: rest) w Q :=
  g_callT (as := [x1, x2, x3, x4]) (rest := rest) hd hk hi hc hr hcat rfl k
theorem gT5 {i : Nat} {x1 x2 x3 x4 x5 : Value} (hd : Dc M pc (.invokevirtual idx) 3 n) (hk : CkV M idx M' 5) (hi : i < 14) (hc : M'.1.cls = "java/lang/String") (hr : Res l g M' [.ref (g.2.2.2.1 i), x1, x2, x3, x4, x5] w (Is (some v) w')) (hcat : (rest.map fun v => v.category).sum ≤ 8) (k : Go l g M n lv (v :: rest) w' Q) : Go l g M pc lv (x5 :: x4 :: x3 :: x2 :: x1 :: .ref (g.2.2.2.1 i) :: rest) w Q :=
  g_callT (as := [x1, x2, x3, x4, x5]) (rest := rest) hd hk hi hc hr hcat rfl (fun r w1 h => by obtain ⟨rfl, rfl⟩ := h; exact k)
theorem gT5v {i : Nat} {x1 x2 x3 x4 x5 : Value} (hd : Dc M pc (.invokevirtual idx) 3 n) (hk : CkV M idx M' 5) (hi : i < 14) (hc : M'.1.cls = "java/lang/String") (hr : Res l g M' [.ref (g.2.2.2.1 i), x1, x2, x3, x4, x5] w (Is none w')) (hcat : (rest.map fun v => v.category).sum ≤ 8) (k : Go l g M n lv rest w' Q) : Go l g M pc lv (x5 :: x4 :: x3 :: x2 :: x1 :: .ref (g.2.2.2.1 i) :: rest) w Q :=
  g_callT (as := [x1, x2, x3, x4, x5]) (rest := rest) hd hk hi hc hr hcat rfl (fun r w1 h => by obtain ⟨rfl, rfl⟩ := h; exact k)
theorem gT5q {i : Nat} {x1 x2 x3 x4 x5 : Value} (hd : Dc M pc (.invokevirtual idx) 3 n) (hk : CkV M idx M' 5) (hi : i < 14) (hc : M'.1.cls = "java/lang/String") (hr : Res l g M' [.ref (g.2.2.2.1 i), x1, x2, x3, x4, x5] w Q') (hcat : (rest.map fun v => v.category).sum ≤ 8) (k : ∀ r w', Q' r w' → Go l g M n lv (r.toList ++ rest) w' Q) : Go l g M pc lv (x5 :: x4 :: x3 :: x2 :: x1 :: .ref (g.2.2.2.1 i) :: rest) w Q :=
  g_callT (as := [x1, x2, x3, x4, x5]) (rest := rest) hd hk hi hc hr hcat rfl k
end AROWS
end
section
theorem fH_9 : Fk "StraySheep$Hill" 9 1 0 (.int) false := ⟨_, _, _, _, ok1, by decide, LTm 94 (by decide +kernel) rfl, rfl, rfl⟩
theorem fS_68 : Fk "StraySheep" 68 1 0 (.int) false := ⟨_, _, _, _, ok1, by decide, LTm 95 (by decide +kernel) rfl, rfl, rfl⟩
theorem fT_89 : Fk "StraySheep$Tape" 89 1 0 (.int) false := ⟨_, _, _, _, ok1, by decide, LTm 96 (by decide +kernel) rfl, rfl, rfl⟩
theorem fH_15 : Fk "StraySheep$Hill" 15 1 1 (.int) false := ⟨_, _, _, _, ok1, by decide, LTm 97 (by decide +kernel) rfl, rfl, rfl⟩
theorem fS_247 : Fk "StraySheep" 247 1 1 (.int) false := ⟨_, _, _, _, ok1, by decide, LTm 98 (by decide +kernel) rfl, rfl, rfl⟩
theorem fH_18 : Fk "StraySheep$Hill" 18 1 2 (.int) false := ⟨_, _, _, _, ok1, by decide, LTm 99 (by decide +kernel) rfl, rfl, rfl⟩
theorem fS_109 : Fk "StraySheep" 109 1 2 (.int) false := ⟨_, _, _, _, ok1, by decide, LTm 100 (by decide +kernel) rfl, rfl, rfl⟩
theorem fH_21 : Fk "StraySheep$Hill" 21 1 3 (.int) false := ⟨_, _, _, _, ok1, by decide, LTm 101 (by decide +kernel) rfl, rfl, rfl⟩
theorem fS_75 : Fk "StraySheep" 75 1 3 (.int) false := ⟨_, _, _, _, ok1, by decide, LTm 102 (by decide +kernel) rfl, rfl, rfl⟩
theorem fT_95 : Fk "StraySheep$Tape" 95 1 3 (.int) false := ⟨_, _, _, _, ok1, by decide, LTm 103 (by decide +kernel) rfl, rfl, rfl⟩
theorem fH_24 : Fk "StraySheep$Hill" 24 1 4 (.int) false := ⟨_, _, _, _, ok1, by decide, LTm 104 (by decide +kernel) rfl, rfl, rfl⟩
theorem fS_78 : Fk "StraySheep" 78 1 4 (.int) false := ⟨_, _, _, _, ok1, by decide, LTm 105 (by decide +kernel) rfl, rfl, rfl⟩
theorem fT_99 : Fk "StraySheep$Tape" 99 1 4 (.int) false := ⟨_, _, _, _, ok1, by decide, LTm 106 (by decide +kernel) rfl, rfl, rfl⟩
theorem fH_27 : Fk "StraySheep$Hill" 27 1 5 (.int) false := ⟨_, _, _, _, ok1, by decide, LTm 107 (by decide +kernel) rfl, rfl, rfl⟩
theorem fS_130 : Fk "StraySheep" 130 1 5 (.int) false := ⟨_, _, _, _, ok1, by decide, LTm 108 (by decide +kernel) rfl, rfl, rfl⟩
theorem fH_30 : Fk "StraySheep$Hill" 30 1 6 (.int) false := ⟨_, _, _, _, ok1, by decide, LTm 109 (by decide +kernel) rfl, rfl, rfl⟩
theorem fS_165 : Fk "StraySheep" 165 1 6 (.int) false := ⟨_, _, _, _, ok1, by decide, LTm 110 (by decide +kernel) rfl, rfl, rfl⟩
theorem fH_33 : Fk "StraySheep$Hill" 33 1 7 (.array .int) true := ⟨_, _, _, _, ok1, by decide, LTm 111 (by decide +kernel) rfl, rfl, rfl⟩
theorem fS_112 : Fk "StraySheep" 112 1 7 (.array .int) true := ⟨_, _, _, _, ok1, by decide, LTm 112 (by decide +kernel) rfl, rfl, rfl⟩
theorem fH_37 : Fk "StraySheep$Hill" 37 1 8 (.array .int) true := ⟨_, _, _, _, ok1, by decide, LTm 113 (by decide +kernel) rfl, rfl, rfl⟩
theorem fT_78 : Fk "StraySheep$Tape" 78 1 8 (.array .int) true := ⟨_, _, _, _, ok1, by decide, LTm 114 (by decide +kernel) rfl, rfl, rfl⟩
theorem fS_115 : Fk "StraySheep" 115 1 8 (.array .int) true := ⟨_, _, _, _, ok1, by decide, LTm 115 (by decide +kernel) rfl, rfl, rfl⟩
theorem fH_40 : Fk "StraySheep$Hill" 40 1 9 (.array .int) true := ⟨_, _, _, _, ok1, by decide, LTm 116 (by decide +kernel) rfl, rfl, rfl⟩
theorem fT_83 : Fk "StraySheep$Tape" 83 1 9 (.array .int) true := ⟨_, _, _, _, ok1, by decide, LTm 117 (by decide +kernel) rfl, rfl, rfl⟩
theorem fS_118 : Fk "StraySheep" 118 1 9 (.array .int) true := ⟨_, _, _, _, ok1, by decide, LTm 118 (by decide +kernel) rfl, rfl, rfl⟩
theorem fH_43 : Fk "StraySheep$Hill" 43 1 10 (.array .int) true := ⟨_, _, _, _, ok1, by decide, LTm 119 (by decide +kernel) rfl, rfl, rfl⟩
theorem fT_87 : Fk "StraySheep$Tape" 87 1 10 (.array .int) true := ⟨_, _, _, _, ok1, by decide, LTm 120 (by decide +kernel) rfl, rfl, rfl⟩
theorem fS_121 : Fk "StraySheep" 121 1 10 (.array .int) true := ⟨_, _, _, _, ok1, by decide, LTm 121 (by decide +kernel) rfl, rfl, rfl⟩
theorem fH_46 : Fk "StraySheep$Hill" 46 1 11 (.array .int) true := ⟨_, _, _, _, ok1, by decide, LTm 122 (by decide +kernel) rfl, rfl, rfl⟩
theorem fS_124 : Fk "StraySheep" 124 1 11 (.array .int) true := ⟨_, _, _, _, ok1, by decide, LTm 123 (by decide +kernel) rfl, rfl, rfl⟩
theorem fT_9 : Fk "StraySheep$Tape" 9 3 0 (.array .int) true := ⟨_, _, _, _, ok3, by decide, LTm 156 (by decide +kernel) rfl, rfl, rfl⟩
theorem fT_15 : Fk "StraySheep$Tape" 15 3 1 (.int) false := ⟨_, _, _, _, ok3, by decide, LTm 157 (by decide +kernel) rfl, rfl, rfl⟩
theorem fS_204 : Fk "StraySheep" 204 3 1 (.int) false := ⟨_, _, _, _, ok3, by decide, LTm 158 (by decide +kernel) rfl, rfl, rfl⟩
theorem fT_19 : Fk "StraySheep$Tape" 19 3 2 (.int) false := ⟨_, _, _, _, ok3, by decide, LTm 159 (by decide +kernel) rfl, rfl, rfl⟩
theorem fT_22 : Fk "StraySheep$Tape" 22 3 3 (.int) false := ⟨_, _, _, _, ok3, by decide, LTm 160 (by decide +kernel) rfl, rfl, rfl⟩
theorem fT_25 : Fk "StraySheep$Tape" 25 3 4 (.int) false := ⟨_, _, _, _, ok3, by decide, LTm 161 (by decide +kernel) rfl, rfl, rfl⟩
theorem fE_9 : Fk "StraySheep$Sheet" 9 2 0 (.int) false := ⟨_, _, _, _, ok2, by decide, LTm 180 (by decide +kernel) rfl, rfl, rfl⟩
theorem fS_225 : Fk "StraySheep" 225 2 0 (.int) false := ⟨_, _, _, _, ok2, by decide, LTm 181 (by decide +kernel) rfl, rfl, rfl⟩
theorem fE_15 : Fk "StraySheep$Sheet" 15 2 1 (.int) false := ⟨_, _, _, _, ok2, by decide, LTm 182 (by decide +kernel) rfl, rfl, rfl⟩
theorem fS_221 : Fk "StraySheep" 221 2 1 (.int) false := ⟨_, _, _, _, ok2, by decide, LTm 183 (by decide +kernel) rfl, rfl, rfl⟩
theorem fE_18 : Fk "StraySheep$Sheet" 18 2 2 (.array .int) true := ⟨_, _, _, _, ok2, by decide, LTm 184 (by decide +kernel) rfl, rfl, rfl⟩
theorem fS_231 : Fk "StraySheep" 231 2 2 (.array .int) true := ⟨_, _, _, _, ok2, by decide, LTm 185 (by decide +kernel) rfl, rfl, rfl⟩
theorem fS_12 : Fk "StraySheep" 12 0 0 (.object "StraySheep$Hill") true := ⟨_, _, _, _, ok0, by decide, LTm 193 (by decide +kernel) rfl, rfl, rfl⟩
theorem fS_16 : Fk "StraySheep" 16 0 1 (.object "StraySheep$Hill") true := ⟨_, _, _, _, ok0, by decide, LTm 194 (by decide +kernel) rfl, rfl, rfl⟩
theorem fS_19 : Fk "StraySheep" 19 0 2 (.object "StraySheep$Hill") true := ⟨_, _, _, _, ok0, by decide, LTm 195 (by decide +kernel) rfl, rfl, rfl⟩
theorem fS_22 : Fk "StraySheep" 22 0 3 (.boolean) false := ⟨_, _, _, _, ok0, by decide, LTm 196 (by decide +kernel) rfl, rfl, rfl⟩
theorem fS_26 : Fk "StraySheep" 26 0 4 (.array .int) true := ⟨_, _, _, _, ok0, by decide, LTm 197 (by decide +kernel) rfl, rfl, rfl⟩
theorem fS_30 : Fk "StraySheep" 30 0 5 (.array .int) true := ⟨_, _, _, _, ok0, by decide, LTm 198 (by decide +kernel) rfl, rfl, rfl⟩
theorem fS_33 : Fk "StraySheep" 33 0 6 (.int) false := ⟨_, _, _, _, ok0, by decide, LTm 199 (by decide +kernel) rfl, rfl, rfl⟩
theorem fS_37 : Fk "StraySheep" 37 0 7 (.int) false := ⟨_, _, _, _, ok0, by decide, LTm 200 (by decide +kernel) rfl, rfl, rfl⟩
theorem fS_43 : Fk "StraySheep" 43 0 8 (.object "StraySheep$Tape") true := ⟨_, _, _, _, ok0, by decide, LTm 201 (by decide +kernel) rfl, rfl, rfl⟩
theorem fS_50 : Fk "StraySheep" 50 0 9 (.array (.object "StraySheep$Sheet")) true := ⟨_, _, _, _, ok0, by decide, LTm 202 (by decide +kernel) rfl, rfl, rfl⟩
theorem fS_54 : Fk "StraySheep" 54 0 10 (.array .int) true := ⟨_, _, _, _, ok0, by decide, LTm 203 (by decide +kernel) rfl, rfl, rfl⟩
theorem fS_243 : Cond.constant "StraySheep" 243 (-1000001) ∈ LT := LTm 244 (by decide +kernel) rfl
theorem fS_133 : Cond.constant "StraySheep" 133 (99999) ∈ LT := LTm 346 (by decide +kernel) rfl
theorem fH_115 : Cond.constant "StraySheep$Hill" 115 (99999) ∈ LT := LTm 407 (by decide +kernel) rfl
theorem fS_164 : Cond.constant "StraySheep" 164 (2147483647) ∈ LT := LTm 464 (by decide +kernel) rfl
theorem fJI_265 : Cond.constant "java/lang/Integer" 265 (1431655765) ∈ LT := LTm 484 (by decide +kernel) rfl
theorem fJI_266 : Cond.constant "java/lang/Integer" 266 (858993459) ∈ LT := LTm 485 (by decide +kernel) rfl
theorem fJI_267 : Cond.constant "java/lang/Integer" 267 (252645135) ∈ LT := LTm 486 (by decide +kernel) rfl
theorem fS_253 : Cond.constant "StraySheep" 253 (1103515245) ∈ LT := LTm 527 (by decide +kernel) rfl
theorem fT_108 : SW "StraySheep$Tape" 108 1 := List.mem_of_getElem? (i := 590) (by decide +kernel)
theorem fT_110 : SW "StraySheep$Tape" 110 2 := List.mem_of_getElem? (i := 591) (by decide +kernel)
theorem fT_112 : SW "StraySheep$Tape" 112 3 := List.mem_of_getElem? (i := 592) (by decide +kernel)
theorem fT_114 : SW "StraySheep$Tape" 114 4 := List.mem_of_getElem? (i := 593) (by decide +kernel)
theorem fT_116 : SW "StraySheep$Tape" 116 5 := List.mem_of_getElem? (i := 594) (by decide +kernel)
theorem fT_118 : SW "StraySheep$Tape" 118 6 := List.mem_of_getElem? (i := 595) (by decide +kernel)
theorem fT_120 : SW "StraySheep$Tape" 120 0 := List.mem_of_getElem? (i := 596) (by decide +kernel)
theorem fT_72 : SW "StraySheep$Tape" 72 10 := List.mem_of_getElem? (i := 654) (by decide +kernel)
theorem fT_81 : SW "StraySheep$Tape" 81 11 := List.mem_of_getElem? (i := 664) (by decide +kernel)
theorem fT_85 : SW "StraySheep$Tape" 85 12 := List.mem_of_getElem? (i := 665) (by decide +kernel)
theorem fT_47 : SW "StraySheep$Tape" 47 7 := List.mem_of_getElem? (i := 666) (by decide +kernel)
theorem fT_56 : SW "StraySheep$Tape" 56 8 := List.mem_of_getElem? (i := 671) (by decide +kernel)
theorem fT_61 : SW "StraySheep$Tape" 61 9 := List.mem_of_getElem? (i := 677) (by decide +kernel)
theorem fT_97 : SW "StraySheep$Tape" 97 13 := List.mem_of_getElem? (i := 682) (by decide +kernel)
theorem fQ_27 : SW "StraySheepModel" 27 0 := List.mem_of_getElem? (i := 766) (by decide +kernel)
theorem fQ_29 : SW "StraySheepModel" 29 1 := List.mem_of_getElem? (i := 767) (by decide +kernel)
theorem fQ_31 : SW "StraySheepModel" 31 2 := List.mem_of_getElem? (i := 768) (by decide +kernel)
theorem fQ_33 : SW "StraySheepModel" 33 3 := List.mem_of_getElem? (i := 769) (by decide +kernel)
theorem fQ_35 : SW "StraySheepModel" 35 4 := List.mem_of_getElem? (i := 770) (by decide +kernel)
theorem fQ_37 : SW "StraySheepModel" 37 5 := List.mem_of_getElem? (i := 771) (by decide +kernel)
theorem fQ_39 : SW "StraySheepModel" 39 6 := List.mem_of_getElem? (i := 772) (by decide +kernel)
theorem fQ_9 : Fk "StraySheepModel" 9 4 0 (.array .int) true := ⟨_, _, _, _, ok4, by decide, LTm 773 (by decide +kernel) rfl, rfl, rfl⟩
theorem fQ_13 : Fk "StraySheepModel" 13 4 1 (.array .int) true := ⟨_, _, _, _, ok4, by decide, LTm 774 (by decide +kernel) rfl, rfl, rfl⟩
theorem fQ_16 : Fk "StraySheepModel" 16 4 2 (.array .int) true := ⟨_, _, _, _, ok4, by decide, LTm 775 (by decide +kernel) rfl, rfl, rfl⟩
theorem fQ_347 : Fk "StraySheepModel" 347 4 3 (.boolean) false := ⟨_, _, _, _, ok4, by decide, LTm 776 (by decide +kernel) rfl, rfl, rfl⟩
theorem fQ_19 : Fk "StraySheepModel" 19 4 4 (.array .int) true := ⟨_, _, _, _, ok4, by decide, LTm 777 (by decide +kernel) rfl, rfl, rfl⟩
theorem fQ_154 : Fk "StraySheepModel" 154 4 5 (.int) false := ⟨_, _, _, _, ok4, by decide, LTm 778 (by decide +kernel) rfl, rfl, rfl⟩
theorem fQ_22 : Fk "StraySheepModel" 22 4 6 (.array .int) true := ⟨_, _, _, _, ok4, by decide, LTm 779 (by decide +kernel) rfl, rfl, rfl⟩
theorem fQ_250 : Fk "StraySheepModel" 250 4 7 (.int) false := ⟨_, _, _, _, ok4, by decide, LTm 780 (by decide +kernel) rfl, rfl, rfl⟩
theorem fQ_256 : Fk "StraySheepModel" 256 4 8 (.int) false := ⟨_, _, _, _, ok4, by decide, LTm 781 (by decide +kernel) rfl, rfl, rfl⟩
theorem fQ_253 : Fk "StraySheepModel" 253 4 9 (.int) false := ⟨_, _, _, _, ok4, by decide, LTm 782 (by decide +kernel) rfl, rfl, rfl⟩
theorem fQ_265 : Fk "StraySheepModel" 265 4 10 (.int) false := ⟨_, _, _, _, ok4, by decide, LTm 783 (by decide +kernel) rfl, rfl, rfl⟩
theorem fQ_262 : Fk "StraySheepModel" 262 4 11 (.int) false := ⟨_, _, _, _, ok4, by decide, LTm 784 (by decide +kernel) rfl, rfl, rfl⟩
theorem fQ_275 : Fk "StraySheepModel" 275 4 12 (.boolean) false := ⟨_, _, _, _, ok4, by decide, LTm 785 (by decide +kernel) rfl, rfl, rfl⟩
theorem fQ_41 : Fk "StraySheepModel" 41 4 13 (.array (.object "java/lang/String")) true := ⟨_, _, _, _, ok4, by decide, LTm 786 (by decide +kernel) rfl, rfl, rfl⟩
theorem fQ_45 : Fk "StraySheepModel" 45 4 14 (.array .int) true := ⟨_, _, _, _, ok4, by decide, LTm 787 (by decide +kernel) rfl, rfl, rfl⟩
theorem fQ_48 : Fk "StraySheepModel" 48 4 15 (.array .int) true := ⟨_, _, _, _, ok4, by decide, LTm 788 (by decide +kernel) rfl, rfl, rfl⟩
theorem fQ_51 : Fk "StraySheepModel" 51 4 16 (.array .int) true := ⟨_, _, _, _, ok4, by decide, LTm 789 (by decide +kernel) rfl, rfl, rfl⟩
theorem fQ_54 : Fk "StraySheepModel" 54 4 17 (.array .int) true := ⟨_, _, _, _, ok4, by decide, LTm 790 (by decide +kernel) rfl, rfl, rfl⟩
theorem fQ_286 : Fk "StraySheepModel" 286 4 18 (.int) false := ⟨_, _, _, _, ok4, by decide, LTm 791 (by decide +kernel) rfl, rfl, rfl⟩
theorem fQ_299 : Fk "StraySheepModel" 299 4 19 (.int) false := ⟨_, _, _, _, ok4, by decide, LTm 792 (by decide +kernel) rfl, rfl, rfl⟩
theorem fQ_57 : Fk "StraySheepModel" 57 4 20 (.array .int) true := ⟨_, _, _, _, ok4, by decide, LTm 793 (by decide +kernel) rfl, rfl, rfl⟩
theorem fQ_60 : Fk "StraySheepModel" 60 4 21 (.array .int) true := ⟨_, _, _, _, ok4, by decide, LTm 794 (by decide +kernel) rfl, rfl, rfl⟩
theorem fQ_63 : Fk "StraySheepModel" 63 4 22 (.array .int) true := ⟨_, _, _, _, ok4, by decide, LTm 795 (by decide +kernel) rfl, rfl, rfl⟩
theorem fQ_66 : Fk "StraySheepModel" 66 4 23 (.array .int) true := ⟨_, _, _, _, ok4, by decide, LTm 796 (by decide +kernel) rfl, rfl, rfl⟩
theorem fQ_69 : Cond.constant "StraySheepModel" 69 (-1000001) ∈ LT := LTm 856 (by decide +kernel) rfl
theorem fQ_104 : Cond.constant "StraySheepModel" 104 (-1000002) ∈ LT := LTm 887 (by decide +kernel) rfl
theorem fQ_141 : Cond.constant "StraySheepModel" 141 (-1000005) ∈ LT := LTm 938 (by decide +kernel) rfl
theorem fQ_74 : Cond.constant "StraySheepModel" 74 (-1000004) ∈ LT := LTm 947 (by decide +kernel) rfl
theorem fQ_190 : Cond.constant "StraySheepModel" 190 (99999) ∈ LT := LTm 960 (by decide +kernel) rfl
theorem fQ_234 : Cond.constant "StraySheepModel" 234 (-1000006) ∈ LT := LTm 1109 (by decide +kernel) rfl
theorem fQ_246 : Cond.constant "StraySheepModel" 246 (1103515245) ∈ LT := LTm 1130 (by decide +kernel) rfl
theorem fQ_302 : SW "StraySheepModel" 302 10 := List.mem_of_getElem? (i := 1177) (by decide +kernel)
theorem fQ_308 : SW "StraySheepModel" 308 11 := List.mem_of_getElem? (i := 1190) (by decide +kernel)
theorem fQ_310 : SW "StraySheepModel" 310 12 := List.mem_of_getElem? (i := 1191) (by decide +kernel)
theorem fQ_319 : SW "StraySheepModel" 319 7 := List.mem_of_getElem? (i := 1196) (by decide +kernel)
theorem fQ_321 : SW "StraySheepModel" 321 8 := List.mem_of_getElem? (i := 1197) (by decide +kernel)
theorem fQ_323 : SW "StraySheepModel" 323 9 := List.mem_of_getElem? (i := 1198) (by decide +kernel)
theorem fQ_325 : SW "StraySheepModel" 325 13 := List.mem_of_getElem? (i := 1199) (by decide +kernel)
theorem fQ_339 : Cond.constant "StraySheepModel" 339 (-1000003) ∈ LT := LTm 1221 (by decide +kernel) rfl
theorem fQ_340 : Cond.constant "StraySheepModel" 340 (-1000007) ∈ LT := LTm 1226 (by decide +kernel) rfl
theorem ini_S : Cond.initialized "StraySheep" ∈ LT := LTm 68 (by decide +kernel) rfl
theorem ini_H : Cond.initialized "StraySheep$Hill" ∈ LT := LTm 69 (by decide +kernel) rfl
theorem ini_E : Cond.initialized "StraySheep$Sheet" ∈ LT := LTm 71 (by decide +kernel) rfl
theorem ini_T : Cond.initialized "StraySheep$Tape" ∈ LT := LTm 70 (by decide +kernel) rfl
theorem ini_Q : Cond.initialized "StraySheepModel" ∈ LT := LTm 72 (by decide +kernel) rfl
theorem ini_JM : Cond.initialized "java/lang/Math" ∈ LT := LTm 73 (by decide +kernel) rfl
theorem ini_JS : Cond.initialized "java/lang/String" ∈ LT := LTm 76 (by decide +kernel) rfl
theorem ini_JL : Cond.initialized "java/lang/StringLatin1" ∈ LT := LTm 77 (by decide +kernel) rfl
theorem ini_JI : Cond.initialized "java/lang/Integer" ∈ LT := LTm 75 (by decide +kernel) rfl
theorem ini_JP : Cond.initialized "jdk/internal/util/Preconditions" ∈ LT := LTm 78 (by decide +kernel) rfl
theorem ini_sys : Cond.initialized "java/lang/System" ∈ LT := LTm 74 (by decide +kernel) rfl
theorem ac_nat : Cond.native arraycopyName ∈ LT := LTm 435 (by decide +kernel) rfl
theorem ac_st : Cond.static arraycopyName ∈ LT := LTm 434 (by decide +kernel) rfl
def MkS (M : MM) (na : Nat) : Prop := Cond.static M.1 ∈ LT ∧ Cond.initialized M.1.cls ∈ LT ∧ Cond.code M.1 M.2.1 M.2.2.1 M.2.2.2.1 ∈ LT ∧ (M.1.cls ≠ "java/lang/invoke/MethodHandle" ∧ M.1.cls ≠ "java/lang/invoke/VarHandle" ∧ (parseMethodDescriptor M.1.desc).map (fun d => d.parameters.length) = some na)
def MkV (M : MM) (na : Nat) : Prop := Cond.instanceMethod M.1 ∈ LT ∧ Cond.selects M.1.cls M.1 M.1 ∈ LT ∧ Cond.initialized M.1.cls ∈ LT ∧ Cond.code M.1 M.2.1 M.2.2.1 M.2.2.2.1 ∈ LT ∧ (M.1.cls ≠ "java/lang/invoke/MethodHandle" ∧ M.1.cls ≠ "java/lang/invoke/VarHandle" ∧ (parseMethodDescriptor M.1.desc).map (fun d => d.parameters.length) = some na)
set_option maxRecDepth 20000 in
theorem mS_set : MkV S_set 2 := ⟨LTm 228 (by decide +kernel) rfl, LTm 229 (by decide +kernel) rfl, ini_S, LTm 230 rfl rfl, ⟨by decide, by decide, by decide +kernel⟩⟩
set_option maxRecDepth 20000 in
theorem mS_canBeSet : MkS S_canBeSet 2 := ⟨LTm 232 (by decide +kernel) rfl, ini_S, LTm 233 rfl rfl, ⟨by decide, by decide, by decide +kernel⟩⟩
set_option maxRecDepth 20000 in
theorem mS_isCell : MkS S_isCell 1 := ⟨LTm 235 (by decide +kernel) rfl, ini_S, LTm 236 rfl rfl, ⟨by decide, by decide, by decide +kernel⟩⟩
set_option maxRecDepth 20000 in
theorem mS_isWithin : MkS S_isWithin 3 := ⟨LTm 238 (by decide +kernel) rfl, ini_S, LTm 239 rfl rfl, ⟨by decide, by decide, by decide +kernel⟩⟩
set_option maxRecDepth 20000 in
theorem mS_finding : MkV S_finding 1 := ⟨LTm 242 (by decide +kernel) rfl, LTm 0 (by decide +kernel) rfl, ini_S, LTm 243 rfl rfl, ⟨by decide, by decide, by decide +kernel⟩⟩
set_option maxRecDepth 20000 in
theorem mH_feature : MkV H_feature 1 := ⟨LTm 246 (by decide +kernel) rfl, LTm 247 (by decide +kernel) rfl, ini_H, LTm 248 rfl rfl, ⟨by decide, by decide, by decide +kernel⟩⟩
set_option maxRecDepth 20000 in
theorem mH_moveKeeper : MkV H_moveKeeper 1 := ⟨LTm 250 (by decide +kernel) rfl, LTm 251 (by decide +kernel) rfl, ini_H, LTm 252 rfl rfl, ⟨by decide, by decide, by decide +kernel⟩⟩
set_option maxRecDepth 20000 in
theorem mH_has : MkV H_has 1 := ⟨LTm 254 (by decide +kernel) rfl, LTm 255 (by decide +kernel) rfl, ini_H, LTm 256 rfl rfl, ⟨by decide, by decide, by decide +kernel⟩⟩
set_option maxRecDepth 20000 in
theorem mS_hill : MkV S_hill 1 := ⟨LTm 258 (by decide +kernel) rfl, LTm 259 (by decide +kernel) rfl, ini_S, LTm 260 rfl rfl, ⟨by decide, by decide, by decide +kernel⟩⟩
set_option maxRecDepth 20000 in
theorem mS_sheep : MkV S_sheep 2 := ⟨LTm 262 (by decide +kernel) rfl, LTm 263 (by decide +kernel) rfl, ini_S, LTm 264 rfl rfl, ⟨by decide, by decide, by decide +kernel⟩⟩
set_option maxRecDepth 20000 in
theorem mS_isKind : MkS S_isKind 1 := ⟨LTm 266 (by decide +kernel) rfl, ini_S, LTm 267 rfl rfl, ⟨by decide, by decide, by decide +kernel⟩⟩
set_option maxRecDepth 20000 in
theorem mH_isFull : MkV H_isFull 0 := ⟨LTm 269 (by decide +kernel) rfl, LTm 270 (by decide +kernel) rfl, ini_H, LTm 271 rfl rfl, ⟨by decide, by decide, by decide +kernel⟩⟩
set_option maxRecDepth 20000 in
theorem mH_add : MkV H_add 2 := ⟨LTm 273 (by decide +kernel) rfl, LTm 274 (by decide +kernel) rfl, ini_H, LTm 275 rfl rfl, ⟨by decide, by decide, by decide +kernel⟩⟩
set_option maxRecDepth 20000 in
theorem mS_of : MkV S_of 2 := ⟨LTm 278 (by decide +kernel) rfl, LTm 279 (by decide +kernel) rfl, ini_S, LTm 280 rfl rfl, ⟨by decide, by decide, by decide +kernel⟩⟩
set_option maxRecDepth 20000 in
theorem mH_trait : MkV H_trait 2 := ⟨LTm 283 (by decide +kernel) rfl, LTm 284 (by decide +kernel) rfl, ini_H, LTm 285 rfl rfl, ⟨by decide, by decide, by decide +kernel⟩⟩
set_option maxRecDepth 20000 in
theorem mH_far : MkV H_far 1 := ⟨LTm 287 (by decide +kernel) rfl, LTm 288 (by decide +kernel) rfl, ini_H, LTm 289 rfl rfl, ⟨by decide, by decide, by decide +kernel⟩⟩
set_option maxRecDepth 20000 in
theorem mS_distance : MkS S_distance 2 := ⟨LTm 291 (by decide +kernel) rfl, ini_S, LTm 292 rfl rfl, ⟨by decide, by decide, by decide +kernel⟩⟩
set_option maxRecDepth 20000 in
theorem mH_strays : MkV H_strays 1 := ⟨LTm 294 (by decide +kernel) rfl, LTm 295 (by decide +kernel) rfl, ini_H, LTm 296 rfl rfl, ⟨by decide, by decide, by decide +kernel⟩⟩
set_option maxRecDepth 20000 in
theorem mH_straysAsRam : MkV H_straysAsRam 1 := ⟨LTm 298 (by decide +kernel) rfl, LTm 299 (by decide +kernel) rfl, ini_H, LTm 300 rfl rfl, ⟨by decide, by decide, by decide +kernel⟩⟩
set_option maxRecDepth 20000 in
theorem mH_straysAsSheep : MkV H_straysAsSheep 0 := ⟨LTm 302 (by decide +kernel) rfl, LTm 303 (by decide +kernel) rfl, ini_H, LTm 304 rfl rfl, ⟨by decide, by decide, by decide +kernel⟩⟩
set_option maxRecDepth 20000 in
theorem mH_straysAsEwe : MkV H_straysAsEwe 1 := ⟨LTm 306 (by decide +kernel) rfl, LTm 307 (by decide +kernel) rfl, ini_H, LTm 308 rfl rfl, ⟨by decide, by decide, by decide +kernel⟩⟩
set_option maxRecDepth 20000 in
theorem mH_hasCompany : MkV H_hasCompany 1 := ⟨LTm 310 (by decide +kernel) rfl, LTm 311 (by decide +kernel) rfl, ini_H, LTm 312 rfl rfl, ⟨by decide, by decide, by decide +kernel⟩⟩
set_option maxRecDepth 20000 in
theorem mH_sheepAt : MkV H_sheepAt 1 := ⟨LTm 314 (by decide +kernel) rfl, LTm 315 (by decide +kernel) rfl, ini_H, LTm 316 rfl rfl, ⟨by decide, by decide, by decide +kernel⟩⟩
set_option maxRecDepth 20000 in
theorem mS_fearsOf : MkS S_fearsOf 1 := ⟨LTm 318 (by decide +kernel) rfl, ini_S, LTm 319 rfl rfl, ⟨by decide, by decide, by decide +kernel⟩⟩
set_option maxRecDepth 20000 in
theorem mS_calmsOf : MkS S_calmsOf 1 := ⟨LTm 321 (by decide +kernel) rfl, ini_S, LTm 322 rfl rfl, ⟨by decide, by decide, by decide +kernel⟩⟩
set_option maxRecDepth 20000 in
theorem mS_lightOf : MkS S_lightOf 1 := ⟨LTm 324 (by decide +kernel) rfl, ini_S, LTm 325 rfl rfl, ⟨by decide, by decide, by decide +kernel⟩⟩
set_option maxRecDepth 20000 in
theorem mS_change : MkV S_change 3 := ⟨LTm 327 (by decide +kernel) rfl, LTm 328 (by decide +kernel) rfl, ini_S, LTm 329 rfl rfl, ⟨by decide, by decide, by decide +kernel⟩⟩
set_option maxRecDepth 20000 in
theorem mS_canBeChanged : MkS S_canBeChanged 2 := ⟨LTm 331 (by decide +kernel) rfl, ini_S, LTm 332 rfl rfl, ⟨by decide, by decide, by decide +kernel⟩⟩
set_option maxRecDepth 20000 in
theorem mS_drop : MkV S_drop 0 := ⟨LTm 334 (by decide +kernel) rfl, LTm 335 (by decide +kernel) rfl, ini_S, LTm 336 rfl rfl, ⟨by decide, by decide, by decide +kernel⟩⟩
set_option maxRecDepth 20000 in
theorem mS_who : MkV S_who 1 := ⟨LTm 338 (by decide +kernel) rfl, LTm 339 (by decide +kernel) rfl, ini_S, LTm 340 rfl rfl, ⟨by decide, by decide, by decide +kernel⟩⟩
set_option maxRecDepth 20000 in
theorem mS_go : MkV S_go 1 := ⟨LTm 343 (by decide +kernel) rfl, LTm 344 (by decide +kernel) rfl, ini_S, LTm 345 rfl rfl, ⟨by decide, by decide, by decide +kernel⟩⟩
set_option maxRecDepth 20000 in
theorem mH_passHours : MkV H_passHours 1 := ⟨LTm 348 (by decide +kernel) rfl, LTm 349 (by decide +kernel) rfl, ini_H, LTm 350 rfl rfl, ⟨by decide, by decide, by decide +kernel⟩⟩
set_option maxRecDepth 20000 in
theorem mH_passHour : MkV H_passHour 1 := ⟨LTm 352 (by decide +kernel) rfl, LTm 353 (by decide +kernel) rfl, ini_H, LTm 354 rfl rfl, ⟨by decide, by decide, by decide +kernel⟩⟩
set_option maxRecDepth 20000 in
theorem mH_strayAll : MkV H_strayAll 1 := ⟨LTm 356 (by decide +kernel) rfl, LTm 357 (by decide +kernel) rfl, ini_H, LTm 358 rfl rfl, ⟨by decide, by decide, by decide +kernel⟩⟩
set_option maxRecDepth 20000 in
theorem mH_strayedFrom : MkV H_strayedFrom 2 := ⟨LTm 360 (by decide +kernel) rfl, LTm 361 (by decide +kernel) rfl, ini_H, LTm 362 rfl rfl, ⟨by decide, by decide, by decide +kernel⟩⟩
set_option maxRecDepth 20000 in
theorem mS_towards : MkS S_towards 3 := ⟨LTm 364 (by decide +kernel) rfl, ini_S, LTm 365 rfl rfl, ⟨by decide, by decide, by decide +kernel⟩⟩
set_option maxRecDepth 20000 in
theorem mJM_min : MkS JM_min 2 := ⟨LTm 367 (by decide +kernel) rfl, ini_JM, LTm 368 rfl rfl, ⟨by decide, by decide, by decide +kernel⟩⟩
set_option maxRecDepth 20000 in
theorem mJM_max : MkS JM_max 2 := ⟨LTm 370 (by decide +kernel) rfl, ini_JM, LTm 371 rfl rfl, ⟨by decide, by decide, by decide +kernel⟩⟩
set_option maxRecDepth 20000 in
theorem mH_prowl : MkV H_prowl 0 := ⟨LTm 375 (by decide +kernel) rfl, LTm 376 (by decide +kernel) rfl, ini_H, LTm 377 rfl rfl, ⟨by decide, by decide, by decide +kernel⟩⟩
set_option maxRecDepth 20000 in
theorem mH_nearestToWolf : MkV H_nearestToWolf 0 := ⟨LTm 379 (by decide +kernel) rfl, LTm 380 (by decide +kernel) rfl, ini_H, LTm 381 rfl rfl, ⟨by decide, by decide, by decide +kernel⟩⟩
set_option maxRecDepth 20000 in
theorem mH_frighten : MkV H_frighten 0 := ⟨LTm 383 (by decide +kernel) rfl, LTm 384 (by decide +kernel) rfl, ini_H, LTm 385 rfl rfl, ⟨by decide, by decide, by decide +kernel⟩⟩
set_option maxRecDepth 20000 in
theorem mH_tend : MkV H_tend 0 := ⟨LTm 387 (by decide +kernel) rfl, LTm 388 (by decide +kernel) rfl, ini_H, LTm 389 rfl rfl, ⟨by decide, by decide, by decide +kernel⟩⟩
set_option maxRecDepth 20000 in
theorem mH_carryHome : MkV H_carryHome 0 := ⟨LTm 391 (by decide +kernel) rfl, LTm 392 (by decide +kernel) rfl, ini_H, LTm 393 rfl rfl, ⟨by decide, by decide, by decide +kernel⟩⟩
set_option maxRecDepth 20000 in
theorem mH_seek : MkV H_seek 0 := ⟨LTm 396 (by decide +kernel) rfl, LTm 397 (by decide +kernel) rfl, ini_H, LTm 398 rfl rfl, ⟨by decide, by decide, by decide +kernel⟩⟩
set_option maxRecDepth 20000 in
theorem mH_sought : MkV H_sought 0 := ⟨LTm 400 (by decide +kernel) rfl, LTm 401 (by decide +kernel) rfl, ini_H, LTm 402 rfl rfl, ⟨by decide, by decide, by decide +kernel⟩⟩
set_option maxRecDepth 20000 in
theorem mH_settle : MkV H_settle 0 := ⟨LTm 404 (by decide +kernel) rfl, LTm 405 (by decide +kernel) rfl, ini_H, LTm 406 rfl rfl, ⟨by decide, by decide, by decide +kernel⟩⟩
set_option maxRecDepth 20000 in
theorem mH_total : MkV H_total 1 := ⟨LTm 409 (by decide +kernel) rfl, LTm 410 (by decide +kernel) rfl, ini_H, LTm 411 rfl rfl, ⟨by decide, by decide, by decide +kernel⟩⟩
set_option maxRecDepth 20000 in
theorem mS_now : MkV S_now 1 := ⟨LTm 413 (by decide +kernel) rfl, LTm 414 (by decide +kernel) rfl, ini_S, LTm 415 rfl rfl, ⟨by decide, by decide, by decide +kernel⟩⟩
set_option maxRecDepth 20000 in
theorem mH_farSheep : MkV H_farSheep 0 := ⟨LTm 417 (by decide +kernel) rfl, LTm 418 (by decide +kernel) rfl, ini_H, LTm 419 rfl rfl, ⟨by decide, by decide, by decide +kernel⟩⟩
set_option maxRecDepth 20000 in
theorem mH_mostAfraid : MkV H_mostAfraid 0 := ⟨LTm 422 (by decide +kernel) rfl, LTm 423 (by decide +kernel) rfl, ini_H, LTm 424 rfl rfl, ⟨by decide, by decide, by decide +kernel⟩⟩
set_option maxRecDepth 20000 in
theorem mS_ahead : MkV S_ahead 3 := ⟨LTm 426 (by decide +kernel) rfl, LTm 427 (by decide +kernel) rfl, ini_S, LTm 428 rfl rfl, ⟨by decide, by decide, by decide +kernel⟩⟩
set_option maxRecDepth 20000 in
theorem mH_become : MkV H_become 1 := ⟨LTm 430 (by decide +kernel) rfl, LTm 431 (by decide +kernel) rfl, ini_H, LTm 432 rfl rfl, ⟨by decide, by decide, by decide +kernel⟩⟩
set_option maxRecDepth 20000 in
theorem mS_later : MkV S_later 2 := ⟨LTm 437 (by decide +kernel) rfl, LTm 438 (by decide +kernel) rfl, ini_S, LTm 439 rfl rfl, ⟨by decide, by decide, by decide +kernel⟩⟩
set_option maxRecDepth 20000 in
theorem mS_when : MkV S_when 2 := ⟨LTm 441 (by decide +kernel) rfl, LTm 442 (by decide +kernel) rfl, ini_S, LTm 443 rfl rfl, ⟨by decide, by decide, by decide +kernel⟩⟩
set_option maxRecDepth 20000 in
theorem mS_firstHourOfAtLeast : MkV S_firstHourOfAtLeast 3 := ⟨LTm 446 (by decide +kernel) rfl, LTm 1 (by decide +kernel) rfl, ini_S, LTm 447 rfl rfl, ⟨by decide, by decide, by decide +kernel⟩⟩
set_option maxRecDepth 20000 in
theorem mS_home : MkV S_home 0 := ⟨LTm 449 (by decide +kernel) rfl, LTm 450 (by decide +kernel) rfl, ini_S, LTm 451 rfl rfl, ⟨by decide, by decide, by decide +kernel⟩⟩
set_option maxRecDepth 20000 in
theorem mH_allAtFold : MkV H_allAtFold 0 := ⟨LTm 453 (by decide +kernel) rfl, LTm 454 (by decide +kernel) rfl, ini_H, LTm 455 rfl rfl, ⟨by decide, by decide, by decide +kernel⟩⟩
set_option maxRecDepth 20000 in
theorem mS_panic : MkV S_panic 2 := ⟨LTm 457 (by decide +kernel) rfl, LTm 458 (by decide +kernel) rfl, ini_S, LTm 459 rfl rfl, ⟨by decide, by decide, by decide +kernel⟩⟩
set_option maxRecDepth 20000 in
theorem mS_standFor : MkV S_standFor 1 := ⟨LTm 461 (by decide +kernel) rfl, LTm 462 (by decide +kernel) rfl, ini_S, LTm 463 rfl rfl, ⟨by decide, by decide, by decide +kernel⟩⟩
set_option maxRecDepth 20000 in
theorem mS_foldFor : MkV S_foldFor 1 := ⟨LTm 466 (by decide +kernel) rfl, LTm 467 (by decide +kernel) rfl, ini_S, LTm 468 rfl rfl, ⟨by decide, by decide, by decide +kernel⟩⟩
set_option maxRecDepth 20000 in
theorem mS_kindFor : MkV S_kindFor 2 := ⟨LTm 470 (by decide +kernel) rfl, LTm 471 (by decide +kernel) rfl, ini_S, LTm 472 rfl rfl, ⟨by decide, by decide, by decide +kernel⟩⟩
set_option maxRecDepth 20000 in
theorem mS_paceFor : MkV S_paceFor 2 := ⟨LTm 474 (by decide +kernel) rfl, LTm 475 (by decide +kernel) rfl, ini_S, LTm 476 rfl rfl, ⟨by decide, by decide, by decide +kernel⟩⟩
set_option maxRecDepth 20000 in
theorem mS_tether : MkV S_tether 1 := ⟨LTm 478 (by decide +kernel) rfl, LTm 479 (by decide +kernel) rfl, ini_S, LTm 480 rfl rfl, ⟨by decide, by decide, by decide +kernel⟩⟩
set_option maxRecDepth 20000 in
theorem mJI_bitCount : MkS JI_bitCount 1 := ⟨LTm 482 (by decide +kernel) rfl, ini_JI, LTm 483 rfl rfl, ⟨by decide, by decide, by decide +kernel⟩⟩
set_option maxRecDepth 20000 in
theorem mS_keepsNear : MkV S_keepsNear 2 := ⟨LTm 489 (by decide +kernel) rfl, LTm 2 (by decide +kernel) rfl, ini_S, LTm 490 rfl rfl, ⟨by decide, by decide, by decide +kernel⟩⟩
set_option maxRecDepth 20000 in
theorem mS_fits : MkV S_fits 2 := ⟨LTm 493 (by decide +kernel) rfl, LTm 494 (by decide +kernel) rfl, ini_S, LTm 495 rfl rfl, ⟨by decide, by decide, by decide +kernel⟩⟩
set_option maxRecDepth 20000 in
theorem mS_isSheet : MkS S_isSheet 1 := ⟨LTm 497 (by decide +kernel) rfl, ini_S, LTm 498 rfl rfl, ⟨by decide, by decide, by decide +kernel⟩⟩
set_option maxRecDepth 20000 in
theorem mE_isMissing : MkV E_isMissing 0 := ⟨LTm 500 (by decide +kernel) rfl, LTm 501 (by decide +kernel) rfl, ini_E, LTm 502 rfl rfl, ⟨by decide, by decide, by decide +kernel⟩⟩
set_option maxRecDepth 20000 in
theorem mS_keeperGoesAsTold : MkV S_keeperGoesAsTold 1 := ⟨LTm 505 (by decide +kernel) rfl, LTm 3 (by decide +kernel) rfl, ini_S, LTm 506 rfl rfl, ⟨by decide, by decide, by decide +kernel⟩⟩
set_option maxRecDepth 20000 in
theorem mE_allows : MkV E_allows 2 := ⟨LTm 508 (by decide +kernel) rfl, LTm 509 (by decide +kernel) rfl, ini_E, LTm 510 rfl rfl, ⟨by decide, by decide, by decide +kernel⟩⟩
set_option maxRecDepth 20000 in
theorem mS_kinds : MkV S_kinds 2 := ⟨LTm 512 (by decide +kernel) rfl, LTm 513 (by decide +kernel) rfl, ini_S, LTm 514 rfl rfl, ⟨by decide, by decide, by decide +kernel⟩⟩
set_option maxRecDepth 20000 in
theorem mS_sheepGoesAsTold : MkV S_sheepGoesAsTold 2 := ⟨LTm 517 (by decide +kernel) rfl, LTm 4 (by decide +kernel) rfl, ini_S, LTm 518 rfl rfl, ⟨by decide, by decide, by decide +kernel⟩⟩
set_option maxRecDepth 20000 in
theorem mS_nights : MkV S_nights 1 := ⟨LTm 520 (by decide +kernel) rfl, LTm 521 (by decide +kernel) rfl, ini_S, LTm 522 rfl rfl, ⟨by decide, by decide, by decide +kernel⟩⟩
set_option maxRecDepth 20000 in
theorem mS_draw : MkV S_draw 0 := ⟨LTm 525 (by decide +kernel) rfl, LTm 5 (by decide +kernel) rfl, ini_S, LTm 526 rfl rfl, ⟨by decide, by decide, by decide +kernel⟩⟩
set_option maxRecDepth 20000 in
theorem mS_odds : MkV S_odds 3 := ⟨LTm 529 (by decide +kernel) rfl, LTm 530 (by decide +kernel) rfl, ini_S, LTm 531 rfl rfl, ⟨by decide, by decide, by decide +kernel⟩⟩
set_option maxRecDepth 20000 in
theorem mH_cellsOutOfReachOf : MkV H_cellsOutOfReachOf 1 := ⟨LTm 533 (by decide +kernel) rfl, LTm 534 (by decide +kernel) rfl, ini_H, LTm 535 rfl rfl, ⟨by decide, by decide, by decide +kernel⟩⟩
set_option maxRecDepth 20000 in
theorem mS_power : MkS S_power 2 := ⟨LTm 537 (by decide +kernel) rfl, ini_S, LTm 538 rfl rfl, ⟨by decide, by decide, by decide +kernel⟩⟩
set_option maxRecDepth 20000 in
theorem mS_seed : MkV S_seed 1 := ⟨LTm 540 (by decide +kernel) rfl, LTm 541 (by decide +kernel) rfl, ini_S, LTm 542 rfl rfl, ⟨by decide, by decide, by decide +kernel⟩⟩
set_option maxRecDepth 20000 in
theorem mS_feed : MkV S_feed 2 := ⟨LTm 544 (by decide +kernel) rfl, LTm 545 (by decide +kernel) rfl, ini_S, LTm 546 rfl rfl, ⟨by decide, by decide, by decide +kernel⟩⟩
set_option maxRecDepth 20000 in
theorem mT_hasRoomFor : MkV T_hasRoomFor 1 := ⟨LTm 548 (by decide +kernel) rfl, LTm 549 (by decide +kernel) rfl, ini_T, LTm 550 rfl rfl, ⟨by decide, by decide, by decide +kernel⟩⟩
set_option maxRecDepth 20000 in
theorem mT_append : MkV T_append 1 := ⟨LTm 552 (by decide +kernel) rfl, LTm 553 (by decide +kernel) rfl, ini_T, LTm 554 rfl rfl, ⟨by decide, by decide, by decide +kernel⟩⟩
set_option maxRecDepth 20000 in
theorem mS_wipe : MkV S_wipe 0 := ⟨LTm 557 (by decide +kernel) rfl, LTm 558 (by decide +kernel) rfl, ini_S, LTm 559 rfl rfl, ⟨by decide, by decide, by decide +kernel⟩⟩
set_option maxRecDepth 20000 in
theorem mS_text : MkV S_text 0 := ⟨LTm 561 (by decide +kernel) rfl, LTm 562 (by decide +kernel) rfl, ini_S, LTm 563 rfl rfl, ⟨by decide, by decide, by decide +kernel⟩⟩
set_option maxRecDepth 20000 in
theorem mT_readOnto : MkV T_readOnto 1 := ⟨LTm 565 (by decide +kernel) rfl, LTm 566 (by decide +kernel) rfl, ini_T, LTm 567 rfl rfl, ⟨by decide, by decide, by decide +kernel⟩⟩
set_option maxRecDepth 20000 in
theorem mT_nextToken : MkV T_nextToken 0 := ⟨LTm 570 (by decide +kernel) rfl, LTm 6 (by decide +kernel) rfl, ini_T, LTm 571 rfl rfl, ⟨by decide, by decide, by decide +kernel⟩⟩
set_option maxRecDepth 20000 in
theorem mT_tokenAt : MkV T_tokenAt 1 := ⟨LTm 574 (by decide +kernel) rfl, LTm 7 (by decide +kernel) rfl, ini_T, LTm 575 rfl rfl, ⟨by decide, by decide, by decide +kernel⟩⟩
set_option maxRecDepth 20000 in
theorem mT_isLong : MkS T_isLong 1 := ⟨LTm 577 (by decide +kernel) rfl, ini_T, LTm 578 rfl rfl, ⟨by decide, by decide, by decide +kernel⟩⟩
set_option maxRecDepth 20000 in
theorem mT_readItem : MkV T_readItem 1 := ⟨LTm 581 (by decide +kernel) rfl, LTm 8 (by decide +kernel) rfl, ini_T, LTm 582 rfl rfl, ⟨by decide, by decide, by decide +kernel⟩⟩
set_option maxRecDepth 20000 in
theorem mT_kindOfWord : MkV T_kindOfWord 0 := ⟨LTm 585 (by decide +kernel) rfl, LTm 9 (by decide +kernel) rfl, ini_T, LTm 586 rfl rfl, ⟨by decide, by decide, by decide +kernel⟩⟩
set_option maxRecDepth 20000 in
theorem mT_nameOf : MkS T_nameOf 1 := ⟨LTm 588 (by decide +kernel) rfl, ini_T, LTm 589 rfl rfl, ⟨by decide, by decide, by decide +kernel⟩⟩
set_option maxRecDepth 20000 in
theorem mT_isWord : MkV T_isWord 1 := ⟨LTm 599 (by decide +kernel) rfl, LTm 10 (by decide +kernel) rfl, ini_T, LTm 600 rfl rfl, ⟨by decide, by decide, by decide +kernel⟩⟩
set_option maxRecDepth 20000 in
theorem mJS_length : MkV JS_length 0 := ⟨LTm 602 (by decide +kernel) rfl, LTm 603 (by decide +kernel) rfl, ini_JS, LTm 604 rfl rfl, ⟨by decide, by decide, by decide +kernel⟩⟩
set_option maxRecDepth 20000 in
theorem mJS_coder : MkV JS_coder 0 := ⟨LTm 606 (by decide +kernel) rfl, LTm 607 (by decide +kernel) rfl, ini_JS, LTm 608 rfl rfl, ⟨by decide, by decide, by decide +kernel⟩⟩
set_option maxRecDepth 20000 in
theorem mJS_charAt : MkV JS_charAt 1 := ⟨LTm 612 (by decide +kernel) rfl, LTm 613 (by decide +kernel) rfl, ini_JS, LTm 614 rfl rfl, ⟨by decide, by decide, by decide +kernel⟩⟩
set_option maxRecDepth 20000 in
theorem mJS_isLatin1 : MkV JS_isLatin1 0 := ⟨LTm 616 (by decide +kernel) rfl, LTm 617 (by decide +kernel) rfl, ini_JS, LTm 618 rfl rfl, ⟨by decide, by decide, by decide +kernel⟩⟩
set_option maxRecDepth 20000 in
theorem mJL_charAt : MkS JL_charAt 2 := ⟨LTm 620 (by decide +kernel) rfl, ini_JL, LTm 621 rfl rfl, ⟨by decide, by decide, by decide +kernel⟩⟩
set_option maxRecDepth 20000 in
theorem mJS_checkIndex : MkS JS_checkIndex 2 := ⟨LTm 623 (by decide +kernel) rfl, ini_JS, LTm 624 rfl rfl, ⟨by decide, by decide, by decide +kernel⟩⟩
set_option maxRecDepth 20000 in
theorem mJP_checkIndex : MkS JP_checkIndex 3 := ⟨LTm 628 (by decide +kernel) rfl, ini_JP, LTm 629 rfl rfl, ⟨by decide, by decide, by decide +kernel⟩⟩
set_option maxRecDepth 20000 in
theorem mT_readSheep : MkV T_readSheep 2 := ⟨LTm 651 (by decide +kernel) rfl, LTm 11 (by decide +kernel) rfl, ini_T, LTm 652 rfl rfl, ⟨by decide, by decide, by decide +kernel⟩⟩
set_option maxRecDepth 20000 in
theorem mT_skipWord : MkV T_skipWord 1 := ⟨LTm 657 (by decide +kernel) rfl, LTm 12 (by decide +kernel) rfl, ini_T, LTm 658 rfl rfl, ⟨by decide, by decide, by decide +kernel⟩⟩
set_option maxRecDepth 20000 in
theorem mT_takeNumber : MkV T_takeNumber 1 := ⟨LTm 661 (by decide +kernel) rfl, LTm 13 (by decide +kernel) rfl, ini_T, LTm 662 rfl rfl, ⟨by decide, by decide, by decide +kernel⟩⟩
set_option maxRecDepth 20000 in
theorem mT_readFold : MkV T_readFold 1 := ⟨LTm 669 (by decide +kernel) rfl, LTm 14 (by decide +kernel) rfl, ini_T, LTm 670 rfl rfl, ⟨by decide, by decide, by decide +kernel⟩⟩
set_option maxRecDepth 20000 in
theorem mT_readKeeper : MkV T_readKeeper 1 := ⟨LTm 674 (by decide +kernel) rfl, LTm 15 (by decide +kernel) rfl, ini_T, LTm 675 rfl rfl, ⟨by decide, by decide, by decide +kernel⟩⟩
set_option maxRecDepth 20000 in
theorem mT_readWolf : MkV T_readWolf 1 := ⟨LTm 680 (by decide +kernel) rfl, LTm 16 (by decide +kernel) rfl, ini_T, LTm 681 rfl rfl, ⟨by decide, by decide, by decide +kernel⟩⟩
set_option maxRecDepth 20000 in
theorem mS_hold : MkV S_hold 2 := ⟨LTm 685 (by decide +kernel) rfl, LTm 686 (by decide +kernel) rfl, ini_S, LTm 687 rfl rfl, ⟨by decide, by decide, by decide +kernel⟩⟩
set_option maxRecDepth 20000 in
theorem mS_isSpot : MkS S_isSpot 1 := ⟨LTm 689 (by decide +kernel) rfl, ini_S, LTm 690 rfl rfl, ⟨by decide, by decide, by decide +kernel⟩⟩
set_option maxRecDepth 20000 in
theorem mS_as : MkV S_as 2 := ⟨LTm 692 (by decide +kernel) rfl, LTm 693 (by decide +kernel) rfl, ini_S, LTm 694 rfl rfl, ⟨by decide, by decide, by decide +kernel⟩⟩
set_option maxRecDepth 20000 in
theorem mS_isUnder : MkS S_isUnder 2 := ⟨LTm 696 (by decide +kernel) rfl, ini_S, LTm 697 rfl rfl, ⟨by decide, by decide, by decide +kernel⟩⟩
set_option maxRecDepth 20000 in
theorem mS_kindAbove : MkS S_kindAbove 1 := ⟨LTm 699 (by decide +kernel) rfl, ini_S, LTm 700 rfl rfl, ⟨by decide, by decide, by decide +kernel⟩⟩
set_option maxRecDepth 20000 in
theorem mS_sheet : MkV S_sheet 3 := ⟨LTm 702 (by decide +kernel) rfl, LTm 703 (by decide +kernel) rfl, ini_S, LTm 704 rfl rfl, ⟨by decide, by decide, by decide +kernel⟩⟩
set_option maxRecDepth 20000 in
theorem mE_begin : MkV E_begin 2 := ⟨LTm 706 (by decide +kernel) rfl, LTm 707 (by decide +kernel) rfl, ini_E, LTm 708 rfl rfl, ⟨by decide, by decide, by decide +kernel⟩⟩
set_option maxRecDepth 20000 in
theorem mS_write : MkV S_write 3 := ⟨LTm 710 (by decide +kernel) rfl, LTm 711 (by decide +kernel) rfl, ini_S, LTm 712 rfl rfl, ⟨by decide, by decide, by decide +kernel⟩⟩
set_option maxRecDepth 20000 in
theorem mE_put : MkV E_put 2 := ⟨LTm 714 (by decide +kernel) rfl, LTm 715 (by decide +kernel) rfl, ini_E, LTm 716 rfl rfl, ⟨by decide, by decide, by decide +kernel⟩⟩
set_option maxRecDepth 20000 in
theorem mS_copy : MkV S_copy 5 := ⟨LTm 718 (by decide +kernel) rfl, LTm 719 (by decide +kernel) rfl, ini_S, LTm 720 rfl rfl, ⟨by decide, by decide, by decide +kernel⟩⟩
set_option maxRecDepth 20000 in
theorem mE_hasRun : MkV E_hasRun 2 := ⟨LTm 722 (by decide +kernel) rfl, LTm 723 (by decide +kernel) rfl, ini_E, LTm 724 rfl rfl, ⟨by decide, by decide, by decide +kernel⟩⟩
set_option maxRecDepth 20000 in
theorem mS_load : MkV S_load 1 := ⟨LTm 727 (by decide +kernel) rfl, LTm 728 (by decide +kernel) rfl, ini_S, LTm 729 rfl rfl, ⟨by decide, by decide, by decide +kernel⟩⟩
set_option maxRecDepth 20000 in
theorem mS_judge : MkV S_judge 1 := ⟨LTm 731 (by decide +kernel) rfl, LTm 732 (by decide +kernel) rfl, ini_S, LTm 733 rfl rfl, ⟨by decide, by decide, by decide +kernel⟩⟩
set_option maxRecDepth 20000 in
theorem mS_image : MkV S_image 0 := ⟨LTm 735 (by decide +kernel) rfl, LTm 736 (by decide +kernel) rfl, ini_S, LTm 737 rfl rfl, ⟨by decide, by decide, by decide +kernel⟩⟩
set_option maxRecDepth 20000 in
theorem mS_undo : MkV S_undo 0 := ⟨LTm 739 (by decide +kernel) rfl, LTm 740 (by decide +kernel) rfl, ini_S, LTm 741 rfl rfl, ⟨by decide, by decide, by decide +kernel⟩⟩
set_option maxRecDepth 20000 in
theorem mS_tear : MkV S_tear 0 := ⟨LTm 743 (by decide +kernel) rfl, LTm 744 (by decide +kernel) rfl, ini_S, LTm 745 rfl rfl, ⟨by decide, by decide, by decide +kernel⟩⟩
set_option maxRecDepth 20000 in
theorem mS_count : MkV S_count 1 := ⟨LTm 747 (by decide +kernel) rfl, LTm 748 (by decide +kernel) rfl, ini_S, LTm 749 rfl rfl, ⟨by decide, by decide, by decide +kernel⟩⟩
set_option maxRecDepth 20000 in
theorem mS_spotsInUse : MkV S_spotsInUse 0 := ⟨LTm 752 (by decide +kernel) rfl, LTm 17 (by decide +kernel) rfl, ini_S, LTm 753 rfl rfl, ⟨by decide, by decide, by decide +kernel⟩⟩
set_option maxRecDepth 20000 in
theorem mS_status : MkV S_status 1 := ⟨LTm 755 (by decide +kernel) rfl, LTm 756 (by decide +kernel) rfl, ini_S, LTm 757 rfl rfl, ⟨by decide, by decide, by decide +kernel⟩⟩
set_option maxRecDepth 20000 in
theorem mQ_set : MkV Q_set 2 := ⟨LTm 847 (by decide +kernel) rfl, LTm 848 (by decide +kernel) rfl, ini_Q, LTm 849 rfl rfl, ⟨by decide, by decide, by decide +kernel⟩⟩
set_option maxRecDepth 20000 in
theorem mQ_within : MkS Q_within 3 := ⟨LTm 851 (by decide +kernel) rfl, ini_Q, LTm 852 rfl rfl, ⟨by decide, by decide, by decide +kernel⟩⟩
set_option maxRecDepth 20000 in
theorem mQ_isCell : MkS Q_isCell 1 := ⟨LTm 854 (by decide +kernel) rfl, ini_Q, LTm 855 rfl rfl, ⟨by decide, by decide, by decide +kernel⟩⟩
set_option maxRecDepth 20000 in
theorem mQ_finding : MkV Q_finding 1 := ⟨LTm 859 (by decide +kernel) rfl, LTm 18 (by decide +kernel) rfl, ini_Q, LTm 860 rfl rfl, ⟨by decide, by decide, by decide +kernel⟩⟩
set_option maxRecDepth 20000 in
theorem mQ_keeperTo : MkV Q_keeperTo 1 := ⟨LTm 863 (by decide +kernel) rfl, LTm 19 (by decide +kernel) rfl, ini_Q, LTm 864 rfl rfl, ⟨by decide, by decide, by decide +kernel⟩⟩
set_option maxRecDepth 20000 in
theorem mQ_keeperAt : MkV Q_keeperAt 1 := ⟨LTm 867 (by decide +kernel) rfl, LTm 20 (by decide +kernel) rfl, ini_Q, LTm 868 rfl rfl, ⟨by decide, by decide, by decide +kernel⟩⟩
set_option maxRecDepth 20000 in
theorem mQ_sheepAt : MkS Q_sheepAt 2 := ⟨LTm 870 (by decide +kernel) rfl, ini_Q, LTm 871 rfl rfl, ⟨by decide, by decide, by decide +kernel⟩⟩
set_option maxRecDepth 20000 in
theorem mQ_become : MkV Q_become 2 := ⟨LTm 874 (by decide +kernel) rfl, LTm 21 (by decide +kernel) rfl, ini_Q, LTm 875 rfl rfl, ⟨by decide, by decide, by decide +kernel⟩⟩
set_option maxRecDepth 20000 in
theorem mQ_hill : MkV Q_hill 1 := ⟨LTm 877 (by decide +kernel) rfl, LTm 878 (by decide +kernel) rfl, ini_Q, LTm 879 rfl rfl, ⟨by decide, by decide, by decide +kernel⟩⟩
set_option maxRecDepth 20000 in
theorem mQ_sheep : MkV Q_sheep 2 := ⟨LTm 881 (by decide +kernel) rfl, LTm 882 (by decide +kernel) rfl, ini_Q, LTm 883 rfl rfl, ⟨by decide, by decide, by decide +kernel⟩⟩
set_option maxRecDepth 20000 in
theorem mQ_isKind : MkS Q_isKind 1 := ⟨LTm 885 (by decide +kernel) rfl, ini_Q, LTm 886 rfl rfl, ⟨by decide, by decide, by decide +kernel⟩⟩
set_option maxRecDepth 20000 in
theorem mQ_comes : MkV Q_comes 2 := ⟨LTm 890 (by decide +kernel) rfl, LTm 22 (by decide +kernel) rfl, ini_Q, LTm 891 rfl rfl, ⟨by decide, by decide, by decide +kernel⟩⟩
set_option maxRecDepth 20000 in
theorem mQ_of : MkV Q_of 2 := ⟨LTm 893 (by decide +kernel) rfl, LTm 894 (by decide +kernel) rfl, ini_Q, LTm 895 rfl rfl, ⟨by decide, by decide, by decide +kernel⟩⟩
set_option maxRecDepth 20000 in
theorem mQ_isSheep : MkV Q_isSheep 1 := ⟨LTm 898 (by decide +kernel) rfl, LTm 23 (by decide +kernel) rfl, ini_Q, LTm 899 rfl rfl, ⟨by decide, by decide, by decide +kernel⟩⟩
set_option maxRecDepth 20000 in
theorem mQ_far : MkV Q_far 1 := ⟨LTm 902 (by decide +kernel) rfl, LTm 24 (by decide +kernel) rfl, ini_Q, LTm 903 rfl rfl, ⟨by decide, by decide, by decide +kernel⟩⟩
set_option maxRecDepth 20000 in
theorem mQ_sheepIs : MkV Q_sheepIs 2 := ⟨LTm 906 (by decide +kernel) rfl, LTm 25 (by decide +kernel) rfl, ini_Q, LTm 907 rfl rfl, ⟨by decide, by decide, by decide +kernel⟩⟩
set_option maxRecDepth 20000 in
theorem mJM_abs : MkS JM_abs 1 := ⟨LTm 909 (by decide +kernel) rfl, ini_JM, LTm 910 rfl rfl, ⟨by decide, by decide, by decide +kernel⟩⟩
set_option maxRecDepth 20000 in
theorem mQ_strays : MkV Q_strays 1 := ⟨LTm 913 (by decide +kernel) rfl, LTm 26 (by decide +kernel) rfl, ini_Q, LTm 914 rfl rfl, ⟨by decide, by decide, by decide +kernel⟩⟩
set_option maxRecDepth 20000 in
theorem mQ_isAlone : MkV Q_isAlone 1 := ⟨LTm 917 (by decide +kernel) rfl, LTm 27 (by decide +kernel) rfl, ini_Q, LTm 918 rfl rfl, ⟨by decide, by decide, by decide +kernel⟩⟩
set_option maxRecDepth 20000 in
theorem mQ_fears : MkV Q_fears 1 := ⟨LTm 921 (by decide +kernel) rfl, LTm 28 (by decide +kernel) rfl, ini_Q, LTm 922 rfl rfl, ⟨by decide, by decide, by decide +kernel⟩⟩
set_option maxRecDepth 20000 in
theorem mQ_calms : MkV Q_calms 1 := ⟨LTm 925 (by decide +kernel) rfl, LTm 29 (by decide +kernel) rfl, ini_Q, LTm 926 rfl rfl, ⟨by decide, by decide, by decide +kernel⟩⟩
set_option maxRecDepth 20000 in
theorem mQ_light : MkV Q_light 1 := ⟨LTm 929 (by decide +kernel) rfl, LTm 30 (by decide +kernel) rfl, ini_Q, LTm 930 rfl rfl, ⟨by decide, by decide, by decide +kernel⟩⟩
set_option maxRecDepth 20000 in
theorem mQ_change : MkV Q_change 3 := ⟨LTm 932 (by decide +kernel) rfl, LTm 933 (by decide +kernel) rfl, ini_Q, LTm 934 rfl rfl, ⟨by decide, by decide, by decide +kernel⟩⟩
set_option maxRecDepth 20000 in
theorem mQ_isField : MkS Q_isField 2 := ⟨LTm 936 (by decide +kernel) rfl, ini_Q, LTm 937 rfl rfl, ⟨by decide, by decide, by decide +kernel⟩⟩
set_option maxRecDepth 20000 in
theorem mQ_drop : MkV Q_drop 0 := ⟨LTm 940 (by decide +kernel) rfl, LTm 941 (by decide +kernel) rfl, ini_Q, LTm 942 rfl rfl, ⟨by decide, by decide, by decide +kernel⟩⟩
set_option maxRecDepth 20000 in
theorem mQ_orNone : MkV Q_orNone 1 := ⟨LTm 945 (by decide +kernel) rfl, LTm 31 (by decide +kernel) rfl, ini_Q, LTm 946 rfl rfl, ⟨by decide, by decide, by decide +kernel⟩⟩
set_option maxRecDepth 20000 in
theorem mQ_who : MkV Q_who 1 := ⟨LTm 949 (by decide +kernel) rfl, LTm 950 (by decide +kernel) rfl, ini_Q, LTm 951 rfl rfl, ⟨by decide, by decide, by decide +kernel⟩⟩
set_option maxRecDepth 20000 in
theorem mQ_setAt : MkV Q_setAt 1 := ⟨LTm 954 (by decide +kernel) rfl, LTm 32 (by decide +kernel) rfl, ini_Q, LTm 955 rfl rfl, ⟨by decide, by decide, by decide +kernel⟩⟩
set_option maxRecDepth 20000 in
theorem mQ_go : MkV Q_go 1 := ⟨LTm 957 (by decide +kernel) rfl, LTm 958 (by decide +kernel) rfl, ini_Q, LTm 959 rfl rfl, ⟨by decide, by decide, by decide +kernel⟩⟩
set_option maxRecDepth 20000 in
theorem mQ_hoursGo : MkV Q_hoursGo 1 := ⟨LTm 963 (by decide +kernel) rfl, LTm 33 (by decide +kernel) rfl, ini_Q, LTm 964 rfl rfl, ⟨by decide, by decide, by decide +kernel⟩⟩
set_option maxRecDepth 20000 in
theorem mQ_hour : MkV Q_hour 0 := ⟨LTm 967 (by decide +kernel) rfl, LTm 34 (by decide +kernel) rfl, ini_Q, LTm 968 rfl rfl, ⟨by decide, by decide, by decide +kernel⟩⟩
set_option maxRecDepth 20000 in
theorem mQ_sheepGo : MkV Q_sheepGo 0 := ⟨LTm 971 (by decide +kernel) rfl, LTm 35 (by decide +kernel) rfl, ini_Q, LTm 972 rfl rfl, ⟨by decide, by decide, by decide +kernel⟩⟩
set_option maxRecDepth 20000 in
theorem mQ_hasBit : MkS Q_hasBit 2 := ⟨LTm 974 (by decide +kernel) rfl, ini_Q, LTm 975 rfl rfl, ⟨by decide, by decide, by decide +kernel⟩⟩
set_option maxRecDepth 20000 in
theorem mQ_towards : MkS Q_towards 3 := ⟨LTm 977 (by decide +kernel) rfl, ini_Q, LTm 978 rfl rfl, ⟨by decide, by decide, by decide +kernel⟩⟩
set_option maxRecDepth 20000 in
theorem mQ_awayFrom : MkV Q_awayFrom 2 := ⟨LTm 983 (by decide +kernel) rfl, LTm 36 (by decide +kernel) rfl, ini_Q, LTm 984 rfl rfl, ⟨by decide, by decide, by decide +kernel⟩⟩
set_option maxRecDepth 20000 in
theorem mQ_wolfGoes : MkV Q_wolfGoes 0 := ⟨LTm 987 (by decide +kernel) rfl, LTm 37 (by decide +kernel) rfl, ini_Q, LTm 988 rfl rfl, ⟨by decide, by decide, by decide +kernel⟩⟩
set_option maxRecDepth 20000 in
theorem mQ_nearest : MkV Q_nearest 0 := ⟨LTm 991 (by decide +kernel) rfl, LTm 38 (by decide +kernel) rfl, ini_Q, LTm 992 rfl rfl, ⟨by decide, by decide, by decide +kernel⟩⟩
set_option maxRecDepth 20000 in
theorem mQ_carries : MkV Q_carries 0 := ⟨LTm 995 (by decide +kernel) rfl, LTm 39 (by decide +kernel) rfl, ini_Q, LTm 996 rfl rfl, ⟨by decide, by decide, by decide +kernel⟩⟩
set_option maxRecDepth 20000 in
theorem mQ_seeks : MkV Q_seeks 0 := ⟨LTm 999 (by decide +kernel) rfl, LTm 40 (by decide +kernel) rfl, ini_Q, LTm 1000 rfl rfl, ⟨by decide, by decide, by decide +kernel⟩⟩
set_option maxRecDepth 20000 in
theorem mQ_sought : MkV Q_sought 0 := ⟨LTm 1003 (by decide +kernel) rfl, LTm 41 (by decide +kernel) rfl, ini_Q, LTm 1004 rfl rfl, ⟨by decide, by decide, by decide +kernel⟩⟩
set_option maxRecDepth 20000 in
theorem mQ_sumOf : MkV Q_sumOf 1 := ⟨LTm 1007 (by decide +kernel) rfl, LTm 42 (by decide +kernel) rfl, ini_Q, LTm 1008 rfl rfl, ⟨by decide, by decide, by decide +kernel⟩⟩
set_option maxRecDepth 20000 in
theorem mQ_now : MkV Q_now 1 := ⟨LTm 1010 (by decide +kernel) rfl, LTm 1011 (by decide +kernel) rfl, ini_Q, LTm 1012 rfl rfl, ⟨by decide, by decide, by decide +kernel⟩⟩
set_option maxRecDepth 20000 in
theorem mQ_lostSet : MkV Q_lostSet 0 := ⟨LTm 1015 (by decide +kernel) rfl, LTm 43 (by decide +kernel) rfl, ini_Q, LTm 1016 rfl rfl, ⟨by decide, by decide, by decide +kernel⟩⟩
set_option maxRecDepth 20000 in
theorem mQ_mostAfraid : MkV Q_mostAfraid 0 := ⟨LTm 1019 (by decide +kernel) rfl, LTm 44 (by decide +kernel) rfl, ini_Q, LTm 1020 rfl rfl, ⟨by decide, by decide, by decide +kernel⟩⟩
set_option maxRecDepth 20000 in
theorem mQ_ahead : MkV Q_ahead 3 := ⟨LTm 1022 (by decide +kernel) rfl, LTm 1023 (by decide +kernel) rfl, ini_Q, LTm 1024 rfl rfl, ⟨by decide, by decide, by decide +kernel⟩⟩
set_option maxRecDepth 20000 in
theorem mQ_behind : MkV Q_behind 2 := ⟨LTm 1027 (by decide +kernel) rfl, LTm 45 (by decide +kernel) rfl, ini_Q, LTm 1028 rfl rfl, ⟨by decide, by decide, by decide +kernel⟩⟩
set_option maxRecDepth 20000 in
theorem mQ_copyRow : MkS Q_copyRow 2 := ⟨LTm 1030 (by decide +kernel) rfl, ini_Q, LTm 1031 rfl rfl, ⟨by decide, by decide, by decide +kernel⟩⟩
set_option maxRecDepth 20000 in
theorem mQ_putBack : MkV Q_putBack 1 := ⟨LTm 1034 (by decide +kernel) rfl, LTm 46 (by decide +kernel) rfl, ini_Q, LTm 1035 rfl rfl, ⟨by decide, by decide, by decide +kernel⟩⟩
set_option maxRecDepth 20000 in
theorem mQ_later : MkV Q_later 2 := ⟨LTm 1037 (by decide +kernel) rfl, LTm 1038 (by decide +kernel) rfl, ini_Q, LTm 1039 rfl rfl, ⟨by decide, by decide, by decide +kernel⟩⟩
set_option maxRecDepth 20000 in
theorem mQ_when : MkV Q_when 2 := ⟨LTm 1041 (by decide +kernel) rfl, LTm 1042 (by decide +kernel) rfl, ini_Q, LTm 1043 rfl rfl, ⟨by decide, by decide, by decide +kernel⟩⟩
set_option maxRecDepth 20000 in
theorem mQ_whenIs : MkV Q_whenIs 3 := ⟨LTm 1046 (by decide +kernel) rfl, LTm 47 (by decide +kernel) rfl, ini_Q, LTm 1047 rfl rfl, ⟨by decide, by decide, by decide +kernel⟩⟩
set_option maxRecDepth 20000 in
theorem mQ_home : MkV Q_home 0 := ⟨LTm 1049 (by decide +kernel) rfl, LTm 1050 (by decide +kernel) rfl, ini_Q, LTm 1051 rfl rfl, ⟨by decide, by decide, by decide +kernel⟩⟩
set_option maxRecDepth 20000 in
theorem mQ_areHome : MkV Q_areHome 0 := ⟨LTm 1054 (by decide +kernel) rfl, LTm 48 (by decide +kernel) rfl, ini_Q, LTm 1055 rfl rfl, ⟨by decide, by decide, by decide +kernel⟩⟩
set_option maxRecDepth 20000 in
theorem mQ_panic : MkV Q_panic 2 := ⟨LTm 1057 (by decide +kernel) rfl, LTm 1058 (by decide +kernel) rfl, ini_Q, LTm 1059 rfl rfl, ⟨by decide, by decide, by decide +kernel⟩⟩
set_option maxRecDepth 20000 in
theorem mQ_standFor : MkV Q_standFor 1 := ⟨LTm 1061 (by decide +kernel) rfl, LTm 1062 (by decide +kernel) rfl, ini_Q, LTm 1063 rfl rfl, ⟨by decide, by decide, by decide +kernel⟩⟩
set_option maxRecDepth 20000 in
theorem mQ_isThought : MkS Q_isThought 1 := ⟨LTm 1065 (by decide +kernel) rfl, ini_Q, LTm 1066 rfl rfl, ⟨by decide, by decide, by decide +kernel⟩⟩
set_option maxRecDepth 20000 in
theorem mQ_leastFor : MkV Q_leastFor 3 := ⟨LTm 1069 (by decide +kernel) rfl, LTm 49 (by decide +kernel) rfl, ini_Q, LTm 1070 rfl rfl, ⟨by decide, by decide, by decide +kernel⟩⟩
set_option maxRecDepth 20000 in
theorem mQ_sumBehind : MkV Q_sumBehind 2 := ⟨LTm 1073 (by decide +kernel) rfl, LTm 50 (by decide +kernel) rfl, ini_Q, LTm 1074 rfl rfl, ⟨by decide, by decide, by decide +kernel⟩⟩
set_option maxRecDepth 20000 in
theorem mQ_foldFor : MkV Q_foldFor 1 := ⟨LTm 1076 (by decide +kernel) rfl, LTm 1077 (by decide +kernel) rfl, ini_Q, LTm 1078 rfl rfl, ⟨by decide, by decide, by decide +kernel⟩⟩
set_option maxRecDepth 20000 in
theorem mQ_kindFor : MkV Q_kindFor 2 := ⟨LTm 1080 (by decide +kernel) rfl, LTm 1081 (by decide +kernel) rfl, ini_Q, LTm 1082 rfl rfl, ⟨by decide, by decide, by decide +kernel⟩⟩
set_option maxRecDepth 20000 in
theorem mQ_paceFor : MkV Q_paceFor 2 := ⟨LTm 1084 (by decide +kernel) rfl, LTm 1085 (by decide +kernel) rfl, ini_Q, LTm 1086 rfl rfl, ⟨by decide, by decide, by decide +kernel⟩⟩
set_option maxRecDepth 20000 in
theorem mQ_tether : MkV Q_tether 1 := ⟨LTm 1088 (by decide +kernel) rfl, LTm 1089 (by decide +kernel) rfl, ini_Q, LTm 1090 rfl rfl, ⟨by decide, by decide, by decide +kernel⟩⟩
set_option maxRecDepth 20000 in
theorem mQ_areNear : MkV Q_areNear 2 := ⟨LTm 1093 (by decide +kernel) rfl, LTm 51 (by decide +kernel) rfl, ini_Q, LTm 1094 rfl rfl, ⟨by decide, by decide, by decide +kernel⟩⟩
set_option maxRecDepth 20000 in
theorem mQ_bits : MkS Q_bits 1 := ⟨LTm 1096 (by decide +kernel) rfl, ini_Q, LTm 1097 rfl rfl, ⟨by decide, by decide, by decide +kernel⟩⟩
set_option maxRecDepth 20000 in
theorem mQ_fits : MkV Q_fits 2 := ⟨LTm 1099 (by decide +kernel) rfl, LTm 1100 (by decide +kernel) rfl, ini_Q, LTm 1101 rfl rfl, ⟨by decide, by decide, by decide +kernel⟩⟩
set_option maxRecDepth 20000 in
theorem mQ_lacks : MkV Q_lacks 2 := ⟨LTm 1104 (by decide +kernel) rfl, LTm 52 (by decide +kernel) rfl, ini_Q, LTm 1105 rfl rfl, ⟨by decide, by decide, by decide +kernel⟩⟩
set_option maxRecDepth 20000 in
theorem mQ_isSheet : MkS Q_isSheet 1 := ⟨LTm 1107 (by decide +kernel) rfl, ini_Q, LTm 1108 rfl rfl, ⟨by decide, by decide, by decide +kernel⟩⟩
set_option maxRecDepth 20000 in
theorem mQ_valuesFor : MkV Q_valuesFor 4 := ⟨LTm 1112 (by decide +kernel) rfl, LTm 53 (by decide +kernel) rfl, ini_Q, LTm 1113 rfl rfl, ⟨by decide, by decide, by decide +kernel⟩⟩
set_option maxRecDepth 20000 in
theorem mQ_isToldWay : MkV Q_isToldWay 2 := ⟨LTm 1116 (by decide +kernel) rfl, LTm 54 (by decide +kernel) rfl, ini_Q, LTm 1117 rfl rfl, ⟨by decide, by decide, by decide +kernel⟩⟩
set_option maxRecDepth 20000 in
theorem mQ_kinds : MkV Q_kinds 2 := ⟨LTm 1119 (by decide +kernel) rfl, LTm 1120 (by decide +kernel) rfl, ini_Q, LTm 1121 rfl rfl, ⟨by decide, by decide, by decide +kernel⟩⟩
set_option maxRecDepth 20000 in
theorem mQ_nights : MkV Q_nights 1 := ⟨LTm 1123 (by decide +kernel) rfl, LTm 1124 (by decide +kernel) rfl, ini_Q, LTm 1125 rfl rfl, ⟨by decide, by decide, by decide +kernel⟩⟩
set_option maxRecDepth 20000 in
theorem mQ_drawn : MkV Q_drawn 0 := ⟨LTm 1128 (by decide +kernel) rfl, LTm 55 (by decide +kernel) rfl, ini_Q, LTm 1129 rfl rfl, ⟨by decide, by decide, by decide +kernel⟩⟩
set_option maxRecDepth 20000 in
theorem mQ_odds : MkV Q_odds 3 := ⟨LTm 1132 (by decide +kernel) rfl, LTm 1133 (by decide +kernel) rfl, ini_Q, LTm 1134 rfl rfl, ⟨by decide, by decide, by decide +kernel⟩⟩
set_option maxRecDepth 20000 in
theorem mQ_seed : MkV Q_seed 1 := ⟨LTm 1136 (by decide +kernel) rfl, LTm 1137 (by decide +kernel) rfl, ini_Q, LTm 1138 rfl rfl, ⟨by decide, by decide, by decide +kernel⟩⟩
set_option maxRecDepth 20000 in
theorem mQ_feed : MkV Q_feed 2 := ⟨LTm 1140 (by decide +kernel) rfl, LTm 1141 (by decide +kernel) rfl, ini_Q, LTm 1142 rfl rfl, ⟨by decide, by decide, by decide +kernel⟩⟩
set_option maxRecDepth 20000 in
theorem mQ_wipe : MkV Q_wipe 0 := ⟨LTm 1144 (by decide +kernel) rfl, LTm 1145 (by decide +kernel) rfl, ini_Q, LTm 1146 rfl rfl, ⟨by decide, by decide, by decide +kernel⟩⟩
set_option maxRecDepth 20000 in
theorem mQ_text : MkV Q_text 0 := ⟨LTm 1148 (by decide +kernel) rfl, LTm 1149 (by decide +kernel) rfl, ini_Q, LTm 1150 rfl rfl, ⟨by decide, by decide, by decide +kernel⟩⟩
set_option maxRecDepth 20000 in
theorem mQ_token : MkV Q_token 0 := ⟨LTm 1153 (by decide +kernel) rfl, LTm 56 (by decide +kernel) rfl, ini_Q, LTm 1154 rfl rfl, ⟨by decide, by decide, by decide +kernel⟩⟩
set_option maxRecDepth 20000 in
theorem mQ_byteAt : MkV Q_byteAt 1 := ⟨LTm 1157 (by decide +kernel) rfl, LTm 57 (by decide +kernel) rfl, ini_Q, LTm 1158 rfl rfl, ⟨by decide, by decide, by decide +kernel⟩⟩
set_option maxRecDepth 20000 in
theorem mQ_readItem : MkV Q_readItem 0 := ⟨LTm 1161 (by decide +kernel) rfl, LTm 58 (by decide +kernel) rfl, ini_Q, LTm 1162 rfl rfl, ⟨by decide, by decide, by decide +kernel⟩⟩
set_option maxRecDepth 20000 in
theorem mQ_isWord : MkV Q_isWord 1 := ⟨LTm 1165 (by decide +kernel) rfl, LTm 59 (by decide +kernel) rfl, ini_Q, LTm 1166 rfl rfl, ⟨by decide, by decide, by decide +kernel⟩⟩
set_option maxRecDepth 20000 in
theorem mQ_readSheep : MkV Q_readSheep 1 := ⟨LTm 1171 (by decide +kernel) rfl, LTm 60 (by decide +kernel) rfl, ini_Q, LTm 1172 rfl rfl, ⟨by decide, by decide, by decide +kernel⟩⟩
set_option maxRecDepth 20000 in
theorem mQ_must : MkV Q_must 1 := ⟨LTm 1175 (by decide +kernel) rfl, LTm 61 (by decide +kernel) rfl, ini_Q, LTm 1176 rfl rfl, ⟨by decide, by decide, by decide +kernel⟩⟩
set_option maxRecDepth 20000 in
theorem mQ_mayTell : MkV Q_mayTell 3 := ⟨LTm 1180 (by decide +kernel) rfl, LTm 62 (by decide +kernel) rfl, ini_Q, LTm 1181 rfl rfl, ⟨by decide, by decide, by decide +kernel⟩⟩
set_option maxRecDepth 20000 in
theorem mQ_takesWord : MkV Q_takesWord 1 := ⟨LTm 1184 (by decide +kernel) rfl, LTm 63 (by decide +kernel) rfl, ini_Q, LTm 1185 rfl rfl, ⟨by decide, by decide, by decide +kernel⟩⟩
set_option maxRecDepth 20000 in
theorem mQ_number : MkV Q_number 2 := ⟨LTm 1188 (by decide +kernel) rfl, LTm 64 (by decide +kernel) rfl, ini_Q, LTm 1189 rfl rfl, ⟨by decide, by decide, by decide +kernel⟩⟩
set_option maxRecDepth 20000 in
theorem mQ_addItem : MkV Q_addItem 4 := ⟨LTm 1194 (by decide +kernel) rfl, LTm 65 (by decide +kernel) rfl, ini_Q, LTm 1195 rfl rfl, ⟨by decide, by decide, by decide +kernel⟩⟩
set_option maxRecDepth 20000 in
theorem mQ_isToldSo : MkV Q_isToldSo 1 := ⟨LTm 1202 (by decide +kernel) rfl, LTm 66 (by decide +kernel) rfl, ini_Q, LTm 1203 rfl rfl, ⟨by decide, by decide, by decide +kernel⟩⟩
set_option maxRecDepth 20000 in
theorem mQ_hold : MkV Q_hold 2 := ⟨LTm 1205 (by decide +kernel) rfl, LTm 1206 (by decide +kernel) rfl, ini_Q, LTm 1207 rfl rfl, ⟨by decide, by decide, by decide +kernel⟩⟩
set_option maxRecDepth 20000 in
theorem mQ_isSpot : MkS Q_isSpot 1 := ⟨LTm 1209 (by decide +kernel) rfl, ini_Q, LTm 1210 rfl rfl, ⟨by decide, by decide, by decide +kernel⟩⟩
set_option maxRecDepth 20000 in
theorem mQ_as : MkV Q_as 2 := ⟨LTm 1212 (by decide +kernel) rfl, LTm 1213 (by decide +kernel) rfl, ini_Q, LTm 1214 rfl rfl, ⟨by decide, by decide, by decide +kernel⟩⟩
set_option maxRecDepth 20000 in
theorem mQ_isUnder : MkS Q_isUnder 2 := ⟨LTm 1216 (by decide +kernel) rfl, ini_Q, LTm 1217 rfl rfl, ⟨by decide, by decide, by decide +kernel⟩⟩
set_option maxRecDepth 20000 in
theorem mQ_above : MkS Q_above 1 := ⟨LTm 1219 (by decide +kernel) rfl, ini_Q, LTm 1220 rfl rfl, ⟨by decide, by decide, by decide +kernel⟩⟩
set_option maxRecDepth 20000 in
theorem mQ_sheet : MkV Q_sheet 3 := ⟨LTm 1223 (by decide +kernel) rfl, LTm 1224 (by decide +kernel) rfl, ini_Q, LTm 1225 rfl rfl, ⟨by decide, by decide, by decide +kernel⟩⟩
set_option maxRecDepth 20000 in
theorem mQ_write : MkV Q_write 3 := ⟨LTm 1228 (by decide +kernel) rfl, LTm 1229 (by decide +kernel) rfl, ini_Q, LTm 1230 rfl rfl, ⟨by decide, by decide, by decide +kernel⟩⟩
set_option maxRecDepth 20000 in
theorem mQ_cutTo : MkS Q_cutTo 2 := ⟨LTm 1232 (by decide +kernel) rfl, ini_Q, LTm 1233 rfl rfl, ⟨by decide, by decide, by decide +kernel⟩⟩
set_option maxRecDepth 20000 in
theorem mQ_copy : MkV Q_copy 5 := ⟨LTm 1235 (by decide +kernel) rfl, LTm 1236 (by decide +kernel) rfl, ini_Q, LTm 1237 rfl rfl, ⟨by decide, by decide, by decide +kernel⟩⟩
set_option maxRecDepth 20000 in
theorem mQ_load : MkV Q_load 1 := ⟨LTm 1239 (by decide +kernel) rfl, LTm 1240 (by decide +kernel) rfl, ini_Q, LTm 1241 rfl rfl, ⟨by decide, by decide, by decide +kernel⟩⟩
set_option maxRecDepth 20000 in
theorem mQ_judge : MkV Q_judge 1 := ⟨LTm 1243 (by decide +kernel) rfl, LTm 1244 (by decide +kernel) rfl, ini_Q, LTm 1245 rfl rfl, ⟨by decide, by decide, by decide +kernel⟩⟩
set_option maxRecDepth 20000 in
theorem mQ_image : MkV Q_image 0 := ⟨LTm 1247 (by decide +kernel) rfl, LTm 1248 (by decide +kernel) rfl, ini_Q, LTm 1249 rfl rfl, ⟨by decide, by decide, by decide +kernel⟩⟩
set_option maxRecDepth 20000 in
theorem mQ_undo : MkV Q_undo 0 := ⟨LTm 1251 (by decide +kernel) rfl, LTm 1252 (by decide +kernel) rfl, ini_Q, LTm 1253 rfl rfl, ⟨by decide, by decide, by decide +kernel⟩⟩
set_option maxRecDepth 20000 in
theorem mQ_tear : MkV Q_tear 0 := ⟨LTm 1255 (by decide +kernel) rfl, LTm 1256 (by decide +kernel) rfl, ini_Q, LTm 1257 rfl rfl, ⟨by decide, by decide, by decide +kernel⟩⟩
set_option maxRecDepth 20000 in
theorem mQ_count : MkV Q_count 1 := ⟨LTm 1259 (by decide +kernel) rfl, LTm 1260 (by decide +kernel) rfl, ini_Q, LTm 1261 rfl rfl, ⟨by decide, by decide, by decide +kernel⟩⟩
set_option maxRecDepth 20000 in
theorem mQ_status : MkV Q_status 1 := ⟨LTm 1263 (by decide +kernel) rfl, LTm 1264 (by decide +kernel) rfl, ini_Q, LTm 1265 rfl rfl, ⟨by decide, by decide, by decide +kernel⟩⟩
theorem lS_57 : Cond.methodLink "StraySheep" 57 S_canBeSet.1 ∈ LT := LTm 231 (by decide +kernel) rfl
theorem lS_89 : Cond.methodLink "StraySheep" 89 S_isCell.1 ∈ LT := LTm 234 (by decide +kernel) rfl
theorem lS_81 : Cond.methodLink "StraySheep" 81 S_isWithin.1 ∈ LT := LTm 237 (by decide +kernel) rfl
theorem lS_61 : Cond.methodLink "StraySheep" 61 S_finding.1 ∈ LT := LTm 240 (by decide +kernel) rfl
theorem lS_65 : Cond.methodLink "StraySheep" 65 H_feature.1 ∈ LT := LTm 245 (by decide +kernel) rfl
theorem lS_71 : Cond.methodLink "StraySheep" 71 H_moveKeeper.1 ∈ LT := LTm 249 (by decide +kernel) rfl
theorem lH_59 : Cond.methodLink "StraySheep$Hill" 59 H_has.1 ∈ LT := LTm 253 (by decide +kernel) rfl
theorem lS_85 : Cond.methodLink "StraySheep" 85 S_isKind.1 ∈ LT := LTm 265 (by decide +kernel) rfl
theorem lS_92 : Cond.methodLink "StraySheep" 92 H_isFull.1 ∈ LT := LTm 268 (by decide +kernel) rfl
theorem lS_96 : Cond.methodLink "StraySheep" 96 H_add.1 ∈ LT := LTm 272 (by decide +kernel) rfl
theorem lH_55 : Cond.methodLink "StraySheep$Hill" 55 H_isFull.1 ∈ LT := LTm 276 (by decide +kernel) rfl
theorem lS_100 : Cond.methodLink "StraySheep" 100 H_has.1 ∈ LT := LTm 281 (by decide +kernel) rfl
theorem lS_103 : Cond.methodLink "StraySheep" 103 H_trait.1 ∈ LT := LTm 282 (by decide +kernel) rfl
theorem lH_63 : Cond.methodLink "StraySheep$Hill" 63 H_far.1 ∈ LT := LTm 286 (by decide +kernel) rfl
theorem lH_79 : Cond.methodLinkNest "StraySheep$Hill" 79 S_distance.1 "StraySheep" ∈ NW := List.mem_filter.mpr ⟨List.mem_of_getElem? (i := 290) (by decide +kernel), rfl⟩
theorem lH_67 : Cond.methodLink "StraySheep$Hill" 67 H_strays.1 ∈ LT := LTm 293 (by decide +kernel) rfl
theorem lH_86 : Cond.methodLink "StraySheep$Hill" 86 H_straysAsRam.1 ∈ LT := LTm 297 (by decide +kernel) rfl
theorem lH_95 : Cond.methodLink "StraySheep$Hill" 95 H_straysAsSheep.1 ∈ LT := LTm 301 (by decide +kernel) rfl
theorem lH_89 : Cond.methodLink "StraySheep$Hill" 89 H_straysAsEwe.1 ∈ LT := LTm 305 (by decide +kernel) rfl
theorem lH_92 : Cond.methodLink "StraySheep$Hill" 92 H_hasCompany.1 ∈ LT := LTm 309 (by decide +kernel) rfl
theorem lH_83 : Cond.methodLink "StraySheep$Hill" 83 H_sheepAt.1 ∈ LT := LTm 313 (by decide +kernel) rfl
theorem lH_70 : Cond.methodLinkNest "StraySheep$Hill" 70 S_fearsOf.1 "StraySheep" ∈ NW := List.mem_filter.mpr ⟨List.mem_of_getElem? (i := 317) (by decide +kernel), rfl⟩
theorem lH_73 : Cond.methodLinkNest "StraySheep$Hill" 73 S_calmsOf.1 "StraySheep" ∈ NW := List.mem_filter.mpr ⟨List.mem_of_getElem? (i := 320) (by decide +kernel), rfl⟩
theorem lH_76 : Cond.methodLinkNest "StraySheep$Hill" 76 S_lightOf.1 "StraySheep" ∈ NW := List.mem_filter.mpr ⟨List.mem_of_getElem? (i := 323) (by decide +kernel), rfl⟩
theorem lS_106 : Cond.methodLink "StraySheep" 106 S_canBeChanged.1 ∈ LT := LTm 330 (by decide +kernel) rfl
theorem lS_127 : Cond.methodLink "StraySheep" 127 H_sheepAt.1 ∈ LT := LTm 341 (by decide +kernel) rfl
theorem lS_134 : Cond.methodLink "StraySheep" 134 H_passHours.1 ∈ LT := LTm 347 (by decide +kernel) rfl
theorem lH_99 : Cond.methodLink "StraySheep$Hill" 99 H_passHour.1 ∈ LT := LTm 351 (by decide +kernel) rfl
theorem lH_103 : Cond.methodLink "StraySheep$Hill" 103 H_strayAll.1 ∈ LT := LTm 355 (by decide +kernel) rfl
theorem lH_121 : Cond.methodLink "StraySheep$Hill" 121 H_strayedFrom.1 ∈ LT := LTm 359 (by decide +kernel) rfl
theorem lH_124 : Cond.methodLinkNest "StraySheep$Hill" 124 S_towards.1 "StraySheep" ∈ NW := List.mem_filter.mpr ⟨List.mem_of_getElem? (i := 363) (by decide +kernel), rfl⟩
theorem lS_257 : Cond.methodLink "StraySheep" 257 JM_min.1 ∈ LT := LTm 366 (by decide +kernel) rfl
theorem lS_262 : Cond.methodLink "StraySheep" 262 JM_max.1 ∈ LT := LTm 369 (by decide +kernel) rfl
theorem lH_116 : Cond.methodLink "StraySheep$Hill" 116 JM_min.1 ∈ LT := LTm 372 (by decide +kernel) rfl
theorem lH_128 : Cond.methodLink "StraySheep$Hill" 128 JM_max.1 ∈ LT := LTm 373 (by decide +kernel) rfl
theorem lH_106 : Cond.methodLink "StraySheep$Hill" 106 H_prowl.1 ∈ LT := LTm 374 (by decide +kernel) rfl
theorem lH_131 : Cond.methodLink "StraySheep$Hill" 131 H_nearestToWolf.1 ∈ LT := LTm 378 (by decide +kernel) rfl
theorem lH_134 : Cond.methodLink "StraySheep$Hill" 134 H_frighten.1 ∈ LT := LTm 382 (by decide +kernel) rfl
theorem lH_109 : Cond.methodLink "StraySheep$Hill" 109 H_tend.1 ∈ LT := LTm 386 (by decide +kernel) rfl
theorem lH_137 : Cond.methodLink "StraySheep$Hill" 137 H_carryHome.1 ∈ LT := LTm 390 (by decide +kernel) rfl
theorem lH_143 : Cond.methodLink "StraySheep$Hill" 143 H_moveKeeper.1 ∈ LT := LTm 394 (by decide +kernel) rfl
theorem lH_140 : Cond.methodLink "StraySheep$Hill" 140 H_seek.1 ∈ LT := LTm 395 (by decide +kernel) rfl
theorem lH_146 : Cond.methodLink "StraySheep$Hill" 146 H_sought.1 ∈ LT := LTm 399 (by decide +kernel) rfl
theorem lH_112 : Cond.methodLink "StraySheep$Hill" 112 H_settle.1 ∈ LT := LTm 403 (by decide +kernel) rfl
theorem lS_137 : Cond.methodLink "StraySheep" 137 H_total.1 ∈ LT := LTm 408 (by decide +kernel) rfl
theorem lS_141 : Cond.methodLink "StraySheep" 141 H_farSheep.1 ∈ LT := LTm 416 (by decide +kernel) rfl
theorem lS_145 : Cond.methodLink "StraySheep" 145 H_sought.1 ∈ LT := LTm 420 (by decide +kernel) rfl
theorem lS_148 : Cond.methodLink "StraySheep" 148 H_mostAfraid.1 ∈ LT := LTm 421 (by decide +kernel) rfl
theorem lS_151 : Cond.methodLink "StraySheep" 151 H_become.1 ∈ LT := LTm 429 (by decide +kernel) rfl
theorem lH_49 : Cond.methodLink "StraySheep$Hill" 49 arraycopyName ∈ LT := LTm 433 (by decide +kernel) rfl
theorem lS_155 : Cond.methodLink "StraySheep" 155 S_firstHourOfAtLeast.1 ∈ LT := LTm 444 (by decide +kernel) rfl
theorem lS_159 : Cond.methodLink "StraySheep" 159 H_allAtFold.1 ∈ LT := LTm 452 (by decide +kernel) rfl
theorem lS_168 : Cond.methodLink "StraySheep" 168 JI_bitCount.1 ∈ LT := LTm 481 (by decide +kernel) rfl
theorem lS_171 : Cond.methodLink "StraySheep" 171 S_keepsNear.1 ∈ LT := LTm 487 (by decide +kernel) rfl
theorem lS_244 : Cond.methodLink "StraySheep" 244 H_passHour.1 ∈ LT := LTm 491 (by decide +kernel) rfl
theorem lS_174 : Cond.methodLink "StraySheep" 174 S_isSheet.1 ∈ LT := LTm 496 (by decide +kernel) rfl
theorem lS_177 : Cond.methodLink "StraySheep" 177 E_isMissing.1 ∈ LT := LTm 499 (by decide +kernel) rfl
theorem lS_180 : Cond.methodLink "StraySheep" 180 S_keeperGoesAsTold.1 ∈ LT := LTm 503 (by decide +kernel) rfl
theorem lS_250 : Cond.methodLink "StraySheep" 250 E_allows.1 ∈ LT := LTm 507 (by decide +kernel) rfl
theorem lS_184 : Cond.methodLink "StraySheep" 184 S_sheepGoesAsTold.1 ∈ LT := LTm 515 (by decide +kernel) rfl
theorem lS_188 : Cond.methodLink "StraySheep" 188 S_draw.1 ∈ LT := LTm 523 (by decide +kernel) rfl
theorem lS_191 : Cond.methodLink "StraySheep" 191 H_cellsOutOfReachOf.1 ∈ LT := LTm 532 (by decide +kernel) rfl
theorem lS_194 : Cond.methodLink "StraySheep" 194 S_power.1 ∈ LT := LTm 536 (by decide +kernel) rfl
theorem lS_198 : Cond.methodLink "StraySheep" 198 T_hasRoomFor.1 ∈ LT := LTm 547 (by decide +kernel) rfl
theorem lS_201 : Cond.methodLink "StraySheep" 201 T_append.1 ∈ LT := LTm 551 (by decide +kernel) rfl
theorem lT_28 : Cond.methodLink "StraySheep$Tape" 28 T_hasRoomFor.1 ∈ LT := LTm 555 (by decide +kernel) rfl
theorem lS_207 : Cond.methodLink "StraySheep" 207 T_readOnto.1 ∈ LT := LTm 564 (by decide +kernel) rfl
theorem lT_32 : Cond.methodLink "StraySheep$Tape" 32 T_nextToken.1 ∈ LT := LTm 568 (by decide +kernel) rfl
theorem lT_135 : Cond.methodLink "StraySheep$Tape" 135 T_tokenAt.1 ∈ LT := LTm 572 (by decide +kernel) rfl
theorem lT_138 : Cond.methodLink "StraySheep$Tape" 138 T_isLong.1 ∈ LT := LTm 576 (by decide +kernel) rfl
theorem lT_35 : Cond.methodLink "StraySheep$Tape" 35 T_readItem.1 ∈ LT := LTm 579 (by decide +kernel) rfl
theorem lT_39 : Cond.methodLink "StraySheep$Tape" 39 T_kindOfWord.1 ∈ LT := LTm 583 (by decide +kernel) rfl
theorem lT_101 : Cond.methodLink "StraySheep$Tape" 101 T_nameOf.1 ∈ LT := LTm 587 (by decide +kernel) rfl
theorem lT_105 : Cond.methodLink "StraySheep$Tape" 105 T_isWord.1 ∈ LT := LTm 597 (by decide +kernel) rfl
theorem lT_122 : Cond.methodLink "StraySheep$Tape" 122 JS_length.1 ∈ LT := LTm 601 (by decide +kernel) rfl
theorem lJS_335 : Cond.methodLink "java/lang/String" 335 JS_coder.1 ∈ LT := LTm 605 (by decide +kernel) rfl
theorem lT_126 : Cond.methodLink "StraySheep$Tape" 126 JS_charAt.1 ∈ LT := LTm 611 (by decide +kernel) rfl
theorem lJS_492 : Cond.methodLink "java/lang/String" 492 JS_isLatin1.1 ∈ LT := LTm 615 (by decide +kernel) rfl
theorem lJS_495 : Cond.methodLink "java/lang/String" 495 JL_charAt.1 ∈ LT := LTm 619 (by decide +kernel) rfl
theorem lJL_9 : Cond.methodLink "java/lang/StringLatin1" 9 JS_checkIndex.1 ∈ LT := LTm 622 (by decide +kernel) rfl
theorem lJS_1059 : Cond.methodLink "java/lang/String" 1059 JP_checkIndex.1 ∈ LT := LTm 627 (by decide +kernel) rfl
theorem lT_43 : Cond.methodLink "StraySheep$Tape" 43 T_readSheep.1 ∈ LT := LTm 649 (by decide +kernel) rfl
theorem lT_66 : Cond.methodLink "StraySheep$Tape" 66 H_add.1 ∈ LT := LTm 653 (by decide +kernel) rfl
theorem lT_49 : Cond.methodLink "StraySheep$Tape" 49 T_skipWord.1 ∈ LT := LTm 655 (by decide +kernel) rfl
theorem lT_74 : Cond.methodLink "StraySheep$Tape" 74 T_takeNumber.1 ∈ LT := LTm 659 (by decide +kernel) rfl
theorem lT_130 : Cond.methodLink "StraySheep$Tape" 130 JM_min.1 ∈ LT := LTm 663 (by decide +kernel) rfl
theorem lT_53 : Cond.methodLink "StraySheep$Tape" 53 T_readFold.1 ∈ LT := LTm 667 (by decide +kernel) rfl
theorem lT_58 : Cond.methodLink "StraySheep$Tape" 58 T_readKeeper.1 ∈ LT := LTm 672 (by decide +kernel) rfl
theorem lT_91 : Cond.methodLink "StraySheep$Tape" 91 H_moveKeeper.1 ∈ LT := LTm 676 (by decide +kernel) rfl
theorem lT_63 : Cond.methodLink "StraySheep$Tape" 63 T_readWolf.1 ∈ LT := LTm 678 (by decide +kernel) rfl
theorem lS_211 : Cond.methodLink "StraySheep" 211 S_isSpot.1 ∈ LT := LTm 688 (by decide +kernel) rfl
theorem lS_214 : Cond.methodLink "StraySheep" 214 S_isUnder.1 ∈ LT := LTm 695 (by decide +kernel) rfl
theorem lS_254 : Cond.methodLink "StraySheep" 254 S_kindAbove.1 ∈ LT := LTm 698 (by decide +kernel) rfl
theorem lS_217 : Cond.methodLink "StraySheep" 217 E_begin.1 ∈ LT := LTm 705 (by decide +kernel) rfl
theorem lS_222 : Cond.methodLink "StraySheep" 222 E_put.1 ∈ LT := LTm 713 (by decide +kernel) rfl
theorem lS_228 : Cond.methodLink "StraySheep" 228 E_hasRun.1 ∈ LT := LTm 721 (by decide +kernel) rfl
theorem lS_234 : Cond.methodLink "StraySheep" 234 arraycopyName ∈ LT := LTm 725 (by decide +kernel) rfl
theorem lS_240 : Cond.methodLink "StraySheep" 240 S_spotsInUse.1 ∈ LT := LTm 750 (by decide +kernel) rfl
theorem lQ_79 : Cond.methodLink "StraySheepModel" 79 Q_within.1 ∈ LT := LTm 850 (by decide +kernel) rfl
theorem lQ_91 : Cond.methodLink "StraySheepModel" 91 Q_isCell.1 ∈ LT := LTm 853 (by decide +kernel) rfl
theorem lQ_75 : Cond.methodLink "StraySheepModel" 75 Q_finding.1 ∈ LT := LTm 857 (by decide +kernel) rfl
theorem lQ_95 : Cond.methodLink "StraySheepModel" 95 Q_keeperTo.1 ∈ LT := LTm 861 (by decide +kernel) rfl
theorem lQ_87 : Cond.methodLink "StraySheepModel" 87 Q_keeperAt.1 ∈ LT := LTm 865 (by decide +kernel) rfl
theorem lQ_83 : Cond.methodLink "StraySheepModel" 83 Q_sheepAt.1 ∈ LT := LTm 869 (by decide +kernel) rfl
theorem lQ_98 : Cond.methodLink "StraySheepModel" 98 Q_become.1 ∈ LT := LTm 872 (by decide +kernel) rfl
theorem lQ_101 : Cond.methodLink "StraySheepModel" 101 Q_isKind.1 ∈ LT := LTm 884 (by decide +kernel) rfl
theorem lQ_105 : Cond.methodLink "StraySheepModel" 105 Q_comes.1 ∈ LT := LTm 888 (by decide +kernel) rfl
theorem lQ_119 : Cond.methodLink "StraySheepModel" 119 Q_isSheep.1 ∈ LT := LTm 896 (by decide +kernel) rfl
theorem lQ_122 : Cond.methodLink "StraySheepModel" 122 Q_far.1 ∈ LT := LTm 900 (by decide +kernel) rfl
theorem lQ_108 : Cond.methodLink "StraySheepModel" 108 Q_sheepIs.1 ∈ LT := LTm 904 (by decide +kernel) rfl
theorem lQ_111 : Cond.methodLink "StraySheepModel" 111 JM_abs.1 ∈ LT := LTm 908 (by decide +kernel) rfl
theorem lQ_125 : Cond.methodLink "StraySheepModel" 125 Q_strays.1 ∈ LT := LTm 911 (by decide +kernel) rfl
theorem lQ_116 : Cond.methodLink "StraySheepModel" 116 Q_isAlone.1 ∈ LT := LTm 915 (by decide +kernel) rfl
theorem lQ_128 : Cond.methodLink "StraySheepModel" 128 Q_fears.1 ∈ LT := LTm 919 (by decide +kernel) rfl
theorem lQ_131 : Cond.methodLink "StraySheepModel" 131 Q_calms.1 ∈ LT := LTm 923 (by decide +kernel) rfl
theorem lQ_134 : Cond.methodLink "StraySheepModel" 134 Q_light.1 ∈ LT := LTm 927 (by decide +kernel) rfl
theorem lQ_137 : Cond.methodLink "StraySheepModel" 137 Q_isField.1 ∈ LT := LTm 935 (by decide +kernel) rfl
theorem lQ_142 : Cond.methodLink "StraySheepModel" 142 Q_orNone.1 ∈ LT := LTm 943 (by decide +kernel) rfl
theorem lQ_145 : Cond.methodLink "StraySheepModel" 145 Q_setAt.1 ∈ LT := LTm 952 (by decide +kernel) rfl
theorem lQ_191 : Cond.methodLink "StraySheepModel" 191 Q_hoursGo.1 ∈ LT := LTm 961 (by decide +kernel) rfl
theorem lQ_187 : Cond.methodLink "StraySheepModel" 187 Q_hour.1 ∈ LT := LTm 965 (by decide +kernel) rfl
theorem lQ_175 : Cond.methodLink "StraySheepModel" 175 Q_sheepGo.1 ∈ LT := LTm 969 (by decide +kernel) rfl
theorem lQ_158 : Cond.methodLink "StraySheepModel" 158 Q_hasBit.1 ∈ LT := LTm 973 (by decide +kernel) rfl
theorem lQ_161 : Cond.methodLink "StraySheepModel" 161 Q_towards.1 ∈ LT := LTm 976 (by decide +kernel) rfl
theorem lQ_148 : Cond.methodLink "StraySheepModel" 148 JM_min.1 ∈ LT := LTm 979 (by decide +kernel) rfl
theorem lQ_151 : Cond.methodLink "StraySheepModel" 151 JM_max.1 ∈ LT := LTm 980 (by decide +kernel) rfl
theorem lQ_165 : Cond.methodLink "StraySheepModel" 165 Q_awayFrom.1 ∈ LT := LTm 981 (by decide +kernel) rfl
theorem lQ_178 : Cond.methodLink "StraySheepModel" 178 Q_wolfGoes.1 ∈ LT := LTm 985 (by decide +kernel) rfl
theorem lQ_168 : Cond.methodLink "StraySheepModel" 168 Q_nearest.1 ∈ LT := LTm 989 (by decide +kernel) rfl
theorem lQ_181 : Cond.methodLink "StraySheepModel" 181 Q_carries.1 ∈ LT := LTm 993 (by decide +kernel) rfl
theorem lQ_184 : Cond.methodLink "StraySheepModel" 184 Q_seeks.1 ∈ LT := LTm 997 (by decide +kernel) rfl
theorem lQ_172 : Cond.methodLink "StraySheepModel" 172 Q_sought.1 ∈ LT := LTm 1001 (by decide +kernel) rfl
theorem lQ_194 : Cond.methodLink "StraySheepModel" 194 Q_sumOf.1 ∈ LT := LTm 1005 (by decide +kernel) rfl
theorem lQ_197 : Cond.methodLink "StraySheepModel" 197 Q_lostSet.1 ∈ LT := LTm 1013 (by decide +kernel) rfl
theorem lQ_200 : Cond.methodLink "StraySheepModel" 200 Q_mostAfraid.1 ∈ LT := LTm 1017 (by decide +kernel) rfl
theorem lQ_206 : Cond.methodLink "StraySheepModel" 206 Q_behind.1 ∈ LT := LTm 1025 (by decide +kernel) rfl
theorem lQ_70 : Cond.methodLink "StraySheepModel" 70 Q_copyRow.1 ∈ LT := LTm 1029 (by decide +kernel) rfl
theorem lQ_203 : Cond.methodLink "StraySheepModel" 203 Q_putBack.1 ∈ LT := LTm 1032 (by decide +kernel) rfl
theorem lQ_209 : Cond.methodLink "StraySheepModel" 209 Q_whenIs.1 ∈ LT := LTm 1044 (by decide +kernel) rfl
theorem lQ_212 : Cond.methodLink "StraySheepModel" 212 Q_areHome.1 ∈ LT := LTm 1052 (by decide +kernel) rfl
theorem lQ_219 : Cond.methodLink "StraySheepModel" 219 Q_isThought.1 ∈ LT := LTm 1064 (by decide +kernel) rfl
theorem lQ_222 : Cond.methodLink "StraySheepModel" 222 Q_leastFor.1 ∈ LT := LTm 1067 (by decide +kernel) rfl
theorem lQ_216 : Cond.methodLink "StraySheepModel" 216 Q_sumBehind.1 ∈ LT := LTm 1071 (by decide +kernel) rfl
theorem lQ_225 : Cond.methodLink "StraySheepModel" 225 Q_areNear.1 ∈ LT := LTm 1091 (by decide +kernel) rfl
theorem lQ_228 : Cond.methodLink "StraySheepModel" 228 Q_bits.1 ∈ LT := LTm 1095 (by decide +kernel) rfl
theorem lQ_238 : Cond.methodLink "StraySheepModel" 238 Q_lacks.1 ∈ LT := LTm 1102 (by decide +kernel) rfl
theorem lQ_231 : Cond.methodLink "StraySheepModel" 231 Q_isSheet.1 ∈ LT := LTm 1106 (by decide +kernel) rfl
theorem lQ_242 : Cond.methodLink "StraySheepModel" 242 Q_valuesFor.1 ∈ LT := LTm 1110 (by decide +kernel) rfl
theorem lQ_235 : Cond.methodLink "StraySheepModel" 235 Q_isToldWay.1 ∈ LT := LTm 1114 (by decide +kernel) rfl
theorem lQ_247 : Cond.methodLink "StraySheepModel" 247 Q_drawn.1 ∈ LT := LTm 1126 (by decide +kernel) rfl
theorem lQ_279 : Cond.methodLink "StraySheepModel" 279 Q_token.1 ∈ LT := LTm 1151 (by decide +kernel) rfl
theorem lQ_259 : Cond.methodLink "StraySheepModel" 259 Q_byteAt.1 ∈ LT := LTm 1155 (by decide +kernel) rfl
theorem lQ_327 : Cond.methodLink "StraySheepModel" 327 Q_readItem.1 ∈ LT := LTm 1159 (by decide +kernel) rfl
theorem lQ_289 : Cond.methodLink "StraySheepModel" 289 Q_isWord.1 ∈ LT := LTm 1163 (by decide +kernel) rfl
theorem lQ_268 : Cond.methodLink "StraySheepModel" 268 JS_length.1 ∈ LT := LTm 1167 (by decide +kernel) rfl
theorem lQ_271 : Cond.methodLink "StraySheepModel" 271 JS_charAt.1 ∈ LT := LTm 1168 (by decide +kernel) rfl
theorem lQ_316 : Cond.methodLink "StraySheepModel" 316 Q_readSheep.1 ∈ LT := LTm 1169 (by decide +kernel) rfl
theorem lQ_282 : Cond.methodLink "StraySheepModel" 282 Q_must.1 ∈ LT := LTm 1173 (by decide +kernel) rfl
theorem lQ_304 : Cond.methodLink "StraySheepModel" 304 Q_mayTell.1 ∈ LT := LTm 1178 (by decide +kernel) rfl
theorem lQ_293 : Cond.methodLink "StraySheepModel" 293 Q_takesWord.1 ∈ LT := LTm 1182 (by decide +kernel) rfl
theorem lQ_296 : Cond.methodLink "StraySheepModel" 296 Q_number.1 ∈ LT := LTm 1186 (by decide +kernel) rfl
theorem lQ_312 : Cond.methodLink "StraySheepModel" 312 Q_addItem.1 ∈ LT := LTm 1192 (by decide +kernel) rfl
theorem lQ_330 : Cond.methodLink "StraySheepModel" 330 Q_isToldSo.1 ∈ LT := LTm 1200 (by decide +kernel) rfl
theorem lQ_333 : Cond.methodLink "StraySheepModel" 333 Q_isSpot.1 ∈ LT := LTm 1208 (by decide +kernel) rfl
theorem lQ_336 : Cond.methodLink "StraySheepModel" 336 Q_isUnder.1 ∈ LT := LTm 1215 (by decide +kernel) rfl
theorem lQ_344 : Cond.methodLink "StraySheepModel" 344 Q_above.1 ∈ LT := LTm 1218 (by decide +kernel) rfl
theorem lQ_341 : Cond.methodLink "StraySheepModel" 341 Q_cutTo.1 ∈ LT := LTm 1231 (by decide +kernel) rfl
theorem kS_set_57 : CkS S_set 57 S_canBeSet 2 := ⟨lS_57, mS_canBeSet.1, mS_canBeSet.2.1, mS_canBeSet.2.2.1, mS_canBeSet.2.2.2, ⟨by decide, by decide⟩⟩
theorem kS_set_61 : CkV S_set 61 S_finding 1 := ⟨lS_61, mS_finding.1, mS_finding.2.1, mS_finding.2.2.1, mS_finding.2.2.2.1, mS_finding.2.2.2.2, ⟨by decide, by decide⟩⟩
theorem kS_set_65 : CkV S_set 65 H_feature 1 := ⟨lS_65, mH_feature.1, mH_feature.2.1, mH_feature.2.2.1, mH_feature.2.2.2.1, mH_feature.2.2.2.2, ⟨by decide, by decide⟩⟩
theorem kS_set_71 : CkV S_set 71 H_moveKeeper 1 := ⟨lS_71, mH_moveKeeper.1, mH_moveKeeper.2.1, mH_moveKeeper.2.2.1, mH_moveKeeper.2.2.2.1, mH_moveKeeper.2.2.2.2, ⟨by decide, by decide⟩⟩
theorem kS_canBeSet_89 : CkS S_canBeSet 89 S_isCell 1 := ⟨lS_89, mS_isCell.1, mS_isCell.2.1, mS_isCell.2.2.1, mS_isCell.2.2.2, ⟨by decide, by decide⟩⟩
theorem kS_canBeSet_81 : CkS S_canBeSet 81 S_isWithin 3 := ⟨lS_81, mS_isWithin.1, mS_isWithin.2.1, mS_isWithin.2.2.1, mS_isWithin.2.2.2, ⟨by decide, by decide⟩⟩
theorem kS_isCell_81 : CkS S_isCell 81 S_isWithin 3 := ⟨lS_81, mS_isWithin.1, mS_isWithin.2.1, mS_isWithin.2.2.1, mS_isWithin.2.2.2, ⟨by decide, by decide⟩⟩
theorem kH_moveKeeper_59 : CkV H_moveKeeper 59 H_has 1 := ⟨lH_59, mH_has.1, mH_has.2.1, mH_has.2.2.1, mH_has.2.2.2.1, mH_has.2.2.2.2, ⟨by decide, by decide⟩⟩
theorem kS_hill_81 : CkS S_hill 81 S_isWithin 3 := ⟨lS_81, mS_isWithin.1, mS_isWithin.2.1, mS_isWithin.2.2.1, mS_isWithin.2.2.2, ⟨by decide, by decide⟩⟩
theorem kS_hill_61 : CkV S_hill 61 S_finding 1 := ⟨lS_61, mS_finding.1, mS_finding.2.1, mS_finding.2.2.1, mS_finding.2.2.2.1, mS_finding.2.2.2.2, ⟨by decide, by decide⟩⟩
theorem kS_hill_65 : CkV S_hill 65 H_feature 1 := ⟨lS_65, mH_feature.1, mH_feature.2.1, mH_feature.2.2.1, mH_feature.2.2.2.1, mH_feature.2.2.2.2, ⟨by decide, by decide⟩⟩
theorem kS_sheep_85 : CkS S_sheep 85 S_isKind 1 := ⟨lS_85, mS_isKind.1, mS_isKind.2.1, mS_isKind.2.2.1, mS_isKind.2.2.2, ⟨by decide, by decide⟩⟩
theorem kS_sheep_89 : CkS S_sheep 89 S_isCell 1 := ⟨lS_89, mS_isCell.1, mS_isCell.2.1, mS_isCell.2.2.1, mS_isCell.2.2.2, ⟨by decide, by decide⟩⟩
theorem kS_sheep_61 : CkV S_sheep 61 S_finding 1 := ⟨lS_61, mS_finding.1, mS_finding.2.1, mS_finding.2.2.1, mS_finding.2.2.2.1, mS_finding.2.2.2.2, ⟨by decide, by decide⟩⟩
theorem kS_sheep_92 : CkV S_sheep 92 H_isFull 0 := ⟨lS_92, mH_isFull.1, mH_isFull.2.1, mH_isFull.2.2.1, mH_isFull.2.2.2.1, mH_isFull.2.2.2.2, ⟨by decide, by decide⟩⟩
theorem kS_sheep_96 : CkV S_sheep 96 H_add 2 := ⟨lS_96, mH_add.1, mH_add.2.1, mH_add.2.2.1, mH_add.2.2.2.1, mH_add.2.2.2.2, ⟨by decide, by decide⟩⟩
theorem kS_isKind_81 : CkS S_isKind 81 S_isWithin 3 := ⟨lS_81, mS_isWithin.1, mS_isWithin.2.1, mS_isWithin.2.2.1, mS_isWithin.2.2.2, ⟨by decide, by decide⟩⟩
theorem kH_add_55 : CkV H_add 55 H_isFull 0 := ⟨lH_55, mH_isFull.1, mH_isFull.2.1, mH_isFull.2.2.1, mH_isFull.2.2.2.1, mH_isFull.2.2.2.2, ⟨by decide, by decide⟩⟩
theorem kS_of_100 : CkV S_of 100 H_has 1 := ⟨lS_100, mH_has.1, mH_has.2.1, mH_has.2.2.1, mH_has.2.2.2.1, mH_has.2.2.2.2, ⟨by decide, by decide⟩⟩
theorem kS_of_81 : CkS S_of 81 S_isWithin 3 := ⟨lS_81, mS_isWithin.1, mS_isWithin.2.1, mS_isWithin.2.2.1, mS_isWithin.2.2.2, ⟨by decide, by decide⟩⟩
theorem kS_of_61 : CkV S_of 61 S_finding 1 := ⟨lS_61, mS_finding.1, mS_finding.2.1, mS_finding.2.2.1, mS_finding.2.2.2.1, mS_finding.2.2.2.2, ⟨by decide, by decide⟩⟩
theorem kS_of_103 : CkV S_of 103 H_trait 2 := ⟨lS_103, mH_trait.1, mH_trait.2.1, mH_trait.2.2.1, mH_trait.2.2.2.1, mH_trait.2.2.2.2, ⟨by decide, by decide⟩⟩
theorem kH_trait_63 : CkV H_trait 63 H_far 1 := ⟨lH_63, mH_far.1, mH_far.2.1, mH_far.2.2.1, mH_far.2.2.2.1, mH_far.2.2.2.2, ⟨by decide, by decide⟩⟩
theorem kH_trait_67 : CkV H_trait 67 H_strays 1 := ⟨lH_67, mH_strays.1, mH_strays.2.1, mH_strays.2.2.1, mH_strays.2.2.2.1, mH_strays.2.2.2.2, ⟨by decide, by decide⟩⟩
theorem kH_trait_70 : CkN H_trait 70 S_fearsOf 1 := ⟨⟨_, lH_70⟩, mS_fearsOf.1, mS_fearsOf.2.1, mS_fearsOf.2.2.1, mS_fearsOf.2.2.2, ⟨by decide, by decide⟩⟩
theorem kH_trait_73 : CkN H_trait 73 S_calmsOf 1 := ⟨⟨_, lH_73⟩, mS_calmsOf.1, mS_calmsOf.2.1, mS_calmsOf.2.2.1, mS_calmsOf.2.2.2, ⟨by decide, by decide⟩⟩
theorem kH_trait_76 : CkN H_trait 76 S_lightOf 1 := ⟨⟨_, lH_76⟩, mS_lightOf.1, mS_lightOf.2.1, mS_lightOf.2.2.1, mS_lightOf.2.2.2, ⟨by decide, by decide⟩⟩
theorem kH_far_79 : CkN H_far 79 S_distance 2 := ⟨⟨_, lH_79⟩, mS_distance.1, mS_distance.2.1, mS_distance.2.2.1, mS_distance.2.2.2, ⟨by decide, by decide⟩⟩
theorem kH_strays_86 : CkV H_strays 86 H_straysAsRam 1 := ⟨lH_86, mH_straysAsRam.1, mH_straysAsRam.2.1, mH_straysAsRam.2.2.1, mH_straysAsRam.2.2.2.1, mH_straysAsRam.2.2.2.2, ⟨by decide, by decide⟩⟩
theorem kH_strays_89 : CkV H_strays 89 H_straysAsEwe 1 := ⟨lH_89, mH_straysAsEwe.1, mH_straysAsEwe.2.1, mH_straysAsEwe.2.2.1, mH_straysAsEwe.2.2.2.1, mH_straysAsEwe.2.2.2.2, ⟨by decide, by decide⟩⟩
theorem kH_strays_92 : CkV H_strays 92 H_hasCompany 1 := ⟨lH_92, mH_hasCompany.1, mH_hasCompany.2.1, mH_hasCompany.2.2.1, mH_hasCompany.2.2.2.1, mH_hasCompany.2.2.2.2, ⟨by decide, by decide⟩⟩
theorem kH_strays_95 : CkV H_strays 95 H_straysAsSheep 0 := ⟨lH_95, mH_straysAsSheep.1, mH_straysAsSheep.2.1, mH_straysAsSheep.2.2.1, mH_straysAsSheep.2.2.2.1, mH_straysAsSheep.2.2.2.2, ⟨by decide, by decide⟩⟩
theorem kH_straysAsRam_95 : CkV H_straysAsRam 95 H_straysAsSheep 0 := ⟨lH_95, mH_straysAsSheep.1, mH_straysAsSheep.2.1, mH_straysAsSheep.2.2.1, mH_straysAsSheep.2.2.2.1, mH_straysAsSheep.2.2.2.2, ⟨by decide, by decide⟩⟩
theorem kH_straysAsEwe_95 : CkV H_straysAsEwe 95 H_straysAsSheep 0 := ⟨lH_95, mH_straysAsSheep.1, mH_straysAsSheep.2.1, mH_straysAsSheep.2.2.1, mH_straysAsSheep.2.2.2.1, mH_straysAsSheep.2.2.2.2, ⟨by decide, by decide⟩⟩
theorem kH_hasCompany_83 : CkV H_hasCompany 83 H_sheepAt 1 := ⟨lH_83, mH_sheepAt.1, mH_sheepAt.2.1, mH_sheepAt.2.2.1, mH_sheepAt.2.2.2.1, mH_sheepAt.2.2.2.2, ⟨by decide, by decide⟩⟩
theorem kS_change_100 : CkV S_change 100 H_has 1 := ⟨lS_100, mH_has.1, mH_has.2.1, mH_has.2.2.1, mH_has.2.2.2.1, mH_has.2.2.2.2, ⟨by decide, by decide⟩⟩
theorem kS_change_106 : CkS S_change 106 S_canBeChanged 2 := ⟨lS_106, mS_canBeChanged.1, mS_canBeChanged.2.1, mS_canBeChanged.2.2.1, mS_canBeChanged.2.2.2, ⟨by decide, by decide⟩⟩
theorem kS_change_61 : CkV S_change 61 S_finding 1 := ⟨lS_61, mS_finding.1, mS_finding.2.1, mS_finding.2.2.1, mS_finding.2.2.2.1, mS_finding.2.2.2.2, ⟨by decide, by decide⟩⟩
theorem kS_change_103 : CkV S_change 103 H_trait 2 := ⟨lS_103, mH_trait.1, mH_trait.2.1, mH_trait.2.2.1, mH_trait.2.2.2.1, mH_trait.2.2.2.2, ⟨by decide, by decide⟩⟩
theorem kS_canBeChanged_85 : CkS S_canBeChanged 85 S_isKind 1 := ⟨lS_85, mS_isKind.1, mS_isKind.2.1, mS_isKind.2.2.1, mS_isKind.2.2.2, ⟨by decide, by decide⟩⟩
theorem kS_canBeChanged_89 : CkS S_canBeChanged 89 S_isCell 1 := ⟨lS_89, mS_isCell.1, mS_isCell.2.1, mS_isCell.2.2.1, mS_isCell.2.2.2, ⟨by decide, by decide⟩⟩
theorem kS_canBeChanged_81 : CkS S_canBeChanged 81 S_isWithin 3 := ⟨lS_81, mS_isWithin.1, mS_isWithin.2.1, mS_isWithin.2.2.1, mS_isWithin.2.2.2, ⟨by decide, by decide⟩⟩
theorem kS_drop_61 : CkV S_drop 61 S_finding 1 := ⟨lS_61, mS_finding.1, mS_finding.2.1, mS_finding.2.2.1, mS_finding.2.2.2.1, mS_finding.2.2.2.2, ⟨by decide, by decide⟩⟩
theorem kS_who_89 : CkS S_who 89 S_isCell 1 := ⟨lS_89, mS_isCell.1, mS_isCell.2.1, mS_isCell.2.2.1, mS_isCell.2.2.2, ⟨by decide, by decide⟩⟩
theorem kS_who_61 : CkV S_who 61 S_finding 1 := ⟨lS_61, mS_finding.1, mS_finding.2.1, mS_finding.2.2.1, mS_finding.2.2.2.1, mS_finding.2.2.2.2, ⟨by decide, by decide⟩⟩
theorem kS_who_127 : CkV S_who 127 H_sheepAt 1 := ⟨lS_127, mH_sheepAt.1, mH_sheepAt.2.1, mH_sheepAt.2.2.1, mH_sheepAt.2.2.2.1, mH_sheepAt.2.2.2.2, ⟨by decide, by decide⟩⟩
theorem kS_go_81 : CkS S_go 81 S_isWithin 3 := ⟨lS_81, mS_isWithin.1, mS_isWithin.2.1, mS_isWithin.2.2.1, mS_isWithin.2.2.2, ⟨by decide, by decide⟩⟩
theorem kS_go_61 : CkV S_go 61 S_finding 1 := ⟨lS_61, mS_finding.1, mS_finding.2.1, mS_finding.2.2.1, mS_finding.2.2.2.1, mS_finding.2.2.2.2, ⟨by decide, by decide⟩⟩
theorem kS_go_134 : CkV S_go 134 H_passHours 1 := ⟨lS_134, mH_passHours.1, mH_passHours.2.1, mH_passHours.2.2.1, mH_passHours.2.2.2.1, mH_passHours.2.2.2.2, ⟨by decide, by decide⟩⟩
theorem kS_go_137 : CkV S_go 137 H_total 1 := ⟨lS_137, mH_total.1, mH_total.2.1, mH_total.2.2.1, mH_total.2.2.2.1, mH_total.2.2.2.2, ⟨by decide, by decide⟩⟩
theorem kH_passHours_99 : CkV H_passHours 99 H_passHour 1 := ⟨lH_99, mH_passHour.1, mH_passHour.2.1, mH_passHour.2.2.1, mH_passHour.2.2.2.1, mH_passHour.2.2.2.2, ⟨by decide, by decide⟩⟩
theorem kH_passHour_103 : CkV H_passHour 103 H_strayAll 1 := ⟨lH_103, mH_strayAll.1, mH_strayAll.2.1, mH_strayAll.2.2.1, mH_strayAll.2.2.2.1, mH_strayAll.2.2.2.2, ⟨by decide, by decide⟩⟩
theorem kH_passHour_106 : CkV H_passHour 106 H_prowl 0 := ⟨lH_106, mH_prowl.1, mH_prowl.2.1, mH_prowl.2.2.1, mH_prowl.2.2.2.1, mH_prowl.2.2.2.2, ⟨by decide, by decide⟩⟩
theorem kH_passHour_109 : CkV H_passHour 109 H_tend 0 := ⟨lH_109, mH_tend.1, mH_tend.2.1, mH_tend.2.2.1, mH_tend.2.2.2.1, mH_tend.2.2.2.2, ⟨by decide, by decide⟩⟩
theorem kH_passHour_112 : CkV H_passHour 112 H_settle 0 := ⟨lH_112, mH_settle.1, mH_settle.2.1, mH_settle.2.2.1, mH_settle.2.2.2.1, mH_settle.2.2.2.2, ⟨by decide, by decide⟩⟩
theorem kH_passHour_116 : CkS H_passHour 116 JM_min 2 := ⟨lH_116, mJM_min.1, mJM_min.2.1, mJM_min.2.2.1, mJM_min.2.2.2, ⟨by decide, by decide⟩⟩
theorem kH_strayAll_67 : CkV H_strayAll 67 H_strays 1 := ⟨lH_67, mH_strays.1, mH_strays.2.1, mH_strays.2.2.1, mH_strays.2.2.2.1, mH_strays.2.2.2.2, ⟨by decide, by decide⟩⟩
theorem kH_strayAll_121 : CkV H_strayAll 121 H_strayedFrom 2 := ⟨lH_121, mH_strayedFrom.1, mH_strayedFrom.2.1, mH_strayedFrom.2.2.1, mH_strayedFrom.2.2.2.1, mH_strayedFrom.2.2.2.2, ⟨by decide, by decide⟩⟩
theorem kH_strayedFrom_124 : CkN H_strayedFrom 124 S_towards 3 := ⟨⟨_, lH_124⟩, mS_towards.1, mS_towards.2.1, mS_towards.2.2.1, mS_towards.2.2.2, ⟨by decide, by decide⟩⟩
theorem kH_strayedFrom_116 : CkS H_strayedFrom 116 JM_min 2 := ⟨lH_116, mJM_min.1, mJM_min.2.1, mJM_min.2.2.1, mJM_min.2.2.2, ⟨by decide, by decide⟩⟩
theorem kH_strayedFrom_128 : CkS H_strayedFrom 128 JM_max 2 := ⟨lH_128, mJM_max.1, mJM_max.2.1, mJM_max.2.2.1, mJM_max.2.2.2, ⟨by decide, by decide⟩⟩
theorem kS_towards_257 : CkS S_towards 257 JM_min 2 := ⟨lS_257, mJM_min.1, mJM_min.2.1, mJM_min.2.2.1, mJM_min.2.2.2, ⟨by decide, by decide⟩⟩
theorem kS_towards_262 : CkS S_towards 262 JM_max 2 := ⟨lS_262, mJM_max.1, mJM_max.2.1, mJM_max.2.2.1, mJM_max.2.2.2, ⟨by decide, by decide⟩⟩
theorem kH_prowl_79 : CkN H_prowl 79 S_distance 2 := ⟨⟨_, lH_79⟩, mS_distance.1, mS_distance.2.1, mS_distance.2.2.1, mS_distance.2.2.2, ⟨by decide, by decide⟩⟩
theorem kH_prowl_131 : CkV H_prowl 131 H_nearestToWolf 0 := ⟨lH_131, mH_nearestToWolf.1, mH_nearestToWolf.2.1, mH_nearestToWolf.2.2.1, mH_nearestToWolf.2.2.2.1, mH_nearestToWolf.2.2.2.2, ⟨by decide, by decide⟩⟩
theorem kH_prowl_124 : CkN H_prowl 124 S_towards 3 := ⟨⟨_, lH_124⟩, mS_towards.1, mS_towards.2.1, mS_towards.2.2.1, mS_towards.2.2.2, ⟨by decide, by decide⟩⟩
theorem kH_prowl_134 : CkV H_prowl 134 H_frighten 0 := ⟨lH_134, mH_frighten.1, mH_frighten.2.1, mH_frighten.2.2.1, mH_frighten.2.2.2.1, mH_frighten.2.2.2.2, ⟨by decide, by decide⟩⟩
theorem kH_nearestToWolf_79 : CkN H_nearestToWolf 79 S_distance 2 := ⟨⟨_, lH_79⟩, mS_distance.1, mS_distance.2.1, mS_distance.2.2.1, mS_distance.2.2.2, ⟨by decide, by decide⟩⟩
theorem kH_frighten_79 : CkN H_frighten 79 S_distance 2 := ⟨⟨_, lH_79⟩, mS_distance.1, mS_distance.2.1, mS_distance.2.2.1, mS_distance.2.2.2, ⟨by decide, by decide⟩⟩
theorem kH_frighten_70 : CkN H_frighten 70 S_fearsOf 1 := ⟨⟨_, lH_70⟩, mS_fearsOf.1, mS_fearsOf.2.1, mS_fearsOf.2.2.1, mS_fearsOf.2.2.2, ⟨by decide, by decide⟩⟩
theorem kH_frighten_116 : CkS H_frighten 116 JM_min 2 := ⟨lH_116, mJM_min.1, mJM_min.2.1, mJM_min.2.2.1, mJM_min.2.2.2, ⟨by decide, by decide⟩⟩
theorem kH_tend_59 : CkV H_tend 59 H_has 1 := ⟨lH_59, mH_has.1, mH_has.2.1, mH_has.2.2.1, mH_has.2.2.2.1, mH_has.2.2.2.2, ⟨by decide, by decide⟩⟩
theorem kH_tend_137 : CkV H_tend 137 H_carryHome 0 := ⟨lH_137, mH_carryHome.1, mH_carryHome.2.1, mH_carryHome.2.2.1, mH_carryHome.2.2.2.1, mH_carryHome.2.2.2.2, ⟨by decide, by decide⟩⟩
theorem kH_tend_140 : CkV H_tend 140 H_seek 0 := ⟨lH_140, mH_seek.1, mH_seek.2.1, mH_seek.2.2.1, mH_seek.2.2.2.1, mH_seek.2.2.2.2, ⟨by decide, by decide⟩⟩
theorem kH_carryHome_76 : CkN H_carryHome 76 S_lightOf 1 := ⟨⟨_, lH_76⟩, mS_lightOf.1, mS_lightOf.2.1, mS_lightOf.2.2.1, mS_lightOf.2.2.2, ⟨by decide, by decide⟩⟩
theorem kH_carryHome_124 : CkN H_carryHome 124 S_towards 3 := ⟨⟨_, lH_124⟩, mS_towards.1, mS_towards.2.1, mS_towards.2.2.1, mS_towards.2.2.2, ⟨by decide, by decide⟩⟩
theorem kH_carryHome_143 : CkV H_carryHome 143 H_moveKeeper 1 := ⟨lH_143, mH_moveKeeper.1, mH_moveKeeper.2.1, mH_moveKeeper.2.2.1, mH_moveKeeper.2.2.2.1, mH_moveKeeper.2.2.2.2, ⟨by decide, by decide⟩⟩
theorem kH_carryHome_116 : CkS H_carryHome 116 JM_min 2 := ⟨lH_116, mJM_min.1, mJM_min.2.1, mJM_min.2.2.1, mJM_min.2.2.2, ⟨by decide, by decide⟩⟩
theorem kH_seek_146 : CkV H_seek 146 H_sought 0 := ⟨lH_146, mH_sought.1, mH_sought.2.1, mH_sought.2.2.1, mH_sought.2.2.2.1, mH_sought.2.2.2.2, ⟨by decide, by decide⟩⟩
theorem kH_seek_124 : CkN H_seek 124 S_towards 3 := ⟨⟨_, lH_124⟩, mS_towards.1, mS_towards.2.1, mS_towards.2.2.1, mS_towards.2.2.2, ⟨by decide, by decide⟩⟩
theorem kH_sought_63 : CkV H_sought 63 H_far 1 := ⟨lH_63, mH_far.1, mH_far.2.1, mH_far.2.2.1, mH_far.2.2.2.1, mH_far.2.2.2.2, ⟨by decide, by decide⟩⟩
theorem kH_settle_116 : CkS H_settle 116 JM_min 2 := ⟨lH_116, mJM_min.1, mJM_min.2.1, mJM_min.2.2.1, mJM_min.2.2.2, ⟨by decide, by decide⟩⟩
theorem kH_settle_73 : CkN H_settle 73 S_calmsOf 1 := ⟨⟨_, lH_73⟩, mS_calmsOf.1, mS_calmsOf.2.1, mS_calmsOf.2.2.1, mS_calmsOf.2.2.2, ⟨by decide, by decide⟩⟩
theorem kH_settle_128 : CkS H_settle 128 JM_max 2 := ⟨lH_128, mJM_max.1, mJM_max.2.1, mJM_max.2.2.1, mJM_max.2.2.2, ⟨by decide, by decide⟩⟩
theorem kS_now_141 : CkV S_now 141 H_farSheep 0 := ⟨lS_141, mH_farSheep.1, mH_farSheep.2.1, mH_farSheep.2.2.1, mH_farSheep.2.2.2.1, mH_farSheep.2.2.2.2, ⟨by decide, by decide⟩⟩
theorem kS_now_137 : CkV S_now 137 H_total 1 := ⟨lS_137, mH_total.1, mH_total.2.1, mH_total.2.2.1, mH_total.2.2.2.1, mH_total.2.2.2.2, ⟨by decide, by decide⟩⟩
theorem kS_now_145 : CkV S_now 145 H_sought 0 := ⟨lS_145, mH_sought.1, mH_sought.2.1, mH_sought.2.2.1, mH_sought.2.2.2.1, mH_sought.2.2.2.2, ⟨by decide, by decide⟩⟩
theorem kS_now_127 : CkV S_now 127 H_sheepAt 1 := ⟨lS_127, mH_sheepAt.1, mH_sheepAt.2.1, mH_sheepAt.2.2.1, mH_sheepAt.2.2.2.1, mH_sheepAt.2.2.2.2, ⟨by decide, by decide⟩⟩
theorem kS_now_148 : CkV S_now 148 H_mostAfraid 0 := ⟨lS_148, mH_mostAfraid.1, mH_mostAfraid.2.1, mH_mostAfraid.2.2.1, mH_mostAfraid.2.2.2.1, mH_mostAfraid.2.2.2.2, ⟨by decide, by decide⟩⟩
theorem kS_now_61 : CkV S_now 61 S_finding 1 := ⟨lS_61, mS_finding.1, mS_finding.2.1, mS_finding.2.2.1, mS_finding.2.2.2.1, mS_finding.2.2.2.2, ⟨by decide, by decide⟩⟩
theorem kH_farSheep_63 : CkV H_farSheep 63 H_far 1 := ⟨lH_63, mH_far.1, mH_far.2.1, mH_far.2.2.1, mH_far.2.2.2.1, mH_far.2.2.2.2, ⟨by decide, by decide⟩⟩
theorem kS_ahead_100 : CkV S_ahead 100 H_has 1 := ⟨lS_100, mH_has.1, mH_has.2.1, mH_has.2.2.1, mH_has.2.2.2.1, mH_has.2.2.2.2, ⟨by decide, by decide⟩⟩
theorem kS_ahead_81 : CkS S_ahead 81 S_isWithin 3 := ⟨lS_81, mS_isWithin.1, mS_isWithin.2.1, mS_isWithin.2.2.1, mS_isWithin.2.2.2, ⟨by decide, by decide⟩⟩
theorem kS_ahead_61 : CkV S_ahead 61 S_finding 1 := ⟨lS_61, mS_finding.1, mS_finding.2.1, mS_finding.2.2.1, mS_finding.2.2.2.1, mS_finding.2.2.2.2, ⟨by decide, by decide⟩⟩
theorem kS_ahead_151 : CkV S_ahead 151 H_become 1 := ⟨lS_151, mH_become.1, mH_become.2.1, mH_become.2.2.1, mH_become.2.2.2.1, mH_become.2.2.2.2, ⟨by decide, by decide⟩⟩
theorem kS_ahead_134 : CkV S_ahead 134 H_passHours 1 := ⟨lS_134, mH_passHours.1, mH_passHours.2.1, mH_passHours.2.2.1, mH_passHours.2.2.2.1, mH_passHours.2.2.2.2, ⟨by decide, by decide⟩⟩
theorem kS_ahead_103 : CkV S_ahead 103 H_trait 2 := ⟨lS_103, mH_trait.1, mH_trait.2.1, mH_trait.2.2.1, mH_trait.2.2.2.1, mH_trait.2.2.2.2, ⟨by decide, by decide⟩⟩
theorem kS_later_81 : CkS S_later 81 S_isWithin 3 := ⟨lS_81, mS_isWithin.1, mS_isWithin.2.1, mS_isWithin.2.2.1, mS_isWithin.2.2.2, ⟨by decide, by decide⟩⟩
theorem kS_later_61 : CkV S_later 61 S_finding 1 := ⟨lS_61, mS_finding.1, mS_finding.2.1, mS_finding.2.2.1, mS_finding.2.2.2.1, mS_finding.2.2.2.2, ⟨by decide, by decide⟩⟩
theorem kS_later_151 : CkV S_later 151 H_become 1 := ⟨lS_151, mH_become.1, mH_become.2.1, mH_become.2.2.1, mH_become.2.2.2.1, mH_become.2.2.2.2, ⟨by decide, by decide⟩⟩
theorem kS_later_134 : CkV S_later 134 H_passHours 1 := ⟨lS_134, mH_passHours.1, mH_passHours.2.1, mH_passHours.2.2.1, mH_passHours.2.2.2.1, mH_passHours.2.2.2.2, ⟨by decide, by decide⟩⟩
theorem kS_later_65 : CkV S_later 65 H_feature 1 := ⟨lS_65, mH_feature.1, mH_feature.2.1, mH_feature.2.2.1, mH_feature.2.2.2.1, mH_feature.2.2.2.2, ⟨by decide, by decide⟩⟩
theorem kS_when_100 : CkV S_when 100 H_has 1 := ⟨lS_100, mH_has.1, mH_has.2.1, mH_has.2.2.1, mH_has.2.2.2.1, mH_has.2.2.2.2, ⟨by decide, by decide⟩⟩
theorem kS_when_81 : CkS S_when 81 S_isWithin 3 := ⟨lS_81, mS_isWithin.1, mS_isWithin.2.1, mS_isWithin.2.2.1, mS_isWithin.2.2.2, ⟨by decide, by decide⟩⟩
theorem kS_when_61 : CkV S_when 61 S_finding 1 := ⟨lS_61, mS_finding.1, mS_finding.2.1, mS_finding.2.2.1, mS_finding.2.2.2.1, mS_finding.2.2.2.2, ⟨by decide, by decide⟩⟩
theorem kS_when_155 : CkV S_when 155 S_firstHourOfAtLeast 3 := ⟨lS_155, mS_firstHourOfAtLeast.1, mS_firstHourOfAtLeast.2.1, mS_firstHourOfAtLeast.2.2.1, mS_firstHourOfAtLeast.2.2.2.1, mS_firstHourOfAtLeast.2.2.2.2, ⟨by decide, by decide⟩⟩
theorem kS_firstHourOfAtLeast_151 : CkV S_firstHourOfAtLeast 151 H_become 1 := ⟨lS_151, mH_become.1, mH_become.2.1, mH_become.2.2.1, mH_become.2.2.2.1, mH_become.2.2.2.2, ⟨by decide, by decide⟩⟩
theorem kS_firstHourOfAtLeast_134 : CkV S_firstHourOfAtLeast 134 H_passHours 1 := ⟨lS_134, mH_passHours.1, mH_passHours.2.1, mH_passHours.2.2.1, mH_passHours.2.2.2.1, mH_passHours.2.2.2.2, ⟨by decide, by decide⟩⟩
theorem kS_firstHourOfAtLeast_61 : CkV S_firstHourOfAtLeast 61 S_finding 1 := ⟨lS_61, mS_finding.1, mS_finding.2.1, mS_finding.2.2.1, mS_finding.2.2.2.1, mS_finding.2.2.2.2, ⟨by decide, by decide⟩⟩
theorem kS_home_151 : CkV S_home 151 H_become 1 := ⟨lS_151, mH_become.1, mH_become.2.1, mH_become.2.2.1, mH_become.2.2.2.1, mH_become.2.2.2.2, ⟨by decide, by decide⟩⟩
theorem kS_home_159 : CkV S_home 159 H_allAtFold 0 := ⟨lS_159, mH_allAtFold.1, mH_allAtFold.2.1, mH_allAtFold.2.2.1, mH_allAtFold.2.2.2.1, mH_allAtFold.2.2.2.2, ⟨by decide, by decide⟩⟩
theorem kS_home_134 : CkV S_home 134 H_passHours 1 := ⟨lS_134, mH_passHours.1, mH_passHours.2.1, mH_passHours.2.2.1, mH_passHours.2.2.2.1, mH_passHours.2.2.2.2, ⟨by decide, by decide⟩⟩
theorem kS_home_61 : CkV S_home 61 S_finding 1 := ⟨lS_61, mS_finding.1, mS_finding.2.1, mS_finding.2.2.1, mS_finding.2.2.2.1, mS_finding.2.2.2.2, ⟨by decide, by decide⟩⟩
theorem kH_allAtFold_83 : CkV H_allAtFold 83 H_sheepAt 1 := ⟨lH_83, mH_sheepAt.1, mH_sheepAt.2.1, mH_sheepAt.2.2.1, mH_sheepAt.2.2.2.1, mH_sheepAt.2.2.2.2, ⟨by decide, by decide⟩⟩
theorem kS_panic_100 : CkV S_panic 100 H_has 1 := ⟨lS_100, mH_has.1, mH_has.2.1, mH_has.2.2.1, mH_has.2.2.2.1, mH_has.2.2.2.2, ⟨by decide, by decide⟩⟩
theorem kS_panic_81 : CkS S_panic 81 S_isWithin 3 := ⟨lS_81, mS_isWithin.1, mS_isWithin.2.1, mS_isWithin.2.2.1, mS_isWithin.2.2.2, ⟨by decide, by decide⟩⟩
theorem kS_panic_61 : CkV S_panic 61 S_finding 1 := ⟨lS_61, mS_finding.1, mS_finding.2.1, mS_finding.2.2.1, mS_finding.2.2.2.1, mS_finding.2.2.2.2, ⟨by decide, by decide⟩⟩
theorem kS_panic_155 : CkV S_panic 155 S_firstHourOfAtLeast 3 := ⟨lS_155, mS_firstHourOfAtLeast.1, mS_firstHourOfAtLeast.2.1, mS_firstHourOfAtLeast.2.2.1, mS_firstHourOfAtLeast.2.2.2.1, mS_firstHourOfAtLeast.2.2.2.2, ⟨by decide, by decide⟩⟩
theorem kS_standFor_81 : CkS S_standFor 81 S_isWithin 3 := ⟨lS_81, mS_isWithin.1, mS_isWithin.2.1, mS_isWithin.2.2.1, mS_isWithin.2.2.2, ⟨by decide, by decide⟩⟩
theorem kS_standFor_61 : CkV S_standFor 61 S_finding 1 := ⟨lS_61, mS_finding.1, mS_finding.2.1, mS_finding.2.2.1, mS_finding.2.2.2.1, mS_finding.2.2.2.2, ⟨by decide, by decide⟩⟩
theorem kS_standFor_151 : CkV S_standFor 151 H_become 1 := ⟨lS_151, mH_become.1, mH_become.2.1, mH_become.2.2.1, mH_become.2.2.2.1, mH_become.2.2.2.2, ⟨by decide, by decide⟩⟩
theorem kS_standFor_71 : CkV S_standFor 71 H_moveKeeper 1 := ⟨lS_71, mH_moveKeeper.1, mH_moveKeeper.2.1, mH_moveKeeper.2.2.1, mH_moveKeeper.2.2.2.1, mH_moveKeeper.2.2.2.2, ⟨by decide, by decide⟩⟩
theorem kS_standFor_134 : CkV S_standFor 134 H_passHours 1 := ⟨lS_134, mH_passHours.1, mH_passHours.2.1, mH_passHours.2.2.1, mH_passHours.2.2.2.1, mH_passHours.2.2.2.2, ⟨by decide, by decide⟩⟩
theorem kS_standFor_137 : CkV S_standFor 137 H_total 1 := ⟨lS_137, mH_total.1, mH_total.2.1, mH_total.2.2.1, mH_total.2.2.2.1, mH_total.2.2.2.2, ⟨by decide, by decide⟩⟩
theorem kS_foldFor_81 : CkS S_foldFor 81 S_isWithin 3 := ⟨lS_81, mS_isWithin.1, mS_isWithin.2.1, mS_isWithin.2.2.1, mS_isWithin.2.2.2, ⟨by decide, by decide⟩⟩
theorem kS_foldFor_61 : CkV S_foldFor 61 S_finding 1 := ⟨lS_61, mS_finding.1, mS_finding.2.1, mS_finding.2.2.1, mS_finding.2.2.2.1, mS_finding.2.2.2.2, ⟨by decide, by decide⟩⟩
theorem kS_foldFor_151 : CkV S_foldFor 151 H_become 1 := ⟨lS_151, mH_become.1, mH_become.2.1, mH_become.2.2.1, mH_become.2.2.2.1, mH_become.2.2.2.2, ⟨by decide, by decide⟩⟩
theorem kS_foldFor_134 : CkV S_foldFor 134 H_passHours 1 := ⟨lS_134, mH_passHours.1, mH_passHours.2.1, mH_passHours.2.2.1, mH_passHours.2.2.2.1, mH_passHours.2.2.2.2, ⟨by decide, by decide⟩⟩
theorem kS_foldFor_137 : CkV S_foldFor 137 H_total 1 := ⟨lS_137, mH_total.1, mH_total.2.1, mH_total.2.2.1, mH_total.2.2.2.1, mH_total.2.2.2.2, ⟨by decide, by decide⟩⟩
theorem kS_kindFor_100 : CkV S_kindFor 100 H_has 1 := ⟨lS_100, mH_has.1, mH_has.2.1, mH_has.2.2.1, mH_has.2.2.2.1, mH_has.2.2.2.2, ⟨by decide, by decide⟩⟩
theorem kS_kindFor_81 : CkS S_kindFor 81 S_isWithin 3 := ⟨lS_81, mS_isWithin.1, mS_isWithin.2.1, mS_isWithin.2.2.1, mS_isWithin.2.2.2, ⟨by decide, by decide⟩⟩
theorem kS_kindFor_61 : CkV S_kindFor 61 S_finding 1 := ⟨lS_61, mS_finding.1, mS_finding.2.1, mS_finding.2.2.1, mS_finding.2.2.2.1, mS_finding.2.2.2.2, ⟨by decide, by decide⟩⟩
theorem kS_kindFor_151 : CkV S_kindFor 151 H_become 1 := ⟨lS_151, mH_become.1, mH_become.2.1, mH_become.2.2.1, mH_become.2.2.2.1, mH_become.2.2.2.2, ⟨by decide, by decide⟩⟩
theorem kS_kindFor_134 : CkV S_kindFor 134 H_passHours 1 := ⟨lS_134, mH_passHours.1, mH_passHours.2.1, mH_passHours.2.2.1, mH_passHours.2.2.2.1, mH_passHours.2.2.2.2, ⟨by decide, by decide⟩⟩
theorem kS_paceFor_81 : CkS S_paceFor 81 S_isWithin 3 := ⟨lS_81, mS_isWithin.1, mS_isWithin.2.1, mS_isWithin.2.2.1, mS_isWithin.2.2.2, ⟨by decide, by decide⟩⟩
theorem kS_paceFor_61 : CkV S_paceFor 61 S_finding 1 := ⟨lS_61, mS_finding.1, mS_finding.2.1, mS_finding.2.2.1, mS_finding.2.2.2.1, mS_finding.2.2.2.2, ⟨by decide, by decide⟩⟩
theorem kS_paceFor_151 : CkV S_paceFor 151 H_become 1 := ⟨lS_151, mH_become.1, mH_become.2.1, mH_become.2.2.1, mH_become.2.2.2.1, mH_become.2.2.2.2, ⟨by decide, by decide⟩⟩
theorem kS_paceFor_134 : CkV S_paceFor 134 H_passHours 1 := ⟨lS_134, mH_passHours.1, mH_passHours.2.1, mH_passHours.2.2.1, mH_passHours.2.2.2.1, mH_passHours.2.2.2.2, ⟨by decide, by decide⟩⟩
theorem kS_paceFor_137 : CkV S_paceFor 137 H_total 1 := ⟨lS_137, mH_total.1, mH_total.2.1, mH_total.2.2.1, mH_total.2.2.2.1, mH_total.2.2.2.2, ⟨by decide, by decide⟩⟩
theorem kS_tether_81 : CkS S_tether 81 S_isWithin 3 := ⟨lS_81, mS_isWithin.1, mS_isWithin.2.1, mS_isWithin.2.2.1, mS_isWithin.2.2.2, ⟨by decide, by decide⟩⟩
theorem kS_tether_61 : CkV S_tether 61 S_finding 1 := ⟨lS_61, mS_finding.1, mS_finding.2.1, mS_finding.2.2.1, mS_finding.2.2.2.1, mS_finding.2.2.2.2, ⟨by decide, by decide⟩⟩
theorem kS_tether_168 : CkS S_tether 168 JI_bitCount 1 := ⟨lS_168, mJI_bitCount.1, mJI_bitCount.2.1, mJI_bitCount.2.2.1, mJI_bitCount.2.2.2, ⟨by decide, by decide⟩⟩
theorem kS_tether_171 : CkV S_tether 171 S_keepsNear 2 := ⟨lS_171, mS_keepsNear.1, mS_keepsNear.2.1, mS_keepsNear.2.2.1, mS_keepsNear.2.2.2.1, mS_keepsNear.2.2.2.2, ⟨by decide, by decide⟩⟩
theorem kS_keepsNear_151 : CkV S_keepsNear 151 H_become 1 := ⟨lS_151, mH_become.1, mH_become.2.1, mH_become.2.2.1, mH_become.2.2.2.1, mH_become.2.2.2.2, ⟨by decide, by decide⟩⟩
theorem kS_keepsNear_244 : CkV S_keepsNear 244 H_passHour 1 := ⟨lS_244, mH_passHour.1, mH_passHour.2.1, mH_passHour.2.2.1, mH_passHour.2.2.2.1, mH_passHour.2.2.2.2, ⟨by decide, by decide⟩⟩
theorem kS_keepsNear_141 : CkV S_keepsNear 141 H_farSheep 0 := ⟨lS_141, mH_farSheep.1, mH_farSheep.2.1, mH_farSheep.2.2.1, mH_farSheep.2.2.2.1, mH_farSheep.2.2.2.2, ⟨by decide, by decide⟩⟩
theorem kS_fits_174 : CkS S_fits 174 S_isSheet 1 := ⟨lS_174, mS_isSheet.1, mS_isSheet.2.1, mS_isSheet.2.2.1, mS_isSheet.2.2.2, ⟨by decide, by decide⟩⟩
theorem kS_fits_61 : CkV S_fits 61 S_finding 1 := ⟨lS_61, mS_finding.1, mS_finding.2.1, mS_finding.2.2.1, mS_finding.2.2.2.1, mS_finding.2.2.2.2, ⟨by decide, by decide⟩⟩
theorem kS_fits_177 : CkV S_fits 177 E_isMissing 0 := ⟨lS_177, mE_isMissing.1, mE_isMissing.2.1, mE_isMissing.2.2.1, mE_isMissing.2.2.2.1, mE_isMissing.2.2.2.2, ⟨by decide, by decide⟩⟩
theorem kS_fits_100 : CkV S_fits 100 H_has 1 := ⟨lS_100, mH_has.1, mH_has.2.1, mH_has.2.2.1, mH_has.2.2.2.1, mH_has.2.2.2.2, ⟨by decide, by decide⟩⟩
theorem kS_fits_151 : CkV S_fits 151 H_become 1 := ⟨lS_151, mH_become.1, mH_become.2.1, mH_become.2.2.1, mH_become.2.2.2.1, mH_become.2.2.2.2, ⟨by decide, by decide⟩⟩
theorem kS_fits_180 : CkV S_fits 180 S_keeperGoesAsTold 1 := ⟨lS_180, mS_keeperGoesAsTold.1, mS_keeperGoesAsTold.2.1, mS_keeperGoesAsTold.2.2.1, mS_keeperGoesAsTold.2.2.2.1, mS_keeperGoesAsTold.2.2.2.2, ⟨by decide, by decide⟩⟩
theorem kS_isSheet_81 : CkS S_isSheet 81 S_isWithin 3 := ⟨lS_81, mS_isWithin.1, mS_isWithin.2.1, mS_isWithin.2.2.1, mS_isWithin.2.2.2, ⟨by decide, by decide⟩⟩
theorem kS_keeperGoesAsTold_250 : CkV S_keeperGoesAsTold 250 E_allows 2 := ⟨lS_250, mE_allows.1, mE_allows.2.1, mE_allows.2.2.1, mE_allows.2.2.2.1, mE_allows.2.2.2.2, ⟨by decide, by decide⟩⟩
theorem kS_keeperGoesAsTold_134 : CkV S_keeperGoesAsTold 134 H_passHours 1 := ⟨lS_134, mH_passHours.1, mH_passHours.2.1, mH_passHours.2.2.1, mH_passHours.2.2.2.1, mH_passHours.2.2.2.2, ⟨by decide, by decide⟩⟩
theorem kS_kinds_174 : CkS S_kinds 174 S_isSheet 1 := ⟨lS_174, mS_isSheet.1, mS_isSheet.2.1, mS_isSheet.2.2.1, mS_isSheet.2.2.2, ⟨by decide, by decide⟩⟩
theorem kS_kinds_61 : CkV S_kinds 61 S_finding 1 := ⟨lS_61, mS_finding.1, mS_finding.2.1, mS_finding.2.2.1, mS_finding.2.2.2.1, mS_finding.2.2.2.2, ⟨by decide, by decide⟩⟩
theorem kS_kinds_177 : CkV S_kinds 177 E_isMissing 0 := ⟨lS_177, mE_isMissing.1, mE_isMissing.2.1, mE_isMissing.2.2.1, mE_isMissing.2.2.2.1, mE_isMissing.2.2.2.2, ⟨by decide, by decide⟩⟩
theorem kS_kinds_100 : CkV S_kinds 100 H_has 1 := ⟨lS_100, mH_has.1, mH_has.2.1, mH_has.2.2.1, mH_has.2.2.2.1, mH_has.2.2.2.2, ⟨by decide, by decide⟩⟩
theorem kS_kinds_151 : CkV S_kinds 151 H_become 1 := ⟨lS_151, mH_become.1, mH_become.2.1, mH_become.2.2.1, mH_become.2.2.2.1, mH_become.2.2.2.2, ⟨by decide, by decide⟩⟩
theorem kS_kinds_184 : CkV S_kinds 184 S_sheepGoesAsTold 2 := ⟨lS_184, mS_sheepGoesAsTold.1, mS_sheepGoesAsTold.2.1, mS_sheepGoesAsTold.2.2.1, mS_sheepGoesAsTold.2.2.2.1, mS_sheepGoesAsTold.2.2.2.2, ⟨by decide, by decide⟩⟩
theorem kS_sheepGoesAsTold_250 : CkV S_sheepGoesAsTold 250 E_allows 2 := ⟨lS_250, mE_allows.1, mE_allows.2.1, mE_allows.2.2.1, mE_allows.2.2.2.1, mE_allows.2.2.2.2, ⟨by decide, by decide⟩⟩
theorem kS_sheepGoesAsTold_134 : CkV S_sheepGoesAsTold 134 H_passHours 1 := ⟨lS_134, mH_passHours.1, mH_passHours.2.1, mH_passHours.2.2.1, mH_passHours.2.2.2.1, mH_passHours.2.2.2.2, ⟨by decide, by decide⟩⟩
theorem kS_nights_81 : CkS S_nights 81 S_isWithin 3 := ⟨lS_81, mS_isWithin.1, mS_isWithin.2.1, mS_isWithin.2.2.1, mS_isWithin.2.2.2, ⟨by decide, by decide⟩⟩
theorem kS_nights_61 : CkV S_nights 61 S_finding 1 := ⟨lS_61, mS_finding.1, mS_finding.2.1, mS_finding.2.2.1, mS_finding.2.2.2.1, mS_finding.2.2.2.2, ⟨by decide, by decide⟩⟩
theorem kS_nights_188 : CkV S_nights 188 S_draw 0 := ⟨lS_188, mS_draw.1, mS_draw.2.1, mS_draw.2.2.1, mS_draw.2.2.2.1, mS_draw.2.2.2.2, ⟨by decide, by decide⟩⟩
theorem kS_nights_134 : CkV S_nights 134 H_passHours 1 := ⟨lS_134, mH_passHours.1, mH_passHours.2.1, mH_passHours.2.2.1, mH_passHours.2.2.2.1, mH_passHours.2.2.2.2, ⟨by decide, by decide⟩⟩
theorem kS_nights_137 : CkV S_nights 137 H_total 1 := ⟨lS_137, mH_total.1, mH_total.2.1, mH_total.2.2.1, mH_total.2.2.2.1, mH_total.2.2.2.2, ⟨by decide, by decide⟩⟩
theorem kS_odds_100 : CkV S_odds 100 H_has 1 := ⟨lS_100, mH_has.1, mH_has.2.1, mH_has.2.2.1, mH_has.2.2.2.1, mH_has.2.2.2.2, ⟨by decide, by decide⟩⟩
theorem kS_odds_81 : CkS S_odds 81 S_isWithin 3 := ⟨lS_81, mS_isWithin.1, mS_isWithin.2.1, mS_isWithin.2.2.1, mS_isWithin.2.2.2, ⟨by decide, by decide⟩⟩
theorem kS_odds_61 : CkV S_odds 61 S_finding 1 := ⟨lS_61, mS_finding.1, mS_finding.2.1, mS_finding.2.2.1, mS_finding.2.2.2.1, mS_finding.2.2.2.2, ⟨by decide, by decide⟩⟩
theorem kS_odds_191 : CkV S_odds 191 H_cellsOutOfReachOf 1 := ⟨lS_191, mH_cellsOutOfReachOf.1, mH_cellsOutOfReachOf.2.1, mH_cellsOutOfReachOf.2.2.1, mH_cellsOutOfReachOf.2.2.2.1, mH_cellsOutOfReachOf.2.2.2.2, ⟨by decide, by decide⟩⟩
theorem kS_odds_194 : CkS S_odds 194 S_power 2 := ⟨lS_194, mS_power.1, mS_power.2.1, mS_power.2.2.1, mS_power.2.2.2, ⟨by decide, by decide⟩⟩
theorem kH_cellsOutOfReachOf_79 : CkN H_cellsOutOfReachOf 79 S_distance 2 := ⟨⟨_, lH_79⟩, mS_distance.1, mS_distance.2.1, mS_distance.2.2.1, mS_distance.2.2.2, ⟨by decide, by decide⟩⟩
theorem kS_feed_81 : CkS S_feed 81 S_isWithin 3 := ⟨lS_81, mS_isWithin.1, mS_isWithin.2.1, mS_isWithin.2.2.1, mS_isWithin.2.2.2, ⟨by decide, by decide⟩⟩
theorem kS_feed_61 : CkV S_feed 61 S_finding 1 := ⟨lS_61, mS_finding.1, mS_finding.2.1, mS_finding.2.2.1, mS_finding.2.2.2.1, mS_finding.2.2.2.2, ⟨by decide, by decide⟩⟩
theorem kS_feed_198 : CkV S_feed 198 T_hasRoomFor 1 := ⟨lS_198, mT_hasRoomFor.1, mT_hasRoomFor.2.1, mT_hasRoomFor.2.2.1, mT_hasRoomFor.2.2.2.1, mT_hasRoomFor.2.2.2.2, ⟨by decide, by decide⟩⟩
theorem kS_feed_201 : CkV S_feed 201 T_append 1 := ⟨lS_201, mT_append.1, mT_append.2.1, mT_append.2.2.1, mT_append.2.2.2.1, mT_append.2.2.2.2, ⟨by decide, by decide⟩⟩
theorem kT_append_28 : CkV T_append 28 T_hasRoomFor 1 := ⟨lT_28, mT_hasRoomFor.1, mT_hasRoomFor.2.1, mT_hasRoomFor.2.2.1, mT_hasRoomFor.2.2.2.1, mT_hasRoomFor.2.2.2.2, ⟨by decide, by decide⟩⟩
theorem kS_text_151 : CkV S_text 151 H_become 1 := ⟨lS_151, mH_become.1, mH_become.2.1, mH_become.2.2.1, mH_become.2.2.2.1, mH_become.2.2.2.2, ⟨by decide, by decide⟩⟩
theorem kS_text_207 : CkV S_text 207 T_readOnto 1 := ⟨lS_207, mT_readOnto.1, mT_readOnto.2.1, mT_readOnto.2.2.1, mT_readOnto.2.2.2.1, mT_readOnto.2.2.2.2, ⟨by decide, by decide⟩⟩
theorem kT_readOnto_32 : CkV T_readOnto 32 T_nextToken 0 := ⟨lT_32, mT_nextToken.1, mT_nextToken.2.1, mT_nextToken.2.2.1, mT_nextToken.2.2.2.1, mT_nextToken.2.2.2.2, ⟨by decide, by decide⟩⟩
theorem kT_readOnto_35 : CkV T_readOnto 35 T_readItem 1 := ⟨lT_35, mT_readItem.1, mT_readItem.2.1, mT_readItem.2.2.1, mT_readItem.2.2.2.1, mT_readItem.2.2.2.2, ⟨by decide, by decide⟩⟩
theorem kT_nextToken_135 : CkV T_nextToken 135 T_tokenAt 1 := ⟨lT_135, mT_tokenAt.1, mT_tokenAt.2.1, mT_tokenAt.2.2.1, mT_tokenAt.2.2.2.1, mT_tokenAt.2.2.2.2, ⟨by decide, by decide⟩⟩
theorem kT_nextToken_138 : CkS T_nextToken 138 T_isLong 1 := ⟨lT_138, mT_isLong.1, mT_isLong.2.1, mT_isLong.2.2.1, mT_isLong.2.2.2, ⟨by decide, by decide⟩⟩
theorem kT_readItem_39 : CkV T_readItem 39 T_kindOfWord 0 := ⟨lT_39, mT_kindOfWord.1, mT_kindOfWord.2.1, mT_kindOfWord.2.2.1, mT_kindOfWord.2.2.2.1, mT_kindOfWord.2.2.2.2, ⟨by decide, by decide⟩⟩
theorem kT_readItem_43 : CkV T_readItem 43 T_readSheep 2 := ⟨lT_43, mT_readSheep.1, mT_readSheep.2.1, mT_readSheep.2.2.1, mT_readSheep.2.2.2.1, mT_readSheep.2.2.2.2, ⟨by decide, by decide⟩⟩
theorem kT_readItem_49 : CkV T_readItem 49 T_skipWord 1 := ⟨lT_49, mT_skipWord.1, mT_skipWord.2.1, mT_skipWord.2.2.1, mT_skipWord.2.2.2.1, mT_skipWord.2.2.2.2, ⟨by decide, by decide⟩⟩
theorem kT_readItem_53 : CkV T_readItem 53 T_readFold 1 := ⟨lT_53, mT_readFold.1, mT_readFold.2.1, mT_readFold.2.2.1, mT_readFold.2.2.2.1, mT_readFold.2.2.2.2, ⟨by decide, by decide⟩⟩
theorem kT_readItem_58 : CkV T_readItem 58 T_readKeeper 1 := ⟨lT_58, mT_readKeeper.1, mT_readKeeper.2.1, mT_readKeeper.2.2.1, mT_readKeeper.2.2.2.1, mT_readKeeper.2.2.2.2, ⟨by decide, by decide⟩⟩
theorem kT_readItem_63 : CkV T_readItem 63 T_readWolf 1 := ⟨lT_63, mT_readWolf.1, mT_readWolf.2.1, mT_readWolf.2.2.1, mT_readWolf.2.2.2.1, mT_readWolf.2.2.2.2, ⟨by decide, by decide⟩⟩
theorem kT_kindOfWord_101 : CkS T_kindOfWord 101 T_nameOf 1 := ⟨lT_101, mT_nameOf.1, mT_nameOf.2.1, mT_nameOf.2.2.1, mT_nameOf.2.2.2, ⟨by decide, by decide⟩⟩
theorem kT_kindOfWord_105 : CkV T_kindOfWord 105 T_isWord 1 := ⟨lT_105, mT_isWord.1, mT_isWord.2.1, mT_isWord.2.2.1, mT_isWord.2.2.2.1, mT_isWord.2.2.2.2, ⟨by decide, by decide⟩⟩
theorem kT_isWord_122 : CkV T_isWord 122 JS_length 0 := ⟨lT_122, mJS_length.1, mJS_length.2.1, mJS_length.2.2.1, mJS_length.2.2.2.1, mJS_length.2.2.2.2, ⟨by decide, by decide⟩⟩
theorem kT_isWord_126 : CkV T_isWord 126 JS_charAt 1 := ⟨lT_126, mJS_charAt.1, mJS_charAt.2.1, mJS_charAt.2.2.1, mJS_charAt.2.2.2.1, mJS_charAt.2.2.2.2, ⟨by decide, by decide⟩⟩
theorem kJS_length_335 : CkV JS_length 335 JS_coder 0 := ⟨lJS_335, mJS_coder.1, mJS_coder.2.1, mJS_coder.2.2.1, mJS_coder.2.2.2.1, mJS_coder.2.2.2.2, ⟨by decide, by decide⟩⟩
theorem kJS_charAt_492 : CkV JS_charAt 492 JS_isLatin1 0 := ⟨lJS_492, mJS_isLatin1.1, mJS_isLatin1.2.1, mJS_isLatin1.2.2.1, mJS_isLatin1.2.2.2.1, mJS_isLatin1.2.2.2.2, ⟨by decide, by decide⟩⟩
theorem kJS_charAt_495 : CkS JS_charAt 495 JL_charAt 2 := ⟨lJS_495, mJL_charAt.1, mJL_charAt.2.1, mJL_charAt.2.2.1, mJL_charAt.2.2.2, ⟨by decide, by decide⟩⟩
theorem kJL_charAt_9 : CkS JL_charAt 9 JS_checkIndex 2 := ⟨lJL_9, mJS_checkIndex.1, mJS_checkIndex.2.1, mJS_checkIndex.2.2.1, mJS_checkIndex.2.2.2, ⟨by decide, by decide⟩⟩
theorem kJS_checkIndex_1059 : CkS JS_checkIndex 1059 JP_checkIndex 3 := ⟨lJS_1059, mJP_checkIndex.1, mJP_checkIndex.2.1, mJP_checkIndex.2.2.1, mJP_checkIndex.2.2.2, ⟨by decide, by decide⟩⟩
theorem kT_readSheep_66 : CkV T_readSheep 66 H_add 2 := ⟨lT_66, mH_add.1, mH_add.2.1, mH_add.2.2.1, mH_add.2.2.2.1, mH_add.2.2.2.2, ⟨by decide, by decide⟩⟩
theorem kT_readSheep_32 : CkV T_readSheep 32 T_nextToken 0 := ⟨lT_32, mT_nextToken.1, mT_nextToken.2.1, mT_nextToken.2.2.1, mT_nextToken.2.2.2.1, mT_nextToken.2.2.2.2, ⟨by decide, by decide⟩⟩
theorem kT_readSheep_49 : CkV T_readSheep 49 T_skipWord 1 := ⟨lT_49, mT_skipWord.1, mT_skipWord.2.1, mT_skipWord.2.2.1, mT_skipWord.2.2.2.1, mT_skipWord.2.2.2.2, ⟨by decide, by decide⟩⟩
theorem kT_readSheep_74 : CkV T_readSheep 74 T_takeNumber 1 := ⟨lT_74, mT_takeNumber.1, mT_takeNumber.2.1, mT_takeNumber.2.2.1, mT_takeNumber.2.2.2.1, mT_takeNumber.2.2.2.2, ⟨by decide, by decide⟩⟩
theorem kT_skipWord_105 : CkV T_skipWord 105 T_isWord 1 := ⟨lT_105, mT_isWord.1, mT_isWord.2.1, mT_isWord.2.2.1, mT_isWord.2.2.2.1, mT_isWord.2.2.2.2, ⟨by decide, by decide⟩⟩
theorem kT_skipWord_32 : CkV T_skipWord 32 T_nextToken 0 := ⟨lT_32, mT_nextToken.1, mT_nextToken.2.1, mT_nextToken.2.2.1, mT_nextToken.2.2.2.1, mT_nextToken.2.2.2.2, ⟨by decide, by decide⟩⟩
theorem kT_takeNumber_130 : CkS T_takeNumber 130 JM_min 2 := ⟨lT_130, mJM_min.1, mJM_min.2.1, mJM_min.2.2.1, mJM_min.2.2.2, ⟨by decide, by decide⟩⟩
theorem kT_takeNumber_32 : CkV T_takeNumber 32 T_nextToken 0 := ⟨lT_32, mT_nextToken.1, mT_nextToken.2.1, mT_nextToken.2.2.1, mT_nextToken.2.2.2.1, mT_nextToken.2.2.2.2, ⟨by decide, by decide⟩⟩
theorem kT_readFold_74 : CkV T_readFold 74 T_takeNumber 1 := ⟨lT_74, mT_takeNumber.1, mT_takeNumber.2.1, mT_takeNumber.2.2.1, mT_takeNumber.2.2.2.1, mT_takeNumber.2.2.2.2, ⟨by decide, by decide⟩⟩
theorem kT_readKeeper_74 : CkV T_readKeeper 74 T_takeNumber 1 := ⟨lT_74, mT_takeNumber.1, mT_takeNumber.2.1, mT_takeNumber.2.2.1, mT_takeNumber.2.2.2.1, mT_takeNumber.2.2.2.2, ⟨by decide, by decide⟩⟩
theorem kT_readKeeper_91 : CkV T_readKeeper 91 H_moveKeeper 1 := ⟨lT_91, mH_moveKeeper.1, mH_moveKeeper.2.1, mH_moveKeeper.2.2.1, mH_moveKeeper.2.2.2.1, mH_moveKeeper.2.2.2.2, ⟨by decide, by decide⟩⟩
theorem kT_readWolf_74 : CkV T_readWolf 74 T_takeNumber 1 := ⟨lT_74, mT_takeNumber.1, mT_takeNumber.2.1, mT_takeNumber.2.2.1, mT_takeNumber.2.2.2.1, mT_takeNumber.2.2.2.2, ⟨by decide, by decide⟩⟩
theorem kT_readWolf_49 : CkV T_readWolf 49 T_skipWord 1 := ⟨lT_49, mT_skipWord.1, mT_skipWord.2.1, mT_skipWord.2.2.1, mT_skipWord.2.2.2.1, mT_skipWord.2.2.2.2, ⟨by decide, by decide⟩⟩
theorem kS_hold_211 : CkS S_hold 211 S_isSpot 1 := ⟨lS_211, mS_isSpot.1, mS_isSpot.2.1, mS_isSpot.2.2.1, mS_isSpot.2.2.2, ⟨by decide, by decide⟩⟩
theorem kS_hold_100 : CkV S_hold 100 H_has 1 := ⟨lS_100, mH_has.1, mH_has.2.1, mH_has.2.2.1, mH_has.2.2.2.1, mH_has.2.2.2.2, ⟨by decide, by decide⟩⟩
theorem kS_hold_61 : CkV S_hold 61 S_finding 1 := ⟨lS_61, mS_finding.1, mS_finding.2.1, mS_finding.2.2.1, mS_finding.2.2.2.1, mS_finding.2.2.2.2, ⟨by decide, by decide⟩⟩
theorem kS_isSpot_81 : CkS S_isSpot 81 S_isWithin 3 := ⟨lS_81, mS_isWithin.1, mS_isWithin.2.1, mS_isWithin.2.2.1, mS_isWithin.2.2.2, ⟨by decide, by decide⟩⟩
theorem kS_as_211 : CkS S_as 211 S_isSpot 1 := ⟨lS_211, mS_isSpot.1, mS_isSpot.2.1, mS_isSpot.2.2.1, mS_isSpot.2.2.2, ⟨by decide, by decide⟩⟩
theorem kS_as_85 : CkS S_as 85 S_isKind 1 := ⟨lS_85, mS_isKind.1, mS_isKind.2.1, mS_isKind.2.2.1, mS_isKind.2.2.2, ⟨by decide, by decide⟩⟩
theorem kS_as_61 : CkV S_as 61 S_finding 1 := ⟨lS_61, mS_finding.1, mS_finding.2.1, mS_finding.2.2.1, mS_finding.2.2.2.1, mS_finding.2.2.2.2, ⟨by decide, by decide⟩⟩
theorem kS_as_100 : CkV S_as 100 H_has 1 := ⟨lS_100, mH_has.1, mH_has.2.1, mH_has.2.2.1, mH_has.2.2.2.1, mH_has.2.2.2.2, ⟨by decide, by decide⟩⟩
theorem kS_as_214 : CkS S_as 214 S_isUnder 2 := ⟨lS_214, mS_isUnder.1, mS_isUnder.2.1, mS_isUnder.2.2.1, mS_isUnder.2.2.2, ⟨by decide, by decide⟩⟩
theorem kS_isUnder_254 : CkS S_isUnder 254 S_kindAbove 1 := ⟨lS_254, mS_kindAbove.1, mS_kindAbove.2.1, mS_kindAbove.2.2.1, mS_kindAbove.2.2.2, ⟨by decide, by decide⟩⟩
theorem kS_sheet_174 : CkS S_sheet 174 S_isSheet 1 := ⟨lS_174, mS_isSheet.1, mS_isSheet.2.1, mS_isSheet.2.2.1, mS_isSheet.2.2.2, ⟨by decide, by decide⟩⟩
theorem kS_sheet_61 : CkV S_sheet 61 S_finding 1 := ⟨lS_61, mS_finding.1, mS_finding.2.1, mS_finding.2.2.1, mS_finding.2.2.2.1, mS_finding.2.2.2.2, ⟨by decide, by decide⟩⟩
theorem kS_sheet_217 : CkV S_sheet 217 E_begin 2 := ⟨lS_217, mE_begin.1, mE_begin.2.1, mE_begin.2.2.1, mE_begin.2.2.2.1, mE_begin.2.2.2.2, ⟨by decide, by decide⟩⟩
theorem kS_write_174 : CkS S_write 174 S_isSheet 1 := ⟨lS_174, mS_isSheet.1, mS_isSheet.2.1, mS_isSheet.2.2.1, mS_isSheet.2.2.2, ⟨by decide, by decide⟩⟩
theorem kS_write_61 : CkV S_write 61 S_finding 1 := ⟨lS_61, mS_finding.1, mS_finding.2.1, mS_finding.2.2.1, mS_finding.2.2.2.1, mS_finding.2.2.2.2, ⟨by decide, by decide⟩⟩
theorem kS_write_177 : CkV S_write 177 E_isMissing 0 := ⟨lS_177, mE_isMissing.1, mE_isMissing.2.1, mE_isMissing.2.2.1, mE_isMissing.2.2.2.1, mE_isMissing.2.2.2.2, ⟨by decide, by decide⟩⟩
theorem kS_write_81 : CkS S_write 81 S_isWithin 3 := ⟨lS_81, mS_isWithin.1, mS_isWithin.2.1, mS_isWithin.2.2.1, mS_isWithin.2.2.2, ⟨by decide, by decide⟩⟩
theorem kS_write_222 : CkV S_write 222 E_put 2 := ⟨lS_222, mE_put.1, mE_put.2.1, mE_put.2.2.1, mE_put.2.2.2.1, mE_put.2.2.2.2, ⟨by decide, by decide⟩⟩
theorem kS_copy_174 : CkS S_copy 174 S_isSheet 1 := ⟨lS_174, mS_isSheet.1, mS_isSheet.2.1, mS_isSheet.2.2.1, mS_isSheet.2.2.2, ⟨by decide, by decide⟩⟩
theorem kS_copy_61 : CkV S_copy 61 S_finding 1 := ⟨lS_61, mS_finding.1, mS_finding.2.1, mS_finding.2.2.1, mS_finding.2.2.2.1, mS_finding.2.2.2.2, ⟨by decide, by decide⟩⟩
theorem kS_copy_177 : CkV S_copy 177 E_isMissing 0 := ⟨lS_177, mE_isMissing.1, mE_isMissing.2.1, mE_isMissing.2.2.1, mE_isMissing.2.2.2.1, mE_isMissing.2.2.2.2, ⟨by decide, by decide⟩⟩
theorem kS_copy_228 : CkV S_copy 228 E_hasRun 2 := ⟨lS_228, mE_hasRun.1, mE_hasRun.2.1, mE_hasRun.2.2.1, mE_hasRun.2.2.2.1, mE_hasRun.2.2.2.2, ⟨by decide, by decide⟩⟩
theorem kS_load_174 : CkS S_load 174 S_isSheet 1 := ⟨lS_174, mS_isSheet.1, mS_isSheet.2.1, mS_isSheet.2.2.1, mS_isSheet.2.2.2, ⟨by decide, by decide⟩⟩
theorem kS_load_61 : CkV S_load 61 S_finding 1 := ⟨lS_61, mS_finding.1, mS_finding.2.1, mS_finding.2.2.1, mS_finding.2.2.2.1, mS_finding.2.2.2.2, ⟨by decide, by decide⟩⟩
theorem kS_load_177 : CkV S_load 177 E_isMissing 0 := ⟨lS_177, mE_isMissing.1, mE_isMissing.2.1, mE_isMissing.2.2.1, mE_isMissing.2.2.2.1, mE_isMissing.2.2.2.2, ⟨by decide, by decide⟩⟩
theorem kS_load_100 : CkV S_load 100 H_has 1 := ⟨lS_100, mH_has.1, mH_has.2.1, mH_has.2.2.1, mH_has.2.2.2.1, mH_has.2.2.2.2, ⟨by decide, by decide⟩⟩
theorem kS_load_81 : CkS S_load 81 S_isWithin 3 := ⟨lS_81, mS_isWithin.1, mS_isWithin.2.1, mS_isWithin.2.2.1, mS_isWithin.2.2.2, ⟨by decide, by decide⟩⟩
theorem kS_judge_174 : CkS S_judge 174 S_isSheet 1 := ⟨lS_174, mS_isSheet.1, mS_isSheet.2.1, mS_isSheet.2.2.1, mS_isSheet.2.2.2, ⟨by decide, by decide⟩⟩
theorem kS_judge_61 : CkV S_judge 61 S_finding 1 := ⟨lS_61, mS_finding.1, mS_finding.2.1, mS_finding.2.2.1, mS_finding.2.2.2.1, mS_finding.2.2.2.2, ⟨by decide, by decide⟩⟩
theorem kS_judge_177 : CkV S_judge 177 E_isMissing 0 := ⟨lS_177, mE_isMissing.1, mE_isMissing.2.1, mE_isMissing.2.2.1, mE_isMissing.2.2.2.1, mE_isMissing.2.2.2.2, ⟨by decide, by decide⟩⟩
theorem kS_judge_100 : CkV S_judge 100 H_has 1 := ⟨lS_100, mH_has.1, mH_has.2.1, mH_has.2.2.1, mH_has.2.2.2.1, mH_has.2.2.2.2, ⟨by decide, by decide⟩⟩
theorem kS_image_151 : CkV S_image 151 H_become 1 := ⟨lS_151, mH_become.1, mH_become.2.1, mH_become.2.2.1, mH_become.2.2.2.1, mH_become.2.2.2.2, ⟨by decide, by decide⟩⟩
theorem kS_undo_61 : CkV S_undo 61 S_finding 1 := ⟨lS_61, mS_finding.1, mS_finding.2.1, mS_finding.2.2.1, mS_finding.2.2.2.1, mS_finding.2.2.2.2, ⟨by decide, by decide⟩⟩
theorem kS_undo_151 : CkV S_undo 151 H_become 1 := ⟨lS_151, mH_become.1, mH_become.2.1, mH_become.2.2.1, mH_become.2.2.2.1, mH_become.2.2.2.2, ⟨by decide, by decide⟩⟩
theorem kS_count_137 : CkV S_count 137 H_total 1 := ⟨lS_137, mH_total.1, mH_total.2.1, mH_total.2.2.1, mH_total.2.2.2.1, mH_total.2.2.2.2, ⟨by decide, by decide⟩⟩
theorem kS_count_240 : CkV S_count 240 S_spotsInUse 0 := ⟨lS_240, mS_spotsInUse.1, mS_spotsInUse.2.1, mS_spotsInUse.2.2.1, mS_spotsInUse.2.2.2.1, mS_spotsInUse.2.2.2.2, ⟨by decide, by decide⟩⟩
theorem kS_count_61 : CkV S_count 61 S_finding 1 := ⟨lS_61, mS_finding.1, mS_finding.2.1, mS_finding.2.2.1, mS_finding.2.2.2.1, mS_finding.2.2.2.2, ⟨by decide, by decide⟩⟩
theorem kS_status_81 : CkS S_status 81 S_isWithin 3 := ⟨lS_81, mS_isWithin.1, mS_isWithin.2.1, mS_isWithin.2.2.1, mS_isWithin.2.2.2, ⟨by decide, by decide⟩⟩
theorem kS_status_61 : CkV S_status 61 S_finding 1 := ⟨lS_61, mS_finding.1, mS_finding.2.1, mS_finding.2.2.1, mS_finding.2.2.2.1, mS_finding.2.2.2.2, ⟨by decide, by decide⟩⟩
theorem kQ_set_79 : CkS Q_set 79 Q_within 3 := ⟨lQ_79, mQ_within.1, mQ_within.2.1, mQ_within.2.2.1, mQ_within.2.2.2, ⟨by decide, by decide⟩⟩
theorem kQ_set_91 : CkS Q_set 91 Q_isCell 1 := ⟨lQ_91, mQ_isCell.1, mQ_isCell.2.1, mQ_isCell.2.2.1, mQ_isCell.2.2.2, ⟨by decide, by decide⟩⟩
theorem kQ_set_75 : CkV Q_set 75 Q_finding 1 := ⟨lQ_75, mQ_finding.1, mQ_finding.2.1, mQ_finding.2.2.1, mQ_finding.2.2.2.1, mQ_finding.2.2.2.2, ⟨by decide, by decide⟩⟩
theorem kQ_set_95 : CkV Q_set 95 Q_keeperTo 1 := ⟨lQ_95, mQ_keeperTo.1, mQ_keeperTo.2.1, mQ_keeperTo.2.2.1, mQ_keeperTo.2.2.2.1, mQ_keeperTo.2.2.2.2, ⟨by decide, by decide⟩⟩
theorem kQ_set_98 : CkV Q_set 98 Q_become 2 := ⟨lQ_98, mQ_become.1, mQ_become.2.1, mQ_become.2.2.1, mQ_become.2.2.2.1, mQ_become.2.2.2.2, ⟨by decide, by decide⟩⟩
theorem kQ_isCell_79 : CkS Q_isCell 79 Q_within 3 := ⟨lQ_79, mQ_within.1, mQ_within.2.1, mQ_within.2.2.1, mQ_within.2.2.2, ⟨by decide, by decide⟩⟩
theorem kQ_keeperTo_87 : CkV Q_keeperTo 87 Q_keeperAt 1 := ⟨lQ_87, mQ_keeperAt.1, mQ_keeperAt.2.1, mQ_keeperAt.2.2.1, mQ_keeperAt.2.2.2.1, mQ_keeperAt.2.2.2.2, ⟨by decide, by decide⟩⟩
theorem kQ_keeperAt_83 : CkS Q_keeperAt 83 Q_sheepAt 2 := ⟨lQ_83, mQ_sheepAt.1, mQ_sheepAt.2.1, mQ_sheepAt.2.2.1, mQ_sheepAt.2.2.2, ⟨by decide, by decide⟩⟩
theorem kQ_hill_79 : CkS Q_hill 79 Q_within 3 := ⟨lQ_79, mQ_within.1, mQ_within.2.1, mQ_within.2.2.1, mQ_within.2.2.2, ⟨by decide, by decide⟩⟩
theorem kQ_hill_75 : CkV Q_hill 75 Q_finding 1 := ⟨lQ_75, mQ_finding.1, mQ_finding.2.1, mQ_finding.2.2.1, mQ_finding.2.2.2.1, mQ_finding.2.2.2.2, ⟨by decide, by decide⟩⟩
theorem kQ_sheep_101 : CkS Q_sheep 101 Q_isKind 1 := ⟨lQ_101, mQ_isKind.1, mQ_isKind.2.1, mQ_isKind.2.2.1, mQ_isKind.2.2.2, ⟨by decide, by decide⟩⟩
theorem kQ_sheep_91 : CkS Q_sheep 91 Q_isCell 1 := ⟨lQ_91, mQ_isCell.1, mQ_isCell.2.1, mQ_isCell.2.2.1, mQ_isCell.2.2.2, ⟨by decide, by decide⟩⟩
theorem kQ_sheep_75 : CkV Q_sheep 75 Q_finding 1 := ⟨lQ_75, mQ_finding.1, mQ_finding.2.1, mQ_finding.2.2.1, mQ_finding.2.2.2.1, mQ_finding.2.2.2.2, ⟨by decide, by decide⟩⟩
theorem kQ_sheep_105 : CkV Q_sheep 105 Q_comes 2 := ⟨lQ_105, mQ_comes.1, mQ_comes.2.1, mQ_comes.2.2.1, mQ_comes.2.2.2.1, mQ_comes.2.2.2.2, ⟨by decide, by decide⟩⟩
theorem kQ_isKind_79 : CkS Q_isKind 79 Q_within 3 := ⟨lQ_79, mQ_within.1, mQ_within.2.1, mQ_within.2.2.1, mQ_within.2.2.2, ⟨by decide, by decide⟩⟩
theorem kQ_comes_83 : CkS Q_comes 83 Q_sheepAt 2 := ⟨lQ_83, mQ_sheepAt.1, mQ_sheepAt.2.1, mQ_sheepAt.2.2.1, mQ_sheepAt.2.2.2, ⟨by decide, by decide⟩⟩
theorem kQ_of_119 : CkV Q_of 119 Q_isSheep 1 := ⟨lQ_119, mQ_isSheep.1, mQ_isSheep.2.1, mQ_isSheep.2.2.1, mQ_isSheep.2.2.2.1, mQ_isSheep.2.2.2.2, ⟨by decide, by decide⟩⟩
theorem kQ_of_79 : CkS Q_of 79 Q_within 3 := ⟨lQ_79, mQ_within.1, mQ_within.2.1, mQ_within.2.2.1, mQ_within.2.2.2, ⟨by decide, by decide⟩⟩
theorem kQ_of_75 : CkV Q_of 75 Q_finding 1 := ⟨lQ_75, mQ_finding.1, mQ_finding.2.1, mQ_finding.2.2.1, mQ_finding.2.2.2.1, mQ_finding.2.2.2.2, ⟨by decide, by decide⟩⟩
theorem kQ_of_122 : CkV Q_of 122 Q_far 1 := ⟨lQ_122, mQ_far.1, mQ_far.2.1, mQ_far.2.2.1, mQ_far.2.2.2.1, mQ_far.2.2.2.2, ⟨by decide, by decide⟩⟩
theorem kQ_of_125 : CkV Q_of 125 Q_strays 1 := ⟨lQ_125, mQ_strays.1, mQ_strays.2.1, mQ_strays.2.2.1, mQ_strays.2.2.2.1, mQ_strays.2.2.2.2, ⟨by decide, by decide⟩⟩
theorem kQ_of_128 : CkV Q_of 128 Q_fears 1 := ⟨lQ_128, mQ_fears.1, mQ_fears.2.1, mQ_fears.2.2.1, mQ_fears.2.2.2.1, mQ_fears.2.2.2.2, ⟨by decide, by decide⟩⟩
theorem kQ_of_131 : CkV Q_of 131 Q_calms 1 := ⟨lQ_131, mQ_calms.1, mQ_calms.2.1, mQ_calms.2.2.1, mQ_calms.2.2.2.1, mQ_calms.2.2.2.2, ⟨by decide, by decide⟩⟩
theorem kQ_of_134 : CkV Q_of 134 Q_light 1 := ⟨lQ_134, mQ_light.1, mQ_light.2.1, mQ_light.2.2.1, mQ_light.2.2.2.1, mQ_light.2.2.2.2, ⟨by decide, by decide⟩⟩
theorem kQ_of_108 : CkV Q_of 108 Q_sheepIs 2 := ⟨lQ_108, mQ_sheepIs.1, mQ_sheepIs.2.1, mQ_sheepIs.2.2.1, mQ_sheepIs.2.2.2.1, mQ_sheepIs.2.2.2.2, ⟨by decide, by decide⟩⟩
theorem kQ_isSheep_79 : CkS Q_isSheep 79 Q_within 3 := ⟨lQ_79, mQ_within.1, mQ_within.2.1, mQ_within.2.2.1, mQ_within.2.2.2, ⟨by decide, by decide⟩⟩
theorem kQ_far_108 : CkV Q_far 108 Q_sheepIs 2 := ⟨lQ_108, mQ_sheepIs.1, mQ_sheepIs.2.1, mQ_sheepIs.2.2.1, mQ_sheepIs.2.2.2.1, mQ_sheepIs.2.2.2.2, ⟨by decide, by decide⟩⟩
theorem kQ_far_111 : CkS Q_far 111 JM_abs 1 := ⟨lQ_111, mJM_abs.1, mJM_abs.2.1, mJM_abs.2.2.1, mJM_abs.2.2.2, ⟨by decide, by decide⟩⟩
theorem kQ_sheepIs_83 : CkS Q_sheepIs 83 Q_sheepAt 2 := ⟨lQ_83, mQ_sheepAt.1, mQ_sheepAt.2.1, mQ_sheepAt.2.2.1, mQ_sheepAt.2.2.2, ⟨by decide, by decide⟩⟩
theorem kQ_strays_108 : CkV Q_strays 108 Q_sheepIs 2 := ⟨lQ_108, mQ_sheepIs.1, mQ_sheepIs.2.1, mQ_sheepIs.2.2.1, mQ_sheepIs.2.2.2.1, mQ_sheepIs.2.2.2.2, ⟨by decide, by decide⟩⟩
theorem kQ_strays_116 : CkV Q_strays 116 Q_isAlone 1 := ⟨lQ_116, mQ_isAlone.1, mQ_isAlone.2.1, mQ_isAlone.2.2.1, mQ_isAlone.2.2.2.1, mQ_isAlone.2.2.2.2, ⟨by decide, by decide⟩⟩
theorem kQ_isAlone_108 : CkV Q_isAlone 108 Q_sheepIs 2 := ⟨lQ_108, mQ_sheepIs.1, mQ_sheepIs.2.1, mQ_sheepIs.2.2.1, mQ_sheepIs.2.2.2.1, mQ_sheepIs.2.2.2.2, ⟨by decide, by decide⟩⟩
theorem kQ_fears_108 : CkV Q_fears 108 Q_sheepIs 2 := ⟨lQ_108, mQ_sheepIs.1, mQ_sheepIs.2.1, mQ_sheepIs.2.2.1, mQ_sheepIs.2.2.2.1, mQ_sheepIs.2.2.2.2, ⟨by decide, by decide⟩⟩
theorem kQ_calms_108 : CkV Q_calms 108 Q_sheepIs 2 := ⟨lQ_108, mQ_sheepIs.1, mQ_sheepIs.2.1, mQ_sheepIs.2.2.1, mQ_sheepIs.2.2.2.1, mQ_sheepIs.2.2.2.2, ⟨by decide, by decide⟩⟩
theorem kQ_light_108 : CkV Q_light 108 Q_sheepIs 2 := ⟨lQ_108, mQ_sheepIs.1, mQ_sheepIs.2.1, mQ_sheepIs.2.2.1, mQ_sheepIs.2.2.2.1, mQ_sheepIs.2.2.2.2, ⟨by decide, by decide⟩⟩
theorem kQ_change_119 : CkV Q_change 119 Q_isSheep 1 := ⟨lQ_119, mQ_isSheep.1, mQ_isSheep.2.1, mQ_isSheep.2.2.1, mQ_isSheep.2.2.2.1, mQ_isSheep.2.2.2.2, ⟨by decide, by decide⟩⟩
theorem kQ_change_137 : CkS Q_change 137 Q_isField 2 := ⟨lQ_137, mQ_isField.1, mQ_isField.2.1, mQ_isField.2.2.1, mQ_isField.2.2.2, ⟨by decide, by decide⟩⟩
theorem kQ_change_75 : CkV Q_change 75 Q_finding 1 := ⟨lQ_75, mQ_finding.1, mQ_finding.2.1, mQ_finding.2.2.1, mQ_finding.2.2.2.1, mQ_finding.2.2.2.2, ⟨by decide, by decide⟩⟩
theorem kQ_change_83 : CkS Q_change 83 Q_sheepAt 2 := ⟨lQ_83, mQ_sheepAt.1, mQ_sheepAt.2.1, mQ_sheepAt.2.2.1, mQ_sheepAt.2.2.2, ⟨by decide, by decide⟩⟩
theorem kQ_change_98 : CkV Q_change 98 Q_become 2 := ⟨lQ_98, mQ_become.1, mQ_become.2.1, mQ_become.2.2.1, mQ_become.2.2.2.1, mQ_become.2.2.2.2, ⟨by decide, by decide⟩⟩
theorem kQ_isField_101 : CkS Q_isField 101 Q_isKind 1 := ⟨lQ_101, mQ_isKind.1, mQ_isKind.2.1, mQ_isKind.2.2.1, mQ_isKind.2.2.2, ⟨by decide, by decide⟩⟩
theorem kQ_isField_91 : CkS Q_isField 91 Q_isCell 1 := ⟨lQ_91, mQ_isCell.1, mQ_isCell.2.1, mQ_isCell.2.2.1, mQ_isCell.2.2.2, ⟨by decide, by decide⟩⟩
theorem kQ_isField_79 : CkS Q_isField 79 Q_within 3 := ⟨lQ_79, mQ_within.1, mQ_within.2.1, mQ_within.2.2.1, mQ_within.2.2.2, ⟨by decide, by decide⟩⟩
theorem kQ_drop_142 : CkV Q_drop 142 Q_orNone 1 := ⟨lQ_142, mQ_orNone.1, mQ_orNone.2.1, mQ_orNone.2.2.1, mQ_orNone.2.2.2.1, mQ_orNone.2.2.2.2, ⟨by decide, by decide⟩⟩
theorem kQ_orNone_75 : CkV Q_orNone 75 Q_finding 1 := ⟨lQ_75, mQ_finding.1, mQ_finding.2.1, mQ_finding.2.2.1, mQ_finding.2.2.2.1, mQ_finding.2.2.2.2, ⟨by decide, by decide⟩⟩
theorem kQ_who_91 : CkS Q_who 91 Q_isCell 1 := ⟨lQ_91, mQ_isCell.1, mQ_isCell.2.1, mQ_isCell.2.2.1, mQ_isCell.2.2.2, ⟨by decide, by decide⟩⟩
theorem kQ_who_145 : CkV Q_who 145 Q_setAt 1 := ⟨lQ_145, mQ_setAt.1, mQ_setAt.2.1, mQ_setAt.2.2.1, mQ_setAt.2.2.2.1, mQ_setAt.2.2.2.2, ⟨by decide, by decide⟩⟩
theorem kQ_who_75 : CkV Q_who 75 Q_finding 1 := ⟨lQ_75, mQ_finding.1, mQ_finding.2.1, mQ_finding.2.2.1, mQ_finding.2.2.2.1, mQ_finding.2.2.2.2, ⟨by decide, by decide⟩⟩
theorem kQ_setAt_108 : CkV Q_setAt 108 Q_sheepIs 2 := ⟨lQ_108, mQ_sheepIs.1, mQ_sheepIs.2.1, mQ_sheepIs.2.2.1, mQ_sheepIs.2.2.2.1, mQ_sheepIs.2.2.2.2, ⟨by decide, by decide⟩⟩
theorem kQ_go_79 : CkS Q_go 79 Q_within 3 := ⟨lQ_79, mQ_within.1, mQ_within.2.1, mQ_within.2.2.1, mQ_within.2.2.2, ⟨by decide, by decide⟩⟩
theorem kQ_go_75 : CkV Q_go 75 Q_finding 1 := ⟨lQ_75, mQ_finding.1, mQ_finding.2.1, mQ_finding.2.2.1, mQ_finding.2.2.2.1, mQ_finding.2.2.2.2, ⟨by decide, by decide⟩⟩
theorem kQ_go_191 : CkV Q_go 191 Q_hoursGo 1 := ⟨lQ_191, mQ_hoursGo.1, mQ_hoursGo.2.1, mQ_hoursGo.2.2.1, mQ_hoursGo.2.2.2.1, mQ_hoursGo.2.2.2.2, ⟨by decide, by decide⟩⟩
theorem kQ_go_194 : CkV Q_go 194 Q_sumOf 1 := ⟨lQ_194, mQ_sumOf.1, mQ_sumOf.2.1, mQ_sumOf.2.2.1, mQ_sumOf.2.2.2.1, mQ_sumOf.2.2.2.2, ⟨by decide, by decide⟩⟩
theorem kQ_hoursGo_187 : CkV Q_hoursGo 187 Q_hour 0 := ⟨lQ_187, mQ_hour.1, mQ_hour.2.1, mQ_hour.2.2.1, mQ_hour.2.2.2.1, mQ_hour.2.2.2.2, ⟨by decide, by decide⟩⟩
theorem kQ_hour_175 : CkV Q_hour 175 Q_sheepGo 0 := ⟨lQ_175, mQ_sheepGo.1, mQ_sheepGo.2.1, mQ_sheepGo.2.2.1, mQ_sheepGo.2.2.2.1, mQ_sheepGo.2.2.2.2, ⟨by decide, by decide⟩⟩
theorem kQ_hour_178 : CkV Q_hour 178 Q_wolfGoes 0 := ⟨lQ_178, mQ_wolfGoes.1, mQ_wolfGoes.2.1, mQ_wolfGoes.2.2.1, mQ_wolfGoes.2.2.2.1, mQ_wolfGoes.2.2.2.2, ⟨by decide, by decide⟩⟩
theorem kQ_hour_181 : CkV Q_hour 181 Q_carries 0 := ⟨lQ_181, mQ_carries.1, mQ_carries.2.1, mQ_carries.2.2.1, mQ_carries.2.2.2.1, mQ_carries.2.2.2.2, ⟨by decide, by decide⟩⟩
theorem kQ_hour_184 : CkV Q_hour 184 Q_seeks 0 := ⟨lQ_184, mQ_seeks.1, mQ_seeks.2.1, mQ_seeks.2.2.1, mQ_seeks.2.2.2.1, mQ_seeks.2.2.2.2, ⟨by decide, by decide⟩⟩
theorem kQ_hour_83 : CkS Q_hour 83 Q_sheepAt 2 := ⟨lQ_83, mQ_sheepAt.1, mQ_sheepAt.2.1, mQ_sheepAt.2.2.1, mQ_sheepAt.2.2.2, ⟨by decide, by decide⟩⟩
theorem kQ_hour_122 : CkV Q_hour 122 Q_far 1 := ⟨lQ_122, mQ_far.1, mQ_far.2.1, mQ_far.2.2.1, mQ_far.2.2.2.1, mQ_far.2.2.2.2, ⟨by decide, by decide⟩⟩
theorem kQ_hour_108 : CkV Q_hour 108 Q_sheepIs 2 := ⟨lQ_108, mQ_sheepIs.1, mQ_sheepIs.2.1, mQ_sheepIs.2.2.1, mQ_sheepIs.2.2.2.1, mQ_sheepIs.2.2.2.2, ⟨by decide, by decide⟩⟩
theorem kQ_hour_148 : CkS Q_hour 148 JM_min 2 := ⟨lQ_148, mJM_min.1, mJM_min.2.1, mJM_min.2.2.1, mJM_min.2.2.2, ⟨by decide, by decide⟩⟩
theorem kQ_hour_131 : CkV Q_hour 131 Q_calms 1 := ⟨lQ_131, mQ_calms.1, mQ_calms.2.1, mQ_calms.2.2.1, mQ_calms.2.2.2.1, mQ_calms.2.2.2.2, ⟨by decide, by decide⟩⟩
theorem kQ_hour_151 : CkS Q_hour 151 JM_max 2 := ⟨lQ_151, mJM_max.1, mJM_max.2.1, mJM_max.2.2.1, mJM_max.2.2.2, ⟨by decide, by decide⟩⟩
theorem kQ_sheepGo_125 : CkV Q_sheepGo 125 Q_strays 1 := ⟨lQ_125, mQ_strays.1, mQ_strays.2.1, mQ_strays.2.2.1, mQ_strays.2.2.2.1, mQ_strays.2.2.2.2, ⟨by decide, by decide⟩⟩
theorem kQ_sheepGo_108 : CkV Q_sheepGo 108 Q_sheepIs 2 := ⟨lQ_108, mQ_sheepIs.1, mQ_sheepIs.2.1, mQ_sheepIs.2.2.1, mQ_sheepIs.2.2.2.1, mQ_sheepIs.2.2.2.2, ⟨by decide, by decide⟩⟩
theorem kQ_sheepGo_158 : CkS Q_sheepGo 158 Q_hasBit 2 := ⟨lQ_158, mQ_hasBit.1, mQ_hasBit.2.1, mQ_hasBit.2.2.1, mQ_hasBit.2.2.2, ⟨by decide, by decide⟩⟩
theorem kQ_sheepGo_83 : CkS Q_sheepGo 83 Q_sheepAt 2 := ⟨lQ_83, mQ_sheepAt.1, mQ_sheepAt.2.1, mQ_sheepAt.2.2.1, mQ_sheepAt.2.2.2, ⟨by decide, by decide⟩⟩
theorem kQ_sheepGo_161 : CkS Q_sheepGo 161 Q_towards 3 := ⟨lQ_161, mQ_towards.1, mQ_towards.2.1, mQ_towards.2.2.1, mQ_towards.2.2.2, ⟨by decide, by decide⟩⟩
theorem kQ_sheepGo_165 : CkV Q_sheepGo 165 Q_awayFrom 2 := ⟨lQ_165, mQ_awayFrom.1, mQ_awayFrom.2.1, mQ_awayFrom.2.2.1, mQ_awayFrom.2.2.2.1, mQ_awayFrom.2.2.2.2, ⟨by decide, by decide⟩⟩
theorem kQ_towards_148 : CkS Q_towards 148 JM_min 2 := ⟨lQ_148, mJM_min.1, mJM_min.2.1, mJM_min.2.2.1, mJM_min.2.2.2, ⟨by decide, by decide⟩⟩
theorem kQ_towards_151 : CkS Q_towards 151 JM_max 2 := ⟨lQ_151, mJM_max.1, mJM_max.2.1, mJM_max.2.2.1, mJM_max.2.2.2, ⟨by decide, by decide⟩⟩
theorem kQ_awayFrom_148 : CkS Q_awayFrom 148 JM_min 2 := ⟨lQ_148, mJM_min.1, mJM_min.2.1, mJM_min.2.2.1, mJM_min.2.2.2, ⟨by decide, by decide⟩⟩
theorem kQ_awayFrom_151 : CkS Q_awayFrom 151 JM_max 2 := ⟨lQ_151, mJM_max.1, mJM_max.2.1, mJM_max.2.2.1, mJM_max.2.2.2, ⟨by decide, by decide⟩⟩
theorem kQ_wolfGoes_111 : CkS Q_wolfGoes 111 JM_abs 1 := ⟨lQ_111, mJM_abs.1, mJM_abs.2.1, mJM_abs.2.2.1, mJM_abs.2.2.2, ⟨by decide, by decide⟩⟩
theorem kQ_wolfGoes_168 : CkV Q_wolfGoes 168 Q_nearest 0 := ⟨lQ_168, mQ_nearest.1, mQ_nearest.2.1, mQ_nearest.2.2.1, mQ_nearest.2.2.2.1, mQ_nearest.2.2.2.2, ⟨by decide, by decide⟩⟩
theorem kQ_wolfGoes_108 : CkV Q_wolfGoes 108 Q_sheepIs 2 := ⟨lQ_108, mQ_sheepIs.1, mQ_sheepIs.2.1, mQ_sheepIs.2.2.1, mQ_sheepIs.2.2.2.1, mQ_sheepIs.2.2.2.2, ⟨by decide, by decide⟩⟩
theorem kQ_wolfGoes_161 : CkS Q_wolfGoes 161 Q_towards 3 := ⟨lQ_161, mQ_towards.1, mQ_towards.2.1, mQ_towards.2.2.1, mQ_towards.2.2.2, ⟨by decide, by decide⟩⟩
theorem kQ_wolfGoes_128 : CkV Q_wolfGoes 128 Q_fears 1 := ⟨lQ_128, mQ_fears.1, mQ_fears.2.1, mQ_fears.2.2.1, mQ_fears.2.2.2.1, mQ_fears.2.2.2.2, ⟨by decide, by decide⟩⟩
theorem kQ_wolfGoes_83 : CkS Q_wolfGoes 83 Q_sheepAt 2 := ⟨lQ_83, mQ_sheepAt.1, mQ_sheepAt.2.1, mQ_sheepAt.2.2.1, mQ_sheepAt.2.2.2, ⟨by decide, by decide⟩⟩
theorem kQ_wolfGoes_148 : CkS Q_wolfGoes 148 JM_min 2 := ⟨lQ_148, mJM_min.1, mJM_min.2.1, mJM_min.2.2.1, mJM_min.2.2.2, ⟨by decide, by decide⟩⟩
theorem kQ_nearest_108 : CkV Q_nearest 108 Q_sheepIs 2 := ⟨lQ_108, mQ_sheepIs.1, mQ_sheepIs.2.1, mQ_sheepIs.2.2.1, mQ_sheepIs.2.2.2.1, mQ_sheepIs.2.2.2.2, ⟨by decide, by decide⟩⟩
theorem kQ_nearest_111 : CkS Q_nearest 111 JM_abs 1 := ⟨lQ_111, mJM_abs.1, mJM_abs.2.1, mJM_abs.2.2.1, mJM_abs.2.2.2, ⟨by decide, by decide⟩⟩
theorem kQ_nearest_148 : CkS Q_nearest 148 JM_min 2 := ⟨lQ_148, mJM_min.1, mJM_min.2.1, mJM_min.2.2.1, mJM_min.2.2.2, ⟨by decide, by decide⟩⟩
theorem kQ_carries_134 : CkV Q_carries 134 Q_light 1 := ⟨lQ_134, mQ_light.1, mQ_light.2.1, mQ_light.2.2.1, mQ_light.2.2.2.1, mQ_light.2.2.2.2, ⟨by decide, by decide⟩⟩
theorem kQ_carries_161 : CkS Q_carries 161 Q_towards 3 := ⟨lQ_161, mQ_towards.1, mQ_towards.2.1, mQ_towards.2.2.1, mQ_towards.2.2.2, ⟨by decide, by decide⟩⟩
theorem kQ_carries_87 : CkV Q_carries 87 Q_keeperAt 1 := ⟨lQ_87, mQ_keeperAt.1, mQ_keeperAt.2.1, mQ_keeperAt.2.2.1, mQ_keeperAt.2.2.2.1, mQ_keeperAt.2.2.2.2, ⟨by decide, by decide⟩⟩
theorem kQ_carries_83 : CkS Q_carries 83 Q_sheepAt 2 := ⟨lQ_83, mQ_sheepAt.1, mQ_sheepAt.2.1, mQ_sheepAt.2.2.1, mQ_sheepAt.2.2.2, ⟨by decide, by decide⟩⟩
theorem kQ_carries_108 : CkV Q_carries 108 Q_sheepIs 2 := ⟨lQ_108, mQ_sheepIs.1, mQ_sheepIs.2.1, mQ_sheepIs.2.2.1, mQ_sheepIs.2.2.2.1, mQ_sheepIs.2.2.2.2, ⟨by decide, by decide⟩⟩
theorem kQ_carries_148 : CkS Q_carries 148 JM_min 2 := ⟨lQ_148, mJM_min.1, mJM_min.2.1, mJM_min.2.2.1, mJM_min.2.2.2, ⟨by decide, by decide⟩⟩
theorem kQ_seeks_172 : CkV Q_seeks 172 Q_sought 0 := ⟨lQ_172, mQ_sought.1, mQ_sought.2.1, mQ_sought.2.2.1, mQ_sought.2.2.2.1, mQ_sought.2.2.2.2, ⟨by decide, by decide⟩⟩
theorem kQ_seeks_108 : CkV Q_seeks 108 Q_sheepIs 2 := ⟨lQ_108, mQ_sheepIs.1, mQ_sheepIs.2.1, mQ_sheepIs.2.2.1, mQ_sheepIs.2.2.2.1, mQ_sheepIs.2.2.2.2, ⟨by decide, by decide⟩⟩
theorem kQ_seeks_161 : CkS Q_seeks 161 Q_towards 3 := ⟨lQ_161, mQ_towards.1, mQ_towards.2.1, mQ_towards.2.2.1, mQ_towards.2.2.2, ⟨by decide, by decide⟩⟩
theorem kQ_sought_122 : CkV Q_sought 122 Q_far 1 := ⟨lQ_122, mQ_far.1, mQ_far.2.1, mQ_far.2.2.1, mQ_far.2.2.2.1, mQ_far.2.2.2.2, ⟨by decide, by decide⟩⟩
theorem kQ_sought_151 : CkS Q_sought 151 JM_max 2 := ⟨lQ_151, mJM_max.1, mJM_max.2.1, mJM_max.2.2.1, mJM_max.2.2.2, ⟨by decide, by decide⟩⟩
theorem kQ_sumOf_108 : CkV Q_sumOf 108 Q_sheepIs 2 := ⟨lQ_108, mQ_sheepIs.1, mQ_sheepIs.2.1, mQ_sheepIs.2.2.1, mQ_sheepIs.2.2.2.1, mQ_sheepIs.2.2.2.2, ⟨by decide, by decide⟩⟩
theorem kQ_now_197 : CkV Q_now 197 Q_lostSet 0 := ⟨lQ_197, mQ_lostSet.1, mQ_lostSet.2.1, mQ_lostSet.2.2.1, mQ_lostSet.2.2.2.1, mQ_lostSet.2.2.2.2, ⟨by decide, by decide⟩⟩
theorem kQ_now_194 : CkV Q_now 194 Q_sumOf 1 := ⟨lQ_194, mQ_sumOf.1, mQ_sumOf.2.1, mQ_sumOf.2.2.1, mQ_sumOf.2.2.2.1, mQ_sumOf.2.2.2.2, ⟨by decide, by decide⟩⟩
theorem kQ_now_172 : CkV Q_now 172 Q_sought 0 := ⟨lQ_172, mQ_sought.1, mQ_sought.2.1, mQ_sought.2.2.1, mQ_sought.2.2.2.1, mQ_sought.2.2.2.2, ⟨by decide, by decide⟩⟩
theorem kQ_now_145 : CkV Q_now 145 Q_setAt 1 := ⟨lQ_145, mQ_setAt.1, mQ_setAt.2.1, mQ_setAt.2.2.1, mQ_setAt.2.2.2.1, mQ_setAt.2.2.2.2, ⟨by decide, by decide⟩⟩
theorem kQ_now_200 : CkV Q_now 200 Q_mostAfraid 0 := ⟨lQ_200, mQ_mostAfraid.1, mQ_mostAfraid.2.1, mQ_mostAfraid.2.2.1, mQ_mostAfraid.2.2.2.1, mQ_mostAfraid.2.2.2.2, ⟨by decide, by decide⟩⟩
theorem kQ_now_75 : CkV Q_now 75 Q_finding 1 := ⟨lQ_75, mQ_finding.1, mQ_finding.2.1, mQ_finding.2.2.1, mQ_finding.2.2.2.1, mQ_finding.2.2.2.2, ⟨by decide, by decide⟩⟩
theorem kQ_lostSet_122 : CkV Q_lostSet 122 Q_far 1 := ⟨lQ_122, mQ_far.1, mQ_far.2.1, mQ_far.2.2.1, mQ_far.2.2.2.1, mQ_far.2.2.2.2, ⟨by decide, by decide⟩⟩
theorem kQ_mostAfraid_108 : CkV Q_mostAfraid 108 Q_sheepIs 2 := ⟨lQ_108, mQ_sheepIs.1, mQ_sheepIs.2.1, mQ_sheepIs.2.2.1, mQ_sheepIs.2.2.2.1, mQ_sheepIs.2.2.2.2, ⟨by decide, by decide⟩⟩
theorem kQ_mostAfraid_151 : CkS Q_mostAfraid 151 JM_max 2 := ⟨lQ_151, mJM_max.1, mJM_max.2.1, mJM_max.2.2.1, mJM_max.2.2.2, ⟨by decide, by decide⟩⟩
theorem kQ_ahead_119 : CkV Q_ahead 119 Q_isSheep 1 := ⟨lQ_119, mQ_isSheep.1, mQ_isSheep.2.1, mQ_isSheep.2.2.1, mQ_isSheep.2.2.2.1, mQ_isSheep.2.2.2.2, ⟨by decide, by decide⟩⟩
theorem kQ_ahead_79 : CkS Q_ahead 79 Q_within 3 := ⟨lQ_79, mQ_within.1, mQ_within.2.1, mQ_within.2.2.1, mQ_within.2.2.2, ⟨by decide, by decide⟩⟩
theorem kQ_ahead_83 : CkS Q_ahead 83 Q_sheepAt 2 := ⟨lQ_83, mQ_sheepAt.1, mQ_sheepAt.2.1, mQ_sheepAt.2.2.1, mQ_sheepAt.2.2.2, ⟨by decide, by decide⟩⟩
theorem kQ_ahead_206 : CkV Q_ahead 206 Q_behind 2 := ⟨lQ_206, mQ_behind.1, mQ_behind.2.1, mQ_behind.2.2.1, mQ_behind.2.2.2.1, mQ_behind.2.2.2.2, ⟨by decide, by decide⟩⟩
theorem kQ_ahead_75 : CkV Q_ahead 75 Q_finding 1 := ⟨lQ_75, mQ_finding.1, mQ_finding.2.1, mQ_finding.2.2.1, mQ_finding.2.2.2.1, mQ_finding.2.2.2.2, ⟨by decide, by decide⟩⟩
theorem kQ_behind_70 : CkS Q_behind 70 Q_copyRow 2 := ⟨lQ_70, mQ_copyRow.1, mQ_copyRow.2.1, mQ_copyRow.2.2.1, mQ_copyRow.2.2.2, ⟨by decide, by decide⟩⟩
theorem kQ_behind_191 : CkV Q_behind 191 Q_hoursGo 1 := ⟨lQ_191, mQ_hoursGo.1, mQ_hoursGo.2.1, mQ_hoursGo.2.2.1, mQ_hoursGo.2.2.2.1, mQ_hoursGo.2.2.2.2, ⟨by decide, by decide⟩⟩
theorem kQ_behind_203 : CkV Q_behind 203 Q_putBack 1 := ⟨lQ_203, mQ_putBack.1, mQ_putBack.2.1, mQ_putBack.2.2.1, mQ_putBack.2.2.2.1, mQ_putBack.2.2.2.2, ⟨by decide, by decide⟩⟩
theorem kQ_putBack_70 : CkS Q_putBack 70 Q_copyRow 2 := ⟨lQ_70, mQ_copyRow.1, mQ_copyRow.2.1, mQ_copyRow.2.2.1, mQ_copyRow.2.2.2, ⟨by decide, by decide⟩⟩
theorem kQ_later_79 : CkS Q_later 79 Q_within 3 := ⟨lQ_79, mQ_within.1, mQ_within.2.1, mQ_within.2.2.1, mQ_within.2.2.2, ⟨by decide, by decide⟩⟩
theorem kQ_later_206 : CkV Q_later 206 Q_behind 2 := ⟨lQ_206, mQ_behind.1, mQ_behind.2.1, mQ_behind.2.2.1, mQ_behind.2.2.2.1, mQ_behind.2.2.2.2, ⟨by decide, by decide⟩⟩
theorem kQ_later_75 : CkV Q_later 75 Q_finding 1 := ⟨lQ_75, mQ_finding.1, mQ_finding.2.1, mQ_finding.2.2.1, mQ_finding.2.2.2.1, mQ_finding.2.2.2.2, ⟨by decide, by decide⟩⟩
theorem kQ_when_119 : CkV Q_when 119 Q_isSheep 1 := ⟨lQ_119, mQ_isSheep.1, mQ_isSheep.2.1, mQ_isSheep.2.2.1, mQ_isSheep.2.2.2.1, mQ_isSheep.2.2.2.2, ⟨by decide, by decide⟩⟩
theorem kQ_when_79 : CkS Q_when 79 Q_within 3 := ⟨lQ_79, mQ_within.1, mQ_within.2.1, mQ_within.2.2.1, mQ_within.2.2.2, ⟨by decide, by decide⟩⟩
theorem kQ_when_209 : CkV Q_when 209 Q_whenIs 3 := ⟨lQ_209, mQ_whenIs.1, mQ_whenIs.2.1, mQ_whenIs.2.2.1, mQ_whenIs.2.2.2.1, mQ_whenIs.2.2.2.2, ⟨by decide, by decide⟩⟩
theorem kQ_when_75 : CkV Q_when 75 Q_finding 1 := ⟨lQ_75, mQ_finding.1, mQ_finding.2.1, mQ_finding.2.2.1, mQ_finding.2.2.2.1, mQ_finding.2.2.2.2, ⟨by decide, by decide⟩⟩
theorem kQ_whenIs_70 : CkS Q_whenIs 70 Q_copyRow 2 := ⟨lQ_70, mQ_copyRow.1, mQ_copyRow.2.1, mQ_copyRow.2.2.1, mQ_copyRow.2.2.2, ⟨by decide, by decide⟩⟩
theorem kQ_whenIs_108 : CkV Q_whenIs 108 Q_sheepIs 2 := ⟨lQ_108, mQ_sheepIs.1, mQ_sheepIs.2.1, mQ_sheepIs.2.2.1, mQ_sheepIs.2.2.2.1, mQ_sheepIs.2.2.2.2, ⟨by decide, by decide⟩⟩
theorem kQ_whenIs_187 : CkV Q_whenIs 187 Q_hour 0 := ⟨lQ_187, mQ_hour.1, mQ_hour.2.1, mQ_hour.2.2.1, mQ_hour.2.2.2.1, mQ_hour.2.2.2.2, ⟨by decide, by decide⟩⟩
theorem kQ_whenIs_203 : CkV Q_whenIs 203 Q_putBack 1 := ⟨lQ_203, mQ_putBack.1, mQ_putBack.2.1, mQ_putBack.2.2.1, mQ_putBack.2.2.2.1, mQ_putBack.2.2.2.2, ⟨by decide, by decide⟩⟩
theorem kQ_whenIs_142 : CkV Q_whenIs 142 Q_orNone 1 := ⟨lQ_142, mQ_orNone.1, mQ_orNone.2.1, mQ_orNone.2.2.1, mQ_orNone.2.2.2.1, mQ_orNone.2.2.2.2, ⟨by decide, by decide⟩⟩
theorem kQ_home_70 : CkS Q_home 70 Q_copyRow 2 := ⟨lQ_70, mQ_copyRow.1, mQ_copyRow.2.1, mQ_copyRow.2.2.1, mQ_copyRow.2.2.2, ⟨by decide, by decide⟩⟩
theorem kQ_home_212 : CkV Q_home 212 Q_areHome 0 := ⟨lQ_212, mQ_areHome.1, mQ_areHome.2.1, mQ_areHome.2.2.1, mQ_areHome.2.2.2.1, mQ_areHome.2.2.2.2, ⟨by decide, by decide⟩⟩
theorem kQ_home_187 : CkV Q_home 187 Q_hour 0 := ⟨lQ_187, mQ_hour.1, mQ_hour.2.1, mQ_hour.2.2.1, mQ_hour.2.2.2.1, mQ_hour.2.2.2.2, ⟨by decide, by decide⟩⟩
theorem kQ_home_203 : CkV Q_home 203 Q_putBack 1 := ⟨lQ_203, mQ_putBack.1, mQ_putBack.2.1, mQ_putBack.2.2.1, mQ_putBack.2.2.2.1, mQ_putBack.2.2.2.2, ⟨by decide, by decide⟩⟩
theorem kQ_home_142 : CkV Q_home 142 Q_orNone 1 := ⟨lQ_142, mQ_orNone.1, mQ_orNone.2.1, mQ_orNone.2.2.1, mQ_orNone.2.2.2.1, mQ_orNone.2.2.2.2, ⟨by decide, by decide⟩⟩
theorem kQ_areHome_145 : CkV Q_areHome 145 Q_setAt 1 := ⟨lQ_145, mQ_setAt.1, mQ_setAt.2.1, mQ_setAt.2.2.1, mQ_setAt.2.2.2.1, mQ_setAt.2.2.2.2, ⟨by decide, by decide⟩⟩
theorem kQ_panic_119 : CkV Q_panic 119 Q_isSheep 1 := ⟨lQ_119, mQ_isSheep.1, mQ_isSheep.2.1, mQ_isSheep.2.2.1, mQ_isSheep.2.2.2.1, mQ_isSheep.2.2.2.2, ⟨by decide, by decide⟩⟩
theorem kQ_panic_79 : CkS Q_panic 79 Q_within 3 := ⟨lQ_79, mQ_within.1, mQ_within.2.1, mQ_within.2.2.1, mQ_within.2.2.2, ⟨by decide, by decide⟩⟩
theorem kQ_panic_209 : CkV Q_panic 209 Q_whenIs 3 := ⟨lQ_209, mQ_whenIs.1, mQ_whenIs.2.1, mQ_whenIs.2.2.1, mQ_whenIs.2.2.2.1, mQ_whenIs.2.2.2.2, ⟨by decide, by decide⟩⟩
theorem kQ_panic_75 : CkV Q_panic 75 Q_finding 1 := ⟨lQ_75, mQ_finding.1, mQ_finding.2.1, mQ_finding.2.2.1, mQ_finding.2.2.2.1, mQ_finding.2.2.2.2, ⟨by decide, by decide⟩⟩
theorem kQ_standFor_219 : CkS Q_standFor 219 Q_isThought 1 := ⟨lQ_219, mQ_isThought.1, mQ_isThought.2.1, mQ_isThought.2.2.1, mQ_isThought.2.2.2, ⟨by decide, by decide⟩⟩
theorem kQ_standFor_75 : CkV Q_standFor 75 Q_finding 1 := ⟨lQ_75, mQ_finding.1, mQ_finding.2.1, mQ_finding.2.2.1, mQ_finding.2.2.2.1, mQ_finding.2.2.2.2, ⟨by decide, by decide⟩⟩
theorem kQ_standFor_222 : CkV Q_standFor 222 Q_leastFor 3 := ⟨lQ_222, mQ_leastFor.1, mQ_leastFor.2.1, mQ_leastFor.2.2.1, mQ_leastFor.2.2.2.1, mQ_leastFor.2.2.2.2, ⟨by decide, by decide⟩⟩
theorem kQ_isThought_79 : CkS Q_isThought 79 Q_within 3 := ⟨lQ_79, mQ_within.1, mQ_within.2.1, mQ_within.2.2.1, mQ_within.2.2.2, ⟨by decide, by decide⟩⟩
theorem kQ_leastFor_216 : CkV Q_leastFor 216 Q_sumBehind 2 := ⟨lQ_216, mQ_sumBehind.1, mQ_sumBehind.2.1, mQ_sumBehind.2.2.1, mQ_sumBehind.2.2.2.1, mQ_sumBehind.2.2.2.2, ⟨by decide, by decide⟩⟩
theorem kQ_leastFor_148 : CkS Q_leastFor 148 JM_min 2 := ⟨lQ_148, mJM_min.1, mJM_min.2.1, mJM_min.2.2.1, mJM_min.2.2.2, ⟨by decide, by decide⟩⟩
theorem kQ_sumBehind_70 : CkS Q_sumBehind 70 Q_copyRow 2 := ⟨lQ_70, mQ_copyRow.1, mQ_copyRow.2.1, mQ_copyRow.2.2.1, mQ_copyRow.2.2.2, ⟨by decide, by decide⟩⟩
theorem kQ_sumBehind_191 : CkV Q_sumBehind 191 Q_hoursGo 1 := ⟨lQ_191, mQ_hoursGo.1, mQ_hoursGo.2.1, mQ_hoursGo.2.2.1, mQ_hoursGo.2.2.2.1, mQ_hoursGo.2.2.2.2, ⟨by decide, by decide⟩⟩
theorem kQ_sumBehind_194 : CkV Q_sumBehind 194 Q_sumOf 1 := ⟨lQ_194, mQ_sumOf.1, mQ_sumOf.2.1, mQ_sumOf.2.2.1, mQ_sumOf.2.2.2.1, mQ_sumOf.2.2.2.2, ⟨by decide, by decide⟩⟩
theorem kQ_sumBehind_203 : CkV Q_sumBehind 203 Q_putBack 1 := ⟨lQ_203, mQ_putBack.1, mQ_putBack.2.1, mQ_putBack.2.2.1, mQ_putBack.2.2.2.1, mQ_putBack.2.2.2.2, ⟨by decide, by decide⟩⟩
theorem kQ_foldFor_219 : CkS Q_foldFor 219 Q_isThought 1 := ⟨lQ_219, mQ_isThought.1, mQ_isThought.2.1, mQ_isThought.2.2.1, mQ_isThought.2.2.2, ⟨by decide, by decide⟩⟩
theorem kQ_foldFor_222 : CkV Q_foldFor 222 Q_leastFor 3 := ⟨lQ_222, mQ_leastFor.1, mQ_leastFor.2.1, mQ_leastFor.2.2.1, mQ_leastFor.2.2.2.1, mQ_leastFor.2.2.2.2, ⟨by decide, by decide⟩⟩
theorem kQ_foldFor_75 : CkV Q_foldFor 75 Q_finding 1 := ⟨lQ_75, mQ_finding.1, mQ_finding.2.1, mQ_finding.2.2.1, mQ_finding.2.2.2.1, mQ_finding.2.2.2.2, ⟨by decide, by decide⟩⟩
theorem kQ_kindFor_119 : CkV Q_kindFor 119 Q_isSheep 1 := ⟨lQ_119, mQ_isSheep.1, mQ_isSheep.2.1, mQ_isSheep.2.2.1, mQ_isSheep.2.2.2.1, mQ_isSheep.2.2.2.2, ⟨by decide, by decide⟩⟩
theorem kQ_kindFor_219 : CkS Q_kindFor 219 Q_isThought 1 := ⟨lQ_219, mQ_isThought.1, mQ_isThought.2.1, mQ_isThought.2.2.1, mQ_isThought.2.2.2, ⟨by decide, by decide⟩⟩
theorem kQ_kindFor_75 : CkV Q_kindFor 75 Q_finding 1 := ⟨lQ_75, mQ_finding.1, mQ_finding.2.1, mQ_finding.2.2.1, mQ_finding.2.2.2.1, mQ_finding.2.2.2.2, ⟨by decide, by decide⟩⟩
theorem kQ_kindFor_83 : CkS Q_kindFor 83 Q_sheepAt 2 := ⟨lQ_83, mQ_sheepAt.1, mQ_sheepAt.2.1, mQ_sheepAt.2.2.1, mQ_sheepAt.2.2.2, ⟨by decide, by decide⟩⟩
theorem kQ_kindFor_206 : CkV Q_kindFor 206 Q_behind 2 := ⟨lQ_206, mQ_behind.1, mQ_behind.2.1, mQ_behind.2.2.1, mQ_behind.2.2.2.1, mQ_behind.2.2.2.2, ⟨by decide, by decide⟩⟩
theorem kQ_kindFor_151 : CkS Q_kindFor 151 JM_max 2 := ⟨lQ_151, mJM_max.1, mJM_max.2.1, mJM_max.2.2.1, mJM_max.2.2.2, ⟨by decide, by decide⟩⟩
theorem kQ_paceFor_79 : CkS Q_paceFor 79 Q_within 3 := ⟨lQ_79, mQ_within.1, mQ_within.2.1, mQ_within.2.2.1, mQ_within.2.2.2, ⟨by decide, by decide⟩⟩
theorem kQ_paceFor_219 : CkS Q_paceFor 219 Q_isThought 1 := ⟨lQ_219, mQ_isThought.1, mQ_isThought.2.1, mQ_isThought.2.2.1, mQ_isThought.2.2.2, ⟨by decide, by decide⟩⟩
theorem kQ_paceFor_75 : CkV Q_paceFor 75 Q_finding 1 := ⟨lQ_75, mQ_finding.1, mQ_finding.2.1, mQ_finding.2.2.1, mQ_finding.2.2.2.1, mQ_finding.2.2.2.2, ⟨by decide, by decide⟩⟩
theorem kQ_paceFor_216 : CkV Q_paceFor 216 Q_sumBehind 2 := ⟨lQ_216, mQ_sumBehind.1, mQ_sumBehind.2.1, mQ_sumBehind.2.2.1, mQ_sumBehind.2.2.2.1, mQ_sumBehind.2.2.2.2, ⟨by decide, by decide⟩⟩
theorem kQ_paceFor_142 : CkV Q_paceFor 142 Q_orNone 1 := ⟨lQ_142, mQ_orNone.1, mQ_orNone.2.1, mQ_orNone.2.2.1, mQ_orNone.2.2.2.1, mQ_orNone.2.2.2.2, ⟨by decide, by decide⟩⟩
theorem kQ_tether_79 : CkS Q_tether 79 Q_within 3 := ⟨lQ_79, mQ_within.1, mQ_within.2.1, mQ_within.2.2.1, mQ_within.2.2.2, ⟨by decide, by decide⟩⟩
theorem kQ_tether_75 : CkV Q_tether 75 Q_finding 1 := ⟨lQ_75, mQ_finding.1, mQ_finding.2.1, mQ_finding.2.2.1, mQ_finding.2.2.2.1, mQ_finding.2.2.2.2, ⟨by decide, by decide⟩⟩
theorem kQ_tether_225 : CkV Q_tether 225 Q_areNear 2 := ⟨lQ_225, mQ_areNear.1, mQ_areNear.2.1, mQ_areNear.2.2.1, mQ_areNear.2.2.2.1, mQ_areNear.2.2.2.2, ⟨by decide, by decide⟩⟩
theorem kQ_tether_228 : CkS Q_tether 228 Q_bits 1 := ⟨lQ_228, mQ_bits.1, mQ_bits.2.1, mQ_bits.2.2.1, mQ_bits.2.2.2, ⟨by decide, by decide⟩⟩
theorem kQ_tether_142 : CkV Q_tether 142 Q_orNone 1 := ⟨lQ_142, mQ_orNone.1, mQ_orNone.2.1, mQ_orNone.2.2.1, mQ_orNone.2.2.2.1, mQ_orNone.2.2.2.2, ⟨by decide, by decide⟩⟩
theorem kQ_areNear_70 : CkS Q_areNear 70 Q_copyRow 2 := ⟨lQ_70, mQ_copyRow.1, mQ_copyRow.2.1, mQ_copyRow.2.2.1, mQ_copyRow.2.2.2, ⟨by decide, by decide⟩⟩
theorem kQ_areNear_191 : CkV Q_areNear 191 Q_hoursGo 1 := ⟨lQ_191, mQ_hoursGo.1, mQ_hoursGo.2.1, mQ_hoursGo.2.2.1, mQ_hoursGo.2.2.2.1, mQ_hoursGo.2.2.2.2, ⟨by decide, by decide⟩⟩
theorem kQ_areNear_197 : CkV Q_areNear 197 Q_lostSet 0 := ⟨lQ_197, mQ_lostSet.1, mQ_lostSet.2.1, mQ_lostSet.2.2.1, mQ_lostSet.2.2.2.1, mQ_lostSet.2.2.2.2, ⟨by decide, by decide⟩⟩
theorem kQ_fits_119 : CkV Q_fits 119 Q_isSheep 1 := ⟨lQ_119, mQ_isSheep.1, mQ_isSheep.2.1, mQ_isSheep.2.2.1, mQ_isSheep.2.2.2.1, mQ_isSheep.2.2.2.2, ⟨by decide, by decide⟩⟩
theorem kQ_fits_238 : CkV Q_fits 238 Q_lacks 2 := ⟨lQ_238, mQ_lacks.1, mQ_lacks.2.1, mQ_lacks.2.2.1, mQ_lacks.2.2.2.1, mQ_lacks.2.2.2.2, ⟨by decide, by decide⟩⟩
theorem kQ_fits_75 : CkV Q_fits 75 Q_finding 1 := ⟨lQ_75, mQ_finding.1, mQ_finding.2.1, mQ_finding.2.2.1, mQ_finding.2.2.2.1, mQ_finding.2.2.2.2, ⟨by decide, by decide⟩⟩
theorem kQ_fits_83 : CkS Q_fits 83 Q_sheepAt 2 := ⟨lQ_83, mQ_sheepAt.1, mQ_sheepAt.2.1, mQ_sheepAt.2.2.1, mQ_sheepAt.2.2.2, ⟨by decide, by decide⟩⟩
theorem kQ_fits_242 : CkV Q_fits 242 Q_valuesFor 4 := ⟨lQ_242, mQ_valuesFor.1, mQ_valuesFor.2.1, mQ_valuesFor.2.2.1, mQ_valuesFor.2.2.2.1, mQ_valuesFor.2.2.2.2, ⟨by decide, by decide⟩⟩
theorem kQ_lacks_231 : CkS Q_lacks 231 Q_isSheet 1 := ⟨lQ_231, mQ_isSheet.1, mQ_isSheet.2.1, mQ_isSheet.2.2.1, mQ_isSheet.2.2.2, ⟨by decide, by decide⟩⟩
theorem kQ_isSheet_79 : CkS Q_isSheet 79 Q_within 3 := ⟨lQ_79, mQ_within.1, mQ_within.2.1, mQ_within.2.2.1, mQ_within.2.2.2, ⟨by decide, by decide⟩⟩
theorem kQ_valuesFor_235 : CkV Q_valuesFor 235 Q_isToldWay 2 := ⟨lQ_235, mQ_isToldWay.1, mQ_isToldWay.2.1, mQ_isToldWay.2.2.1, mQ_isToldWay.2.2.2.1, mQ_isToldWay.2.2.2.2, ⟨by decide, by decide⟩⟩
theorem kQ_isToldWay_70 : CkS Q_isToldWay 70 Q_copyRow 2 := ⟨lQ_70, mQ_copyRow.1, mQ_copyRow.2.1, mQ_copyRow.2.2.1, mQ_copyRow.2.2.2, ⟨by decide, by decide⟩⟩
theorem kQ_isToldWay_187 : CkV Q_isToldWay 187 Q_hour 0 := ⟨lQ_187, mQ_hour.1, mQ_hour.2.1, mQ_hour.2.2.1, mQ_hour.2.2.2.1, mQ_hour.2.2.2.2, ⟨by decide, by decide⟩⟩
theorem kQ_kinds_119 : CkV Q_kinds 119 Q_isSheep 1 := ⟨lQ_119, mQ_isSheep.1, mQ_isSheep.2.1, mQ_isSheep.2.2.1, mQ_isSheep.2.2.2.1, mQ_isSheep.2.2.2.2, ⟨by decide, by decide⟩⟩
theorem kQ_kinds_238 : CkV Q_kinds 238 Q_lacks 2 := ⟨lQ_238, mQ_lacks.1, mQ_lacks.2.1, mQ_lacks.2.2.1, mQ_lacks.2.2.2.1, mQ_lacks.2.2.2.2, ⟨by decide, by decide⟩⟩
theorem kQ_kinds_75 : CkV Q_kinds 75 Q_finding 1 := ⟨lQ_75, mQ_finding.1, mQ_finding.2.1, mQ_finding.2.2.1, mQ_finding.2.2.2.1, mQ_finding.2.2.2.2, ⟨by decide, by decide⟩⟩
theorem kQ_kinds_83 : CkS Q_kinds 83 Q_sheepAt 2 := ⟨lQ_83, mQ_sheepAt.1, mQ_sheepAt.2.1, mQ_sheepAt.2.2.1, mQ_sheepAt.2.2.2, ⟨by decide, by decide⟩⟩
theorem kQ_kinds_242 : CkV Q_kinds 242 Q_valuesFor 4 := ⟨lQ_242, mQ_valuesFor.1, mQ_valuesFor.2.1, mQ_valuesFor.2.2.1, mQ_valuesFor.2.2.2.1, mQ_valuesFor.2.2.2.2, ⟨by decide, by decide⟩⟩
theorem kQ_nights_79 : CkS Q_nights 79 Q_within 3 := ⟨lQ_79, mQ_within.1, mQ_within.2.1, mQ_within.2.2.1, mQ_within.2.2.2, ⟨by decide, by decide⟩⟩
theorem kQ_nights_75 : CkV Q_nights 75 Q_finding 1 := ⟨lQ_75, mQ_finding.1, mQ_finding.2.1, mQ_finding.2.2.1, mQ_finding.2.2.2.1, mQ_finding.2.2.2.2, ⟨by decide, by decide⟩⟩
theorem kQ_nights_247 : CkV Q_nights 247 Q_drawn 0 := ⟨lQ_247, mQ_drawn.1, mQ_drawn.2.1, mQ_drawn.2.2.1, mQ_drawn.2.2.2.1, mQ_drawn.2.2.2.2, ⟨by decide, by decide⟩⟩
theorem kQ_nights_187 : CkV Q_nights 187 Q_hour 0 := ⟨lQ_187, mQ_hour.1, mQ_hour.2.1, mQ_hour.2.2.1, mQ_hour.2.2.2.1, mQ_hour.2.2.2.2, ⟨by decide, by decide⟩⟩
theorem kQ_nights_194 : CkV Q_nights 194 Q_sumOf 1 := ⟨lQ_194, mQ_sumOf.1, mQ_sumOf.2.1, mQ_sumOf.2.2.1, mQ_sumOf.2.2.2.1, mQ_sumOf.2.2.2.2, ⟨by decide, by decide⟩⟩
theorem kQ_odds_119 : CkV Q_odds 119 Q_isSheep 1 := ⟨lQ_119, mQ_isSheep.1, mQ_isSheep.2.1, mQ_isSheep.2.2.1, mQ_isSheep.2.2.2.1, mQ_isSheep.2.2.2.2, ⟨by decide, by decide⟩⟩
theorem kQ_odds_79 : CkS Q_odds 79 Q_within 3 := ⟨lQ_79, mQ_within.1, mQ_within.2.1, mQ_within.2.2.1, mQ_within.2.2.2, ⟨by decide, by decide⟩⟩
theorem kQ_odds_75 : CkV Q_odds 75 Q_finding 1 := ⟨lQ_75, mQ_finding.1, mQ_finding.2.1, mQ_finding.2.2.1, mQ_finding.2.2.2.1, mQ_finding.2.2.2.2, ⟨by decide, by decide⟩⟩
theorem kQ_odds_108 : CkV Q_odds 108 Q_sheepIs 2 := ⟨lQ_108, mQ_sheepIs.1, mQ_sheepIs.2.1, mQ_sheepIs.2.2.1, mQ_sheepIs.2.2.2.1, mQ_sheepIs.2.2.2.2, ⟨by decide, by decide⟩⟩
theorem kQ_odds_111 : CkS Q_odds 111 JM_abs 1 := ⟨lQ_111, mJM_abs.1, mJM_abs.2.1, mJM_abs.2.2.1, mJM_abs.2.2.2, ⟨by decide, by decide⟩⟩
theorem kQ_seed_98 : CkV Q_seed 98 Q_become 2 := ⟨lQ_98, mQ_become.1, mQ_become.2.1, mQ_become.2.2.1, mQ_become.2.2.2.1, mQ_become.2.2.2.2, ⟨by decide, by decide⟩⟩
theorem kQ_feed_79 : CkS Q_feed 79 Q_within 3 := ⟨lQ_79, mQ_within.1, mQ_within.2.1, mQ_within.2.2.1, mQ_within.2.2.2, ⟨by decide, by decide⟩⟩
theorem kQ_feed_75 : CkV Q_feed 75 Q_finding 1 := ⟨lQ_75, mQ_finding.1, mQ_finding.2.1, mQ_finding.2.2.1, mQ_finding.2.2.2.1, mQ_finding.2.2.2.2, ⟨by decide, by decide⟩⟩
theorem kQ_text_279 : CkV Q_text 279 Q_token 0 := ⟨lQ_279, mQ_token.1, mQ_token.2.1, mQ_token.2.2.1, mQ_token.2.2.2.1, mQ_token.2.2.2.2, ⟨by decide, by decide⟩⟩
theorem kQ_text_327 : CkV Q_text 327 Q_readItem 0 := ⟨lQ_327, mQ_readItem.1, mQ_readItem.2.1, mQ_readItem.2.2.1, mQ_readItem.2.2.2.1, mQ_readItem.2.2.2.2, ⟨by decide, by decide⟩⟩
theorem kQ_text_282 : CkV Q_text 282 Q_must 1 := ⟨lQ_282, mQ_must.1, mQ_must.2.1, mQ_must.2.2.1, mQ_must.2.2.2.1, mQ_must.2.2.2.2, ⟨by decide, by decide⟩⟩
theorem kQ_text_330 : CkV Q_text 330 Q_isToldSo 1 := ⟨lQ_330, mQ_isToldSo.1, mQ_isToldSo.2.1, mQ_isToldSo.2.2.1, mQ_isToldSo.2.2.2.1, mQ_isToldSo.2.2.2.2, ⟨by decide, by decide⟩⟩
theorem kQ_token_259 : CkV Q_token 259 Q_byteAt 1 := ⟨lQ_259, mQ_byteAt.1, mQ_byteAt.2.1, mQ_byteAt.2.2.1, mQ_byteAt.2.2.2.1, mQ_byteAt.2.2.2.2, ⟨by decide, by decide⟩⟩
theorem kQ_token_79 : CkS Q_token 79 Q_within 3 := ⟨lQ_79, mQ_within.1, mQ_within.2.1, mQ_within.2.2.1, mQ_within.2.2.2, ⟨by decide, by decide⟩⟩
theorem kQ_token_148 : CkS Q_token 148 JM_min 2 := ⟨lQ_148, mJM_min.1, mJM_min.2.1, mJM_min.2.2.1, mJM_min.2.2.2, ⟨by decide, by decide⟩⟩
theorem kQ_readItem_289 : CkV Q_readItem 289 Q_isWord 1 := ⟨lQ_289, mQ_isWord.1, mQ_isWord.2.1, mQ_isWord.2.2.1, mQ_isWord.2.2.2.1, mQ_isWord.2.2.2.2, ⟨by decide, by decide⟩⟩
theorem kQ_readItem_316 : CkV Q_readItem 316 Q_readSheep 1 := ⟨lQ_316, mQ_readSheep.1, mQ_readSheep.2.1, mQ_readSheep.2.2.1, mQ_readSheep.2.2.2.1, mQ_readSheep.2.2.2.2, ⟨by decide, by decide⟩⟩
theorem kQ_readItem_293 : CkV Q_readItem 293 Q_takesWord 1 := ⟨lQ_293, mQ_takesWord.1, mQ_takesWord.2.1, mQ_takesWord.2.2.1, mQ_takesWord.2.2.2.1, mQ_takesWord.2.2.2.2, ⟨by decide, by decide⟩⟩
theorem kQ_readItem_296 : CkV Q_readItem 296 Q_number 2 := ⟨lQ_296, mQ_number.1, mQ_number.2.1, mQ_number.2.2.1, mQ_number.2.2.2.1, mQ_number.2.2.2.2, ⟨by decide, by decide⟩⟩
theorem kQ_readItem_312 : CkV Q_readItem 312 Q_addItem 4 := ⟨lQ_312, mQ_addItem.1, mQ_addItem.2.1, mQ_addItem.2.2.1, mQ_addItem.2.2.2.1, mQ_addItem.2.2.2.2, ⟨by decide, by decide⟩⟩
theorem kQ_readItem_304 : CkV Q_readItem 304 Q_mayTell 3 := ⟨lQ_304, mQ_mayTell.1, mQ_mayTell.2.1, mQ_mayTell.2.2.1, mQ_mayTell.2.2.2.1, mQ_mayTell.2.2.2.2, ⟨by decide, by decide⟩⟩
theorem kQ_readItem_282 : CkV Q_readItem 282 Q_must 1 := ⟨lQ_282, mQ_must.1, mQ_must.2.1, mQ_must.2.2.1, mQ_must.2.2.2.1, mQ_must.2.2.2.2, ⟨by decide, by decide⟩⟩
theorem kQ_isWord_268 : CkV Q_isWord 268 JS_length 0 := ⟨lQ_268, mJS_length.1, mJS_length.2.1, mJS_length.2.2.1, mJS_length.2.2.2.1, mJS_length.2.2.2.2, ⟨by decide, by decide⟩⟩
theorem kQ_isWord_271 : CkV Q_isWord 271 JS_charAt 1 := ⟨lQ_271, mJS_charAt.1, mJS_charAt.2.1, mJS_charAt.2.2.1, mJS_charAt.2.2.2.1, mJS_charAt.2.2.2.2, ⟨by decide, by decide⟩⟩
theorem kQ_readSheep_282 : CkV Q_readSheep 282 Q_must 1 := ⟨lQ_282, mQ_must.1, mQ_must.2.1, mQ_must.2.2.1, mQ_must.2.2.2.1, mQ_must.2.2.2.2, ⟨by decide, by decide⟩⟩
theorem kQ_readSheep_304 : CkV Q_readSheep 304 Q_mayTell 3 := ⟨lQ_304, mQ_mayTell.1, mQ_mayTell.2.1, mQ_mayTell.2.2.1, mQ_mayTell.2.2.2.1, mQ_mayTell.2.2.2.2, ⟨by decide, by decide⟩⟩
theorem kQ_readSheep_312 : CkV Q_readSheep 312 Q_addItem 4 := ⟨lQ_312, mQ_addItem.1, mQ_addItem.2.1, mQ_addItem.2.2.1, mQ_addItem.2.2.2.1, mQ_addItem.2.2.2.2, ⟨by decide, by decide⟩⟩
theorem kQ_must_279 : CkV Q_must 279 Q_token 0 := ⟨lQ_279, mQ_token.1, mQ_token.2.1, mQ_token.2.2.1, mQ_token.2.2.2.1, mQ_token.2.2.2.2, ⟨by decide, by decide⟩⟩
theorem kQ_mayTell_293 : CkV Q_mayTell 293 Q_takesWord 1 := ⟨lQ_293, mQ_takesWord.1, mQ_takesWord.2.1, mQ_takesWord.2.2.1, mQ_takesWord.2.2.2.1, mQ_takesWord.2.2.2.2, ⟨by decide, by decide⟩⟩
theorem kQ_mayTell_296 : CkV Q_mayTell 296 Q_number 2 := ⟨lQ_296, mQ_number.1, mQ_number.2.1, mQ_number.2.2.1, mQ_number.2.2.2.1, mQ_number.2.2.2.2, ⟨by decide, by decide⟩⟩
theorem kQ_takesWord_289 : CkV Q_takesWord 289 Q_isWord 1 := ⟨lQ_289, mQ_isWord.1, mQ_isWord.2.1, mQ_isWord.2.2.1, mQ_isWord.2.2.2.1, mQ_isWord.2.2.2.2, ⟨by decide, by decide⟩⟩
theorem kQ_takesWord_282 : CkV Q_takesWord 282 Q_must 1 := ⟨lQ_282, mQ_must.1, mQ_must.2.1, mQ_must.2.2.1, mQ_must.2.2.2.1, mQ_must.2.2.2.2, ⟨by decide, by decide⟩⟩
theorem kQ_number_79 : CkS Q_number 79 Q_within 3 := ⟨lQ_79, mQ_within.1, mQ_within.2.1, mQ_within.2.2.1, mQ_within.2.2.2, ⟨by decide, by decide⟩⟩
theorem kQ_number_282 : CkV Q_number 282 Q_must 1 := ⟨lQ_282, mQ_must.1, mQ_must.2.1, mQ_must.2.2.1, mQ_must.2.2.2.1, mQ_must.2.2.2.2, ⟨by decide, by decide⟩⟩
theorem kQ_isToldSo_87 : CkV Q_isToldSo 87 Q_keeperAt 1 := ⟨lQ_87, mQ_keeperAt.1, mQ_keeperAt.2.1, mQ_keeperAt.2.2.1, mQ_keeperAt.2.2.2.1, mQ_keeperAt.2.2.2.2, ⟨by decide, by decide⟩⟩
theorem kQ_isToldSo_105 : CkV Q_isToldSo 105 Q_comes 2 := ⟨lQ_105, mQ_comes.1, mQ_comes.2.1, mQ_comes.2.2.1, mQ_comes.2.2.2.1, mQ_comes.2.2.2.2, ⟨by decide, by decide⟩⟩
theorem kQ_isToldSo_83 : CkS Q_isToldSo 83 Q_sheepAt 2 := ⟨lQ_83, mQ_sheepAt.1, mQ_sheepAt.2.1, mQ_sheepAt.2.2.1, mQ_sheepAt.2.2.2, ⟨by decide, by decide⟩⟩
theorem kQ_hold_333 : CkS Q_hold 333 Q_isSpot 1 := ⟨lQ_333, mQ_isSpot.1, mQ_isSpot.2.1, mQ_isSpot.2.2.1, mQ_isSpot.2.2.2, ⟨by decide, by decide⟩⟩
theorem kQ_hold_119 : CkV Q_hold 119 Q_isSheep 1 := ⟨lQ_119, mQ_isSheep.1, mQ_isSheep.2.1, mQ_isSheep.2.2.1, mQ_isSheep.2.2.2.1, mQ_isSheep.2.2.2.2, ⟨by decide, by decide⟩⟩
theorem kQ_hold_75 : CkV Q_hold 75 Q_finding 1 := ⟨lQ_75, mQ_finding.1, mQ_finding.2.1, mQ_finding.2.2.1, mQ_finding.2.2.2.1, mQ_finding.2.2.2.2, ⟨by decide, by decide⟩⟩
theorem kQ_isSpot_79 : CkS Q_isSpot 79 Q_within 3 := ⟨lQ_79, mQ_within.1, mQ_within.2.1, mQ_within.2.2.1, mQ_within.2.2.2, ⟨by decide, by decide⟩⟩
theorem kQ_as_333 : CkS Q_as 333 Q_isSpot 1 := ⟨lQ_333, mQ_isSpot.1, mQ_isSpot.2.1, mQ_isSpot.2.2.1, mQ_isSpot.2.2.2, ⟨by decide, by decide⟩⟩
theorem kQ_as_101 : CkS Q_as 101 Q_isKind 1 := ⟨lQ_101, mQ_isKind.1, mQ_isKind.2.1, mQ_isKind.2.2.1, mQ_isKind.2.2.2, ⟨by decide, by decide⟩⟩
theorem kQ_as_75 : CkV Q_as 75 Q_finding 1 := ⟨lQ_75, mQ_finding.1, mQ_finding.2.1, mQ_finding.2.2.1, mQ_finding.2.2.2.1, mQ_finding.2.2.2.2, ⟨by decide, by decide⟩⟩
theorem kQ_as_108 : CkV Q_as 108 Q_sheepIs 2 := ⟨lQ_108, mQ_sheepIs.1, mQ_sheepIs.2.1, mQ_sheepIs.2.2.1, mQ_sheepIs.2.2.2.1, mQ_sheepIs.2.2.2.2, ⟨by decide, by decide⟩⟩
theorem kQ_as_336 : CkS Q_as 336 Q_isUnder 2 := ⟨lQ_336, mQ_isUnder.1, mQ_isUnder.2.1, mQ_isUnder.2.2.1, mQ_isUnder.2.2.2, ⟨by decide, by decide⟩⟩
theorem kQ_isUnder_344 : CkS Q_isUnder 344 Q_above 1 := ⟨lQ_344, mQ_above.1, mQ_above.2.1, mQ_above.2.2.1, mQ_above.2.2.2, ⟨by decide, by decide⟩⟩
theorem kQ_sheet_231 : CkS Q_sheet 231 Q_isSheet 1 := ⟨lQ_231, mQ_isSheet.1, mQ_isSheet.2.1, mQ_isSheet.2.2.1, mQ_isSheet.2.2.2, ⟨by decide, by decide⟩⟩
theorem kQ_sheet_75 : CkV Q_sheet 75 Q_finding 1 := ⟨lQ_75, mQ_finding.1, mQ_finding.2.1, mQ_finding.2.2.1, mQ_finding.2.2.2.1, mQ_finding.2.2.2.2, ⟨by decide, by decide⟩⟩
theorem kQ_write_231 : CkS Q_write 231 Q_isSheet 1 := ⟨lQ_231, mQ_isSheet.1, mQ_isSheet.2.1, mQ_isSheet.2.2.1, mQ_isSheet.2.2.2, ⟨by decide, by decide⟩⟩
theorem kQ_write_75 : CkV Q_write 75 Q_finding 1 := ⟨lQ_75, mQ_finding.1, mQ_finding.2.1, mQ_finding.2.2.1, mQ_finding.2.2.2.1, mQ_finding.2.2.2.2, ⟨by decide, by decide⟩⟩
theorem kQ_write_79 : CkS Q_write 79 Q_within 3 := ⟨lQ_79, mQ_within.1, mQ_within.2.1, mQ_within.2.2.1, mQ_within.2.2.2, ⟨by decide, by decide⟩⟩
theorem kQ_write_341 : CkS Q_write 341 Q_cutTo 2 := ⟨lQ_341, mQ_cutTo.1, mQ_cutTo.2.1, mQ_cutTo.2.2.1, mQ_cutTo.2.2.2, ⟨by decide, by decide⟩⟩
theorem kQ_copy_231 : CkS Q_copy 231 Q_isSheet 1 := ⟨lQ_231, mQ_isSheet.1, mQ_isSheet.2.1, mQ_isSheet.2.2.1, mQ_isSheet.2.2.2, ⟨by decide, by decide⟩⟩
theorem kQ_copy_75 : CkV Q_copy 75 Q_finding 1 := ⟨lQ_75, mQ_finding.1, mQ_finding.2.1, mQ_finding.2.2.1, mQ_finding.2.2.2.1, mQ_finding.2.2.2.2, ⟨by decide, by decide⟩⟩
theorem kQ_load_238 : CkV Q_load 238 Q_lacks 2 := ⟨lQ_238, mQ_lacks.1, mQ_lacks.2.1, mQ_lacks.2.2.1, mQ_lacks.2.2.2.1, mQ_lacks.2.2.2.2, ⟨by decide, by decide⟩⟩
theorem kQ_load_75 : CkV Q_load 75 Q_finding 1 := ⟨lQ_75, mQ_finding.1, mQ_finding.2.1, mQ_finding.2.2.1, mQ_finding.2.2.2.1, mQ_finding.2.2.2.2, ⟨by decide, by decide⟩⟩
theorem kQ_load_119 : CkV Q_load 119 Q_isSheep 1 := ⟨lQ_119, mQ_isSheep.1, mQ_isSheep.2.1, mQ_isSheep.2.2.1, mQ_isSheep.2.2.2.1, mQ_isSheep.2.2.2.2, ⟨by decide, by decide⟩⟩
theorem kQ_load_79 : CkS Q_load 79 Q_within 3 := ⟨lQ_79, mQ_within.1, mQ_within.2.1, mQ_within.2.2.1, mQ_within.2.2.2, ⟨by decide, by decide⟩⟩
theorem kQ_load_83 : CkS Q_load 83 Q_sheepAt 2 := ⟨lQ_83, mQ_sheepAt.1, mQ_sheepAt.2.1, mQ_sheepAt.2.2.1, mQ_sheepAt.2.2.2, ⟨by decide, by decide⟩⟩
theorem kQ_judge_238 : CkV Q_judge 238 Q_lacks 2 := ⟨lQ_238, mQ_lacks.1, mQ_lacks.2.1, mQ_lacks.2.2.1, mQ_lacks.2.2.2.1, mQ_lacks.2.2.2.2, ⟨by decide, by decide⟩⟩
theorem kQ_judge_75 : CkV Q_judge 75 Q_finding 1 := ⟨lQ_75, mQ_finding.1, mQ_finding.2.1, mQ_finding.2.2.1, mQ_finding.2.2.2.1, mQ_finding.2.2.2.2, ⟨by decide, by decide⟩⟩
theorem kQ_judge_119 : CkV Q_judge 119 Q_isSheep 1 := ⟨lQ_119, mQ_isSheep.1, mQ_isSheep.2.1, mQ_isSheep.2.2.1, mQ_isSheep.2.2.2.1, mQ_isSheep.2.2.2.2, ⟨by decide, by decide⟩⟩
theorem kQ_judge_108 : CkV Q_judge 108 Q_sheepIs 2 := ⟨lQ_108, mQ_sheepIs.1, mQ_sheepIs.2.1, mQ_sheepIs.2.2.1, mQ_sheepIs.2.2.2.1, mQ_sheepIs.2.2.2.2, ⟨by decide, by decide⟩⟩
theorem kQ_image_70 : CkS Q_image 70 Q_copyRow 2 := ⟨lQ_70, mQ_copyRow.1, mQ_copyRow.2.1, mQ_copyRow.2.2.1, mQ_copyRow.2.2.2, ⟨by decide, by decide⟩⟩
theorem kQ_undo_75 : CkV Q_undo 75 Q_finding 1 := ⟨lQ_75, mQ_finding.1, mQ_finding.2.1, mQ_finding.2.2.1, mQ_finding.2.2.2.1, mQ_finding.2.2.2.2, ⟨by decide, by decide⟩⟩
theorem kQ_undo_70 : CkS Q_undo 70 Q_copyRow 2 := ⟨lQ_70, mQ_copyRow.1, mQ_copyRow.2.1, mQ_copyRow.2.2.1, mQ_copyRow.2.2.2, ⟨by decide, by decide⟩⟩
theorem kQ_count_194 : CkV Q_count 194 Q_sumOf 1 := ⟨lQ_194, mQ_sumOf.1, mQ_sumOf.2.1, mQ_sumOf.2.2.1, mQ_sumOf.2.2.2.1, mQ_sumOf.2.2.2.2, ⟨by decide, by decide⟩⟩
theorem kQ_count_75 : CkV Q_count 75 Q_finding 1 := ⟨lQ_75, mQ_finding.1, mQ_finding.2.1, mQ_finding.2.2.1, mQ_finding.2.2.2.1, mQ_finding.2.2.2.2, ⟨by decide, by decide⟩⟩
theorem kQ_status_79 : CkS Q_status 79 Q_within 3 := ⟨lQ_79, mQ_within.1, mQ_within.2.1, mQ_within.2.2.1, mQ_within.2.2.2, ⟨by decide, by decide⟩⟩
theorem kQ_status_75 : CkV Q_status 75 Q_finding 1 := ⟨lQ_75, mQ_finding.1, mQ_finding.2.1, mQ_finding.2.2.1, mQ_finding.2.2.2.1, mQ_finding.2.2.2.2, ⟨by decide, by decide⟩⟩
end
section
theorem dS_init_0 : Dc S_init 0 (.aload_n 0) 1 1 := ⟨by decide +kernel, rfl⟩
theorem dS_init_1 : Dc S_init 1 (.invokespecial 3) 3 4 := ⟨by decide +kernel, rfl⟩
theorem dS_init_4 : Dc S_init 4 (.aload_n 0) 1 5 := ⟨by decide +kernel, rfl⟩
theorem dS_init_5 : Dc S_init 5 (.new 9) 3 8 := ⟨by decide +kernel, rfl⟩
theorem dS_init_8 : Dc S_init 8 (.dup) 1 9 := ⟨by decide +kernel, rfl⟩
theorem dS_init_9 : Dc S_init 9 (.invokespecial 11) 3 12 := ⟨by decide +kernel, rfl⟩
theorem dS_init_12 : Dc S_init 12 (.putfield 12) 3 15 := ⟨by decide +kernel, rfl⟩
theorem dS_init_15 : Dc S_init 15 (.aload_n 0) 1 16 := ⟨by decide +kernel, rfl⟩
theorem dS_init_16 : Dc S_init 16 (.new 9) 3 19 := ⟨by decide +kernel, rfl⟩
theorem dS_init_19 : Dc S_init 19 (.dup) 1 20 := ⟨by decide +kernel, rfl⟩
theorem dS_init_20 : Dc S_init 20 (.invokespecial 11) 3 23 := ⟨by decide +kernel, rfl⟩
theorem dS_init_23 : Dc S_init 23 (.putfield 16) 3 26 := ⟨by decide +kernel, rfl⟩
theorem dS_init_26 : Dc S_init 26 (.aload_n 0) 1 27 := ⟨by decide +kernel, rfl⟩
theorem dS_init_27 : Dc S_init 27 (.new 9) 3 30 := ⟨by decide +kernel, rfl⟩
theorem dS_init_30 : Dc S_init 30 (.dup) 1 31 := ⟨by decide +kernel, rfl⟩
theorem dS_init_31 : Dc S_init 31 (.invokespecial 11) 3 34 := ⟨by decide +kernel, rfl⟩
theorem dS_init_34 : Dc S_init 34 (.putfield 19) 3 37 := ⟨by decide +kernel, rfl⟩
theorem dS_init_37 : Dc S_init 37 (.aload_n 0) 1 38 := ⟨by decide +kernel, rfl⟩
theorem dS_init_38 : Dc S_init 38 (.iconst 0) 1 39 := ⟨by decide +kernel, rfl⟩
theorem dS_init_39 : Dc S_init 39 (.putfield 22) 3 42 := ⟨by decide +kernel, rfl⟩
theorem dS_init_42 : Dc S_init 42 (.aload_n 0) 1 43 := ⟨by decide +kernel, rfl⟩
theorem dS_init_43 : Dc S_init 43 (.bipush 10) 2 45 := ⟨by decide +kernel, rfl⟩
theorem dS_init_45 : Dc S_init 45 (.newarray .int) 2 47 := ⟨by decide +kernel, rfl⟩
theorem dS_init_47 : Dc S_init 47 (.putfield 26) 3 50 := ⟨by decide +kernel, rfl⟩
theorem dS_init_50 : Dc S_init 50 (.aload_n 0) 1 51 := ⟨by decide +kernel, rfl⟩
theorem dS_init_51 : Dc S_init 51 (.bipush 10) 2 53 := ⟨by decide +kernel, rfl⟩
theorem dS_init_53 : Dc S_init 53 (.newarray .int) 2 55 := ⟨by decide +kernel, rfl⟩
theorem dS_init_55 : Dc S_init 55 (.putfield 30) 3 58 := ⟨by decide +kernel, rfl⟩
theorem dS_init_58 : Dc S_init 58 (.aload_n 0) 1 59 := ⟨by decide +kernel, rfl⟩
theorem dS_init_59 : Dc S_init 59 (.iconst 1) 1 60 := ⟨by decide +kernel, rfl⟩
theorem dS_init_60 : Dc S_init 60 (.putfield 33) 3 63 := ⟨by decide +kernel, rfl⟩
theorem dS_init_63 : Dc S_init 63 (.aload_n 0) 1 64 := ⟨by decide +kernel, rfl⟩
theorem dS_init_64 : Dc S_init 64 (.iconst 1) 1 65 := ⟨by decide +kernel, rfl⟩
theorem dS_init_65 : Dc S_init 65 (.putfield 37) 3 68 := ⟨by decide +kernel, rfl⟩
theorem dS_init_68 : Dc S_init 68 (.aload_n 0) 1 69 := ⟨by decide +kernel, rfl⟩
theorem dS_init_69 : Dc S_init 69 (.new 40) 3 72 := ⟨by decide +kernel, rfl⟩
theorem dS_init_72 : Dc S_init 72 (.dup) 1 73 := ⟨by decide +kernel, rfl⟩
theorem dS_init_73 : Dc S_init 73 (.invokespecial 42) 3 76 := ⟨by decide +kernel, rfl⟩
theorem dS_init_76 : Dc S_init 76 (.putfield 43) 3 79 := ⟨by decide +kernel, rfl⟩
theorem dS_init_79 : Dc S_init 79 (.aload_n 0) 1 80 := ⟨by decide +kernel, rfl⟩
theorem dS_init_80 : Dc S_init 80 (.iconst 4) 1 81 := ⟨by decide +kernel, rfl⟩
theorem dS_init_81 : Dc S_init 81 (.anewarray 47) 3 84 := ⟨by decide +kernel, rfl⟩
theorem dS_init_84 : Dc S_init 84 (.dup) 1 85 := ⟨by decide +kernel, rfl⟩
theorem dS_init_85 : Dc S_init 85 (.iconst 0) 1 86 := ⟨by decide +kernel, rfl⟩
theorem dS_init_86 : Dc S_init 86 (.new 47) 3 89 := ⟨by decide +kernel, rfl⟩
theorem dS_init_89 : Dc S_init 89 (.dup) 1 90 := ⟨by decide +kernel, rfl⟩
theorem dS_init_90 : Dc S_init 90 (.invokespecial 49) 3 93 := ⟨by decide +kernel, rfl⟩
theorem dS_init_93 : Dc S_init 93 (.aastore) 1 94 := ⟨by decide +kernel, rfl⟩
theorem dS_init_94 : Dc S_init 94 (.dup) 1 95 := ⟨by decide +kernel, rfl⟩
theorem dS_init_95 : Dc S_init 95 (.iconst 1) 1 96 := ⟨by decide +kernel, rfl⟩
theorem dS_init_96 : Dc S_init 96 (.new 47) 3 99 := ⟨by decide +kernel, rfl⟩
theorem dS_init_99 : Dc S_init 99 (.dup) 1 100 := ⟨by decide +kernel, rfl⟩
theorem dS_init_100 : Dc S_init 100 (.invokespecial 49) 3 103 := ⟨by decide +kernel, rfl⟩
theorem dS_init_103 : Dc S_init 103 (.aastore) 1 104 := ⟨by decide +kernel, rfl⟩
theorem dS_init_104 : Dc S_init 104 (.dup) 1 105 := ⟨by decide +kernel, rfl⟩
theorem dS_init_105 : Dc S_init 105 (.iconst 2) 1 106 := ⟨by decide +kernel, rfl⟩
theorem dS_init_106 : Dc S_init 106 (.new 47) 3 109 := ⟨by decide +kernel, rfl⟩
theorem dS_init_109 : Dc S_init 109 (.dup) 1 110 := ⟨by decide +kernel, rfl⟩
theorem dS_init_110 : Dc S_init 110 (.invokespecial 49) 3 113 := ⟨by decide +kernel, rfl⟩
theorem dS_init_113 : Dc S_init 113 (.aastore) 1 114 := ⟨by decide +kernel, rfl⟩
theorem dS_init_114 : Dc S_init 114 (.dup) 1 115 := ⟨by decide +kernel, rfl⟩
theorem dS_init_115 : Dc S_init 115 (.iconst 3) 1 116 := ⟨by decide +kernel, rfl⟩
theorem dS_init_116 : Dc S_init 116 (.new 47) 3 119 := ⟨by decide +kernel, rfl⟩
theorem dS_init_119 : Dc S_init 119 (.dup) 1 120 := ⟨by decide +kernel, rfl⟩
theorem dS_init_120 : Dc S_init 120 (.invokespecial 49) 3 123 := ⟨by decide +kernel, rfl⟩
theorem dS_init_123 : Dc S_init 123 (.aastore) 1 124 := ⟨by decide +kernel, rfl⟩
theorem dS_init_124 : Dc S_init 124 (.putfield 50) 3 127 := ⟨by decide +kernel, rfl⟩
theorem dS_init_127 : Dc S_init 127 (.aload_n 0) 1 128 := ⟨by decide +kernel, rfl⟩
theorem dS_init_128 : Dc S_init 128 (.bipush 7) 2 130 := ⟨by decide +kernel, rfl⟩
theorem dS_init_130 : Dc S_init 130 (.newarray .int) 2 132 := ⟨by decide +kernel, rfl⟩
theorem dS_init_132 : Dc S_init 132 (.putfield 54) 3 135 := ⟨by decide +kernel, rfl⟩
theorem dS_init_135 : Dc S_init 135 (.iconst 0) 1 136 := ⟨by decide +kernel, rfl⟩
theorem dS_init_136 : Dc S_init 136 (.istore_n 1) 1 137 := ⟨by decide +kernel, rfl⟩
theorem dS_init_137 : Dc S_init 137 (.iload_n 1) 1 138 := ⟨by decide +kernel, rfl⟩
theorem dS_init_138 : Dc S_init 138 (.bipush 10) 2 140 := ⟨by decide +kernel, rfl⟩
theorem dS_init_140 : Dc S_init 140 (.if_icmp .ge 23) 3 143 := ⟨by decide +kernel, rfl⟩
theorem dS_init_143 : Dc S_init 143 (.aload_n 0) 1 144 := ⟨by decide +kernel, rfl⟩
theorem dS_init_144 : Dc S_init 144 (.getfield 26) 3 147 := ⟨by decide +kernel, rfl⟩
theorem dS_init_147 : Dc S_init 147 (.iload_n 1) 1 148 := ⟨by decide +kernel, rfl⟩
theorem dS_init_148 : Dc S_init 148 (.iconst (-1)) 1 149 := ⟨by decide +kernel, rfl⟩
theorem dS_init_149 : Dc S_init 149 (.iastore) 1 150 := ⟨by decide +kernel, rfl⟩
theorem dS_init_150 : Dc S_init 150 (.aload_n 0) 1 151 := ⟨by decide +kernel, rfl⟩
theorem dS_init_151 : Dc S_init 151 (.getfield 30) 3 154 := ⟨by decide +kernel, rfl⟩
theorem dS_init_154 : Dc S_init 154 (.iload_n 1) 1 155 := ⟨by decide +kernel, rfl⟩
theorem dS_init_155 : Dc S_init 155 (.iconst (-1)) 1 156 := ⟨by decide +kernel, rfl⟩
theorem dS_init_156 : Dc S_init 156 (.iastore) 1 157 := ⟨by decide +kernel, rfl⟩
theorem dS_init_157 : Dc S_init 157 (.iinc 1 1) 3 160 := ⟨by decide +kernel, rfl⟩
theorem dS_init_160 : Dc S_init 160 (.goto (-23)) 3 163 := ⟨by decide +kernel, rfl⟩
theorem dS_init_163 : Dc S_init 163 (.return_) 1 164 := ⟨by decide +kernel, rfl⟩
theorem dH_init_0 : Dc H_init 0 (.aload_n 0) 1 1 := ⟨by decide +kernel, rfl⟩
theorem dH_init_1 : Dc H_init 1 (.invokespecial 3) 3 4 := ⟨by decide +kernel, rfl⟩
theorem dH_init_4 : Dc H_init 4 (.aload_n 0) 1 5 := ⟨by decide +kernel, rfl⟩
theorem dH_init_5 : Dc H_init 5 (.iconst 0) 1 6 := ⟨by decide +kernel, rfl⟩
theorem dH_init_6 : Dc H_init 6 (.putfield 9) 3 9 := ⟨by decide +kernel, rfl⟩
theorem dH_init_9 : Dc H_init 9 (.aload_n 0) 1 10 := ⟨by decide +kernel, rfl⟩
theorem dH_init_10 : Dc H_init 10 (.iconst 0) 1 11 := ⟨by decide +kernel, rfl⟩
theorem dH_init_11 : Dc H_init 11 (.putfield 15) 3 14 := ⟨by decide +kernel, rfl⟩
theorem dH_init_14 : Dc H_init 14 (.aload_n 0) 1 15 := ⟨by decide +kernel, rfl⟩
theorem dH_init_15 : Dc H_init 15 (.iconst (-1)) 1 16 := ⟨by decide +kernel, rfl⟩
theorem dH_init_16 : Dc H_init 16 (.putfield 18) 3 19 := ⟨by decide +kernel, rfl⟩
theorem dH_init_19 : Dc H_init 19 (.aload_n 0) 1 20 := ⟨by decide +kernel, rfl⟩
theorem dH_init_20 : Dc H_init 20 (.iconst (-1)) 1 21 := ⟨by decide +kernel, rfl⟩
theorem dH_init_21 : Dc H_init 21 (.putfield 21) 3 24 := ⟨by decide +kernel, rfl⟩
theorem dH_init_24 : Dc H_init 24 (.aload_n 0) 1 25 := ⟨by decide +kernel, rfl⟩
theorem dH_init_25 : Dc H_init 25 (.iconst 1) 1 26 := ⟨by decide +kernel, rfl⟩
theorem dH_init_26 : Dc H_init 26 (.putfield 24) 3 29 := ⟨by decide +kernel, rfl⟩
theorem dH_init_29 : Dc H_init 29 (.aload_n 0) 1 30 := ⟨by decide +kernel, rfl⟩
theorem dH_init_30 : Dc H_init 30 (.iconst 0) 1 31 := ⟨by decide +kernel, rfl⟩
theorem dH_init_31 : Dc H_init 31 (.putfield 27) 3 34 := ⟨by decide +kernel, rfl⟩
theorem dH_init_34 : Dc H_init 34 (.aload_n 0) 1 35 := ⟨by decide +kernel, rfl⟩
theorem dH_init_35 : Dc H_init 35 (.iconst 0) 1 36 := ⟨by decide +kernel, rfl⟩
theorem dH_init_36 : Dc H_init 36 (.putfield 30) 3 39 := ⟨by decide +kernel, rfl⟩
theorem dH_init_39 : Dc H_init 39 (.aload_n 0) 1 40 := ⟨by decide +kernel, rfl⟩
theorem dH_init_40 : Dc H_init 40 (.bipush 8) 2 42 := ⟨by decide +kernel, rfl⟩
theorem dH_init_42 : Dc H_init 42 (.newarray .int) 2 44 := ⟨by decide +kernel, rfl⟩
theorem dH_init_44 : Dc H_init 44 (.putfield 33) 3 47 := ⟨by decide +kernel, rfl⟩
theorem dH_init_47 : Dc H_init 47 (.aload_n 0) 1 48 := ⟨by decide +kernel, rfl⟩
theorem dH_init_48 : Dc H_init 48 (.bipush 8) 2 50 := ⟨by decide +kernel, rfl⟩
theorem dH_init_50 : Dc H_init 50 (.newarray .int) 2 52 := ⟨by decide +kernel, rfl⟩
theorem dH_init_52 : Dc H_init 52 (.putfield 37) 3 55 := ⟨by decide +kernel, rfl⟩
theorem dH_init_55 : Dc H_init 55 (.aload_n 0) 1 56 := ⟨by decide +kernel, rfl⟩
theorem dH_init_56 : Dc H_init 56 (.bipush 8) 2 58 := ⟨by decide +kernel, rfl⟩
theorem dH_init_58 : Dc H_init 58 (.newarray .int) 2 60 := ⟨by decide +kernel, rfl⟩
theorem dH_init_60 : Dc H_init 60 (.putfield 40) 3 63 := ⟨by decide +kernel, rfl⟩
theorem dH_init_63 : Dc H_init 63 (.aload_n 0) 1 64 := ⟨by decide +kernel, rfl⟩
theorem dH_init_64 : Dc H_init 64 (.bipush 8) 2 66 := ⟨by decide +kernel, rfl⟩
theorem dH_init_66 : Dc H_init 66 (.newarray .int) 2 68 := ⟨by decide +kernel, rfl⟩
theorem dH_init_68 : Dc H_init 68 (.putfield 43) 3 71 := ⟨by decide +kernel, rfl⟩
theorem dH_init_71 : Dc H_init 71 (.aload_n 0) 1 72 := ⟨by decide +kernel, rfl⟩
theorem dH_init_72 : Dc H_init 72 (.bipush 8) 2 74 := ⟨by decide +kernel, rfl⟩
theorem dH_init_74 : Dc H_init 74 (.newarray .int) 2 76 := ⟨by decide +kernel, rfl⟩
theorem dH_init_76 : Dc H_init 76 (.putfield 46) 3 79 := ⟨by decide +kernel, rfl⟩
theorem dH_init_79 : Dc H_init 79 (.return_) 1 80 := ⟨by decide +kernel, rfl⟩
theorem dT_init_0 : Dc T_init 0 (.aload_n 0) 1 1 := ⟨by decide +kernel, rfl⟩
theorem dT_init_1 : Dc T_init 1 (.invokespecial 3) 3 4 := ⟨by decide +kernel, rfl⟩
theorem dT_init_4 : Dc T_init 4 (.aload_n 0) 1 5 := ⟨by decide +kernel, rfl⟩
theorem dT_init_5 : Dc T_init 5 (.bipush 120) 2 7 := ⟨by decide +kernel, rfl⟩
theorem dT_init_7 : Dc T_init 7 (.newarray .int) 2 9 := ⟨by decide +kernel, rfl⟩
theorem dT_init_9 : Dc T_init 9 (.putfield 9) 3 12 := ⟨by decide +kernel, rfl⟩
theorem dT_init_12 : Dc T_init 12 (.aload_n 0) 1 13 := ⟨by decide +kernel, rfl⟩
theorem dT_init_13 : Dc T_init 13 (.iconst 0) 1 14 := ⟨by decide +kernel, rfl⟩
theorem dT_init_14 : Dc T_init 14 (.putfield 15) 3 17 := ⟨by decide +kernel, rfl⟩
theorem dT_init_17 : Dc T_init 17 (.aload_n 0) 1 18 := ⟨by decide +kernel, rfl⟩
theorem dT_init_18 : Dc T_init 18 (.iconst 0) 1 19 := ⟨by decide +kernel, rfl⟩
theorem dT_init_19 : Dc T_init 19 (.putfield 19) 3 22 := ⟨by decide +kernel, rfl⟩
theorem dT_init_22 : Dc T_init 22 (.aload_n 0) 1 23 := ⟨by decide +kernel, rfl⟩
theorem dT_init_23 : Dc T_init 23 (.iconst 0) 1 24 := ⟨by decide +kernel, rfl⟩
theorem dT_init_24 : Dc T_init 24 (.putfield 22) 3 27 := ⟨by decide +kernel, rfl⟩
theorem dT_init_27 : Dc T_init 27 (.aload_n 0) 1 28 := ⟨by decide +kernel, rfl⟩
theorem dT_init_28 : Dc T_init 28 (.iconst 0) 1 29 := ⟨by decide +kernel, rfl⟩
theorem dT_init_29 : Dc T_init 29 (.putfield 25) 3 32 := ⟨by decide +kernel, rfl⟩
theorem dT_init_32 : Dc T_init 32 (.return_) 1 33 := ⟨by decide +kernel, rfl⟩
theorem dE_init_0 : Dc E_init 0 (.aload_n 0) 1 1 := ⟨by decide +kernel, rfl⟩
theorem dE_init_1 : Dc E_init 1 (.invokespecial 3) 3 4 := ⟨by decide +kernel, rfl⟩
theorem dE_init_4 : Dc E_init 4 (.aload_n 0) 1 5 := ⟨by decide +kernel, rfl⟩
theorem dE_init_5 : Dc E_init 5 (.iconst 0) 1 6 := ⟨by decide +kernel, rfl⟩
theorem dE_init_6 : Dc E_init 6 (.putfield 9) 3 9 := ⟨by decide +kernel, rfl⟩
theorem dE_init_9 : Dc E_init 9 (.aload_n 0) 1 10 := ⟨by decide +kernel, rfl⟩
theorem dE_init_10 : Dc E_init 10 (.iconst 0) 1 11 := ⟨by decide +kernel, rfl⟩
theorem dE_init_11 : Dc E_init 11 (.putfield 15) 3 14 := ⟨by decide +kernel, rfl⟩
theorem dE_init_14 : Dc E_init 14 (.aload_n 0) 1 15 := ⟨by decide +kernel, rfl⟩
theorem dE_init_15 : Dc E_init 15 (.bipush 40) 2 17 := ⟨by decide +kernel, rfl⟩
theorem dE_init_17 : Dc E_init 17 (.newarray .int) 2 19 := ⟨by decide +kernel, rfl⟩
theorem dE_init_19 : Dc E_init 19 (.putfield 18) 3 22 := ⟨by decide +kernel, rfl⟩
theorem dE_init_22 : Dc E_init 22 (.return_) 1 23 := ⟨by decide +kernel, rfl⟩
theorem dS_set_0 : Dc S_set 0 (.iload_n 1) 1 1 := ⟨by decide +kernel, rfl⟩
theorem dS_set_1 : Dc S_set 1 (.iload_n 2) 1 2 := ⟨by decide +kernel, rfl⟩
theorem dS_set_2 : Dc S_set 2 (.invokestatic 57) 3 5 := ⟨by decide +kernel, rfl⟩
theorem dS_set_5 : Dc S_set 5 (.ifCond .ne 9) 3 8 := ⟨by decide +kernel, rfl⟩
theorem dS_set_8 : Dc S_set 8 (.aload_n 0) 1 9 := ⟨by decide +kernel, rfl⟩
theorem dS_set_9 : Dc S_set 9 (.iconst 0) 1 10 := ⟨by decide +kernel, rfl⟩
theorem dS_set_10 : Dc S_set 10 (.invokevirtual 61) 3 13 := ⟨by decide +kernel, rfl⟩
theorem dS_set_13 : Dc S_set 13 (.ireturn) 1 14 := ⟨by decide +kernel, rfl⟩
theorem dS_set_14 : Dc S_set 14 (.aload_n 0) 1 15 := ⟨by decide +kernel, rfl⟩
theorem dS_set_15 : Dc S_set 15 (.getfield 12) 3 18 := ⟨by decide +kernel, rfl⟩
theorem dS_set_18 : Dc S_set 18 (.iload_n 1) 1 19 := ⟨by decide +kernel, rfl⟩
theorem dS_set_19 : Dc S_set 19 (.invokevirtual 65) 3 22 := ⟨by decide +kernel, rfl⟩
theorem dS_set_22 : Dc S_set 22 (.istore_n 3) 1 23 := ⟨by decide +kernel, rfl⟩
theorem dS_set_23 : Dc S_set 23 (.iload_n 1) 1 24 := ⟨by decide +kernel, rfl⟩
theorem dS_set_24 : Dc S_set 24 (.tableswitch 61 0 2 #[28, 39, 50]) 28 52 := ⟨by decide +kernel, rfl⟩
theorem dS_set_52 : Dc S_set 52 (.aload_n 0) 1 53 := ⟨by decide +kernel, rfl⟩
theorem dS_set_53 : Dc S_set 53 (.getfield 12) 3 56 := ⟨by decide +kernel, rfl⟩
theorem dS_set_56 : Dc S_set 56 (.iload_n 2) 1 57 := ⟨by decide +kernel, rfl⟩
theorem dS_set_57 : Dc S_set 57 (.putfield 68) 3 60 := ⟨by decide +kernel, rfl⟩
theorem dS_set_60 : Dc S_set 60 (.goto 33) 3 63 := ⟨by decide +kernel, rfl⟩
theorem dS_set_63 : Dc S_set 63 (.aload_n 0) 1 64 := ⟨by decide +kernel, rfl⟩
theorem dS_set_64 : Dc S_set 64 (.getfield 12) 3 67 := ⟨by decide +kernel, rfl⟩
theorem dS_set_67 : Dc S_set 67 (.iload_n 2) 1 68 := ⟨by decide +kernel, rfl⟩
theorem dS_set_68 : Dc S_set 68 (.invokevirtual 71) 3 71 := ⟨by decide +kernel, rfl⟩
theorem dS_set_71 : Dc S_set 71 (.goto 22) 3 74 := ⟨by decide +kernel, rfl⟩
theorem dS_set_74 : Dc S_set 74 (.aload_n 0) 1 75 := ⟨by decide +kernel, rfl⟩
theorem dS_set_75 : Dc S_set 75 (.getfield 12) 3 78 := ⟨by decide +kernel, rfl⟩
theorem dS_set_78 : Dc S_set 78 (.iload_n 2) 1 79 := ⟨by decide +kernel, rfl⟩
theorem dS_set_79 : Dc S_set 79 (.putfield 75) 3 82 := ⟨by decide +kernel, rfl⟩
theorem dS_set_82 : Dc S_set 82 (.goto 11) 3 85 := ⟨by decide +kernel, rfl⟩
theorem dS_set_85 : Dc S_set 85 (.aload_n 0) 1 86 := ⟨by decide +kernel, rfl⟩
theorem dS_set_86 : Dc S_set 86 (.getfield 12) 3 89 := ⟨by decide +kernel, rfl⟩
theorem dS_set_89 : Dc S_set 89 (.iload_n 2) 1 90 := ⟨by decide +kernel, rfl⟩
theorem dS_set_90 : Dc S_set 90 (.putfield 78) 3 93 := ⟨by decide +kernel, rfl⟩
theorem dS_set_93 : Dc S_set 93 (.iload_n 3) 1 94 := ⟨by decide +kernel, rfl⟩
theorem dS_set_94 : Dc S_set 94 (.ireturn) 1 95 := ⟨by decide +kernel, rfl⟩
theorem dS_canBeSet_0 : Dc S_canBeSet 0 (.iload_n 0) 1 1 := ⟨by decide +kernel, rfl⟩
theorem dS_canBeSet_1 : Dc S_canBeSet 1 (.tableswitch 61 0 3 #[31, 31, 36, 54]) 31 32 := ⟨by decide +kernel, rfl⟩
theorem dS_canBeSet_32 : Dc S_canBeSet 32 (.iload_n 1) 1 33 := ⟨by decide +kernel, rfl⟩
theorem dS_canBeSet_33 : Dc S_canBeSet 33 (.invokestatic 89) 3 36 := ⟨by decide +kernel, rfl⟩
theorem dS_canBeSet_36 : Dc S_canBeSet 36 (.ireturn) 1 37 := ⟨by decide +kernel, rfl⟩
theorem dS_canBeSet_37 : Dc S_canBeSet 37 (.iload_n 1) 1 38 := ⟨by decide +kernel, rfl⟩
theorem dS_canBeSet_38 : Dc S_canBeSet 38 (.invokestatic 89) 3 41 := ⟨by decide +kernel, rfl⟩
theorem dS_canBeSet_41 : Dc S_canBeSet 41 (.ifCond .ne 8) 3 44 := ⟨by decide +kernel, rfl⟩
theorem dS_canBeSet_44 : Dc S_canBeSet 44 (.iload_n 1) 1 45 := ⟨by decide +kernel, rfl⟩
theorem dS_canBeSet_45 : Dc S_canBeSet 45 (.iconst (-1)) 1 46 := ⟨by decide +kernel, rfl⟩
theorem dS_canBeSet_46 : Dc S_canBeSet 46 (.if_icmp .ne 7) 3 49 := ⟨by decide +kernel, rfl⟩
theorem dS_canBeSet_49 : Dc S_canBeSet 49 (.iconst 1) 1 50 := ⟨by decide +kernel, rfl⟩
theorem dS_canBeSet_50 : Dc S_canBeSet 50 (.goto 4) 3 53 := ⟨by decide +kernel, rfl⟩
theorem dS_canBeSet_53 : Dc S_canBeSet 53 (.iconst 0) 1 54 := ⟨by decide +kernel, rfl⟩
theorem dS_canBeSet_54 : Dc S_canBeSet 54 (.ireturn) 1 55 := ⟨by decide +kernel, rfl⟩
theorem dS_canBeSet_55 : Dc S_canBeSet 55 (.iload_n 1) 1 56 := ⟨by decide +kernel, rfl⟩
theorem dS_canBeSet_56 : Dc S_canBeSet 56 (.iconst 0) 1 57 := ⟨by decide +kernel, rfl⟩
theorem dS_canBeSet_57 : Dc S_canBeSet 57 (.iconst 5) 1 58 := ⟨by decide +kernel, rfl⟩
theorem dS_canBeSet_58 : Dc S_canBeSet 58 (.invokestatic 81) 3 61 := ⟨by decide +kernel, rfl⟩
theorem dS_canBeSet_61 : Dc S_canBeSet 61 (.ireturn) 1 62 := ⟨by decide +kernel, rfl⟩
theorem dS_canBeSet_62 : Dc S_canBeSet 62 (.iconst 0) 1 63 := ⟨by decide +kernel, rfl⟩
theorem dS_canBeSet_63 : Dc S_canBeSet 63 (.ireturn) 1 64 := ⟨by decide +kernel, rfl⟩
theorem dS_isCell_0 : Dc S_isCell 0 (.iload_n 0) 1 1 := ⟨by decide +kernel, rfl⟩
theorem dS_isCell_1 : Dc S_isCell 1 (.iconst 0) 1 2 := ⟨by decide +kernel, rfl⟩
theorem dS_isCell_2 : Dc S_isCell 2 (.bipush 15) 2 4 := ⟨by decide +kernel, rfl⟩
theorem dS_isCell_4 : Dc S_isCell 4 (.invokestatic 81) 3 7 := ⟨by decide +kernel, rfl⟩
theorem dS_isCell_7 : Dc S_isCell 7 (.ireturn) 1 8 := ⟨by decide +kernel, rfl⟩
theorem dS_isWithin_0 : Dc S_isWithin 0 (.iload_n 0) 1 1 := ⟨by decide +kernel, rfl⟩
theorem dS_isWithin_1 : Dc S_isWithin 1 (.iload_n 1) 1 2 := ⟨by decide +kernel, rfl⟩
theorem dS_isWithin_2 : Dc S_isWithin 2 (.if_icmp .lt 12) 3 5 := ⟨by decide +kernel, rfl⟩
theorem dS_isWithin_5 : Dc S_isWithin 5 (.iload_n 0) 1 6 := ⟨by decide +kernel, rfl⟩
theorem dS_isWithin_6 : Dc S_isWithin 6 (.iload_n 2) 1 7 := ⟨by decide +kernel, rfl⟩
theorem dS_isWithin_7 : Dc S_isWithin 7 (.if_icmp .gt 7) 3 10 := ⟨by decide +kernel, rfl⟩
theorem dS_isWithin_10 : Dc S_isWithin 10 (.iconst 1) 1 11 := ⟨by decide +kernel, rfl⟩
theorem dS_isWithin_11 : Dc S_isWithin 11 (.goto 4) 3 14 := ⟨by decide +kernel, rfl⟩
theorem dS_isWithin_14 : Dc S_isWithin 14 (.iconst 0) 1 15 := ⟨by decide +kernel, rfl⟩
theorem dS_isWithin_15 : Dc S_isWithin 15 (.ireturn) 1 16 := ⟨by decide +kernel, rfl⟩
theorem dS_finding_0 : Dc S_finding 0 (.aload_n 0) 1 1 := ⟨by decide +kernel, rfl⟩
theorem dS_finding_1 : Dc S_finding 1 (.getfield 54) 3 4 := ⟨by decide +kernel, rfl⟩
theorem dS_finding_4 : Dc S_finding 4 (.iload_n 1) 1 5 := ⟨by decide +kernel, rfl⟩
theorem dS_finding_5 : Dc S_finding 5 (.dup2) 1 6 := ⟨by decide +kernel, rfl⟩
theorem dS_finding_6 : Dc S_finding 6 (.iaload) 1 7 := ⟨by decide +kernel, rfl⟩
theorem dS_finding_7 : Dc S_finding 7 (.iconst 1) 1 8 := ⟨by decide +kernel, rfl⟩
theorem dS_finding_8 : Dc S_finding 8 (.iadd) 1 9 := ⟨by decide +kernel, rfl⟩
theorem dS_finding_9 : Dc S_finding 9 (.iastore) 1 10 := ⟨by decide +kernel, rfl⟩
theorem dS_finding_10 : Dc S_finding 10 (.ldc 243) 2 12 := ⟨by decide +kernel, rfl⟩
theorem dS_finding_12 : Dc S_finding 12 (.iload_n 1) 1 13 := ⟨by decide +kernel, rfl⟩
theorem dS_finding_13 : Dc S_finding 13 (.isub) 1 14 := ⟨by decide +kernel, rfl⟩
theorem dS_finding_14 : Dc S_finding 14 (.ireturn) 1 15 := ⟨by decide +kernel, rfl⟩
theorem dH_feature_0 : Dc H_feature 0 (.iload_n 1) 1 1 := ⟨by decide +kernel, rfl⟩
theorem dH_feature_1 : Dc H_feature 1 (.tableswitch 51 0 3 #[31, 36, 41, 46]) 31 32 := ⟨by decide +kernel, rfl⟩
theorem dH_feature_32 : Dc H_feature 32 (.aload_n 0) 1 33 := ⟨by decide +kernel, rfl⟩
theorem dH_feature_33 : Dc H_feature 33 (.getfield 9) 3 36 := ⟨by decide +kernel, rfl⟩
theorem dH_feature_36 : Dc H_feature 36 (.ireturn) 1 37 := ⟨by decide +kernel, rfl⟩
theorem dH_feature_37 : Dc H_feature 37 (.aload_n 0) 1 38 := ⟨by decide +kernel, rfl⟩
theorem dH_feature_38 : Dc H_feature 38 (.getfield 15) 3 41 := ⟨by decide +kernel, rfl⟩
theorem dH_feature_41 : Dc H_feature 41 (.ireturn) 1 42 := ⟨by decide +kernel, rfl⟩
theorem dH_feature_42 : Dc H_feature 42 (.aload_n 0) 1 43 := ⟨by decide +kernel, rfl⟩
theorem dH_feature_43 : Dc H_feature 43 (.getfield 21) 3 46 := ⟨by decide +kernel, rfl⟩
theorem dH_feature_46 : Dc H_feature 46 (.ireturn) 1 47 := ⟨by decide +kernel, rfl⟩
theorem dH_feature_47 : Dc H_feature 47 (.aload_n 0) 1 48 := ⟨by decide +kernel, rfl⟩
theorem dH_feature_48 : Dc H_feature 48 (.getfield 24) 3 51 := ⟨by decide +kernel, rfl⟩
theorem dH_feature_51 : Dc H_feature 51 (.ireturn) 1 52 := ⟨by decide +kernel, rfl⟩
theorem dH_feature_52 : Dc H_feature 52 (.aload_n 0) 1 53 := ⟨by decide +kernel, rfl⟩
theorem dH_feature_53 : Dc H_feature 53 (.getfield 18) 3 56 := ⟨by decide +kernel, rfl⟩
theorem dH_feature_56 : Dc H_feature 56 (.ireturn) 1 57 := ⟨by decide +kernel, rfl⟩
theorem dH_moveKeeper_0 : Dc H_moveKeeper 0 (.aload_n 0) 1 1 := ⟨by decide +kernel, rfl⟩
theorem dH_moveKeeper_1 : Dc H_moveKeeper 1 (.iload_n 1) 1 2 := ⟨by decide +kernel, rfl⟩
theorem dH_moveKeeper_2 : Dc H_moveKeeper 2 (.putfield 15) 3 5 := ⟨by decide +kernel, rfl⟩
theorem dH_moveKeeper_5 : Dc H_moveKeeper 5 (.aload_n 0) 1 6 := ⟨by decide +kernel, rfl⟩
theorem dH_moveKeeper_6 : Dc H_moveKeeper 6 (.aload_n 0) 1 7 := ⟨by decide +kernel, rfl⟩
theorem dH_moveKeeper_7 : Dc H_moveKeeper 7 (.getfield 18) 3 10 := ⟨by decide +kernel, rfl⟩
theorem dH_moveKeeper_10 : Dc H_moveKeeper 10 (.invokevirtual 59) 3 13 := ⟨by decide +kernel, rfl⟩
theorem dH_moveKeeper_13 : Dc H_moveKeeper 13 (.ifCond .eq 13) 3 16 := ⟨by decide +kernel, rfl⟩
theorem dH_moveKeeper_16 : Dc H_moveKeeper 16 (.aload_n 0) 1 17 := ⟨by decide +kernel, rfl⟩
theorem dH_moveKeeper_17 : Dc H_moveKeeper 17 (.getfield 37) 3 20 := ⟨by decide +kernel, rfl⟩
theorem dH_moveKeeper_20 : Dc H_moveKeeper 20 (.aload_n 0) 1 21 := ⟨by decide +kernel, rfl⟩
theorem dH_moveKeeper_21 : Dc H_moveKeeper 21 (.getfield 18) 3 24 := ⟨by decide +kernel, rfl⟩
theorem dH_moveKeeper_24 : Dc H_moveKeeper 24 (.iload_n 1) 1 25 := ⟨by decide +kernel, rfl⟩
theorem dH_moveKeeper_25 : Dc H_moveKeeper 25 (.iastore) 1 26 := ⟨by decide +kernel, rfl⟩
theorem dH_moveKeeper_26 : Dc H_moveKeeper 26 (.return_) 1 27 := ⟨by decide +kernel, rfl⟩
theorem dH_has_0 : Dc H_has 0 (.iload_n 1) 1 1 := ⟨by decide +kernel, rfl⟩
theorem dH_has_1 : Dc H_has 1 (.ifCond .lt 15) 3 4 := ⟨by decide +kernel, rfl⟩
theorem dH_has_4 : Dc H_has 4 (.iload_n 1) 1 5 := ⟨by decide +kernel, rfl⟩
theorem dH_has_5 : Dc H_has 5 (.aload_n 0) 1 6 := ⟨by decide +kernel, rfl⟩
theorem dH_has_6 : Dc H_has 6 (.getfield 30) 3 9 := ⟨by decide +kernel, rfl⟩
theorem dH_has_9 : Dc H_has 9 (.if_icmp .ge 7) 3 12 := ⟨by decide +kernel, rfl⟩
theorem dH_has_12 : Dc H_has 12 (.iconst 1) 1 13 := ⟨by decide +kernel, rfl⟩
theorem dH_has_13 : Dc H_has 13 (.goto 4) 3 16 := ⟨by decide +kernel, rfl⟩
theorem dH_has_16 : Dc H_has 16 (.iconst 0) 1 17 := ⟨by decide +kernel, rfl⟩
theorem dH_has_17 : Dc H_has 17 (.ireturn) 1 18 := ⟨by decide +kernel, rfl⟩
theorem dS_hill_0 : Dc S_hill 0 (.iload_n 1) 1 1 := ⟨by decide +kernel, rfl⟩
theorem dS_hill_1 : Dc S_hill 1 (.iconst 0) 1 2 := ⟨by decide +kernel, rfl⟩
theorem dS_hill_2 : Dc S_hill 2 (.iconst 4) 1 3 := ⟨by decide +kernel, rfl⟩
theorem dS_hill_3 : Dc S_hill 3 (.invokestatic 81) 3 6 := ⟨by decide +kernel, rfl⟩
theorem dS_hill_6 : Dc S_hill 6 (.ifCond .ne 9) 3 9 := ⟨by decide +kernel, rfl⟩
theorem dS_hill_9 : Dc S_hill 9 (.aload_n 0) 1 10 := ⟨by decide +kernel, rfl⟩
theorem dS_hill_10 : Dc S_hill 10 (.iconst 0) 1 11 := ⟨by decide +kernel, rfl⟩
theorem dS_hill_11 : Dc S_hill 11 (.invokevirtual 61) 3 14 := ⟨by decide +kernel, rfl⟩
theorem dS_hill_14 : Dc S_hill 14 (.ireturn) 1 15 := ⟨by decide +kernel, rfl⟩
theorem dS_hill_15 : Dc S_hill 15 (.aload_n 0) 1 16 := ⟨by decide +kernel, rfl⟩
theorem dS_hill_16 : Dc S_hill 16 (.getfield 12) 3 19 := ⟨by decide +kernel, rfl⟩
theorem dS_hill_19 : Dc S_hill 19 (.iload_n 1) 1 20 := ⟨by decide +kernel, rfl⟩
theorem dS_hill_20 : Dc S_hill 20 (.invokevirtual 65) 3 23 := ⟨by decide +kernel, rfl⟩
theorem dS_hill_23 : Dc S_hill 23 (.ireturn) 1 24 := ⟨by decide +kernel, rfl⟩
theorem dS_sheep_0 : Dc S_sheep 0 (.iload_n 1) 1 1 := ⟨by decide +kernel, rfl⟩
theorem dS_sheep_1 : Dc S_sheep 1 (.invokestatic 85) 3 4 := ⟨by decide +kernel, rfl⟩
theorem dS_sheep_4 : Dc S_sheep 4 (.ifCond .eq 10) 3 7 := ⟨by decide +kernel, rfl⟩
theorem dS_sheep_7 : Dc S_sheep 7 (.iload_n 2) 1 8 := ⟨by decide +kernel, rfl⟩
theorem dS_sheep_8 : Dc S_sheep 8 (.invokestatic 89) 3 11 := ⟨by decide +kernel, rfl⟩
theorem dS_sheep_11 : Dc S_sheep 11 (.ifCond .ne 9) 3 14 := ⟨by decide +kernel, rfl⟩
theorem dS_sheep_14 : Dc S_sheep 14 (.aload_n 0) 1 15 := ⟨by decide +kernel, rfl⟩
theorem dS_sheep_15 : Dc S_sheep 15 (.iconst 0) 1 16 := ⟨by decide +kernel, rfl⟩
theorem dS_sheep_16 : Dc S_sheep 16 (.invokevirtual 61) 3 19 := ⟨by decide +kernel, rfl⟩
theorem dS_sheep_19 : Dc S_sheep 19 (.ireturn) 1 20 := ⟨by decide +kernel, rfl⟩
theorem dS_sheep_20 : Dc S_sheep 20 (.aload_n 0) 1 21 := ⟨by decide +kernel, rfl⟩
theorem dS_sheep_21 : Dc S_sheep 21 (.getfield 12) 3 24 := ⟨by decide +kernel, rfl⟩
theorem dS_sheep_24 : Dc S_sheep 24 (.invokevirtual 92) 3 27 := ⟨by decide +kernel, rfl⟩
theorem dS_sheep_27 : Dc S_sheep 27 (.ifCond .eq 9) 3 30 := ⟨by decide +kernel, rfl⟩
theorem dS_sheep_30 : Dc S_sheep 30 (.aload_n 0) 1 31 := ⟨by decide +kernel, rfl⟩
theorem dS_sheep_31 : Dc S_sheep 31 (.iconst 1) 1 32 := ⟨by decide +kernel, rfl⟩
theorem dS_sheep_32 : Dc S_sheep 32 (.invokevirtual 61) 3 35 := ⟨by decide +kernel, rfl⟩
theorem dS_sheep_35 : Dc S_sheep 35 (.ireturn) 1 36 := ⟨by decide +kernel, rfl⟩
theorem dS_sheep_36 : Dc S_sheep 36 (.aload_n 0) 1 37 := ⟨by decide +kernel, rfl⟩
theorem dS_sheep_37 : Dc S_sheep 37 (.getfield 12) 3 40 := ⟨by decide +kernel, rfl⟩
theorem dS_sheep_40 : Dc S_sheep 40 (.iload_n 1) 1 41 := ⟨by decide +kernel, rfl⟩
theorem dS_sheep_41 : Dc S_sheep 41 (.iload_n 2) 1 42 := ⟨by decide +kernel, rfl⟩
theorem dS_sheep_42 : Dc S_sheep 42 (.invokevirtual 96) 3 45 := ⟨by decide +kernel, rfl⟩
theorem dS_sheep_45 : Dc S_sheep 45 (.ireturn) 1 46 := ⟨by decide +kernel, rfl⟩
theorem dS_isKind_0 : Dc S_isKind 0 (.iload_n 0) 1 1 := ⟨by decide +kernel, rfl⟩
theorem dS_isKind_1 : Dc S_isKind 1 (.iconst 0) 1 2 := ⟨by decide +kernel, rfl⟩
theorem dS_isKind_2 : Dc S_isKind 2 (.bipush 6) 2 4 := ⟨by decide +kernel, rfl⟩
theorem dS_isKind_4 : Dc S_isKind 4 (.invokestatic 81) 3 7 := ⟨by decide +kernel, rfl⟩
theorem dS_isKind_7 : Dc S_isKind 7 (.ireturn) 1 8 := ⟨by decide +kernel, rfl⟩
theorem dH_isFull_0 : Dc H_isFull 0 (.aload_n 0) 1 1 := ⟨by decide +kernel, rfl⟩
theorem dH_isFull_1 : Dc H_isFull 1 (.getfield 30) 3 4 := ⟨by decide +kernel, rfl⟩
theorem dH_isFull_4 : Dc H_isFull 4 (.bipush 8) 2 6 := ⟨by decide +kernel, rfl⟩
theorem dH_isFull_6 : Dc H_isFull 6 (.if_icmp .lt 7) 3 9 := ⟨by decide +kernel, rfl⟩
theorem dH_isFull_9 : Dc H_isFull 9 (.iconst 1) 1 10 := ⟨by decide +kernel, rfl⟩
theorem dH_isFull_10 : Dc H_isFull 10 (.goto 4) 3 13 := ⟨by decide +kernel, rfl⟩
theorem dH_isFull_13 : Dc H_isFull 13 (.iconst 0) 1 14 := ⟨by decide +kernel, rfl⟩
theorem dH_isFull_14 : Dc H_isFull 14 (.ireturn) 1 15 := ⟨by decide +kernel, rfl⟩
theorem dH_add_0 : Dc H_add 0 (.aload_n 0) 1 1 := ⟨by decide +kernel, rfl⟩
theorem dH_add_1 : Dc H_add 1 (.invokevirtual 55) 3 4 := ⟨by decide +kernel, rfl⟩
theorem dH_add_4 : Dc H_add 4 (.ifCond .eq 5) 3 7 := ⟨by decide +kernel, rfl⟩
theorem dH_add_7 : Dc H_add 7 (.iconst (-1)) 1 8 := ⟨by decide +kernel, rfl⟩
theorem dH_add_8 : Dc H_add 8 (.ireturn) 1 9 := ⟨by decide +kernel, rfl⟩
theorem dH_add_9 : Dc H_add 9 (.aload_n 0) 1 10 := ⟨by decide +kernel, rfl⟩
theorem dH_add_10 : Dc H_add 10 (.getfield 30) 3 13 := ⟨by decide +kernel, rfl⟩
theorem dH_add_13 : Dc H_add 13 (.istore_n 3) 1 14 := ⟨by decide +kernel, rfl⟩
theorem dH_add_14 : Dc H_add 14 (.aload_n 0) 1 15 := ⟨by decide +kernel, rfl⟩
theorem dH_add_15 : Dc H_add 15 (.getfield 33) 3 18 := ⟨by decide +kernel, rfl⟩
theorem dH_add_18 : Dc H_add 18 (.iload_n 3) 1 19 := ⟨by decide +kernel, rfl⟩
theorem dH_add_19 : Dc H_add 19 (.iload_n 1) 1 20 := ⟨by decide +kernel, rfl⟩
theorem dH_add_20 : Dc H_add 20 (.iastore) 1 21 := ⟨by decide +kernel, rfl⟩
theorem dH_add_21 : Dc H_add 21 (.aload_n 0) 1 22 := ⟨by decide +kernel, rfl⟩
theorem dH_add_22 : Dc H_add 22 (.getfield 37) 3 25 := ⟨by decide +kernel, rfl⟩
theorem dH_add_25 : Dc H_add 25 (.iload_n 3) 1 26 := ⟨by decide +kernel, rfl⟩
theorem dH_add_26 : Dc H_add 26 (.iload_n 2) 1 27 := ⟨by decide +kernel, rfl⟩
theorem dH_add_27 : Dc H_add 27 (.iastore) 1 28 := ⟨by decide +kernel, rfl⟩
theorem dH_add_28 : Dc H_add 28 (.aload_n 0) 1 29 := ⟨by decide +kernel, rfl⟩
theorem dH_add_29 : Dc H_add 29 (.getfield 40) 3 32 := ⟨by decide +kernel, rfl⟩
theorem dH_add_32 : Dc H_add 32 (.iload_n 3) 1 33 := ⟨by decide +kernel, rfl⟩
theorem dH_add_33 : Dc H_add 33 (.iconst 0) 1 34 := ⟨by decide +kernel, rfl⟩
theorem dH_add_34 : Dc H_add 34 (.iastore) 1 35 := ⟨by decide +kernel, rfl⟩
theorem dH_add_35 : Dc H_add 35 (.aload_n 0) 1 36 := ⟨by decide +kernel, rfl⟩
theorem dH_add_36 : Dc H_add 36 (.getfield 43) 3 39 := ⟨by decide +kernel, rfl⟩
theorem dH_add_39 : Dc H_add 39 (.iload_n 3) 1 40 := ⟨by decide +kernel, rfl⟩
theorem dH_add_40 : Dc H_add 40 (.iconst 0) 1 41 := ⟨by decide +kernel, rfl⟩
theorem dH_add_41 : Dc H_add 41 (.iastore) 1 42 := ⟨by decide +kernel, rfl⟩
theorem dH_add_42 : Dc H_add 42 (.aload_n 0) 1 43 := ⟨by decide +kernel, rfl⟩
theorem dH_add_43 : Dc H_add 43 (.getfield 46) 3 46 := ⟨by decide +kernel, rfl⟩
theorem dH_add_46 : Dc H_add 46 (.iload_n 3) 1 47 := ⟨by decide +kernel, rfl⟩
theorem dH_add_47 : Dc H_add 47 (.iconst 0) 1 48 := ⟨by decide +kernel, rfl⟩
theorem dH_add_48 : Dc H_add 48 (.iastore) 1 49 := ⟨by decide +kernel, rfl⟩
theorem dH_add_49 : Dc H_add 49 (.aload_n 0) 1 50 := ⟨by decide +kernel, rfl⟩
theorem dH_add_50 : Dc H_add 50 (.iload_n 3) 1 51 := ⟨by decide +kernel, rfl⟩
theorem dH_add_51 : Dc H_add 51 (.iconst 1) 1 52 := ⟨by decide +kernel, rfl⟩
theorem dH_add_52 : Dc H_add 52 (.iadd) 1 53 := ⟨by decide +kernel, rfl⟩
theorem dH_add_53 : Dc H_add 53 (.putfield 30) 3 56 := ⟨by decide +kernel, rfl⟩
theorem dH_add_56 : Dc H_add 56 (.iload_n 3) 1 57 := ⟨by decide +kernel, rfl⟩
theorem dH_add_57 : Dc H_add 57 (.ireturn) 1 58 := ⟨by decide +kernel, rfl⟩
theorem dS_of_0 : Dc S_of 0 (.aload_n 0) 1 1 := ⟨by decide +kernel, rfl⟩
theorem dS_of_1 : Dc S_of 1 (.getfield 12) 3 4 := ⟨by decide +kernel, rfl⟩
theorem dS_of_4 : Dc S_of 4 (.iload_n 1) 1 5 := ⟨by decide +kernel, rfl⟩
theorem dS_of_5 : Dc S_of 5 (.invokevirtual 100) 3 8 := ⟨by decide +kernel, rfl⟩
theorem dS_of_8 : Dc S_of 8 (.ifCond .eq 13) 3 11 := ⟨by decide +kernel, rfl⟩
theorem dS_of_11 : Dc S_of 11 (.iload_n 2) 1 12 := ⟨by decide +kernel, rfl⟩
theorem dS_of_12 : Dc S_of 12 (.iconst 0) 1 13 := ⟨by decide +kernel, rfl⟩
theorem dS_of_13 : Dc S_of 13 (.bipush 9) 2 15 := ⟨by decide +kernel, rfl⟩
theorem dS_of_15 : Dc S_of 15 (.invokestatic 81) 3 18 := ⟨by decide +kernel, rfl⟩
theorem dS_of_18 : Dc S_of 18 (.ifCond .ne 9) 3 21 := ⟨by decide +kernel, rfl⟩
theorem dS_of_21 : Dc S_of 21 (.aload_n 0) 1 22 := ⟨by decide +kernel, rfl⟩
theorem dS_of_22 : Dc S_of 22 (.iconst 0) 1 23 := ⟨by decide +kernel, rfl⟩
theorem dS_of_23 : Dc S_of 23 (.invokevirtual 61) 3 26 := ⟨by decide +kernel, rfl⟩
theorem dS_of_26 : Dc S_of 26 (.ireturn) 1 27 := ⟨by decide +kernel, rfl⟩
theorem dS_of_27 : Dc S_of 27 (.aload_n 0) 1 28 := ⟨by decide +kernel, rfl⟩
theorem dS_of_28 : Dc S_of 28 (.getfield 12) 3 31 := ⟨by decide +kernel, rfl⟩
theorem dS_of_31 : Dc S_of 31 (.iload_n 1) 1 32 := ⟨by decide +kernel, rfl⟩
theorem dS_of_32 : Dc S_of 32 (.iload_n 2) 1 33 := ⟨by decide +kernel, rfl⟩
theorem dS_of_33 : Dc S_of 33 (.invokevirtual 103) 3 36 := ⟨by decide +kernel, rfl⟩
theorem dS_of_36 : Dc S_of 36 (.ireturn) 1 37 := ⟨by decide +kernel, rfl⟩
theorem dH_trait_0 : Dc H_trait 0 (.iload_n 2) 1 1 := ⟨by decide +kernel, rfl⟩
theorem dH_trait_1 : Dc H_trait 1 (.tableswitch 118 0 8 #[51, 58, 65, 72, 79, 86, 92, 98, 108]) 51 52 := ⟨by decide +kernel, rfl⟩
theorem dH_trait_52 : Dc H_trait 52 (.aload_n 0) 1 53 := ⟨by decide +kernel, rfl⟩
theorem dH_trait_53 : Dc H_trait 53 (.getfield 33) 3 56 := ⟨by decide +kernel, rfl⟩
theorem dH_trait_56 : Dc H_trait 56 (.iload_n 1) 1 57 := ⟨by decide +kernel, rfl⟩
theorem dH_trait_57 : Dc H_trait 57 (.iaload) 1 58 := ⟨by decide +kernel, rfl⟩
theorem dH_trait_58 : Dc H_trait 58 (.ireturn) 1 59 := ⟨by decide +kernel, rfl⟩
theorem dH_trait_59 : Dc H_trait 59 (.aload_n 0) 1 60 := ⟨by decide +kernel, rfl⟩
theorem dH_trait_60 : Dc H_trait 60 (.getfield 37) 3 63 := ⟨by decide +kernel, rfl⟩
theorem dH_trait_63 : Dc H_trait 63 (.iload_n 1) 1 64 := ⟨by decide +kernel, rfl⟩
theorem dH_trait_64 : Dc H_trait 64 (.iaload) 1 65 := ⟨by decide +kernel, rfl⟩
theorem dH_trait_65 : Dc H_trait 65 (.ireturn) 1 66 := ⟨by decide +kernel, rfl⟩
theorem dH_trait_66 : Dc H_trait 66 (.aload_n 0) 1 67 := ⟨by decide +kernel, rfl⟩
theorem dH_trait_67 : Dc H_trait 67 (.getfield 40) 3 70 := ⟨by decide +kernel, rfl⟩
theorem dH_trait_70 : Dc H_trait 70 (.iload_n 1) 1 71 := ⟨by decide +kernel, rfl⟩
theorem dH_trait_71 : Dc H_trait 71 (.iaload) 1 72 := ⟨by decide +kernel, rfl⟩
theorem dH_trait_72 : Dc H_trait 72 (.ireturn) 1 73 := ⟨by decide +kernel, rfl⟩
theorem dH_trait_73 : Dc H_trait 73 (.aload_n 0) 1 74 := ⟨by decide +kernel, rfl⟩
theorem dH_trait_74 : Dc H_trait 74 (.getfield 43) 3 77 := ⟨by decide +kernel, rfl⟩
theorem dH_trait_77 : Dc H_trait 77 (.iload_n 1) 1 78 := ⟨by decide +kernel, rfl⟩
theorem dH_trait_78 : Dc H_trait 78 (.iaload) 1 79 := ⟨by decide +kernel, rfl⟩
theorem dH_trait_79 : Dc H_trait 79 (.ireturn) 1 80 := ⟨by decide +kernel, rfl⟩
theorem dH_trait_80 : Dc H_trait 80 (.aload_n 0) 1 81 := ⟨by decide +kernel, rfl⟩
theorem dH_trait_81 : Dc H_trait 81 (.getfield 46) 3 84 := ⟨by decide +kernel, rfl⟩
theorem dH_trait_84 : Dc H_trait 84 (.iload_n 1) 1 85 := ⟨by decide +kernel, rfl⟩
theorem dH_trait_85 : Dc H_trait 85 (.iaload) 1 86 := ⟨by decide +kernel, rfl⟩
theorem dH_trait_86 : Dc H_trait 86 (.ireturn) 1 87 := ⟨by decide +kernel, rfl⟩
theorem dH_trait_87 : Dc H_trait 87 (.aload_n 0) 1 88 := ⟨by decide +kernel, rfl⟩
theorem dH_trait_88 : Dc H_trait 88 (.iload_n 1) 1 89 := ⟨by decide +kernel, rfl⟩
theorem dH_trait_89 : Dc H_trait 89 (.invokevirtual 63) 3 92 := ⟨by decide +kernel, rfl⟩
theorem dH_trait_92 : Dc H_trait 92 (.ireturn) 1 93 := ⟨by decide +kernel, rfl⟩
theorem dH_trait_93 : Dc H_trait 93 (.aload_n 0) 1 94 := ⟨by decide +kernel, rfl⟩
theorem dH_trait_94 : Dc H_trait 94 (.iload_n 1) 1 95 := ⟨by decide +kernel, rfl⟩
theorem dH_trait_95 : Dc H_trait 95 (.invokevirtual 67) 3 98 := ⟨by decide +kernel, rfl⟩
theorem dH_trait_98 : Dc H_trait 98 (.ireturn) 1 99 := ⟨by decide +kernel, rfl⟩
theorem dH_trait_99 : Dc H_trait 99 (.aload_n 0) 1 100 := ⟨by decide +kernel, rfl⟩
theorem dH_trait_100 : Dc H_trait 100 (.getfield 33) 3 103 := ⟨by decide +kernel, rfl⟩
theorem dH_trait_103 : Dc H_trait 103 (.iload_n 1) 1 104 := ⟨by decide +kernel, rfl⟩
theorem dH_trait_104 : Dc H_trait 104 (.iaload) 1 105 := ⟨by decide +kernel, rfl⟩
theorem dH_trait_105 : Dc H_trait 105 (.invokestatic 70) 3 108 := ⟨by decide +kernel, rfl⟩
theorem dH_trait_108 : Dc H_trait 108 (.ireturn) 1 109 := ⟨by decide +kernel, rfl⟩
theorem dH_trait_109 : Dc H_trait 109 (.aload_n 0) 1 110 := ⟨by decide +kernel, rfl⟩
theorem dH_trait_110 : Dc H_trait 110 (.getfield 33) 3 113 := ⟨by decide +kernel, rfl⟩
theorem dH_trait_113 : Dc H_trait 113 (.iload_n 1) 1 114 := ⟨by decide +kernel, rfl⟩
theorem dH_trait_114 : Dc H_trait 114 (.iaload) 1 115 := ⟨by decide +kernel, rfl⟩
theorem dH_trait_115 : Dc H_trait 115 (.invokestatic 73) 3 118 := ⟨by decide +kernel, rfl⟩
theorem dH_trait_118 : Dc H_trait 118 (.ireturn) 1 119 := ⟨by decide +kernel, rfl⟩
theorem dH_trait_119 : Dc H_trait 119 (.aload_n 0) 1 120 := ⟨by decide +kernel, rfl⟩
theorem dH_trait_120 : Dc H_trait 120 (.getfield 33) 3 123 := ⟨by decide +kernel, rfl⟩
theorem dH_trait_123 : Dc H_trait 123 (.iload_n 1) 1 124 := ⟨by decide +kernel, rfl⟩
theorem dH_trait_124 : Dc H_trait 124 (.iaload) 1 125 := ⟨by decide +kernel, rfl⟩
theorem dH_trait_125 : Dc H_trait 125 (.invokestatic 76) 3 128 := ⟨by decide +kernel, rfl⟩
theorem dH_trait_128 : Dc H_trait 128 (.ireturn) 1 129 := ⟨by decide +kernel, rfl⟩
theorem dH_far_0 : Dc H_far 0 (.aload_n 0) 1 1 := ⟨by decide +kernel, rfl⟩
theorem dH_far_1 : Dc H_far 1 (.getfield 37) 3 4 := ⟨by decide +kernel, rfl⟩
theorem dH_far_4 : Dc H_far 4 (.iload_n 1) 1 5 := ⟨by decide +kernel, rfl⟩
theorem dH_far_5 : Dc H_far 5 (.iaload) 1 6 := ⟨by decide +kernel, rfl⟩
theorem dH_far_6 : Dc H_far 6 (.aload_n 0) 1 7 := ⟨by decide +kernel, rfl⟩
theorem dH_far_7 : Dc H_far 7 (.getfield 9) 3 10 := ⟨by decide +kernel, rfl⟩
theorem dH_far_10 : Dc H_far 10 (.invokestatic 79) 3 13 := ⟨by decide +kernel, rfl⟩
theorem dH_far_13 : Dc H_far 13 (.ireturn) 1 14 := ⟨by decide +kernel, rfl⟩
theorem dS_distance_0 : Dc S_distance 0 (.iload_n 0) 1 1 := ⟨by decide +kernel, rfl⟩
theorem dS_distance_1 : Dc S_distance 1 (.iload_n 1) 1 2 := ⟨by decide +kernel, rfl⟩
theorem dS_distance_2 : Dc S_distance 2 (.if_icmp .ge 9) 3 5 := ⟨by decide +kernel, rfl⟩
theorem dS_distance_5 : Dc S_distance 5 (.iload_n 1) 1 6 := ⟨by decide +kernel, rfl⟩
theorem dS_distance_6 : Dc S_distance 6 (.iload_n 0) 1 7 := ⟨by decide +kernel, rfl⟩
theorem dS_distance_7 : Dc S_distance 7 (.isub) 1 8 := ⟨by decide +kernel, rfl⟩
theorem dS_distance_8 : Dc S_distance 8 (.goto 6) 3 11 := ⟨by decide +kernel, rfl⟩
theorem dS_distance_11 : Dc S_distance 11 (.iload_n 0) 1 12 := ⟨by decide +kernel, rfl⟩
theorem dS_distance_12 : Dc S_distance 12 (.iload_n 1) 1 13 := ⟨by decide +kernel, rfl⟩
theorem dS_distance_13 : Dc S_distance 13 (.isub) 1 14 := ⟨by decide +kernel, rfl⟩
theorem dS_distance_14 : Dc S_distance 14 (.ireturn) 1 15 := ⟨by decide +kernel, rfl⟩
theorem dH_strays_0 : Dc H_strays 0 (.aload_n 0) 1 1 := ⟨by decide +kernel, rfl⟩
theorem dH_strays_1 : Dc H_strays 1 (.getfield 33) 3 4 := ⟨by decide +kernel, rfl⟩
theorem dH_strays_4 : Dc H_strays 4 (.iload_n 1) 1 5 := ⟨by decide +kernel, rfl⟩
theorem dH_strays_5 : Dc H_strays 5 (.iaload) 1 6 := ⟨by decide +kernel, rfl⟩
theorem dH_strays_6 : Dc H_strays 6 (.tableswitch 88 1 6 #[38, 44, 50, 58, 78, 80]) 38 44 := ⟨by decide +kernel, rfl⟩
theorem dH_strays_44 : Dc H_strays 44 (.aload_n 0) 1 45 := ⟨by decide +kernel, rfl⟩
theorem dH_strays_45 : Dc H_strays 45 (.iload_n 1) 1 46 := ⟨by decide +kernel, rfl⟩
theorem dH_strays_46 : Dc H_strays 46 (.invokevirtual 86) 3 49 := ⟨by decide +kernel, rfl⟩
theorem dH_strays_49 : Dc H_strays 49 (.ireturn) 1 50 := ⟨by decide +kernel, rfl⟩
theorem dH_strays_50 : Dc H_strays 50 (.aload_n 0) 1 51 := ⟨by decide +kernel, rfl⟩
theorem dH_strays_51 : Dc H_strays 51 (.iload_n 1) 1 52 := ⟨by decide +kernel, rfl⟩
theorem dH_strays_52 : Dc H_strays 52 (.invokevirtual 89) 3 55 := ⟨by decide +kernel, rfl⟩
theorem dH_strays_55 : Dc H_strays 55 (.ireturn) 1 56 := ⟨by decide +kernel, rfl⟩
theorem dH_strays_56 : Dc H_strays 56 (.iconst 2) 1 57 := ⟨by decide +kernel, rfl⟩
theorem dH_strays_57 : Dc H_strays 57 (.aload_n 0) 1 58 := ⟨by decide +kernel, rfl⟩
theorem dH_strays_58 : Dc H_strays 58 (.iload_n 1) 1 59 := ⟨by decide +kernel, rfl⟩
theorem dH_strays_59 : Dc H_strays 59 (.invokevirtual 89) 3 62 := ⟨by decide +kernel, rfl⟩
theorem dH_strays_62 : Dc H_strays 62 (.imul) 1 63 := ⟨by decide +kernel, rfl⟩
theorem dH_strays_63 : Dc H_strays 63 (.ireturn) 1 64 := ⟨by decide +kernel, rfl⟩
theorem dH_strays_64 : Dc H_strays 64 (.aload_n 0) 1 65 := ⟨by decide +kernel, rfl⟩
theorem dH_strays_65 : Dc H_strays 65 (.iload_n 1) 1 66 := ⟨by decide +kernel, rfl⟩
theorem dH_strays_66 : Dc H_strays 66 (.invokevirtual 92) 3 69 := ⟨by decide +kernel, rfl⟩
theorem dH_strays_69 : Dc H_strays 69 (.ifCond .eq 7) 3 72 := ⟨by decide +kernel, rfl⟩
theorem dH_strays_72 : Dc H_strays 72 (.iconst 0) 1 73 := ⟨by decide +kernel, rfl⟩
theorem dH_strays_73 : Dc H_strays 73 (.goto 10) 3 76 := ⟨by decide +kernel, rfl⟩
theorem dH_strays_76 : Dc H_strays 76 (.iconst 2) 1 77 := ⟨by decide +kernel, rfl⟩
theorem dH_strays_77 : Dc H_strays 77 (.aload_n 0) 1 78 := ⟨by decide +kernel, rfl⟩
theorem dH_strays_78 : Dc H_strays 78 (.iload_n 1) 1 79 := ⟨by decide +kernel, rfl⟩
theorem dH_strays_79 : Dc H_strays 79 (.invokevirtual 89) 3 82 := ⟨by decide +kernel, rfl⟩
theorem dH_strays_82 : Dc H_strays 82 (.imul) 1 83 := ⟨by decide +kernel, rfl⟩
theorem dH_strays_83 : Dc H_strays 83 (.ireturn) 1 84 := ⟨by decide +kernel, rfl⟩
theorem dH_strays_84 : Dc H_strays 84 (.iconst 2) 1 85 := ⟨by decide +kernel, rfl⟩
theorem dH_strays_85 : Dc H_strays 85 (.ireturn) 1 86 := ⟨by decide +kernel, rfl⟩
theorem dH_strays_86 : Dc H_strays 86 (.aload_n 0) 1 87 := ⟨by decide +kernel, rfl⟩
theorem dH_strays_87 : Dc H_strays 87 (.iload_n 1) 1 88 := ⟨by decide +kernel, rfl⟩
theorem dH_strays_88 : Dc H_strays 88 (.invokevirtual 86) 3 91 := ⟨by decide +kernel, rfl⟩
theorem dH_strays_91 : Dc H_strays 91 (.iconst 1) 1 92 := ⟨by decide +kernel, rfl⟩
theorem dH_strays_92 : Dc H_strays 92 (.isub) 1 93 := ⟨by decide +kernel, rfl⟩
theorem dH_strays_93 : Dc H_strays 93 (.ireturn) 1 94 := ⟨by decide +kernel, rfl⟩
theorem dH_strays_94 : Dc H_strays 94 (.aload_n 0) 1 95 := ⟨by decide +kernel, rfl⟩
theorem dH_strays_95 : Dc H_strays 95 (.invokevirtual 95) 3 98 := ⟨by decide +kernel, rfl⟩
theorem dH_strays_98 : Dc H_strays 98 (.ireturn) 1 99 := ⟨by decide +kernel, rfl⟩
theorem dH_straysAsRam_0 : Dc H_straysAsRam 0 (.aload_n 0) 1 1 := ⟨by decide +kernel, rfl⟩
theorem dH_straysAsRam_1 : Dc H_straysAsRam 1 (.getfield 40) 3 4 := ⟨by decide +kernel, rfl⟩
theorem dH_straysAsRam_4 : Dc H_straysAsRam 4 (.iload_n 1) 1 5 := ⟨by decide +kernel, rfl⟩
theorem dH_straysAsRam_5 : Dc H_straysAsRam 5 (.iaload) 1 6 := ⟨by decide +kernel, rfl⟩
theorem dH_straysAsRam_6 : Dc H_straysAsRam 6 (.bipush 50) 2 8 := ⟨by decide +kernel, rfl⟩
theorem dH_straysAsRam_8 : Dc H_straysAsRam 8 (.if_icmp .lt 12) 3 11 := ⟨by decide +kernel, rfl⟩
theorem dH_straysAsRam_11 : Dc H_straysAsRam 11 (.aload_n 0) 1 12 := ⟨by decide +kernel, rfl⟩
theorem dH_straysAsRam_12 : Dc H_straysAsRam 12 (.invokevirtual 95) 3 15 := ⟨by decide +kernel, rfl⟩
theorem dH_straysAsRam_15 : Dc H_straysAsRam 15 (.iconst 1) 1 16 := ⟨by decide +kernel, rfl⟩
theorem dH_straysAsRam_16 : Dc H_straysAsRam 16 (.iadd) 1 17 := ⟨by decide +kernel, rfl⟩
theorem dH_straysAsRam_17 : Dc H_straysAsRam 17 (.goto 7) 3 20 := ⟨by decide +kernel, rfl⟩
theorem dH_straysAsRam_20 : Dc H_straysAsRam 20 (.aload_n 0) 1 21 := ⟨by decide +kernel, rfl⟩
theorem dH_straysAsRam_21 : Dc H_straysAsRam 21 (.invokevirtual 95) 3 24 := ⟨by decide +kernel, rfl⟩
theorem dH_straysAsRam_24 : Dc H_straysAsRam 24 (.ireturn) 1 25 := ⟨by decide +kernel, rfl⟩
theorem dH_straysAsSheep_0 : Dc H_straysAsSheep 0 (.aload_n 0) 1 1 := ⟨by decide +kernel, rfl⟩
theorem dH_straysAsSheep_1 : Dc H_straysAsSheep 1 (.getfield 27) 3 4 := ⟨by decide +kernel, rfl⟩
theorem dH_straysAsSheep_4 : Dc H_straysAsSheep 4 (.iconst 3) 1 5 := ⟨by decide +kernel, rfl⟩
theorem dH_straysAsSheep_5 : Dc H_straysAsSheep 5 (.irem) 1 6 := ⟨by decide +kernel, rfl⟩
theorem dH_straysAsSheep_6 : Dc H_straysAsSheep 6 (.ifCond .ne 7) 3 9 := ⟨by decide +kernel, rfl⟩
theorem dH_straysAsSheep_9 : Dc H_straysAsSheep 9 (.iconst 1) 1 10 := ⟨by decide +kernel, rfl⟩
theorem dH_straysAsSheep_10 : Dc H_straysAsSheep 10 (.goto 4) 3 13 := ⟨by decide +kernel, rfl⟩
theorem dH_straysAsSheep_13 : Dc H_straysAsSheep 13 (.iconst 0) 1 14 := ⟨by decide +kernel, rfl⟩
theorem dH_straysAsSheep_14 : Dc H_straysAsSheep 14 (.ireturn) 1 15 := ⟨by decide +kernel, rfl⟩
theorem dH_straysAsEwe_0 : Dc H_straysAsEwe 0 (.aload_n 0) 1 1 := ⟨by decide +kernel, rfl⟩
theorem dH_straysAsEwe_1 : Dc H_straysAsEwe 1 (.getfield 40) 3 4 := ⟨by decide +kernel, rfl⟩
theorem dH_straysAsEwe_4 : Dc H_straysAsEwe 4 (.iload_n 1) 1 5 := ⟨by decide +kernel, rfl⟩
theorem dH_straysAsEwe_5 : Dc H_straysAsEwe 5 (.iaload) 1 6 := ⟨by decide +kernel, rfl⟩
theorem dH_straysAsEwe_6 : Dc H_straysAsEwe 6 (.bipush 30) 2 8 := ⟨by decide +kernel, rfl⟩
theorem dH_straysAsEwe_8 : Dc H_straysAsEwe 8 (.if_icmp .lt 7) 3 11 := ⟨by decide +kernel, rfl⟩
theorem dH_straysAsEwe_11 : Dc H_straysAsEwe 11 (.iconst (-1)) 1 12 := ⟨by decide +kernel, rfl⟩
theorem dH_straysAsEwe_12 : Dc H_straysAsEwe 12 (.goto 7) 3 15 := ⟨by decide +kernel, rfl⟩
theorem dH_straysAsEwe_15 : Dc H_straysAsEwe 15 (.aload_n 0) 1 16 := ⟨by decide +kernel, rfl⟩
theorem dH_straysAsEwe_16 : Dc H_straysAsEwe 16 (.invokevirtual 95) 3 19 := ⟨by decide +kernel, rfl⟩
theorem dH_straysAsEwe_19 : Dc H_straysAsEwe 19 (.ireturn) 1 20 := ⟨by decide +kernel, rfl⟩
theorem dH_hasCompany_0 : Dc H_hasCompany 0 (.aload_n 0) 1 1 := ⟨by decide +kernel, rfl⟩
theorem dH_hasCompany_1 : Dc H_hasCompany 1 (.aload_n 0) 1 2 := ⟨by decide +kernel, rfl⟩
theorem dH_hasCompany_2 : Dc H_hasCompany 2 (.getfield 37) 3 5 := ⟨by decide +kernel, rfl⟩
theorem dH_hasCompany_5 : Dc H_hasCompany 5 (.iload_n 1) 1 6 := ⟨by decide +kernel, rfl⟩
theorem dH_hasCompany_6 : Dc H_hasCompany 6 (.iaload) 1 7 := ⟨by decide +kernel, rfl⟩
theorem dH_hasCompany_7 : Dc H_hasCompany 7 (.invokevirtual 83) 3 10 := ⟨by decide +kernel, rfl⟩
theorem dH_hasCompany_10 : Dc H_hasCompany 10 (.iconst 1) 1 11 := ⟨by decide +kernel, rfl⟩
theorem dH_hasCompany_11 : Dc H_hasCompany 11 (.iload_n 1) 1 12 := ⟨by decide +kernel, rfl⟩
theorem dH_hasCompany_12 : Dc H_hasCompany 12 (.ishl) 1 13 := ⟨by decide +kernel, rfl⟩
theorem dH_hasCompany_13 : Dc H_hasCompany 13 (.if_icmp .eq 7) 3 16 := ⟨by decide +kernel, rfl⟩
theorem dH_hasCompany_16 : Dc H_hasCompany 16 (.iconst 1) 1 17 := ⟨by decide +kernel, rfl⟩
theorem dH_hasCompany_17 : Dc H_hasCompany 17 (.goto 4) 3 20 := ⟨by decide +kernel, rfl⟩
theorem dH_hasCompany_20 : Dc H_hasCompany 20 (.iconst 0) 1 21 := ⟨by decide +kernel, rfl⟩
theorem dH_hasCompany_21 : Dc H_hasCompany 21 (.ireturn) 1 22 := ⟨by decide +kernel, rfl⟩
theorem dH_sheepAt_0 : Dc H_sheepAt 0 (.iconst 0) 1 1 := ⟨by decide +kernel, rfl⟩
theorem dH_sheepAt_1 : Dc H_sheepAt 1 (.istore_n 2) 1 2 := ⟨by decide +kernel, rfl⟩
theorem dH_sheepAt_2 : Dc H_sheepAt 2 (.iconst 0) 1 3 := ⟨by decide +kernel, rfl⟩
theorem dH_sheepAt_3 : Dc H_sheepAt 3 (.istore_n 3) 1 4 := ⟨by decide +kernel, rfl⟩
theorem dH_sheepAt_4 : Dc H_sheepAt 4 (.iload_n 3) 1 5 := ⟨by decide +kernel, rfl⟩
theorem dH_sheepAt_5 : Dc H_sheepAt 5 (.aload_n 0) 1 6 := ⟨by decide +kernel, rfl⟩
theorem dH_sheepAt_6 : Dc H_sheepAt 6 (.getfield 30) 3 9 := ⟨by decide +kernel, rfl⟩
theorem dH_sheepAt_9 : Dc H_sheepAt 9 (.if_icmp .ge 25) 3 12 := ⟨by decide +kernel, rfl⟩
theorem dH_sheepAt_12 : Dc H_sheepAt 12 (.aload_n 0) 1 13 := ⟨by decide +kernel, rfl⟩
theorem dH_sheepAt_13 : Dc H_sheepAt 13 (.getfield 37) 3 16 := ⟨by decide +kernel, rfl⟩
theorem dH_sheepAt_16 : Dc H_sheepAt 16 (.iload_n 3) 1 17 := ⟨by decide +kernel, rfl⟩
theorem dH_sheepAt_17 : Dc H_sheepAt 17 (.iaload) 1 18 := ⟨by decide +kernel, rfl⟩
theorem dH_sheepAt_18 : Dc H_sheepAt 18 (.iload_n 1) 1 19 := ⟨by decide +kernel, rfl⟩
theorem dH_sheepAt_19 : Dc H_sheepAt 19 (.if_icmp .ne 9) 3 22 := ⟨by decide +kernel, rfl⟩
theorem dH_sheepAt_22 : Dc H_sheepAt 22 (.iload_n 2) 1 23 := ⟨by decide +kernel, rfl⟩
theorem dH_sheepAt_23 : Dc H_sheepAt 23 (.iconst 1) 1 24 := ⟨by decide +kernel, rfl⟩
theorem dH_sheepAt_24 : Dc H_sheepAt 24 (.iload_n 3) 1 25 := ⟨by decide +kernel, rfl⟩
theorem dH_sheepAt_25 : Dc H_sheepAt 25 (.ishl) 1 26 := ⟨by decide +kernel, rfl⟩
theorem dH_sheepAt_26 : Dc H_sheepAt 26 (.ior) 1 27 := ⟨by decide +kernel, rfl⟩
theorem dH_sheepAt_27 : Dc H_sheepAt 27 (.istore_n 2) 1 28 := ⟨by decide +kernel, rfl⟩
theorem dH_sheepAt_28 : Dc H_sheepAt 28 (.iinc 3 1) 3 31 := ⟨by decide +kernel, rfl⟩
theorem dH_sheepAt_31 : Dc H_sheepAt 31 (.goto (-27)) 3 34 := ⟨by decide +kernel, rfl⟩
theorem dH_sheepAt_34 : Dc H_sheepAt 34 (.iload_n 2) 1 35 := ⟨by decide +kernel, rfl⟩
theorem dH_sheepAt_35 : Dc H_sheepAt 35 (.ireturn) 1 36 := ⟨by decide +kernel, rfl⟩
theorem dS_fearsOf_0 : Dc S_fearsOf 0 (.iload_n 0) 1 1 := ⟨by decide +kernel, rfl⟩
theorem dS_fearsOf_1 : Dc S_fearsOf 1 (.tableswitch 49 1 6 #[39, 41, 44, 44, 47, 47]) 39 40 := ⟨by decide +kernel, rfl⟩
theorem dS_fearsOf_40 : Dc S_fearsOf 40 (.iconst 5) 1 41 := ⟨by decide +kernel, rfl⟩
theorem dS_fearsOf_41 : Dc S_fearsOf 41 (.ireturn) 1 42 := ⟨by decide +kernel, rfl⟩
theorem dS_fearsOf_42 : Dc S_fearsOf 42 (.bipush 20) 2 44 := ⟨by decide +kernel, rfl⟩
theorem dS_fearsOf_44 : Dc S_fearsOf 44 (.ireturn) 1 45 := ⟨by decide +kernel, rfl⟩
theorem dS_fearsOf_45 : Dc S_fearsOf 45 (.bipush 25) 2 47 := ⟨by decide +kernel, rfl⟩
theorem dS_fearsOf_47 : Dc S_fearsOf 47 (.ireturn) 1 48 := ⟨by decide +kernel, rfl⟩
theorem dS_fearsOf_48 : Dc S_fearsOf 48 (.iconst 0) 1 49 := ⟨by decide +kernel, rfl⟩
theorem dS_fearsOf_49 : Dc S_fearsOf 49 (.ireturn) 1 50 := ⟨by decide +kernel, rfl⟩
theorem dS_fearsOf_50 : Dc S_fearsOf 50 (.bipush 10) 2 52 := ⟨by decide +kernel, rfl⟩
theorem dS_fearsOf_52 : Dc S_fearsOf 52 (.ireturn) 1 53 := ⟨by decide +kernel, rfl⟩
theorem dS_calmsOf_0 : Dc S_calmsOf 0 (.iload_n 0) 1 1 := ⟨by decide +kernel, rfl⟩
theorem dS_calmsOf_1 : Dc S_calmsOf 1 (.lookupswitch 41 #[(1, 35), (4, 39), (6, 37)]) 35 36 := ⟨by decide +kernel, rfl⟩
theorem dS_calmsOf_36 : Dc S_calmsOf 36 (.iconst 2) 1 37 := ⟨by decide +kernel, rfl⟩
theorem dS_calmsOf_37 : Dc S_calmsOf 37 (.ireturn) 1 38 := ⟨by decide +kernel, rfl⟩
theorem dS_calmsOf_38 : Dc S_calmsOf 38 (.iconst 4) 1 39 := ⟨by decide +kernel, rfl⟩
theorem dS_calmsOf_39 : Dc S_calmsOf 39 (.ireturn) 1 40 := ⟨by decide +kernel, rfl⟩
theorem dS_calmsOf_40 : Dc S_calmsOf 40 (.iconst 0) 1 41 := ⟨by decide +kernel, rfl⟩
theorem dS_calmsOf_41 : Dc S_calmsOf 41 (.ireturn) 1 42 := ⟨by decide +kernel, rfl⟩
theorem dS_calmsOf_42 : Dc S_calmsOf 42 (.iconst 1) 1 43 := ⟨by decide +kernel, rfl⟩
theorem dS_calmsOf_43 : Dc S_calmsOf 43 (.ireturn) 1 44 := ⟨by decide +kernel, rfl⟩
theorem dS_lightOf_0 : Dc S_lightOf 0 (.iload_n 0) 1 1 := ⟨by decide +kernel, rfl⟩
theorem dS_lightOf_1 : Dc S_lightOf 1 (.tableswitch 45 1 6 #[39, 45, 41, 43, 39, 39]) 39 40 := ⟨by decide +kernel, rfl⟩
theorem dS_lightOf_40 : Dc S_lightOf 40 (.iconst 1) 1 41 := ⟨by decide +kernel, rfl⟩
theorem dS_lightOf_41 : Dc S_lightOf 41 (.ireturn) 1 42 := ⟨by decide +kernel, rfl⟩
theorem dS_lightOf_42 : Dc S_lightOf 42 (.iconst 3) 1 43 := ⟨by decide +kernel, rfl⟩
theorem dS_lightOf_43 : Dc S_lightOf 43 (.ireturn) 1 44 := ⟨by decide +kernel, rfl⟩
theorem dS_lightOf_44 : Dc S_lightOf 44 (.iconst 4) 1 45 := ⟨by decide +kernel, rfl⟩
theorem dS_lightOf_45 : Dc S_lightOf 45 (.ireturn) 1 46 := ⟨by decide +kernel, rfl⟩
theorem dS_lightOf_46 : Dc S_lightOf 46 (.iconst 2) 1 47 := ⟨by decide +kernel, rfl⟩
theorem dS_lightOf_47 : Dc S_lightOf 47 (.ireturn) 1 48 := ⟨by decide +kernel, rfl⟩
theorem dS_change_0 : Dc S_change 0 (.aload_n 0) 1 1 := ⟨by decide +kernel, rfl⟩
theorem dS_change_1 : Dc S_change 1 (.getfield 12) 3 4 := ⟨by decide +kernel, rfl⟩
theorem dS_change_4 : Dc S_change 4 (.iload_n 1) 1 5 := ⟨by decide +kernel, rfl⟩
theorem dS_change_5 : Dc S_change 5 (.invokevirtual 100) 3 8 := ⟨by decide +kernel, rfl⟩
theorem dS_change_8 : Dc S_change 8 (.ifCond .eq 11) 3 11 := ⟨by decide +kernel, rfl⟩
theorem dS_change_11 : Dc S_change 11 (.iload_n 2) 1 12 := ⟨by decide +kernel, rfl⟩
theorem dS_change_12 : Dc S_change 12 (.iload_n 3) 1 13 := ⟨by decide +kernel, rfl⟩
theorem dS_change_13 : Dc S_change 13 (.invokestatic 106) 3 16 := ⟨by decide +kernel, rfl⟩
theorem dS_change_16 : Dc S_change 16 (.ifCond .ne 9) 3 19 := ⟨by decide +kernel, rfl⟩
theorem dS_change_19 : Dc S_change 19 (.aload_n 0) 1 20 := ⟨by decide +kernel, rfl⟩
theorem dS_change_20 : Dc S_change 20 (.iconst 0) 1 21 := ⟨by decide +kernel, rfl⟩
theorem dS_change_21 : Dc S_change 21 (.invokevirtual 61) 3 24 := ⟨by decide +kernel, rfl⟩
theorem dS_change_24 : Dc S_change 24 (.ireturn) 1 25 := ⟨by decide +kernel, rfl⟩
theorem dS_change_25 : Dc S_change 25 (.iload_n 2) 1 26 := ⟨by decide +kernel, rfl⟩
theorem dS_change_26 : Dc S_change 26 (.iconst 1) 1 27 := ⟨by decide +kernel, rfl⟩
theorem dS_change_27 : Dc S_change 27 (.if_icmp .ne 20) 3 30 := ⟨by decide +kernel, rfl⟩
theorem dS_change_30 : Dc S_change 30 (.iload_n 1) 1 31 := ⟨by decide +kernel, rfl⟩
theorem dS_change_31 : Dc S_change 31 (.aload_n 0) 1 32 := ⟨by decide +kernel, rfl⟩
theorem dS_change_32 : Dc S_change 32 (.getfield 12) 3 35 := ⟨by decide +kernel, rfl⟩
theorem dS_change_35 : Dc S_change 35 (.getfield 109) 3 38 := ⟨by decide +kernel, rfl⟩
theorem dS_change_38 : Dc S_change 38 (.if_icmp .ne 9) 3 41 := ⟨by decide +kernel, rfl⟩
theorem dS_change_41 : Dc S_change 41 (.aload_n 0) 1 42 := ⟨by decide +kernel, rfl⟩
theorem dS_change_42 : Dc S_change 42 (.iconst 4) 1 43 := ⟨by decide +kernel, rfl⟩
theorem dS_change_43 : Dc S_change 43 (.invokevirtual 61) 3 46 := ⟨by decide +kernel, rfl⟩
theorem dS_change_46 : Dc S_change 46 (.ireturn) 1 47 := ⟨by decide +kernel, rfl⟩
theorem dS_change_47 : Dc S_change 47 (.aload_n 0) 1 48 := ⟨by decide +kernel, rfl⟩
theorem dS_change_48 : Dc S_change 48 (.getfield 12) 3 51 := ⟨by decide +kernel, rfl⟩
theorem dS_change_51 : Dc S_change 51 (.iload_n 1) 1 52 := ⟨by decide +kernel, rfl⟩
theorem dS_change_52 : Dc S_change 52 (.iload_n 2) 1 53 := ⟨by decide +kernel, rfl⟩
theorem dS_change_53 : Dc S_change 53 (.invokevirtual 103) 3 56 := ⟨by decide +kernel, rfl⟩
theorem dS_change_56 : Dc S_change 56 (.istore 4) 2 58 := ⟨by decide +kernel, rfl⟩
theorem dS_change_58 : Dc S_change 58 (.iload_n 2) 1 59 := ⟨by decide +kernel, rfl⟩
theorem dS_change_59 : Dc S_change 59 (.tableswitch 81 0 3 #[29, 42, 55, 68]) 29 88 := ⟨by decide +kernel, rfl⟩
theorem dS_change_88 : Dc S_change 88 (.aload_n 0) 1 89 := ⟨by decide +kernel, rfl⟩
theorem dS_change_89 : Dc S_change 89 (.getfield 12) 3 92 := ⟨by decide +kernel, rfl⟩
theorem dS_change_92 : Dc S_change 92 (.getfield 112) 3 95 := ⟨by decide +kernel, rfl⟩
theorem dS_change_95 : Dc S_change 95 (.iload_n 1) 1 96 := ⟨by decide +kernel, rfl⟩
theorem dS_change_96 : Dc S_change 96 (.iload_n 3) 1 97 := ⟨by decide +kernel, rfl⟩
theorem dS_change_97 : Dc S_change 97 (.iastore) 1 98 := ⟨by decide +kernel, rfl⟩
theorem dS_change_98 : Dc S_change 98 (.goto 52) 3 101 := ⟨by decide +kernel, rfl⟩
theorem dS_change_101 : Dc S_change 101 (.aload_n 0) 1 102 := ⟨by decide +kernel, rfl⟩
theorem dS_change_102 : Dc S_change 102 (.getfield 12) 3 105 := ⟨by decide +kernel, rfl⟩
theorem dS_change_105 : Dc S_change 105 (.getfield 115) 3 108 := ⟨by decide +kernel, rfl⟩
theorem dS_change_108 : Dc S_change 108 (.iload_n 1) 1 109 := ⟨by decide +kernel, rfl⟩
theorem dS_change_109 : Dc S_change 109 (.iload_n 3) 1 110 := ⟨by decide +kernel, rfl⟩
theorem dS_change_110 : Dc S_change 110 (.iastore) 1 111 := ⟨by decide +kernel, rfl⟩
theorem dS_change_111 : Dc S_change 111 (.goto 39) 3 114 := ⟨by decide +kernel, rfl⟩
theorem dS_change_114 : Dc S_change 114 (.aload_n 0) 1 115 := ⟨by decide +kernel, rfl⟩
theorem dS_change_115 : Dc S_change 115 (.getfield 12) 3 118 := ⟨by decide +kernel, rfl⟩
theorem dS_change_118 : Dc S_change 118 (.getfield 118) 3 121 := ⟨by decide +kernel, rfl⟩
theorem dS_change_121 : Dc S_change 121 (.iload_n 1) 1 122 := ⟨by decide +kernel, rfl⟩
theorem dS_change_122 : Dc S_change 122 (.iload_n 3) 1 123 := ⟨by decide +kernel, rfl⟩
theorem dS_change_123 : Dc S_change 123 (.iastore) 1 124 := ⟨by decide +kernel, rfl⟩
theorem dS_change_124 : Dc S_change 124 (.goto 26) 3 127 := ⟨by decide +kernel, rfl⟩
theorem dS_change_127 : Dc S_change 127 (.aload_n 0) 1 128 := ⟨by decide +kernel, rfl⟩
theorem dS_change_128 : Dc S_change 128 (.getfield 12) 3 131 := ⟨by decide +kernel, rfl⟩
theorem dS_change_131 : Dc S_change 131 (.getfield 121) 3 134 := ⟨by decide +kernel, rfl⟩
theorem dS_change_134 : Dc S_change 134 (.iload_n 1) 1 135 := ⟨by decide +kernel, rfl⟩
theorem dS_change_135 : Dc S_change 135 (.iload_n 3) 1 136 := ⟨by decide +kernel, rfl⟩
theorem dS_change_136 : Dc S_change 136 (.iastore) 1 137 := ⟨by decide +kernel, rfl⟩
theorem dS_change_137 : Dc S_change 137 (.goto 13) 3 140 := ⟨by decide +kernel, rfl⟩
theorem dS_change_140 : Dc S_change 140 (.aload_n 0) 1 141 := ⟨by decide +kernel, rfl⟩
theorem dS_change_141 : Dc S_change 141 (.getfield 12) 3 144 := ⟨by decide +kernel, rfl⟩
theorem dS_change_144 : Dc S_change 144 (.getfield 124) 3 147 := ⟨by decide +kernel, rfl⟩
theorem dS_change_147 : Dc S_change 147 (.iload_n 1) 1 148 := ⟨by decide +kernel, rfl⟩
theorem dS_change_148 : Dc S_change 148 (.iload_n 3) 1 149 := ⟨by decide +kernel, rfl⟩
theorem dS_change_149 : Dc S_change 149 (.iastore) 1 150 := ⟨by decide +kernel, rfl⟩
theorem dS_change_150 : Dc S_change 150 (.iload 4) 2 152 := ⟨by decide +kernel, rfl⟩
theorem dS_change_152 : Dc S_change 152 (.ireturn) 1 153 := ⟨by decide +kernel, rfl⟩
theorem dS_canBeChanged_0 : Dc S_canBeChanged 0 (.iload_n 0) 1 1 := ⟨by decide +kernel, rfl⟩
theorem dS_canBeChanged_1 : Dc S_canBeChanged 1 (.tableswitch 71 0 4 #[35, 40, 45, 53, 62]) 35 36 := ⟨by decide +kernel, rfl⟩
theorem dS_canBeChanged_36 : Dc S_canBeChanged 36 (.iload_n 1) 1 37 := ⟨by decide +kernel, rfl⟩
theorem dS_canBeChanged_37 : Dc S_canBeChanged 37 (.invokestatic 85) 3 40 := ⟨by decide +kernel, rfl⟩
theorem dS_canBeChanged_40 : Dc S_canBeChanged 40 (.ireturn) 1 41 := ⟨by decide +kernel, rfl⟩
theorem dS_canBeChanged_41 : Dc S_canBeChanged 41 (.iload_n 1) 1 42 := ⟨by decide +kernel, rfl⟩
theorem dS_canBeChanged_42 : Dc S_canBeChanged 42 (.invokestatic 89) 3 45 := ⟨by decide +kernel, rfl⟩
theorem dS_canBeChanged_45 : Dc S_canBeChanged 45 (.ireturn) 1 46 := ⟨by decide +kernel, rfl⟩
theorem dS_canBeChanged_46 : Dc S_canBeChanged 46 (.iload_n 1) 1 47 := ⟨by decide +kernel, rfl⟩
theorem dS_canBeChanged_47 : Dc S_canBeChanged 47 (.iconst 0) 1 48 := ⟨by decide +kernel, rfl⟩
theorem dS_canBeChanged_48 : Dc S_canBeChanged 48 (.bipush 99) 2 50 := ⟨by decide +kernel, rfl⟩
theorem dS_canBeChanged_50 : Dc S_canBeChanged 50 (.invokestatic 81) 3 53 := ⟨by decide +kernel, rfl⟩
theorem dS_canBeChanged_53 : Dc S_canBeChanged 53 (.ireturn) 1 54 := ⟨by decide +kernel, rfl⟩
theorem dS_canBeChanged_54 : Dc S_canBeChanged 54 (.iload_n 1) 1 55 := ⟨by decide +kernel, rfl⟩
theorem dS_canBeChanged_55 : Dc S_canBeChanged 55 (.iconst 0) 1 56 := ⟨by decide +kernel, rfl⟩
theorem dS_canBeChanged_56 : Dc S_canBeChanged 56 (.sipush 9999) 3 59 := ⟨by decide +kernel, rfl⟩
theorem dS_canBeChanged_59 : Dc S_canBeChanged 59 (.invokestatic 81) 3 62 := ⟨by decide +kernel, rfl⟩
theorem dS_canBeChanged_62 : Dc S_canBeChanged 62 (.ireturn) 1 63 := ⟨by decide +kernel, rfl⟩
theorem dS_canBeChanged_63 : Dc S_canBeChanged 63 (.iload_n 1) 1 64 := ⟨by decide +kernel, rfl⟩
theorem dS_canBeChanged_64 : Dc S_canBeChanged 64 (.iconst 0) 1 65 := ⟨by decide +kernel, rfl⟩
theorem dS_canBeChanged_65 : Dc S_canBeChanged 65 (.sipush 9999) 3 68 := ⟨by decide +kernel, rfl⟩
theorem dS_canBeChanged_68 : Dc S_canBeChanged 68 (.invokestatic 81) 3 71 := ⟨by decide +kernel, rfl⟩
theorem dS_canBeChanged_71 : Dc S_canBeChanged 71 (.ireturn) 1 72 := ⟨by decide +kernel, rfl⟩
theorem dS_canBeChanged_72 : Dc S_canBeChanged 72 (.iconst 0) 1 73 := ⟨by decide +kernel, rfl⟩
theorem dS_canBeChanged_73 : Dc S_canBeChanged 73 (.ireturn) 1 74 := ⟨by decide +kernel, rfl⟩
theorem dS_drop_0 : Dc S_drop 0 (.aload_n 0) 1 1 := ⟨by decide +kernel, rfl⟩
theorem dS_drop_1 : Dc S_drop 1 (.getfield 12) 3 4 := ⟨by decide +kernel, rfl⟩
theorem dS_drop_4 : Dc S_drop 4 (.getfield 109) 3 7 := ⟨by decide +kernel, rfl⟩
theorem dS_drop_7 : Dc S_drop 7 (.iconst (-1)) 1 8 := ⟨by decide +kernel, rfl⟩
theorem dS_drop_8 : Dc S_drop 8 (.if_icmp .ne 9) 3 11 := ⟨by decide +kernel, rfl⟩
theorem dS_drop_11 : Dc S_drop 11 (.aload_n 0) 1 12 := ⟨by decide +kernel, rfl⟩
theorem dS_drop_12 : Dc S_drop 12 (.iconst 3) 1 13 := ⟨by decide +kernel, rfl⟩
theorem dS_drop_13 : Dc S_drop 13 (.invokevirtual 61) 3 16 := ⟨by decide +kernel, rfl⟩
theorem dS_drop_16 : Dc S_drop 16 (.ireturn) 1 17 := ⟨by decide +kernel, rfl⟩
theorem dS_drop_17 : Dc S_drop 17 (.aload_n 0) 1 18 := ⟨by decide +kernel, rfl⟩
theorem dS_drop_18 : Dc S_drop 18 (.getfield 12) 3 21 := ⟨by decide +kernel, rfl⟩
theorem dS_drop_21 : Dc S_drop 21 (.getfield 109) 3 24 := ⟨by decide +kernel, rfl⟩
theorem dS_drop_24 : Dc S_drop 24 (.istore_n 1) 1 25 := ⟨by decide +kernel, rfl⟩
theorem dS_drop_25 : Dc S_drop 25 (.aload_n 0) 1 26 := ⟨by decide +kernel, rfl⟩
theorem dS_drop_26 : Dc S_drop 26 (.getfield 12) 3 29 := ⟨by decide +kernel, rfl⟩
theorem dS_drop_29 : Dc S_drop 29 (.iconst (-1)) 1 30 := ⟨by decide +kernel, rfl⟩
theorem dS_drop_30 : Dc S_drop 30 (.putfield 109) 3 33 := ⟨by decide +kernel, rfl⟩
theorem dS_drop_33 : Dc S_drop 33 (.iload_n 1) 1 34 := ⟨by decide +kernel, rfl⟩
theorem dS_drop_34 : Dc S_drop 34 (.ireturn) 1 35 := ⟨by decide +kernel, rfl⟩
theorem dS_who_0 : Dc S_who 0 (.iload_n 1) 1 1 := ⟨by decide +kernel, rfl⟩
theorem dS_who_1 : Dc S_who 1 (.invokestatic 89) 3 4 := ⟨by decide +kernel, rfl⟩
theorem dS_who_4 : Dc S_who 4 (.ifCond .ne 9) 3 7 := ⟨by decide +kernel, rfl⟩
theorem dS_who_7 : Dc S_who 7 (.aload_n 0) 1 8 := ⟨by decide +kernel, rfl⟩
theorem dS_who_8 : Dc S_who 8 (.iconst 0) 1 9 := ⟨by decide +kernel, rfl⟩
theorem dS_who_9 : Dc S_who 9 (.invokevirtual 61) 3 12 := ⟨by decide +kernel, rfl⟩
theorem dS_who_12 : Dc S_who 12 (.ireturn) 1 13 := ⟨by decide +kernel, rfl⟩
theorem dS_who_13 : Dc S_who 13 (.aload_n 0) 1 14 := ⟨by decide +kernel, rfl⟩
theorem dS_who_14 : Dc S_who 14 (.getfield 12) 3 17 := ⟨by decide +kernel, rfl⟩
theorem dS_who_17 : Dc S_who 17 (.iload_n 1) 1 18 := ⟨by decide +kernel, rfl⟩
theorem dS_who_18 : Dc S_who 18 (.invokevirtual 127) 3 21 := ⟨by decide +kernel, rfl⟩
theorem dS_who_21 : Dc S_who 21 (.ireturn) 1 22 := ⟨by decide +kernel, rfl⟩
theorem dS_go_0 : Dc S_go 0 (.iload_n 1) 1 1 := ⟨by decide +kernel, rfl⟩
theorem dS_go_1 : Dc S_go 1 (.iconst 1) 1 2 := ⟨by decide +kernel, rfl⟩
theorem dS_go_2 : Dc S_go 2 (.bipush 60) 2 4 := ⟨by decide +kernel, rfl⟩
theorem dS_go_4 : Dc S_go 4 (.invokestatic 81) 3 7 := ⟨by decide +kernel, rfl⟩
theorem dS_go_7 : Dc S_go 7 (.ifCond .ne 9) 3 10 := ⟨by decide +kernel, rfl⟩
theorem dS_go_10 : Dc S_go 10 (.aload_n 0) 1 11 := ⟨by decide +kernel, rfl⟩
theorem dS_go_11 : Dc S_go 11 (.iconst 0) 1 12 := ⟨by decide +kernel, rfl⟩
theorem dS_go_12 : Dc S_go 12 (.invokevirtual 61) 3 15 := ⟨by decide +kernel, rfl⟩
theorem dS_go_15 : Dc S_go 15 (.ireturn) 1 16 := ⟨by decide +kernel, rfl⟩
theorem dS_go_16 : Dc S_go 16 (.aload_n 0) 1 17 := ⟨by decide +kernel, rfl⟩
theorem dS_go_17 : Dc S_go 17 (.getfield 12) 3 20 := ⟨by decide +kernel, rfl⟩
theorem dS_go_20 : Dc S_go 20 (.getfield 130) 3 23 := ⟨by decide +kernel, rfl⟩
theorem dS_go_23 : Dc S_go 23 (.ldc 133) 2 25 := ⟨by decide +kernel, rfl⟩
theorem dS_go_25 : Dc S_go 25 (.iload_n 1) 1 26 := ⟨by decide +kernel, rfl⟩
theorem dS_go_26 : Dc S_go 26 (.isub) 1 27 := ⟨by decide +kernel, rfl⟩
theorem dS_go_27 : Dc S_go 27 (.if_icmp .le 9) 3 30 := ⟨by decide +kernel, rfl⟩
theorem dS_go_30 : Dc S_go 30 (.aload_n 0) 1 31 := ⟨by decide +kernel, rfl⟩
theorem dS_go_31 : Dc S_go 31 (.iconst 4) 1 32 := ⟨by decide +kernel, rfl⟩
theorem dS_go_32 : Dc S_go 32 (.invokevirtual 61) 3 35 := ⟨by decide +kernel, rfl⟩
theorem dS_go_35 : Dc S_go 35 (.ireturn) 1 36 := ⟨by decide +kernel, rfl⟩
theorem dS_go_36 : Dc S_go 36 (.aload_n 0) 1 37 := ⟨by decide +kernel, rfl⟩
theorem dS_go_37 : Dc S_go 37 (.getfield 12) 3 40 := ⟨by decide +kernel, rfl⟩
theorem dS_go_40 : Dc S_go 40 (.iload_n 1) 1 41 := ⟨by decide +kernel, rfl⟩
theorem dS_go_41 : Dc S_go 41 (.invokevirtual 134) 3 44 := ⟨by decide +kernel, rfl⟩
theorem dS_go_44 : Dc S_go 44 (.aload_n 0) 1 45 := ⟨by decide +kernel, rfl⟩
theorem dS_go_45 : Dc S_go 45 (.getfield 12) 3 48 := ⟨by decide +kernel, rfl⟩
theorem dS_go_48 : Dc S_go 48 (.aload_n 0) 1 49 := ⟨by decide +kernel, rfl⟩
theorem dS_go_49 : Dc S_go 49 (.getfield 12) 3 52 := ⟨by decide +kernel, rfl⟩
theorem dS_go_52 : Dc S_go 52 (.getfield 124) 3 55 := ⟨by decide +kernel, rfl⟩
theorem dS_go_55 : Dc S_go 55 (.invokevirtual 137) 3 58 := ⟨by decide +kernel, rfl⟩
theorem dS_go_58 : Dc S_go 58 (.ireturn) 1 59 := ⟨by decide +kernel, rfl⟩
theorem dH_passHours_0 : Dc H_passHours 0 (.iconst 0) 1 1 := ⟨by decide +kernel, rfl⟩
theorem dH_passHours_1 : Dc H_passHours 1 (.istore_n 2) 1 2 := ⟨by decide +kernel, rfl⟩
theorem dH_passHours_2 : Dc H_passHours 2 (.iload_n 2) 1 3 := ⟨by decide +kernel, rfl⟩
theorem dH_passHours_3 : Dc H_passHours 3 (.iload_n 1) 1 4 := ⟨by decide +kernel, rfl⟩
theorem dH_passHours_4 : Dc H_passHours 4 (.if_icmp .ge 14) 3 7 := ⟨by decide +kernel, rfl⟩
theorem dH_passHours_7 : Dc H_passHours 7 (.aload_n 0) 1 8 := ⟨by decide +kernel, rfl⟩
theorem dH_passHours_8 : Dc H_passHours 8 (.iconst 0) 1 9 := ⟨by decide +kernel, rfl⟩
theorem dH_passHours_9 : Dc H_passHours 9 (.invokevirtual 99) 3 12 := ⟨by decide +kernel, rfl⟩
theorem dH_passHours_12 : Dc H_passHours 12 (.iinc 2 1) 3 15 := ⟨by decide +kernel, rfl⟩
theorem dH_passHours_15 : Dc H_passHours 15 (.goto (-13)) 3 18 := ⟨by decide +kernel, rfl⟩
theorem dH_passHours_18 : Dc H_passHours 18 (.return_) 1 19 := ⟨by decide +kernel, rfl⟩
theorem dH_passHour_0 : Dc H_passHour 0 (.aload_n 0) 1 1 := ⟨by decide +kernel, rfl⟩
theorem dH_passHour_1 : Dc H_passHour 1 (.iload_n 1) 1 2 := ⟨by decide +kernel, rfl⟩
theorem dH_passHour_2 : Dc H_passHour 2 (.invokevirtual 103) 3 5 := ⟨by decide +kernel, rfl⟩
theorem dH_passHour_5 : Dc H_passHour 5 (.aload_n 0) 1 6 := ⟨by decide +kernel, rfl⟩
theorem dH_passHour_6 : Dc H_passHour 6 (.invokevirtual 106) 3 9 := ⟨by decide +kernel, rfl⟩
theorem dH_passHour_9 : Dc H_passHour 9 (.aload_n 0) 1 10 := ⟨by decide +kernel, rfl⟩
theorem dH_passHour_10 : Dc H_passHour 10 (.invokevirtual 109) 3 13 := ⟨by decide +kernel, rfl⟩
theorem dH_passHour_13 : Dc H_passHour 13 (.aload_n 0) 1 14 := ⟨by decide +kernel, rfl⟩
theorem dH_passHour_14 : Dc H_passHour 14 (.invokevirtual 112) 3 17 := ⟨by decide +kernel, rfl⟩
theorem dH_passHour_17 : Dc H_passHour 17 (.aload_n 0) 1 18 := ⟨by decide +kernel, rfl⟩
theorem dH_passHour_18 : Dc H_passHour 18 (.aload_n 0) 1 19 := ⟨by decide +kernel, rfl⟩
theorem dH_passHour_19 : Dc H_passHour 19 (.getfield 27) 3 22 := ⟨by decide +kernel, rfl⟩
theorem dH_passHour_22 : Dc H_passHour 22 (.iconst 1) 1 23 := ⟨by decide +kernel, rfl⟩
theorem dH_passHour_23 : Dc H_passHour 23 (.iadd) 1 24 := ⟨by decide +kernel, rfl⟩
theorem dH_passHour_24 : Dc H_passHour 24 (.ldc 115) 2 26 := ⟨by decide +kernel, rfl⟩
theorem dH_passHour_26 : Dc H_passHour 26 (.invokestatic 116) 3 29 := ⟨by decide +kernel, rfl⟩
theorem dH_passHour_29 : Dc H_passHour 29 (.putfield 27) 3 32 := ⟨by decide +kernel, rfl⟩
theorem dH_passHour_32 : Dc H_passHour 32 (.return_) 1 33 := ⟨by decide +kernel, rfl⟩
theorem dH_strayAll_0 : Dc H_strayAll 0 (.iconst 0) 1 1 := ⟨by decide +kernel, rfl⟩
theorem dH_strayAll_1 : Dc H_strayAll 1 (.istore_n 2) 1 2 := ⟨by decide +kernel, rfl⟩
theorem dH_strayAll_2 : Dc H_strayAll 2 (.iload_n 2) 1 3 := ⟨by decide +kernel, rfl⟩
theorem dH_strayAll_3 : Dc H_strayAll 3 (.aload_n 0) 1 4 := ⟨by decide +kernel, rfl⟩
theorem dH_strayAll_4 : Dc H_strayAll 4 (.getfield 30) 3 7 := ⟨by decide +kernel, rfl⟩
theorem dH_strayAll_7 : Dc H_strayAll 7 (.if_icmp .ge 46) 3 10 := ⟨by decide +kernel, rfl⟩
theorem dH_strayAll_10 : Dc H_strayAll 10 (.iload_n 2) 1 11 := ⟨by decide +kernel, rfl⟩
theorem dH_strayAll_11 : Dc H_strayAll 11 (.aload_n 0) 1 12 := ⟨by decide +kernel, rfl⟩
theorem dH_strayAll_12 : Dc H_strayAll 12 (.getfield 18) 3 15 := ⟨by decide +kernel, rfl⟩
theorem dH_strayAll_15 : Dc H_strayAll 15 (.if_icmp .eq 32) 3 18 := ⟨by decide +kernel, rfl⟩
theorem dH_strayAll_18 : Dc H_strayAll 18 (.iload_n 1) 1 19 := ⟨by decide +kernel, rfl⟩
theorem dH_strayAll_19 : Dc H_strayAll 19 (.iconst 1) 1 20 := ⟨by decide +kernel, rfl⟩
theorem dH_strayAll_20 : Dc H_strayAll 20 (.iload_n 2) 1 21 := ⟨by decide +kernel, rfl⟩
theorem dH_strayAll_21 : Dc H_strayAll 21 (.ishl) 1 22 := ⟨by decide +kernel, rfl⟩
theorem dH_strayAll_22 : Dc H_strayAll 22 (.iand) 1 23 := ⟨by decide +kernel, rfl⟩
theorem dH_strayAll_23 : Dc H_strayAll 23 (.ifCond .ne 24) 3 26 := ⟨by decide +kernel, rfl⟩
theorem dH_strayAll_26 : Dc H_strayAll 26 (.aload_n 0) 1 27 := ⟨by decide +kernel, rfl⟩
theorem dH_strayAll_27 : Dc H_strayAll 27 (.getfield 37) 3 30 := ⟨by decide +kernel, rfl⟩
theorem dH_strayAll_30 : Dc H_strayAll 30 (.iload_n 2) 1 31 := ⟨by decide +kernel, rfl⟩
theorem dH_strayAll_31 : Dc H_strayAll 31 (.aload_n 0) 1 32 := ⟨by decide +kernel, rfl⟩
theorem dH_strayAll_32 : Dc H_strayAll 32 (.aload_n 0) 1 33 := ⟨by decide +kernel, rfl⟩
theorem dH_strayAll_33 : Dc H_strayAll 33 (.getfield 37) 3 36 := ⟨by decide +kernel, rfl⟩
theorem dH_strayAll_36 : Dc H_strayAll 36 (.iload_n 2) 1 37 := ⟨by decide +kernel, rfl⟩
theorem dH_strayAll_37 : Dc H_strayAll 37 (.iaload) 1 38 := ⟨by decide +kernel, rfl⟩
theorem dH_strayAll_38 : Dc H_strayAll 38 (.aload_n 0) 1 39 := ⟨by decide +kernel, rfl⟩
theorem dH_strayAll_39 : Dc H_strayAll 39 (.iload_n 2) 1 40 := ⟨by decide +kernel, rfl⟩
theorem dH_strayAll_40 : Dc H_strayAll 40 (.invokevirtual 67) 3 43 := ⟨by decide +kernel, rfl⟩
theorem dH_strayAll_43 : Dc H_strayAll 43 (.invokevirtual 121) 3 46 := ⟨by decide +kernel, rfl⟩
theorem dH_strayAll_46 : Dc H_strayAll 46 (.iastore) 1 47 := ⟨by decide +kernel, rfl⟩
theorem dH_strayAll_47 : Dc H_strayAll 47 (.iinc 2 1) 3 50 := ⟨by decide +kernel, rfl⟩
theorem dH_strayAll_50 : Dc H_strayAll 50 (.goto (-48)) 3 53 := ⟨by decide +kernel, rfl⟩
theorem dH_strayAll_53 : Dc H_strayAll 53 (.return_) 1 54 := ⟨by decide +kernel, rfl⟩
theorem dH_strayedFrom_0 : Dc H_strayedFrom 0 (.iload_n 2) 1 1 := ⟨by decide +kernel, rfl⟩
theorem dH_strayedFrom_1 : Dc H_strayedFrom 1 (.ifCond .ge 14) 3 4 := ⟨by decide +kernel, rfl⟩
theorem dH_strayedFrom_4 : Dc H_strayedFrom 4 (.iload_n 1) 1 5 := ⟨by decide +kernel, rfl⟩
theorem dH_strayedFrom_5 : Dc H_strayedFrom 5 (.aload_n 0) 1 6 := ⟨by decide +kernel, rfl⟩
theorem dH_strayedFrom_6 : Dc H_strayedFrom 6 (.getfield 9) 3 9 := ⟨by decide +kernel, rfl⟩
theorem dH_strayedFrom_9 : Dc H_strayedFrom 9 (.iload_n 2) 1 10 := ⟨by decide +kernel, rfl⟩
theorem dH_strayedFrom_10 : Dc H_strayedFrom 10 (.ineg) 1 11 := ⟨by decide +kernel, rfl⟩
theorem dH_strayedFrom_11 : Dc H_strayedFrom 11 (.invokestatic 124) 3 14 := ⟨by decide +kernel, rfl⟩
theorem dH_strayedFrom_14 : Dc H_strayedFrom 14 (.ireturn) 1 15 := ⟨by decide +kernel, rfl⟩
theorem dH_strayedFrom_15 : Dc H_strayedFrom 15 (.iload_n 1) 1 16 := ⟨by decide +kernel, rfl⟩
theorem dH_strayedFrom_16 : Dc H_strayedFrom 16 (.aload_n 0) 1 17 := ⟨by decide +kernel, rfl⟩
theorem dH_strayedFrom_17 : Dc H_strayedFrom 17 (.getfield 9) 3 20 := ⟨by decide +kernel, rfl⟩
theorem dH_strayedFrom_20 : Dc H_strayedFrom 20 (.if_icmp .gt 20) 3 23 := ⟨by decide +kernel, rfl⟩
theorem dH_strayedFrom_23 : Dc H_strayedFrom 23 (.iload_n 1) 1 24 := ⟨by decide +kernel, rfl⟩
theorem dH_strayedFrom_24 : Dc H_strayedFrom 24 (.aload_n 0) 1 25 := ⟨by decide +kernel, rfl⟩
theorem dH_strayedFrom_25 : Dc H_strayedFrom 25 (.getfield 9) 3 28 := ⟨by decide +kernel, rfl⟩
theorem dH_strayedFrom_28 : Dc H_strayedFrom 28 (.if_icmp .ne 16) 3 31 := ⟨by decide +kernel, rfl⟩
theorem dH_strayedFrom_31 : Dc H_strayedFrom 31 (.aload_n 0) 1 32 := ⟨by decide +kernel, rfl⟩
theorem dH_strayedFrom_32 : Dc H_strayedFrom 32 (.getfield 9) 3 35 := ⟨by decide +kernel, rfl⟩
theorem dH_strayedFrom_35 : Dc H_strayedFrom 35 (.bipush 15) 2 37 := ⟨by decide +kernel, rfl⟩
theorem dH_strayedFrom_37 : Dc H_strayedFrom 37 (.if_icmp .ge 7) 3 40 := ⟨by decide +kernel, rfl⟩
theorem dH_strayedFrom_40 : Dc H_strayedFrom 40 (.iconst 1) 1 41 := ⟨by decide +kernel, rfl⟩
theorem dH_strayedFrom_41 : Dc H_strayedFrom 41 (.goto 4) 3 44 := ⟨by decide +kernel, rfl⟩
theorem dH_strayedFrom_44 : Dc H_strayedFrom 44 (.iconst 0) 1 45 := ⟨by decide +kernel, rfl⟩
theorem dH_strayedFrom_45 : Dc H_strayedFrom 45 (.istore_n 3) 1 46 := ⟨by decide +kernel, rfl⟩
theorem dH_strayedFrom_46 : Dc H_strayedFrom 46 (.iload_n 3) 1 47 := ⟨by decide +kernel, rfl⟩
theorem dH_strayedFrom_47 : Dc H_strayedFrom 47 (.ifCond .eq 14) 3 50 := ⟨by decide +kernel, rfl⟩
theorem dH_strayedFrom_50 : Dc H_strayedFrom 50 (.iload_n 1) 1 51 := ⟨by decide +kernel, rfl⟩
theorem dH_strayedFrom_51 : Dc H_strayedFrom 51 (.iload_n 2) 1 52 := ⟨by decide +kernel, rfl⟩
theorem dH_strayedFrom_52 : Dc H_strayedFrom 52 (.iadd) 1 53 := ⟨by decide +kernel, rfl⟩
theorem dH_strayedFrom_53 : Dc H_strayedFrom 53 (.bipush 15) 2 55 := ⟨by decide +kernel, rfl⟩
theorem dH_strayedFrom_55 : Dc H_strayedFrom 55 (.invokestatic 116) 3 58 := ⟨by decide +kernel, rfl⟩
theorem dH_strayedFrom_58 : Dc H_strayedFrom 58 (.goto 10) 3 61 := ⟨by decide +kernel, rfl⟩
theorem dH_strayedFrom_61 : Dc H_strayedFrom 61 (.iload_n 1) 1 62 := ⟨by decide +kernel, rfl⟩
theorem dH_strayedFrom_62 : Dc H_strayedFrom 62 (.iload_n 2) 1 63 := ⟨by decide +kernel, rfl⟩
theorem dH_strayedFrom_63 : Dc H_strayedFrom 63 (.isub) 1 64 := ⟨by decide +kernel, rfl⟩
theorem dH_strayedFrom_64 : Dc H_strayedFrom 64 (.iconst 0) 1 65 := ⟨by decide +kernel, rfl⟩
theorem dH_strayedFrom_65 : Dc H_strayedFrom 65 (.invokestatic 128) 3 68 := ⟨by decide +kernel, rfl⟩
theorem dH_strayedFrom_68 : Dc H_strayedFrom 68 (.ireturn) 1 69 := ⟨by decide +kernel, rfl⟩
theorem dS_towards_0 : Dc S_towards 0 (.iload_n 0) 1 1 := ⟨by decide +kernel, rfl⟩
theorem dS_towards_1 : Dc S_towards 1 (.iload_n 1) 1 2 := ⟨by decide +kernel, rfl⟩
theorem dS_towards_2 : Dc S_towards 2 (.if_icmp .ge 13) 3 5 := ⟨by decide +kernel, rfl⟩
theorem dS_towards_5 : Dc S_towards 5 (.iload_n 0) 1 6 := ⟨by decide +kernel, rfl⟩
theorem dS_towards_6 : Dc S_towards 6 (.iload_n 2) 1 7 := ⟨by decide +kernel, rfl⟩
theorem dS_towards_7 : Dc S_towards 7 (.iadd) 1 8 := ⟨by decide +kernel, rfl⟩
theorem dS_towards_8 : Dc S_towards 8 (.iload_n 1) 1 9 := ⟨by decide +kernel, rfl⟩
theorem dS_towards_9 : Dc S_towards 9 (.invokestatic 257) 3 12 := ⟨by decide +kernel, rfl⟩
theorem dS_towards_12 : Dc S_towards 12 (.goto 10) 3 15 := ⟨by decide +kernel, rfl⟩
theorem dS_towards_15 : Dc S_towards 15 (.iload_n 0) 1 16 := ⟨by decide +kernel, rfl⟩
theorem dS_towards_16 : Dc S_towards 16 (.iload_n 2) 1 17 := ⟨by decide +kernel, rfl⟩
theorem dS_towards_17 : Dc S_towards 17 (.isub) 1 18 := ⟨by decide +kernel, rfl⟩
theorem dS_towards_18 : Dc S_towards 18 (.iload_n 1) 1 19 := ⟨by decide +kernel, rfl⟩
theorem dS_towards_19 : Dc S_towards 19 (.invokestatic 262) 3 22 := ⟨by decide +kernel, rfl⟩
theorem dS_towards_22 : Dc S_towards 22 (.ireturn) 1 23 := ⟨by decide +kernel, rfl⟩
theorem dJM_min_0 : Dc JM_min 0 (.iload_n 0) 1 1 := ⟨by decide +kernel, rfl⟩
theorem dJM_min_1 : Dc JM_min 1 (.iload_n 1) 1 2 := ⟨by decide +kernel, rfl⟩
theorem dJM_min_2 : Dc JM_min 2 (.if_icmp .gt 7) 3 5 := ⟨by decide +kernel, rfl⟩
theorem dJM_min_5 : Dc JM_min 5 (.iload_n 0) 1 6 := ⟨by decide +kernel, rfl⟩
theorem dJM_min_6 : Dc JM_min 6 (.goto 4) 3 9 := ⟨by decide +kernel, rfl⟩
theorem dJM_min_9 : Dc JM_min 9 (.iload_n 1) 1 10 := ⟨by decide +kernel, rfl⟩
theorem dJM_min_10 : Dc JM_min 10 (.ireturn) 1 11 := ⟨by decide +kernel, rfl⟩
theorem dJM_max_0 : Dc JM_max 0 (.iload_n 0) 1 1 := ⟨by decide +kernel, rfl⟩
theorem dJM_max_1 : Dc JM_max 1 (.iload_n 1) 1 2 := ⟨by decide +kernel, rfl⟩
theorem dJM_max_2 : Dc JM_max 2 (.if_icmp .lt 7) 3 5 := ⟨by decide +kernel, rfl⟩
theorem dJM_max_5 : Dc JM_max 5 (.iload_n 0) 1 6 := ⟨by decide +kernel, rfl⟩
theorem dJM_max_6 : Dc JM_max 6 (.goto 4) 3 9 := ⟨by decide +kernel, rfl⟩
theorem dJM_max_9 : Dc JM_max 9 (.iload_n 1) 1 10 := ⟨by decide +kernel, rfl⟩
theorem dJM_max_10 : Dc JM_max 10 (.ireturn) 1 11 := ⟨by decide +kernel, rfl⟩
theorem dH_prowl_0 : Dc H_prowl 0 (.aload_n 0) 1 1 := ⟨by decide +kernel, rfl⟩
theorem dH_prowl_1 : Dc H_prowl 1 (.getfield 21) 3 4 := ⟨by decide +kernel, rfl⟩
theorem dH_prowl_4 : Dc H_prowl 4 (.iconst (-1)) 1 5 := ⟨by decide +kernel, rfl⟩
theorem dH_prowl_5 : Dc H_prowl 5 (.if_icmp .eq 18) 3 8 := ⟨by decide +kernel, rfl⟩
theorem dH_prowl_8 : Dc H_prowl 8 (.aload_n 0) 1 9 := ⟨by decide +kernel, rfl⟩
theorem dH_prowl_9 : Dc H_prowl 9 (.getfield 21) 3 12 := ⟨by decide +kernel, rfl⟩
theorem dH_prowl_12 : Dc H_prowl 12 (.aload_n 0) 1 13 := ⟨by decide +kernel, rfl⟩
theorem dH_prowl_13 : Dc H_prowl 13 (.getfield 15) 3 16 := ⟨by decide +kernel, rfl⟩
theorem dH_prowl_16 : Dc H_prowl 16 (.invokestatic 79) 3 19 := ⟨by decide +kernel, rfl⟩
theorem dH_prowl_19 : Dc H_prowl 19 (.iconst 1) 1 20 := ⟨by decide +kernel, rfl⟩
theorem dH_prowl_20 : Dc H_prowl 20 (.if_icmp .gt 4) 3 23 := ⟨by decide +kernel, rfl⟩
theorem dH_prowl_23 : Dc H_prowl 23 (.return_) 1 24 := ⟨by decide +kernel, rfl⟩
theorem dH_prowl_24 : Dc H_prowl 24 (.aload_n 0) 1 25 := ⟨by decide +kernel, rfl⟩
theorem dH_prowl_25 : Dc H_prowl 25 (.invokevirtual 131) 3 28 := ⟨by decide +kernel, rfl⟩
theorem dH_prowl_28 : Dc H_prowl 28 (.istore_n 1) 1 29 := ⟨by decide +kernel, rfl⟩
theorem dH_prowl_29 : Dc H_prowl 29 (.iload_n 1) 1 30 := ⟨by decide +kernel, rfl⟩
theorem dH_prowl_30 : Dc H_prowl 30 (.iconst (-1)) 1 31 := ⟨by decide +kernel, rfl⟩
theorem dH_prowl_31 : Dc H_prowl 31 (.if_icmp .eq 24) 3 34 := ⟨by decide +kernel, rfl⟩
theorem dH_prowl_34 : Dc H_prowl 34 (.aload_n 0) 1 35 := ⟨by decide +kernel, rfl⟩
theorem dH_prowl_35 : Dc H_prowl 35 (.aload_n 0) 1 36 := ⟨by decide +kernel, rfl⟩
theorem dH_prowl_36 : Dc H_prowl 36 (.getfield 21) 3 39 := ⟨by decide +kernel, rfl⟩
theorem dH_prowl_39 : Dc H_prowl 39 (.aload_n 0) 1 40 := ⟨by decide +kernel, rfl⟩
theorem dH_prowl_40 : Dc H_prowl 40 (.getfield 37) 3 43 := ⟨by decide +kernel, rfl⟩
theorem dH_prowl_43 : Dc H_prowl 43 (.iload_n 1) 1 44 := ⟨by decide +kernel, rfl⟩
theorem dH_prowl_44 : Dc H_prowl 44 (.iaload) 1 45 := ⟨by decide +kernel, rfl⟩
theorem dH_prowl_45 : Dc H_prowl 45 (.aload_n 0) 1 46 := ⟨by decide +kernel, rfl⟩
theorem dH_prowl_46 : Dc H_prowl 46 (.getfield 24) 3 49 := ⟨by decide +kernel, rfl⟩
theorem dH_prowl_49 : Dc H_prowl 49 (.invokestatic 124) 3 52 := ⟨by decide +kernel, rfl⟩
theorem dH_prowl_52 : Dc H_prowl 52 (.putfield 21) 3 55 := ⟨by decide +kernel, rfl⟩
theorem dH_prowl_55 : Dc H_prowl 55 (.aload_n 0) 1 56 := ⟨by decide +kernel, rfl⟩
theorem dH_prowl_56 : Dc H_prowl 56 (.invokevirtual 134) 3 59 := ⟨by decide +kernel, rfl⟩
theorem dH_prowl_59 : Dc H_prowl 59 (.return_) 1 60 := ⟨by decide +kernel, rfl⟩
theorem dH_nearestToWolf_0 : Dc H_nearestToWolf 0 (.iconst (-1)) 1 1 := ⟨by decide +kernel, rfl⟩
theorem dH_nearestToWolf_1 : Dc H_nearestToWolf 1 (.istore_n 1) 1 2 := ⟨by decide +kernel, rfl⟩
theorem dH_nearestToWolf_2 : Dc H_nearestToWolf 2 (.bipush 16) 2 4 := ⟨by decide +kernel, rfl⟩
theorem dH_nearestToWolf_4 : Dc H_nearestToWolf 4 (.istore_n 2) 1 5 := ⟨by decide +kernel, rfl⟩
theorem dH_nearestToWolf_5 : Dc H_nearestToWolf 5 (.iconst 0) 1 6 := ⟨by decide +kernel, rfl⟩
theorem dH_nearestToWolf_6 : Dc H_nearestToWolf 6 (.istore_n 3) 1 7 := ⟨by decide +kernel, rfl⟩
theorem dH_nearestToWolf_7 : Dc H_nearestToWolf 7 (.iload_n 3) 1 8 := ⟨by decide +kernel, rfl⟩
theorem dH_nearestToWolf_8 : Dc H_nearestToWolf 8 (.aload_n 0) 1 9 := ⟨by decide +kernel, rfl⟩
theorem dH_nearestToWolf_9 : Dc H_nearestToWolf 9 (.getfield 30) 3 12 := ⟨by decide +kernel, rfl⟩
theorem dH_nearestToWolf_12 : Dc H_nearestToWolf 12 (.if_icmp .ge 50) 3 15 := ⟨by decide +kernel, rfl⟩
theorem dH_nearestToWolf_15 : Dc H_nearestToWolf 15 (.iload_n 3) 1 16 := ⟨by decide +kernel, rfl⟩
theorem dH_nearestToWolf_16 : Dc H_nearestToWolf 16 (.aload_n 0) 1 17 := ⟨by decide +kernel, rfl⟩
theorem dH_nearestToWolf_17 : Dc H_nearestToWolf 17 (.getfield 18) 3 20 := ⟨by decide +kernel, rfl⟩
theorem dH_nearestToWolf_20 : Dc H_nearestToWolf 20 (.if_icmp .eq 36) 3 23 := ⟨by decide +kernel, rfl⟩
theorem dH_nearestToWolf_23 : Dc H_nearestToWolf 23 (.aload_n 0) 1 24 := ⟨by decide +kernel, rfl⟩
theorem dH_nearestToWolf_24 : Dc H_nearestToWolf 24 (.getfield 37) 3 27 := ⟨by decide +kernel, rfl⟩
theorem dH_nearestToWolf_27 : Dc H_nearestToWolf 27 (.iload_n 3) 1 28 := ⟨by decide +kernel, rfl⟩
theorem dH_nearestToWolf_28 : Dc H_nearestToWolf 28 (.iaload) 1 29 := ⟨by decide +kernel, rfl⟩
theorem dH_nearestToWolf_29 : Dc H_nearestToWolf 29 (.aload_n 0) 1 30 := ⟨by decide +kernel, rfl⟩
theorem dH_nearestToWolf_30 : Dc H_nearestToWolf 30 (.getfield 21) 3 33 := ⟨by decide +kernel, rfl⟩
theorem dH_nearestToWolf_33 : Dc H_nearestToWolf 33 (.invokestatic 79) 3 36 := ⟨by decide +kernel, rfl⟩
theorem dH_nearestToWolf_36 : Dc H_nearestToWolf 36 (.iload_n 2) 1 37 := ⟨by decide +kernel, rfl⟩
theorem dH_nearestToWolf_37 : Dc H_nearestToWolf 37 (.if_icmp .ge 19) 3 40 := ⟨by decide +kernel, rfl⟩
theorem dH_nearestToWolf_40 : Dc H_nearestToWolf 40 (.aload_n 0) 1 41 := ⟨by decide +kernel, rfl⟩
theorem dH_nearestToWolf_41 : Dc H_nearestToWolf 41 (.getfield 37) 3 44 := ⟨by decide +kernel, rfl⟩
theorem dH_nearestToWolf_44 : Dc H_nearestToWolf 44 (.iload_n 3) 1 45 := ⟨by decide +kernel, rfl⟩
theorem dH_nearestToWolf_45 : Dc H_nearestToWolf 45 (.iaload) 1 46 := ⟨by decide +kernel, rfl⟩
theorem dH_nearestToWolf_46 : Dc H_nearestToWolf 46 (.aload_n 0) 1 47 := ⟨by decide +kernel, rfl⟩
theorem dH_nearestToWolf_47 : Dc H_nearestToWolf 47 (.getfield 21) 3 50 := ⟨by decide +kernel, rfl⟩
theorem dH_nearestToWolf_50 : Dc H_nearestToWolf 50 (.invokestatic 79) 3 53 := ⟨by decide +kernel, rfl⟩
theorem dH_nearestToWolf_53 : Dc H_nearestToWolf 53 (.istore_n 2) 1 54 := ⟨by decide +kernel, rfl⟩
theorem dH_nearestToWolf_54 : Dc H_nearestToWolf 54 (.iload_n 3) 1 55 := ⟨by decide +kernel, rfl⟩
theorem dH_nearestToWolf_55 : Dc H_nearestToWolf 55 (.istore_n 1) 1 56 := ⟨by decide +kernel, rfl⟩
theorem dH_nearestToWolf_56 : Dc H_nearestToWolf 56 (.iinc 3 1) 3 59 := ⟨by decide +kernel, rfl⟩
theorem dH_nearestToWolf_59 : Dc H_nearestToWolf 59 (.goto (-52)) 3 62 := ⟨by decide +kernel, rfl⟩
theorem dH_nearestToWolf_62 : Dc H_nearestToWolf 62 (.iload_n 1) 1 63 := ⟨by decide +kernel, rfl⟩
theorem dH_nearestToWolf_63 : Dc H_nearestToWolf 63 (.ireturn) 1 64 := ⟨by decide +kernel, rfl⟩
theorem dH_frighten_0 : Dc H_frighten 0 (.iconst 0) 1 1 := ⟨by decide +kernel, rfl⟩
theorem dH_frighten_1 : Dc H_frighten 1 (.istore_n 1) 1 2 := ⟨by decide +kernel, rfl⟩
theorem dH_frighten_2 : Dc H_frighten 2 (.iload_n 1) 1 3 := ⟨by decide +kernel, rfl⟩
theorem dH_frighten_3 : Dc H_frighten 3 (.aload_n 0) 1 4 := ⟨by decide +kernel, rfl⟩
theorem dH_frighten_4 : Dc H_frighten 4 (.getfield 30) 3 7 := ⟨by decide +kernel, rfl⟩
theorem dH_frighten_7 : Dc H_frighten 7 (.if_icmp .ge 61) 3 10 := ⟨by decide +kernel, rfl⟩
theorem dH_frighten_10 : Dc H_frighten 10 (.iload_n 1) 1 11 := ⟨by decide +kernel, rfl⟩
theorem dH_frighten_11 : Dc H_frighten 11 (.aload_n 0) 1 12 := ⟨by decide +kernel, rfl⟩
theorem dH_frighten_12 : Dc H_frighten 12 (.getfield 18) 3 15 := ⟨by decide +kernel, rfl⟩
theorem dH_frighten_15 : Dc H_frighten 15 (.if_icmp .eq 47) 3 18 := ⟨by decide +kernel, rfl⟩
theorem dH_frighten_18 : Dc H_frighten 18 (.aload_n 0) 1 19 := ⟨by decide +kernel, rfl⟩
theorem dH_frighten_19 : Dc H_frighten 19 (.getfield 37) 3 22 := ⟨by decide +kernel, rfl⟩
theorem dH_frighten_22 : Dc H_frighten 22 (.iload_n 1) 1 23 := ⟨by decide +kernel, rfl⟩
theorem dH_frighten_23 : Dc H_frighten 23 (.iaload) 1 24 := ⟨by decide +kernel, rfl⟩
theorem dH_frighten_24 : Dc H_frighten 24 (.aload_n 0) 1 25 := ⟨by decide +kernel, rfl⟩
theorem dH_frighten_25 : Dc H_frighten 25 (.getfield 21) 3 28 := ⟨by decide +kernel, rfl⟩
theorem dH_frighten_28 : Dc H_frighten 28 (.invokestatic 79) 3 31 := ⟨by decide +kernel, rfl⟩
theorem dH_frighten_31 : Dc H_frighten 31 (.iconst 2) 1 32 := ⟨by decide +kernel, rfl⟩
theorem dH_frighten_32 : Dc H_frighten 32 (.if_icmp .gt 30) 3 35 := ⟨by decide +kernel, rfl⟩
theorem dH_frighten_35 : Dc H_frighten 35 (.aload_n 0) 1 36 := ⟨by decide +kernel, rfl⟩
theorem dH_frighten_36 : Dc H_frighten 36 (.getfield 40) 3 39 := ⟨by decide +kernel, rfl⟩
theorem dH_frighten_39 : Dc H_frighten 39 (.iload_n 1) 1 40 := ⟨by decide +kernel, rfl⟩
theorem dH_frighten_40 : Dc H_frighten 40 (.aload_n 0) 1 41 := ⟨by decide +kernel, rfl⟩
theorem dH_frighten_41 : Dc H_frighten 41 (.getfield 40) 3 44 := ⟨by decide +kernel, rfl⟩
theorem dH_frighten_44 : Dc H_frighten 44 (.iload_n 1) 1 45 := ⟨by decide +kernel, rfl⟩
theorem dH_frighten_45 : Dc H_frighten 45 (.iaload) 1 46 := ⟨by decide +kernel, rfl⟩
theorem dH_frighten_46 : Dc H_frighten 46 (.aload_n 0) 1 47 := ⟨by decide +kernel, rfl⟩
theorem dH_frighten_47 : Dc H_frighten 47 (.getfield 33) 3 50 := ⟨by decide +kernel, rfl⟩
theorem dH_frighten_50 : Dc H_frighten 50 (.iload_n 1) 1 51 := ⟨by decide +kernel, rfl⟩
theorem dH_frighten_51 : Dc H_frighten 51 (.iaload) 1 52 := ⟨by decide +kernel, rfl⟩
theorem dH_frighten_52 : Dc H_frighten 52 (.invokestatic 70) 3 55 := ⟨by decide +kernel, rfl⟩
theorem dH_frighten_55 : Dc H_frighten 55 (.iadd) 1 56 := ⟨by decide +kernel, rfl⟩
theorem dH_frighten_56 : Dc H_frighten 56 (.bipush 99) 2 58 := ⟨by decide +kernel, rfl⟩
theorem dH_frighten_58 : Dc H_frighten 58 (.invokestatic 116) 3 61 := ⟨by decide +kernel, rfl⟩
theorem dH_frighten_61 : Dc H_frighten 61 (.iastore) 1 62 := ⟨by decide +kernel, rfl⟩
theorem dH_frighten_62 : Dc H_frighten 62 (.iinc 1 1) 3 65 := ⟨by decide +kernel, rfl⟩
theorem dH_frighten_65 : Dc H_frighten 65 (.goto (-63)) 3 68 := ⟨by decide +kernel, rfl⟩
theorem dH_frighten_68 : Dc H_frighten 68 (.return_) 1 69 := ⟨by decide +kernel, rfl⟩
theorem dH_tend_0 : Dc H_tend 0 (.aload_n 0) 1 1 := ⟨by decide +kernel, rfl⟩
theorem dH_tend_1 : Dc H_tend 1 (.aload_n 0) 1 2 := ⟨by decide +kernel, rfl⟩
theorem dH_tend_2 : Dc H_tend 2 (.getfield 18) 3 5 := ⟨by decide +kernel, rfl⟩
theorem dH_tend_5 : Dc H_tend 5 (.invokevirtual 59) 3 8 := ⟨by decide +kernel, rfl⟩
theorem dH_tend_8 : Dc H_tend 8 (.ifCond .eq 10) 3 11 := ⟨by decide +kernel, rfl⟩
theorem dH_tend_11 : Dc H_tend 11 (.aload_n 0) 1 12 := ⟨by decide +kernel, rfl⟩
theorem dH_tend_12 : Dc H_tend 12 (.invokevirtual 137) 3 15 := ⟨by decide +kernel, rfl⟩
theorem dH_tend_15 : Dc H_tend 15 (.goto 7) 3 18 := ⟨by decide +kernel, rfl⟩
theorem dH_tend_18 : Dc H_tend 18 (.aload_n 0) 1 19 := ⟨by decide +kernel, rfl⟩
theorem dH_tend_19 : Dc H_tend 19 (.invokevirtual 140) 3 22 := ⟨by decide +kernel, rfl⟩
theorem dH_tend_22 : Dc H_tend 22 (.return_) 1 23 := ⟨by decide +kernel, rfl⟩
theorem dH_carryHome_0 : Dc H_carryHome 0 (.aload_n 0) 1 1 := ⟨by decide +kernel, rfl⟩
theorem dH_carryHome_1 : Dc H_carryHome 1 (.getfield 18) 3 4 := ⟨by decide +kernel, rfl⟩
theorem dH_carryHome_4 : Dc H_carryHome 4 (.istore_n 1) 1 5 := ⟨by decide +kernel, rfl⟩
theorem dH_carryHome_5 : Dc H_carryHome 5 (.aload_n 0) 1 6 := ⟨by decide +kernel, rfl⟩
theorem dH_carryHome_6 : Dc H_carryHome 6 (.aload_n 0) 1 7 := ⟨by decide +kernel, rfl⟩
theorem dH_carryHome_7 : Dc H_carryHome 7 (.getfield 15) 3 10 := ⟨by decide +kernel, rfl⟩
theorem dH_carryHome_10 : Dc H_carryHome 10 (.aload_n 0) 1 11 := ⟨by decide +kernel, rfl⟩
theorem dH_carryHome_11 : Dc H_carryHome 11 (.getfield 9) 3 14 := ⟨by decide +kernel, rfl⟩
theorem dH_carryHome_14 : Dc H_carryHome 14 (.aload_n 0) 1 15 := ⟨by decide +kernel, rfl⟩
theorem dH_carryHome_15 : Dc H_carryHome 15 (.getfield 33) 3 18 := ⟨by decide +kernel, rfl⟩
theorem dH_carryHome_18 : Dc H_carryHome 18 (.iload_n 1) 1 19 := ⟨by decide +kernel, rfl⟩
theorem dH_carryHome_19 : Dc H_carryHome 19 (.iaload) 1 20 := ⟨by decide +kernel, rfl⟩
theorem dH_carryHome_20 : Dc H_carryHome 20 (.invokestatic 76) 3 23 := ⟨by decide +kernel, rfl⟩
theorem dH_carryHome_23 : Dc H_carryHome 23 (.invokestatic 124) 3 26 := ⟨by decide +kernel, rfl⟩
theorem dH_carryHome_26 : Dc H_carryHome 26 (.invokevirtual 143) 3 29 := ⟨by decide +kernel, rfl⟩
theorem dH_carryHome_29 : Dc H_carryHome 29 (.aload_n 0) 1 30 := ⟨by decide +kernel, rfl⟩
theorem dH_carryHome_30 : Dc H_carryHome 30 (.getfield 15) 3 33 := ⟨by decide +kernel, rfl⟩
theorem dH_carryHome_33 : Dc H_carryHome 33 (.aload_n 0) 1 34 := ⟨by decide +kernel, rfl⟩
theorem dH_carryHome_34 : Dc H_carryHome 34 (.getfield 9) 3 37 := ⟨by decide +kernel, rfl⟩
theorem dH_carryHome_37 : Dc H_carryHome 37 (.if_icmp .ne 35) 3 40 := ⟨by decide +kernel, rfl⟩
theorem dH_carryHome_40 : Dc H_carryHome 40 (.aload_n 0) 1 41 := ⟨by decide +kernel, rfl⟩
theorem dH_carryHome_41 : Dc H_carryHome 41 (.getfield 46) 3 44 := ⟨by decide +kernel, rfl⟩
theorem dH_carryHome_44 : Dc H_carryHome 44 (.iload_n 1) 1 45 := ⟨by decide +kernel, rfl⟩
theorem dH_carryHome_45 : Dc H_carryHome 45 (.aload_n 0) 1 46 := ⟨by decide +kernel, rfl⟩
theorem dH_carryHome_46 : Dc H_carryHome 46 (.getfield 46) 3 49 := ⟨by decide +kernel, rfl⟩
theorem dH_carryHome_49 : Dc H_carryHome 49 (.iload_n 1) 1 50 := ⟨by decide +kernel, rfl⟩
theorem dH_carryHome_50 : Dc H_carryHome 50 (.iaload) 1 51 := ⟨by decide +kernel, rfl⟩
theorem dH_carryHome_51 : Dc H_carryHome 51 (.iconst 1) 1 52 := ⟨by decide +kernel, rfl⟩
theorem dH_carryHome_52 : Dc H_carryHome 52 (.iadd) 1 53 := ⟨by decide +kernel, rfl⟩
theorem dH_carryHome_53 : Dc H_carryHome 53 (.sipush 9999) 3 56 := ⟨by decide +kernel, rfl⟩
theorem dH_carryHome_56 : Dc H_carryHome 56 (.invokestatic 116) 3 59 := ⟨by decide +kernel, rfl⟩
theorem dH_carryHome_59 : Dc H_carryHome 59 (.iastore) 1 60 := ⟨by decide +kernel, rfl⟩
theorem dH_carryHome_60 : Dc H_carryHome 60 (.aload_n 0) 1 61 := ⟨by decide +kernel, rfl⟩
theorem dH_carryHome_61 : Dc H_carryHome 61 (.getfield 40) 3 64 := ⟨by decide +kernel, rfl⟩
theorem dH_carryHome_64 : Dc H_carryHome 64 (.iload_n 1) 1 65 := ⟨by decide +kernel, rfl⟩
theorem dH_carryHome_65 : Dc H_carryHome 65 (.iconst 0) 1 66 := ⟨by decide +kernel, rfl⟩
theorem dH_carryHome_66 : Dc H_carryHome 66 (.iastore) 1 67 := ⟨by decide +kernel, rfl⟩
theorem dH_carryHome_67 : Dc H_carryHome 67 (.aload_n 0) 1 68 := ⟨by decide +kernel, rfl⟩
theorem dH_carryHome_68 : Dc H_carryHome 68 (.iconst (-1)) 1 69 := ⟨by decide +kernel, rfl⟩
theorem dH_carryHome_69 : Dc H_carryHome 69 (.putfield 18) 3 72 := ⟨by decide +kernel, rfl⟩
theorem dH_carryHome_72 : Dc H_carryHome 72 (.return_) 1 73 := ⟨by decide +kernel, rfl⟩
theorem dH_seek_0 : Dc H_seek 0 (.aload_n 0) 1 1 := ⟨by decide +kernel, rfl⟩
theorem dH_seek_1 : Dc H_seek 1 (.invokevirtual 146) 3 4 := ⟨by decide +kernel, rfl⟩
theorem dH_seek_4 : Dc H_seek 4 (.istore_n 1) 1 5 := ⟨by decide +kernel, rfl⟩
theorem dH_seek_5 : Dc H_seek 5 (.iload_n 1) 1 6 := ⟨by decide +kernel, rfl⟩
theorem dH_seek_6 : Dc H_seek 6 (.iconst (-1)) 1 7 := ⟨by decide +kernel, rfl⟩
theorem dH_seek_7 : Dc H_seek 7 (.if_icmp .ne 20) 3 10 := ⟨by decide +kernel, rfl⟩
theorem dH_seek_10 : Dc H_seek 10 (.aload_n 0) 1 11 := ⟨by decide +kernel, rfl⟩
theorem dH_seek_11 : Dc H_seek 11 (.aload_n 0) 1 12 := ⟨by decide +kernel, rfl⟩
theorem dH_seek_12 : Dc H_seek 12 (.getfield 15) 3 15 := ⟨by decide +kernel, rfl⟩
theorem dH_seek_15 : Dc H_seek 15 (.aload_n 0) 1 16 := ⟨by decide +kernel, rfl⟩
theorem dH_seek_16 : Dc H_seek 16 (.getfield 9) 3 19 := ⟨by decide +kernel, rfl⟩
theorem dH_seek_19 : Dc H_seek 19 (.iconst 2) 1 20 := ⟨by decide +kernel, rfl⟩
theorem dH_seek_20 : Dc H_seek 20 (.invokestatic 124) 3 23 := ⟨by decide +kernel, rfl⟩
theorem dH_seek_23 : Dc H_seek 23 (.putfield 15) 3 26 := ⟨by decide +kernel, rfl⟩
theorem dH_seek_26 : Dc H_seek 26 (.return_) 1 27 := ⟨by decide +kernel, rfl⟩
theorem dH_seek_27 : Dc H_seek 27 (.aload_n 0) 1 28 := ⟨by decide +kernel, rfl⟩
theorem dH_seek_28 : Dc H_seek 28 (.aload_n 0) 1 29 := ⟨by decide +kernel, rfl⟩
theorem dH_seek_29 : Dc H_seek 29 (.getfield 15) 3 32 := ⟨by decide +kernel, rfl⟩
theorem dH_seek_32 : Dc H_seek 32 (.aload_n 0) 1 33 := ⟨by decide +kernel, rfl⟩
theorem dH_seek_33 : Dc H_seek 33 (.getfield 37) 3 36 := ⟨by decide +kernel, rfl⟩
theorem dH_seek_36 : Dc H_seek 36 (.iload_n 1) 1 37 := ⟨by decide +kernel, rfl⟩
theorem dH_seek_37 : Dc H_seek 37 (.iaload) 1 38 := ⟨by decide +kernel, rfl⟩
theorem dH_seek_38 : Dc H_seek 38 (.iconst 2) 1 39 := ⟨by decide +kernel, rfl⟩
theorem dH_seek_39 : Dc H_seek 39 (.invokestatic 124) 3 42 := ⟨by decide +kernel, rfl⟩
theorem dH_seek_42 : Dc H_seek 42 (.putfield 15) 3 45 := ⟨by decide +kernel, rfl⟩
theorem dH_seek_45 : Dc H_seek 45 (.aload_n 0) 1 46 := ⟨by decide +kernel, rfl⟩
theorem dH_seek_46 : Dc H_seek 46 (.getfield 15) 3 49 := ⟨by decide +kernel, rfl⟩
theorem dH_seek_49 : Dc H_seek 49 (.aload_n 0) 1 50 := ⟨by decide +kernel, rfl⟩
theorem dH_seek_50 : Dc H_seek 50 (.getfield 37) 3 53 := ⟨by decide +kernel, rfl⟩
theorem dH_seek_53 : Dc H_seek 53 (.iload_n 1) 1 54 := ⟨by decide +kernel, rfl⟩
theorem dH_seek_54 : Dc H_seek 54 (.iaload) 1 55 := ⟨by decide +kernel, rfl⟩
theorem dH_seek_55 : Dc H_seek 55 (.if_icmp .ne 8) 3 58 := ⟨by decide +kernel, rfl⟩
theorem dH_seek_58 : Dc H_seek 58 (.aload_n 0) 1 59 := ⟨by decide +kernel, rfl⟩
theorem dH_seek_59 : Dc H_seek 59 (.iload_n 1) 1 60 := ⟨by decide +kernel, rfl⟩
theorem dH_seek_60 : Dc H_seek 60 (.putfield 18) 3 63 := ⟨by decide +kernel, rfl⟩
theorem dH_seek_63 : Dc H_seek 63 (.return_) 1 64 := ⟨by decide +kernel, rfl⟩
theorem dH_sought_0 : Dc H_sought 0 (.iconst (-1)) 1 1 := ⟨by decide +kernel, rfl⟩
theorem dH_sought_1 : Dc H_sought 1 (.istore_n 1) 1 2 := ⟨by decide +kernel, rfl⟩
theorem dH_sought_2 : Dc H_sought 2 (.iconst 2) 1 3 := ⟨by decide +kernel, rfl⟩
theorem dH_sought_3 : Dc H_sought 3 (.istore_n 2) 1 4 := ⟨by decide +kernel, rfl⟩
theorem dH_sought_4 : Dc H_sought 4 (.iconst 0) 1 5 := ⟨by decide +kernel, rfl⟩
theorem dH_sought_5 : Dc H_sought 5 (.istore_n 3) 1 6 := ⟨by decide +kernel, rfl⟩
theorem dH_sought_6 : Dc H_sought 6 (.iload_n 3) 1 7 := ⟨by decide +kernel, rfl⟩
theorem dH_sought_7 : Dc H_sought 7 (.aload_n 0) 1 8 := ⟨by decide +kernel, rfl⟩
theorem dH_sought_8 : Dc H_sought 8 (.getfield 30) 3 11 := ⟨by decide +kernel, rfl⟩
theorem dH_sought_11 : Dc H_sought 11 (.if_icmp .ge 26) 3 14 := ⟨by decide +kernel, rfl⟩
theorem dH_sought_14 : Dc H_sought 14 (.aload_n 0) 1 15 := ⟨by decide +kernel, rfl⟩
theorem dH_sought_15 : Dc H_sought 15 (.iload_n 3) 1 16 := ⟨by decide +kernel, rfl⟩
theorem dH_sought_16 : Dc H_sought 16 (.invokevirtual 63) 3 19 := ⟨by decide +kernel, rfl⟩
theorem dH_sought_19 : Dc H_sought 19 (.iload_n 2) 1 20 := ⟨by decide +kernel, rfl⟩
theorem dH_sought_20 : Dc H_sought 20 (.if_icmp .le 11) 3 23 := ⟨by decide +kernel, rfl⟩
theorem dH_sought_23 : Dc H_sought 23 (.aload_n 0) 1 24 := ⟨by decide +kernel, rfl⟩
theorem dH_sought_24 : Dc H_sought 24 (.iload_n 3) 1 25 := ⟨by decide +kernel, rfl⟩
theorem dH_sought_25 : Dc H_sought 25 (.invokevirtual 63) 3 28 := ⟨by decide +kernel, rfl⟩
theorem dH_sought_28 : Dc H_sought 28 (.istore_n 2) 1 29 := ⟨by decide +kernel, rfl⟩
theorem dH_sought_29 : Dc H_sought 29 (.iload_n 3) 1 30 := ⟨by decide +kernel, rfl⟩
theorem dH_sought_30 : Dc H_sought 30 (.istore_n 1) 1 31 := ⟨by decide +kernel, rfl⟩
theorem dH_sought_31 : Dc H_sought 31 (.iinc 3 1) 3 34 := ⟨by decide +kernel, rfl⟩
theorem dH_sought_34 : Dc H_sought 34 (.goto (-28)) 3 37 := ⟨by decide +kernel, rfl⟩
theorem dH_sought_37 : Dc H_sought 37 (.iload_n 1) 1 38 := ⟨by decide +kernel, rfl⟩
theorem dH_sought_38 : Dc H_sought 38 (.ireturn) 1 39 := ⟨by decide +kernel, rfl⟩
theorem dH_settle_0 : Dc H_settle 0 (.iconst 0) 1 1 := ⟨by decide +kernel, rfl⟩
theorem dH_settle_1 : Dc H_settle 1 (.istore_n 1) 1 2 := ⟨by decide +kernel, rfl⟩
theorem dH_settle_2 : Dc H_settle 2 (.iload_n 1) 1 3 := ⟨by decide +kernel, rfl⟩
theorem dH_settle_3 : Dc H_settle 3 (.aload_n 0) 1 4 := ⟨by decide +kernel, rfl⟩
theorem dH_settle_4 : Dc H_settle 4 (.getfield 30) 3 7 := ⟨by decide +kernel, rfl⟩
theorem dH_settle_7 : Dc H_settle 7 (.if_icmp .ge 72) 3 10 := ⟨by decide +kernel, rfl⟩
theorem dH_settle_10 : Dc H_settle 10 (.aload_n 0) 1 11 := ⟨by decide +kernel, rfl⟩
theorem dH_settle_11 : Dc H_settle 11 (.getfield 43) 3 14 := ⟨by decide +kernel, rfl⟩
theorem dH_settle_14 : Dc H_settle 14 (.iload_n 1) 1 15 := ⟨by decide +kernel, rfl⟩
theorem dH_settle_15 : Dc H_settle 15 (.aload_n 0) 1 16 := ⟨by decide +kernel, rfl⟩
theorem dH_settle_16 : Dc H_settle 16 (.getfield 37) 3 19 := ⟨by decide +kernel, rfl⟩
theorem dH_settle_19 : Dc H_settle 19 (.iload_n 1) 1 20 := ⟨by decide +kernel, rfl⟩
theorem dH_settle_20 : Dc H_settle 20 (.iaload) 1 21 := ⟨by decide +kernel, rfl⟩
theorem dH_settle_21 : Dc H_settle 21 (.aload_n 0) 1 22 := ⟨by decide +kernel, rfl⟩
theorem dH_settle_22 : Dc H_settle 22 (.getfield 9) 3 25 := ⟨by decide +kernel, rfl⟩
theorem dH_settle_25 : Dc H_settle 25 (.if_icmp .ne 7) 3 28 := ⟨by decide +kernel, rfl⟩
theorem dH_settle_28 : Dc H_settle 28 (.iconst 0) 1 29 := ⟨by decide +kernel, rfl⟩
theorem dH_settle_29 : Dc H_settle 29 (.goto 17) 3 32 := ⟨by decide +kernel, rfl⟩
theorem dH_settle_32 : Dc H_settle 32 (.aload_n 0) 1 33 := ⟨by decide +kernel, rfl⟩
theorem dH_settle_33 : Dc H_settle 33 (.getfield 43) 3 36 := ⟨by decide +kernel, rfl⟩
theorem dH_settle_36 : Dc H_settle 36 (.iload_n 1) 1 37 := ⟨by decide +kernel, rfl⟩
theorem dH_settle_37 : Dc H_settle 37 (.iaload) 1 38 := ⟨by decide +kernel, rfl⟩
theorem dH_settle_38 : Dc H_settle 38 (.iconst 1) 1 39 := ⟨by decide +kernel, rfl⟩
theorem dH_settle_39 : Dc H_settle 39 (.iadd) 1 40 := ⟨by decide +kernel, rfl⟩
theorem dH_settle_40 : Dc H_settle 40 (.sipush 9999) 3 43 := ⟨by decide +kernel, rfl⟩
theorem dH_settle_43 : Dc H_settle 43 (.invokestatic 116) 3 46 := ⟨by decide +kernel, rfl⟩
theorem dH_settle_46 : Dc H_settle 46 (.iastore) 1 47 := ⟨by decide +kernel, rfl⟩
theorem dH_settle_47 : Dc H_settle 47 (.aload_n 0) 1 48 := ⟨by decide +kernel, rfl⟩
theorem dH_settle_48 : Dc H_settle 48 (.getfield 40) 3 51 := ⟨by decide +kernel, rfl⟩
theorem dH_settle_51 : Dc H_settle 51 (.iload_n 1) 1 52 := ⟨by decide +kernel, rfl⟩
theorem dH_settle_52 : Dc H_settle 52 (.aload_n 0) 1 53 := ⟨by decide +kernel, rfl⟩
theorem dH_settle_53 : Dc H_settle 53 (.getfield 40) 3 56 := ⟨by decide +kernel, rfl⟩
theorem dH_settle_56 : Dc H_settle 56 (.iload_n 1) 1 57 := ⟨by decide +kernel, rfl⟩
theorem dH_settle_57 : Dc H_settle 57 (.iaload) 1 58 := ⟨by decide +kernel, rfl⟩
theorem dH_settle_58 : Dc H_settle 58 (.aload_n 0) 1 59 := ⟨by decide +kernel, rfl⟩
theorem dH_settle_59 : Dc H_settle 59 (.getfield 33) 3 62 := ⟨by decide +kernel, rfl⟩
theorem dH_settle_62 : Dc H_settle 62 (.iload_n 1) 1 63 := ⟨by decide +kernel, rfl⟩
theorem dH_settle_63 : Dc H_settle 63 (.iaload) 1 64 := ⟨by decide +kernel, rfl⟩
theorem dH_settle_64 : Dc H_settle 64 (.invokestatic 73) 3 67 := ⟨by decide +kernel, rfl⟩
theorem dH_settle_67 : Dc H_settle 67 (.isub) 1 68 := ⟨by decide +kernel, rfl⟩
theorem dH_settle_68 : Dc H_settle 68 (.iconst 0) 1 69 := ⟨by decide +kernel, rfl⟩
theorem dH_settle_69 : Dc H_settle 69 (.invokestatic 128) 3 72 := ⟨by decide +kernel, rfl⟩
theorem dH_settle_72 : Dc H_settle 72 (.iastore) 1 73 := ⟨by decide +kernel, rfl⟩
theorem dH_settle_73 : Dc H_settle 73 (.iinc 1 1) 3 76 := ⟨by decide +kernel, rfl⟩
theorem dH_settle_76 : Dc H_settle 76 (.goto (-74)) 3 79 := ⟨by decide +kernel, rfl⟩
theorem dH_settle_79 : Dc H_settle 79 (.return_) 1 80 := ⟨by decide +kernel, rfl⟩
theorem dH_total_0 : Dc H_total 0 (.iconst 0) 1 1 := ⟨by decide +kernel, rfl⟩
theorem dH_total_1 : Dc H_total 1 (.istore_n 2) 1 2 := ⟨by decide +kernel, rfl⟩
theorem dH_total_2 : Dc H_total 2 (.iconst 0) 1 3 := ⟨by decide +kernel, rfl⟩
theorem dH_total_3 : Dc H_total 3 (.istore_n 3) 1 4 := ⟨by decide +kernel, rfl⟩
theorem dH_total_4 : Dc H_total 4 (.iload_n 3) 1 5 := ⟨by decide +kernel, rfl⟩
theorem dH_total_5 : Dc H_total 5 (.aload_n 0) 1 6 := ⟨by decide +kernel, rfl⟩
theorem dH_total_6 : Dc H_total 6 (.getfield 30) 3 9 := ⟨by decide +kernel, rfl⟩
theorem dH_total_9 : Dc H_total 9 (.if_icmp .ge 15) 3 12 := ⟨by decide +kernel, rfl⟩
theorem dH_total_12 : Dc H_total 12 (.iload_n 2) 1 13 := ⟨by decide +kernel, rfl⟩
theorem dH_total_13 : Dc H_total 13 (.aload_n 1) 1 14 := ⟨by decide +kernel, rfl⟩
theorem dH_total_14 : Dc H_total 14 (.iload_n 3) 1 15 := ⟨by decide +kernel, rfl⟩
theorem dH_total_15 : Dc H_total 15 (.iaload) 1 16 := ⟨by decide +kernel, rfl⟩
theorem dH_total_16 : Dc H_total 16 (.iadd) 1 17 := ⟨by decide +kernel, rfl⟩
theorem dH_total_17 : Dc H_total 17 (.istore_n 2) 1 18 := ⟨by decide +kernel, rfl⟩
theorem dH_total_18 : Dc H_total 18 (.iinc 3 1) 3 21 := ⟨by decide +kernel, rfl⟩
theorem dH_total_21 : Dc H_total 21 (.goto (-17)) 3 24 := ⟨by decide +kernel, rfl⟩
theorem dH_total_24 : Dc H_total 24 (.iload_n 2) 1 25 := ⟨by decide +kernel, rfl⟩
theorem dH_total_25 : Dc H_total 25 (.ireturn) 1 26 := ⟨by decide +kernel, rfl⟩
theorem dS_now_0 : Dc S_now 0 (.iload_n 1) 1 1 := ⟨by decide +kernel, rfl⟩
theorem dS_now_1 : Dc S_now 1 (.tableswitch 139 0 7 #[47, 55, 63, 78, 93, 108, 116, 131]) 47 48 := ⟨by decide +kernel, rfl⟩
theorem dS_now_48 : Dc S_now 48 (.aload_n 0) 1 49 := ⟨by decide +kernel, rfl⟩
theorem dS_now_49 : Dc S_now 49 (.getfield 12) 3 52 := ⟨by decide +kernel, rfl⟩
theorem dS_now_52 : Dc S_now 52 (.getfield 130) 3 55 := ⟨by decide +kernel, rfl⟩
theorem dS_now_55 : Dc S_now 55 (.ireturn) 1 56 := ⟨by decide +kernel, rfl⟩
theorem dS_now_56 : Dc S_now 56 (.aload_n 0) 1 57 := ⟨by decide +kernel, rfl⟩
theorem dS_now_57 : Dc S_now 57 (.getfield 12) 3 60 := ⟨by decide +kernel, rfl⟩
theorem dS_now_60 : Dc S_now 60 (.invokevirtual 141) 3 63 := ⟨by decide +kernel, rfl⟩
theorem dS_now_63 : Dc S_now 63 (.ireturn) 1 64 := ⟨by decide +kernel, rfl⟩
theorem dS_now_64 : Dc S_now 64 (.aload_n 0) 1 65 := ⟨by decide +kernel, rfl⟩
theorem dS_now_65 : Dc S_now 65 (.getfield 12) 3 68 := ⟨by decide +kernel, rfl⟩
theorem dS_now_68 : Dc S_now 68 (.aload_n 0) 1 69 := ⟨by decide +kernel, rfl⟩
theorem dS_now_69 : Dc S_now 69 (.getfield 12) 3 72 := ⟨by decide +kernel, rfl⟩
theorem dS_now_72 : Dc S_now 72 (.getfield 118) 3 75 := ⟨by decide +kernel, rfl⟩
theorem dS_now_75 : Dc S_now 75 (.invokevirtual 137) 3 78 := ⟨by decide +kernel, rfl⟩
theorem dS_now_78 : Dc S_now 78 (.ireturn) 1 79 := ⟨by decide +kernel, rfl⟩
theorem dS_now_79 : Dc S_now 79 (.aload_n 0) 1 80 := ⟨by decide +kernel, rfl⟩
theorem dS_now_80 : Dc S_now 80 (.getfield 12) 3 83 := ⟨by decide +kernel, rfl⟩
theorem dS_now_83 : Dc S_now 83 (.aload_n 0) 1 84 := ⟨by decide +kernel, rfl⟩
theorem dS_now_84 : Dc S_now 84 (.getfield 12) 3 87 := ⟨by decide +kernel, rfl⟩
theorem dS_now_87 : Dc S_now 87 (.getfield 124) 3 90 := ⟨by decide +kernel, rfl⟩
theorem dS_now_90 : Dc S_now 90 (.invokevirtual 137) 3 93 := ⟨by decide +kernel, rfl⟩
theorem dS_now_93 : Dc S_now 93 (.ireturn) 1 94 := ⟨by decide +kernel, rfl⟩
theorem dS_now_94 : Dc S_now 94 (.aload_n 0) 1 95 := ⟨by decide +kernel, rfl⟩
theorem dS_now_95 : Dc S_now 95 (.getfield 12) 3 98 := ⟨by decide +kernel, rfl⟩
theorem dS_now_98 : Dc S_now 98 (.aload_n 0) 1 99 := ⟨by decide +kernel, rfl⟩
theorem dS_now_99 : Dc S_now 99 (.getfield 12) 3 102 := ⟨by decide +kernel, rfl⟩
theorem dS_now_102 : Dc S_now 102 (.getfield 121) 3 105 := ⟨by decide +kernel, rfl⟩
theorem dS_now_105 : Dc S_now 105 (.invokevirtual 137) 3 108 := ⟨by decide +kernel, rfl⟩
theorem dS_now_108 : Dc S_now 108 (.ireturn) 1 109 := ⟨by decide +kernel, rfl⟩
theorem dS_now_109 : Dc S_now 109 (.aload_n 0) 1 110 := ⟨by decide +kernel, rfl⟩
theorem dS_now_110 : Dc S_now 110 (.getfield 12) 3 113 := ⟨by decide +kernel, rfl⟩
theorem dS_now_113 : Dc S_now 113 (.invokevirtual 145) 3 116 := ⟨by decide +kernel, rfl⟩
theorem dS_now_116 : Dc S_now 116 (.ireturn) 1 117 := ⟨by decide +kernel, rfl⟩
theorem dS_now_117 : Dc S_now 117 (.aload_n 0) 1 118 := ⟨by decide +kernel, rfl⟩
theorem dS_now_118 : Dc S_now 118 (.getfield 12) 3 121 := ⟨by decide +kernel, rfl⟩
theorem dS_now_121 : Dc S_now 121 (.aload_n 0) 1 122 := ⟨by decide +kernel, rfl⟩
theorem dS_now_122 : Dc S_now 122 (.getfield 12) 3 125 := ⟨by decide +kernel, rfl⟩
theorem dS_now_125 : Dc S_now 125 (.getfield 68) 3 128 := ⟨by decide +kernel, rfl⟩
theorem dS_now_128 : Dc S_now 128 (.invokevirtual 127) 3 131 := ⟨by decide +kernel, rfl⟩
theorem dS_now_131 : Dc S_now 131 (.ireturn) 1 132 := ⟨by decide +kernel, rfl⟩
theorem dS_now_132 : Dc S_now 132 (.aload_n 0) 1 133 := ⟨by decide +kernel, rfl⟩
theorem dS_now_133 : Dc S_now 133 (.getfield 12) 3 136 := ⟨by decide +kernel, rfl⟩
theorem dS_now_136 : Dc S_now 136 (.invokevirtual 148) 3 139 := ⟨by decide +kernel, rfl⟩
theorem dS_now_139 : Dc S_now 139 (.ireturn) 1 140 := ⟨by decide +kernel, rfl⟩
theorem dS_now_140 : Dc S_now 140 (.aload_n 0) 1 141 := ⟨by decide +kernel, rfl⟩
theorem dS_now_141 : Dc S_now 141 (.iconst 0) 1 142 := ⟨by decide +kernel, rfl⟩
theorem dS_now_142 : Dc S_now 142 (.invokevirtual 61) 3 145 := ⟨by decide +kernel, rfl⟩
theorem dS_now_145 : Dc S_now 145 (.ireturn) 1 146 := ⟨by decide +kernel, rfl⟩
theorem dH_farSheep_0 : Dc H_farSheep 0 (.iconst 0) 1 1 := ⟨by decide +kernel, rfl⟩
theorem dH_farSheep_1 : Dc H_farSheep 1 (.istore_n 1) 1 2 := ⟨by decide +kernel, rfl⟩
theorem dH_farSheep_2 : Dc H_farSheep 2 (.iconst 0) 1 3 := ⟨by decide +kernel, rfl⟩
theorem dH_farSheep_3 : Dc H_farSheep 3 (.istore_n 2) 1 4 := ⟨by decide +kernel, rfl⟩
theorem dH_farSheep_4 : Dc H_farSheep 4 (.iload_n 2) 1 5 := ⟨by decide +kernel, rfl⟩
theorem dH_farSheep_5 : Dc H_farSheep 5 (.aload_n 0) 1 6 := ⟨by decide +kernel, rfl⟩
theorem dH_farSheep_6 : Dc H_farSheep 6 (.getfield 30) 3 9 := ⟨by decide +kernel, rfl⟩
theorem dH_farSheep_9 : Dc H_farSheep 9 (.if_icmp .ge 24) 3 12 := ⟨by decide +kernel, rfl⟩
theorem dH_farSheep_12 : Dc H_farSheep 12 (.aload_n 0) 1 13 := ⟨by decide +kernel, rfl⟩
theorem dH_farSheep_13 : Dc H_farSheep 13 (.iload_n 2) 1 14 := ⟨by decide +kernel, rfl⟩
theorem dH_farSheep_14 : Dc H_farSheep 14 (.invokevirtual 63) 3 17 := ⟨by decide +kernel, rfl⟩
theorem dH_farSheep_17 : Dc H_farSheep 17 (.iconst 3) 1 18 := ⟨by decide +kernel, rfl⟩
theorem dH_farSheep_18 : Dc H_farSheep 18 (.if_icmp .lt 9) 3 21 := ⟨by decide +kernel, rfl⟩
theorem dH_farSheep_21 : Dc H_farSheep 21 (.iload_n 1) 1 22 := ⟨by decide +kernel, rfl⟩
theorem dH_farSheep_22 : Dc H_farSheep 22 (.iconst 1) 1 23 := ⟨by decide +kernel, rfl⟩
theorem dH_farSheep_23 : Dc H_farSheep 23 (.iload_n 2) 1 24 := ⟨by decide +kernel, rfl⟩
theorem dH_farSheep_24 : Dc H_farSheep 24 (.ishl) 1 25 := ⟨by decide +kernel, rfl⟩
theorem dH_farSheep_25 : Dc H_farSheep 25 (.ior) 1 26 := ⟨by decide +kernel, rfl⟩
theorem dH_farSheep_26 : Dc H_farSheep 26 (.istore_n 1) 1 27 := ⟨by decide +kernel, rfl⟩
theorem dH_farSheep_27 : Dc H_farSheep 27 (.iinc 2 1) 3 30 := ⟨by decide +kernel, rfl⟩
theorem dH_farSheep_30 : Dc H_farSheep 30 (.goto (-26)) 3 33 := ⟨by decide +kernel, rfl⟩
theorem dH_farSheep_33 : Dc H_farSheep 33 (.iload_n 1) 1 34 := ⟨by decide +kernel, rfl⟩
theorem dH_farSheep_34 : Dc H_farSheep 34 (.ireturn) 1 35 := ⟨by decide +kernel, rfl⟩
theorem dH_mostAfraid_0 : Dc H_mostAfraid 0 (.iconst (-1)) 1 1 := ⟨by decide +kernel, rfl⟩
theorem dH_mostAfraid_1 : Dc H_mostAfraid 1 (.istore_n 1) 1 2 := ⟨by decide +kernel, rfl⟩
theorem dH_mostAfraid_2 : Dc H_mostAfraid 2 (.iconst (-1)) 1 3 := ⟨by decide +kernel, rfl⟩
theorem dH_mostAfraid_3 : Dc H_mostAfraid 3 (.istore_n 2) 1 4 := ⟨by decide +kernel, rfl⟩
theorem dH_mostAfraid_4 : Dc H_mostAfraid 4 (.iconst 0) 1 5 := ⟨by decide +kernel, rfl⟩
theorem dH_mostAfraid_5 : Dc H_mostAfraid 5 (.istore_n 3) 1 6 := ⟨by decide +kernel, rfl⟩
theorem dH_mostAfraid_6 : Dc H_mostAfraid 6 (.iload_n 3) 1 7 := ⟨by decide +kernel, rfl⟩
theorem dH_mostAfraid_7 : Dc H_mostAfraid 7 (.aload_n 0) 1 8 := ⟨by decide +kernel, rfl⟩
theorem dH_mostAfraid_8 : Dc H_mostAfraid 8 (.getfield 30) 3 11 := ⟨by decide +kernel, rfl⟩
theorem dH_mostAfraid_11 : Dc H_mostAfraid 11 (.if_icmp .ge 28) 3 14 := ⟨by decide +kernel, rfl⟩
theorem dH_mostAfraid_14 : Dc H_mostAfraid 14 (.aload_n 0) 1 15 := ⟨by decide +kernel, rfl⟩
theorem dH_mostAfraid_15 : Dc H_mostAfraid 15 (.getfield 40) 3 18 := ⟨by decide +kernel, rfl⟩
theorem dH_mostAfraid_18 : Dc H_mostAfraid 18 (.iload_n 3) 1 19 := ⟨by decide +kernel, rfl⟩
theorem dH_mostAfraid_19 : Dc H_mostAfraid 19 (.iaload) 1 20 := ⟨by decide +kernel, rfl⟩
theorem dH_mostAfraid_20 : Dc H_mostAfraid 20 (.iload_n 2) 1 21 := ⟨by decide +kernel, rfl⟩
theorem dH_mostAfraid_21 : Dc H_mostAfraid 21 (.if_icmp .le 12) 3 24 := ⟨by decide +kernel, rfl⟩
theorem dH_mostAfraid_24 : Dc H_mostAfraid 24 (.aload_n 0) 1 25 := ⟨by decide +kernel, rfl⟩
theorem dH_mostAfraid_25 : Dc H_mostAfraid 25 (.getfield 40) 3 28 := ⟨by decide +kernel, rfl⟩
theorem dH_mostAfraid_28 : Dc H_mostAfraid 28 (.iload_n 3) 1 29 := ⟨by decide +kernel, rfl⟩
theorem dH_mostAfraid_29 : Dc H_mostAfraid 29 (.iaload) 1 30 := ⟨by decide +kernel, rfl⟩
theorem dH_mostAfraid_30 : Dc H_mostAfraid 30 (.istore_n 2) 1 31 := ⟨by decide +kernel, rfl⟩
theorem dH_mostAfraid_31 : Dc H_mostAfraid 31 (.iload_n 3) 1 32 := ⟨by decide +kernel, rfl⟩
theorem dH_mostAfraid_32 : Dc H_mostAfraid 32 (.istore_n 1) 1 33 := ⟨by decide +kernel, rfl⟩
theorem dH_mostAfraid_33 : Dc H_mostAfraid 33 (.iinc 3 1) 3 36 := ⟨by decide +kernel, rfl⟩
theorem dH_mostAfraid_36 : Dc H_mostAfraid 36 (.goto (-30)) 3 39 := ⟨by decide +kernel, rfl⟩
theorem dH_mostAfraid_39 : Dc H_mostAfraid 39 (.iload_n 1) 1 40 := ⟨by decide +kernel, rfl⟩
theorem dH_mostAfraid_40 : Dc H_mostAfraid 40 (.ireturn) 1 41 := ⟨by decide +kernel, rfl⟩
theorem dS_ahead_0 : Dc S_ahead 0 (.aload_n 0) 1 1 := ⟨by decide +kernel, rfl⟩
theorem dS_ahead_1 : Dc S_ahead 1 (.getfield 12) 3 4 := ⟨by decide +kernel, rfl⟩
theorem dS_ahead_4 : Dc S_ahead 4 (.iload_n 1) 1 5 := ⟨by decide +kernel, rfl⟩
theorem dS_ahead_5 : Dc S_ahead 5 (.invokevirtual 100) 3 8 := ⟨by decide +kernel, rfl⟩
theorem dS_ahead_8 : Dc S_ahead 8 (.ifCond .eq 22) 3 11 := ⟨by decide +kernel, rfl⟩
theorem dS_ahead_11 : Dc S_ahead 11 (.iload_n 2) 1 12 := ⟨by decide +kernel, rfl⟩
theorem dS_ahead_12 : Dc S_ahead 12 (.iconst 1) 1 13 := ⟨by decide +kernel, rfl⟩
theorem dS_ahead_13 : Dc S_ahead 13 (.iconst 4) 1 14 := ⟨by decide +kernel, rfl⟩
theorem dS_ahead_14 : Dc S_ahead 14 (.invokestatic 81) 3 17 := ⟨by decide +kernel, rfl⟩
theorem dS_ahead_17 : Dc S_ahead 17 (.ifCond .eq 13) 3 20 := ⟨by decide +kernel, rfl⟩
theorem dS_ahead_20 : Dc S_ahead 20 (.iload_n 3) 1 21 := ⟨by decide +kernel, rfl⟩
theorem dS_ahead_21 : Dc S_ahead 21 (.iconst 0) 1 22 := ⟨by decide +kernel, rfl⟩
theorem dS_ahead_22 : Dc S_ahead 22 (.bipush 100) 2 24 := ⟨by decide +kernel, rfl⟩
theorem dS_ahead_24 : Dc S_ahead 24 (.invokestatic 81) 3 27 := ⟨by decide +kernel, rfl⟩
theorem dS_ahead_27 : Dc S_ahead 27 (.ifCond .ne 9) 3 30 := ⟨by decide +kernel, rfl⟩
theorem dS_ahead_30 : Dc S_ahead 30 (.aload_n 0) 1 31 := ⟨by decide +kernel, rfl⟩
theorem dS_ahead_31 : Dc S_ahead 31 (.iconst 0) 1 32 := ⟨by decide +kernel, rfl⟩
theorem dS_ahead_32 : Dc S_ahead 32 (.invokevirtual 61) 3 35 := ⟨by decide +kernel, rfl⟩
theorem dS_ahead_35 : Dc S_ahead 35 (.ireturn) 1 36 := ⟨by decide +kernel, rfl⟩
theorem dS_ahead_36 : Dc S_ahead 36 (.aload_n 0) 1 37 := ⟨by decide +kernel, rfl⟩
theorem dS_ahead_37 : Dc S_ahead 37 (.getfield 16) 3 40 := ⟨by decide +kernel, rfl⟩
theorem dS_ahead_40 : Dc S_ahead 40 (.aload_n 0) 1 41 := ⟨by decide +kernel, rfl⟩
theorem dS_ahead_41 : Dc S_ahead 41 (.getfield 12) 3 44 := ⟨by decide +kernel, rfl⟩
theorem dS_ahead_44 : Dc S_ahead 44 (.invokevirtual 151) 3 47 := ⟨by decide +kernel, rfl⟩
theorem dS_ahead_47 : Dc S_ahead 47 (.aload_n 0) 1 48 := ⟨by decide +kernel, rfl⟩
theorem dS_ahead_48 : Dc S_ahead 48 (.getfield 16) 3 51 := ⟨by decide +kernel, rfl⟩
theorem dS_ahead_51 : Dc S_ahead 51 (.iload_n 3) 1 52 := ⟨by decide +kernel, rfl⟩
theorem dS_ahead_52 : Dc S_ahead 52 (.invokevirtual 134) 3 55 := ⟨by decide +kernel, rfl⟩
theorem dS_ahead_55 : Dc S_ahead 55 (.aload_n 0) 1 56 := ⟨by decide +kernel, rfl⟩
theorem dS_ahead_56 : Dc S_ahead 56 (.getfield 16) 3 59 := ⟨by decide +kernel, rfl⟩
theorem dS_ahead_59 : Dc S_ahead 59 (.iload_n 1) 1 60 := ⟨by decide +kernel, rfl⟩
theorem dS_ahead_60 : Dc S_ahead 60 (.iload_n 2) 1 61 := ⟨by decide +kernel, rfl⟩
theorem dS_ahead_61 : Dc S_ahead 61 (.invokevirtual 103) 3 64 := ⟨by decide +kernel, rfl⟩
theorem dS_ahead_64 : Dc S_ahead 64 (.ireturn) 1 65 := ⟨by decide +kernel, rfl⟩
theorem dH_become_0 : Dc H_become 0 (.aload_n 0) 1 1 := ⟨by decide +kernel, rfl⟩
theorem dH_become_1 : Dc H_become 1 (.aload_n 1) 1 2 := ⟨by decide +kernel, rfl⟩
theorem dH_become_2 : Dc H_become 2 (.getfield 9) 3 5 := ⟨by decide +kernel, rfl⟩
theorem dH_become_5 : Dc H_become 5 (.putfield 9) 3 8 := ⟨by decide +kernel, rfl⟩
theorem dH_become_8 : Dc H_become 8 (.aload_n 0) 1 9 := ⟨by decide +kernel, rfl⟩
theorem dH_become_9 : Dc H_become 9 (.aload_n 1) 1 10 := ⟨by decide +kernel, rfl⟩
theorem dH_become_10 : Dc H_become 10 (.getfield 15) 3 13 := ⟨by decide +kernel, rfl⟩
theorem dH_become_13 : Dc H_become 13 (.putfield 15) 3 16 := ⟨by decide +kernel, rfl⟩
theorem dH_become_16 : Dc H_become 16 (.aload_n 0) 1 17 := ⟨by decide +kernel, rfl⟩
theorem dH_become_17 : Dc H_become 17 (.aload_n 1) 1 18 := ⟨by decide +kernel, rfl⟩
theorem dH_become_18 : Dc H_become 18 (.getfield 18) 3 21 := ⟨by decide +kernel, rfl⟩
theorem dH_become_21 : Dc H_become 21 (.putfield 18) 3 24 := ⟨by decide +kernel, rfl⟩
theorem dH_become_24 : Dc H_become 24 (.aload_n 0) 1 25 := ⟨by decide +kernel, rfl⟩
theorem dH_become_25 : Dc H_become 25 (.aload_n 1) 1 26 := ⟨by decide +kernel, rfl⟩
theorem dH_become_26 : Dc H_become 26 (.getfield 21) 3 29 := ⟨by decide +kernel, rfl⟩
theorem dH_become_29 : Dc H_become 29 (.putfield 21) 3 32 := ⟨by decide +kernel, rfl⟩
theorem dH_become_32 : Dc H_become 32 (.aload_n 0) 1 33 := ⟨by decide +kernel, rfl⟩
theorem dH_become_33 : Dc H_become 33 (.aload_n 1) 1 34 := ⟨by decide +kernel, rfl⟩
theorem dH_become_34 : Dc H_become 34 (.getfield 24) 3 37 := ⟨by decide +kernel, rfl⟩
theorem dH_become_37 : Dc H_become 37 (.putfield 24) 3 40 := ⟨by decide +kernel, rfl⟩
theorem dH_become_40 : Dc H_become 40 (.aload_n 0) 1 41 := ⟨by decide +kernel, rfl⟩
theorem dH_become_41 : Dc H_become 41 (.aload_n 1) 1 42 := ⟨by decide +kernel, rfl⟩
theorem dH_become_42 : Dc H_become 42 (.getfield 27) 3 45 := ⟨by decide +kernel, rfl⟩
theorem dH_become_45 : Dc H_become 45 (.putfield 27) 3 48 := ⟨by decide +kernel, rfl⟩
theorem dH_become_48 : Dc H_become 48 (.aload_n 0) 1 49 := ⟨by decide +kernel, rfl⟩
theorem dH_become_49 : Dc H_become 49 (.aload_n 1) 1 50 := ⟨by decide +kernel, rfl⟩
theorem dH_become_50 : Dc H_become 50 (.getfield 30) 3 53 := ⟨by decide +kernel, rfl⟩
theorem dH_become_53 : Dc H_become 53 (.putfield 30) 3 56 := ⟨by decide +kernel, rfl⟩
theorem dH_become_56 : Dc H_become 56 (.aload_n 1) 1 57 := ⟨by decide +kernel, rfl⟩
theorem dH_become_57 : Dc H_become 57 (.getfield 33) 3 60 := ⟨by decide +kernel, rfl⟩
theorem dH_become_60 : Dc H_become 60 (.iconst 0) 1 61 := ⟨by decide +kernel, rfl⟩
theorem dH_become_61 : Dc H_become 61 (.aload_n 0) 1 62 := ⟨by decide +kernel, rfl⟩
theorem dH_become_62 : Dc H_become 62 (.getfield 33) 3 65 := ⟨by decide +kernel, rfl⟩
theorem dH_become_65 : Dc H_become 65 (.iconst 0) 1 66 := ⟨by decide +kernel, rfl⟩
theorem dH_become_66 : Dc H_become 66 (.bipush 8) 2 68 := ⟨by decide +kernel, rfl⟩
theorem dH_become_68 : Dc H_become 68 (.invokestatic 49) 3 71 := ⟨by decide +kernel, rfl⟩
theorem dH_become_71 : Dc H_become 71 (.aload_n 1) 1 72 := ⟨by decide +kernel, rfl⟩
theorem dH_become_72 : Dc H_become 72 (.getfield 37) 3 75 := ⟨by decide +kernel, rfl⟩
theorem dH_become_75 : Dc H_become 75 (.iconst 0) 1 76 := ⟨by decide +kernel, rfl⟩
theorem dH_become_76 : Dc H_become 76 (.aload_n 0) 1 77 := ⟨by decide +kernel, rfl⟩
theorem dH_become_77 : Dc H_become 77 (.getfield 37) 3 80 := ⟨by decide +kernel, rfl⟩
theorem dH_become_80 : Dc H_become 80 (.iconst 0) 1 81 := ⟨by decide +kernel, rfl⟩
theorem dH_become_81 : Dc H_become 81 (.bipush 8) 2 83 := ⟨by decide +kernel, rfl⟩
theorem dH_become_83 : Dc H_become 83 (.invokestatic 49) 3 86 := ⟨by decide +kernel, rfl⟩
theorem dH_become_86 : Dc H_become 86 (.aload_n 1) 1 87 := ⟨by decide +kernel, rfl⟩
theorem dH_become_87 : Dc H_become 87 (.getfield 40) 3 90 := ⟨by decide +kernel, rfl⟩
theorem dH_become_90 : Dc H_become 90 (.iconst 0) 1 91 := ⟨by decide +kernel, rfl⟩
theorem dH_become_91 : Dc H_become 91 (.aload_n 0) 1 92 := ⟨by decide +kernel, rfl⟩
theorem dH_become_92 : Dc H_become 92 (.getfield 40) 3 95 := ⟨by decide +kernel, rfl⟩
theorem dH_become_95 : Dc H_become 95 (.iconst 0) 1 96 := ⟨by decide +kernel, rfl⟩
theorem dH_become_96 : Dc H_become 96 (.bipush 8) 2 98 := ⟨by decide +kernel, rfl⟩
theorem dH_become_98 : Dc H_become 98 (.invokestatic 49) 3 101 := ⟨by decide +kernel, rfl⟩
theorem dH_become_101 : Dc H_become 101 (.aload_n 1) 1 102 := ⟨by decide +kernel, rfl⟩
theorem dH_become_102 : Dc H_become 102 (.getfield 43) 3 105 := ⟨by decide +kernel, rfl⟩
theorem dH_become_105 : Dc H_become 105 (.iconst 0) 1 106 := ⟨by decide +kernel, rfl⟩
theorem dH_become_106 : Dc H_become 106 (.aload_n 0) 1 107 := ⟨by decide +kernel, rfl⟩
theorem dH_become_107 : Dc H_become 107 (.getfield 43) 3 110 := ⟨by decide +kernel, rfl⟩
theorem dH_become_110 : Dc H_become 110 (.iconst 0) 1 111 := ⟨by decide +kernel, rfl⟩
theorem dH_become_111 : Dc H_become 111 (.bipush 8) 2 113 := ⟨by decide +kernel, rfl⟩
theorem dH_become_113 : Dc H_become 113 (.invokestatic 49) 3 116 := ⟨by decide +kernel, rfl⟩
theorem dH_become_116 : Dc H_become 116 (.aload_n 1) 1 117 := ⟨by decide +kernel, rfl⟩
theorem dH_become_117 : Dc H_become 117 (.getfield 46) 3 120 := ⟨by decide +kernel, rfl⟩
theorem dH_become_120 : Dc H_become 120 (.iconst 0) 1 121 := ⟨by decide +kernel, rfl⟩
theorem dH_become_121 : Dc H_become 121 (.aload_n 0) 1 122 := ⟨by decide +kernel, rfl⟩
theorem dH_become_122 : Dc H_become 122 (.getfield 46) 3 125 := ⟨by decide +kernel, rfl⟩
theorem dH_become_125 : Dc H_become 125 (.iconst 0) 1 126 := ⟨by decide +kernel, rfl⟩
theorem dH_become_126 : Dc H_become 126 (.bipush 8) 2 128 := ⟨by decide +kernel, rfl⟩
theorem dH_become_128 : Dc H_become 128 (.invokestatic 49) 3 131 := ⟨by decide +kernel, rfl⟩
theorem dH_become_131 : Dc H_become 131 (.return_) 1 132 := ⟨by decide +kernel, rfl⟩
theorem dS_later_0 : Dc S_later 0 (.iload_n 1) 1 1 := ⟨by decide +kernel, rfl⟩
theorem dS_later_1 : Dc S_later 1 (.iconst 1) 1 2 := ⟨by decide +kernel, rfl⟩
theorem dS_later_2 : Dc S_later 2 (.if_icmp .eq 13) 3 5 := ⟨by decide +kernel, rfl⟩
theorem dS_later_5 : Dc S_later 5 (.iload_n 1) 1 6 := ⟨by decide +kernel, rfl⟩
theorem dS_later_6 : Dc S_later 6 (.iconst 2) 1 7 := ⟨by decide +kernel, rfl⟩
theorem dS_later_7 : Dc S_later 7 (.if_icmp .eq 8) 3 10 := ⟨by decide +kernel, rfl⟩
theorem dS_later_10 : Dc S_later 10 (.iload_n 1) 1 11 := ⟨by decide +kernel, rfl⟩
theorem dS_later_11 : Dc S_later 11 (.iconst 4) 1 12 := ⟨by decide +kernel, rfl⟩
theorem dS_later_12 : Dc S_later 12 (.if_icmp .ne 13) 3 15 := ⟨by decide +kernel, rfl⟩
theorem dS_later_15 : Dc S_later 15 (.iload_n 2) 1 16 := ⟨by decide +kernel, rfl⟩
theorem dS_later_16 : Dc S_later 16 (.iconst 0) 1 17 := ⟨by decide +kernel, rfl⟩
theorem dS_later_17 : Dc S_later 17 (.bipush 100) 2 19 := ⟨by decide +kernel, rfl⟩
theorem dS_later_19 : Dc S_later 19 (.invokestatic 81) 3 22 := ⟨by decide +kernel, rfl⟩
theorem dS_later_22 : Dc S_later 22 (.ifCond .ne 9) 3 25 := ⟨by decide +kernel, rfl⟩
theorem dS_later_25 : Dc S_later 25 (.aload_n 0) 1 26 := ⟨by decide +kernel, rfl⟩
theorem dS_later_26 : Dc S_later 26 (.iconst 0) 1 27 := ⟨by decide +kernel, rfl⟩
theorem dS_later_27 : Dc S_later 27 (.invokevirtual 61) 3 30 := ⟨by decide +kernel, rfl⟩
theorem dS_later_30 : Dc S_later 30 (.ireturn) 1 31 := ⟨by decide +kernel, rfl⟩
theorem dS_later_31 : Dc S_later 31 (.aload_n 0) 1 32 := ⟨by decide +kernel, rfl⟩
theorem dS_later_32 : Dc S_later 32 (.getfield 16) 3 35 := ⟨by decide +kernel, rfl⟩
theorem dS_later_35 : Dc S_later 35 (.aload_n 0) 1 36 := ⟨by decide +kernel, rfl⟩
theorem dS_later_36 : Dc S_later 36 (.getfield 12) 3 39 := ⟨by decide +kernel, rfl⟩
theorem dS_later_39 : Dc S_later 39 (.invokevirtual 151) 3 42 := ⟨by decide +kernel, rfl⟩
theorem dS_later_42 : Dc S_later 42 (.aload_n 0) 1 43 := ⟨by decide +kernel, rfl⟩
theorem dS_later_43 : Dc S_later 43 (.getfield 16) 3 46 := ⟨by decide +kernel, rfl⟩
theorem dS_later_46 : Dc S_later 46 (.iload_n 2) 1 47 := ⟨by decide +kernel, rfl⟩
theorem dS_later_47 : Dc S_later 47 (.invokevirtual 134) 3 50 := ⟨by decide +kernel, rfl⟩
theorem dS_later_50 : Dc S_later 50 (.aload_n 0) 1 51 := ⟨by decide +kernel, rfl⟩
theorem dS_later_51 : Dc S_later 51 (.getfield 16) 3 54 := ⟨by decide +kernel, rfl⟩
theorem dS_later_54 : Dc S_later 54 (.iload_n 1) 1 55 := ⟨by decide +kernel, rfl⟩
theorem dS_later_55 : Dc S_later 55 (.invokevirtual 65) 3 58 := ⟨by decide +kernel, rfl⟩
theorem dS_later_58 : Dc S_later 58 (.ireturn) 1 59 := ⟨by decide +kernel, rfl⟩
theorem dS_when_0 : Dc S_when 0 (.aload_n 0) 1 1 := ⟨by decide +kernel, rfl⟩
theorem dS_when_1 : Dc S_when 1 (.getfield 12) 3 4 := ⟨by decide +kernel, rfl⟩
theorem dS_when_4 : Dc S_when 4 (.iload_n 1) 1 5 := ⟨by decide +kernel, rfl⟩
theorem dS_when_5 : Dc S_when 5 (.invokevirtual 100) 3 8 := ⟨by decide +kernel, rfl⟩
theorem dS_when_8 : Dc S_when 8 (.ifCond .eq 14) 3 11 := ⟨by decide +kernel, rfl⟩
theorem dS_when_11 : Dc S_when 11 (.iload_n 2) 1 12 := ⟨by decide +kernel, rfl⟩
theorem dS_when_12 : Dc S_when 12 (.iconst 0) 1 13 := ⟨by decide +kernel, rfl⟩
theorem dS_when_13 : Dc S_when 13 (.sipush 9999) 3 16 := ⟨by decide +kernel, rfl⟩
theorem dS_when_16 : Dc S_when 16 (.invokestatic 81) 3 19 := ⟨by decide +kernel, rfl⟩
theorem dS_when_19 : Dc S_when 19 (.ifCond .ne 9) 3 22 := ⟨by decide +kernel, rfl⟩
theorem dS_when_22 : Dc S_when 22 (.aload_n 0) 1 23 := ⟨by decide +kernel, rfl⟩
theorem dS_when_23 : Dc S_when 23 (.iconst 0) 1 24 := ⟨by decide +kernel, rfl⟩
theorem dS_when_24 : Dc S_when 24 (.invokevirtual 61) 3 27 := ⟨by decide +kernel, rfl⟩
theorem dS_when_27 : Dc S_when 27 (.ireturn) 1 28 := ⟨by decide +kernel, rfl⟩
theorem dS_when_28 : Dc S_when 28 (.aload_n 0) 1 29 := ⟨by decide +kernel, rfl⟩
theorem dS_when_29 : Dc S_when 29 (.aload_n 0) 1 30 := ⟨by decide +kernel, rfl⟩
theorem dS_when_30 : Dc S_when 30 (.getfield 16) 3 33 := ⟨by decide +kernel, rfl⟩
theorem dS_when_33 : Dc S_when 33 (.getfield 124) 3 36 := ⟨by decide +kernel, rfl⟩
theorem dS_when_36 : Dc S_when 36 (.iload_n 1) 1 37 := ⟨by decide +kernel, rfl⟩
theorem dS_when_37 : Dc S_when 37 (.iload_n 2) 1 38 := ⟨by decide +kernel, rfl⟩
theorem dS_when_38 : Dc S_when 38 (.invokevirtual 155) 3 41 := ⟨by decide +kernel, rfl⟩
theorem dS_when_41 : Dc S_when 41 (.ireturn) 1 42 := ⟨by decide +kernel, rfl⟩
theorem dS_firstHourOfAtLeast_0 : Dc S_firstHourOfAtLeast 0 (.aload_n 0) 1 1 := ⟨by decide +kernel, rfl⟩
theorem dS_firstHourOfAtLeast_1 : Dc S_firstHourOfAtLeast 1 (.getfield 16) 3 4 := ⟨by decide +kernel, rfl⟩
theorem dS_firstHourOfAtLeast_4 : Dc S_firstHourOfAtLeast 4 (.aload_n 0) 1 5 := ⟨by decide +kernel, rfl⟩
theorem dS_firstHourOfAtLeast_5 : Dc S_firstHourOfAtLeast 5 (.getfield 12) 3 8 := ⟨by decide +kernel, rfl⟩
theorem dS_firstHourOfAtLeast_8 : Dc S_firstHourOfAtLeast 8 (.invokevirtual 151) 3 11 := ⟨by decide +kernel, rfl⟩
theorem dS_firstHourOfAtLeast_11 : Dc S_firstHourOfAtLeast 11 (.iconst 0) 1 12 := ⟨by decide +kernel, rfl⟩
theorem dS_firstHourOfAtLeast_12 : Dc S_firstHourOfAtLeast 12 (.istore 4) 2 14 := ⟨by decide +kernel, rfl⟩
theorem dS_firstHourOfAtLeast_14 : Dc S_firstHourOfAtLeast 14 (.iload 4) 2 16 := ⟨by decide +kernel, rfl⟩
theorem dS_firstHourOfAtLeast_16 : Dc S_firstHourOfAtLeast 16 (.sipush 200) 3 19 := ⟨by decide +kernel, rfl⟩
theorem dS_firstHourOfAtLeast_19 : Dc S_firstHourOfAtLeast 19 (.if_icmp .gt 27) 3 22 := ⟨by decide +kernel, rfl⟩
theorem dS_firstHourOfAtLeast_22 : Dc S_firstHourOfAtLeast 22 (.aload_n 1) 1 23 := ⟨by decide +kernel, rfl⟩
theorem dS_firstHourOfAtLeast_23 : Dc S_firstHourOfAtLeast 23 (.iload_n 2) 1 24 := ⟨by decide +kernel, rfl⟩
theorem dS_firstHourOfAtLeast_24 : Dc S_firstHourOfAtLeast 24 (.iaload) 1 25 := ⟨by decide +kernel, rfl⟩
theorem dS_firstHourOfAtLeast_25 : Dc S_firstHourOfAtLeast 25 (.iload_n 3) 1 26 := ⟨by decide +kernel, rfl⟩
theorem dS_firstHourOfAtLeast_26 : Dc S_firstHourOfAtLeast 26 (.if_icmp .lt 6) 3 29 := ⟨by decide +kernel, rfl⟩
theorem dS_firstHourOfAtLeast_29 : Dc S_firstHourOfAtLeast 29 (.iload 4) 2 31 := ⟨by decide +kernel, rfl⟩
theorem dS_firstHourOfAtLeast_31 : Dc S_firstHourOfAtLeast 31 (.ireturn) 1 32 := ⟨by decide +kernel, rfl⟩
theorem dS_firstHourOfAtLeast_32 : Dc S_firstHourOfAtLeast 32 (.aload_n 0) 1 33 := ⟨by decide +kernel, rfl⟩
theorem dS_firstHourOfAtLeast_33 : Dc S_firstHourOfAtLeast 33 (.getfield 16) 3 36 := ⟨by decide +kernel, rfl⟩
theorem dS_firstHourOfAtLeast_36 : Dc S_firstHourOfAtLeast 36 (.iconst 1) 1 37 := ⟨by decide +kernel, rfl⟩
theorem dS_firstHourOfAtLeast_37 : Dc S_firstHourOfAtLeast 37 (.invokevirtual 134) 3 40 := ⟨by decide +kernel, rfl⟩
theorem dS_firstHourOfAtLeast_40 : Dc S_firstHourOfAtLeast 40 (.iinc 4 1) 3 43 := ⟨by decide +kernel, rfl⟩
theorem dS_firstHourOfAtLeast_43 : Dc S_firstHourOfAtLeast 43 (.goto (-29)) 3 46 := ⟨by decide +kernel, rfl⟩
theorem dS_firstHourOfAtLeast_46 : Dc S_firstHourOfAtLeast 46 (.aload_n 0) 1 47 := ⟨by decide +kernel, rfl⟩
theorem dS_firstHourOfAtLeast_47 : Dc S_firstHourOfAtLeast 47 (.iconst 3) 1 48 := ⟨by decide +kernel, rfl⟩
theorem dS_firstHourOfAtLeast_48 : Dc S_firstHourOfAtLeast 48 (.invokevirtual 61) 3 51 := ⟨by decide +kernel, rfl⟩
theorem dS_firstHourOfAtLeast_51 : Dc S_firstHourOfAtLeast 51 (.ireturn) 1 52 := ⟨by decide +kernel, rfl⟩
theorem dS_home_0 : Dc S_home 0 (.aload_n 0) 1 1 := ⟨by decide +kernel, rfl⟩
theorem dS_home_1 : Dc S_home 1 (.getfield 16) 3 4 := ⟨by decide +kernel, rfl⟩
theorem dS_home_4 : Dc S_home 4 (.aload_n 0) 1 5 := ⟨by decide +kernel, rfl⟩
theorem dS_home_5 : Dc S_home 5 (.getfield 12) 3 8 := ⟨by decide +kernel, rfl⟩
theorem dS_home_8 : Dc S_home 8 (.invokevirtual 151) 3 11 := ⟨by decide +kernel, rfl⟩
theorem dS_home_11 : Dc S_home 11 (.iconst 0) 1 12 := ⟨by decide +kernel, rfl⟩
theorem dS_home_12 : Dc S_home 12 (.istore_n 1) 1 13 := ⟨by decide +kernel, rfl⟩
theorem dS_home_13 : Dc S_home 13 (.iload_n 1) 1 14 := ⟨by decide +kernel, rfl⟩
theorem dS_home_14 : Dc S_home 14 (.sipush 200) 3 17 := ⟨by decide +kernel, rfl⟩
theorem dS_home_17 : Dc S_home 17 (.if_icmp .gt 29) 3 20 := ⟨by decide +kernel, rfl⟩
theorem dS_home_20 : Dc S_home 20 (.aload_n 0) 1 21 := ⟨by decide +kernel, rfl⟩
theorem dS_home_21 : Dc S_home 21 (.getfield 16) 3 24 := ⟨by decide +kernel, rfl⟩
theorem dS_home_24 : Dc S_home 24 (.invokevirtual 159) 3 27 := ⟨by decide +kernel, rfl⟩
theorem dS_home_27 : Dc S_home 27 (.ifCond .eq 5) 3 30 := ⟨by decide +kernel, rfl⟩
theorem dS_home_30 : Dc S_home 30 (.iload_n 1) 1 31 := ⟨by decide +kernel, rfl⟩
theorem dS_home_31 : Dc S_home 31 (.ireturn) 1 32 := ⟨by decide +kernel, rfl⟩
theorem dS_home_32 : Dc S_home 32 (.aload_n 0) 1 33 := ⟨by decide +kernel, rfl⟩
theorem dS_home_33 : Dc S_home 33 (.getfield 16) 3 36 := ⟨by decide +kernel, rfl⟩
theorem dS_home_36 : Dc S_home 36 (.iconst 1) 1 37 := ⟨by decide +kernel, rfl⟩
theorem dS_home_37 : Dc S_home 37 (.invokevirtual 134) 3 40 := ⟨by decide +kernel, rfl⟩
theorem dS_home_40 : Dc S_home 40 (.iinc 1 1) 3 43 := ⟨by decide +kernel, rfl⟩
theorem dS_home_43 : Dc S_home 43 (.goto (-30)) 3 46 := ⟨by decide +kernel, rfl⟩
theorem dS_home_46 : Dc S_home 46 (.aload_n 0) 1 47 := ⟨by decide +kernel, rfl⟩
theorem dS_home_47 : Dc S_home 47 (.iconst 3) 1 48 := ⟨by decide +kernel, rfl⟩
theorem dS_home_48 : Dc S_home 48 (.invokevirtual 61) 3 51 := ⟨by decide +kernel, rfl⟩
theorem dS_home_51 : Dc S_home 51 (.ireturn) 1 52 := ⟨by decide +kernel, rfl⟩
theorem dH_allAtFold_0 : Dc H_allAtFold 0 (.aload_n 0) 1 1 := ⟨by decide +kernel, rfl⟩
theorem dH_allAtFold_1 : Dc H_allAtFold 1 (.aload_n 0) 1 2 := ⟨by decide +kernel, rfl⟩
theorem dH_allAtFold_2 : Dc H_allAtFold 2 (.getfield 9) 3 5 := ⟨by decide +kernel, rfl⟩
theorem dH_allAtFold_5 : Dc H_allAtFold 5 (.invokevirtual 83) 3 8 := ⟨by decide +kernel, rfl⟩
theorem dH_allAtFold_8 : Dc H_allAtFold 8 (.iconst 1) 1 9 := ⟨by decide +kernel, rfl⟩
theorem dH_allAtFold_9 : Dc H_allAtFold 9 (.aload_n 0) 1 10 := ⟨by decide +kernel, rfl⟩
theorem dH_allAtFold_10 : Dc H_allAtFold 10 (.getfield 30) 3 13 := ⟨by decide +kernel, rfl⟩
theorem dH_allAtFold_13 : Dc H_allAtFold 13 (.ishl) 1 14 := ⟨by decide +kernel, rfl⟩
theorem dH_allAtFold_14 : Dc H_allAtFold 14 (.iconst 1) 1 15 := ⟨by decide +kernel, rfl⟩
theorem dH_allAtFold_15 : Dc H_allAtFold 15 (.isub) 1 16 := ⟨by decide +kernel, rfl⟩
theorem dH_allAtFold_16 : Dc H_allAtFold 16 (.if_icmp .ne 7) 3 19 := ⟨by decide +kernel, rfl⟩
theorem dH_allAtFold_19 : Dc H_allAtFold 19 (.iconst 1) 1 20 := ⟨by decide +kernel, rfl⟩
theorem dH_allAtFold_20 : Dc H_allAtFold 20 (.goto 4) 3 23 := ⟨by decide +kernel, rfl⟩
theorem dH_allAtFold_23 : Dc H_allAtFold 23 (.iconst 0) 1 24 := ⟨by decide +kernel, rfl⟩
theorem dH_allAtFold_24 : Dc H_allAtFold 24 (.ireturn) 1 25 := ⟨by decide +kernel, rfl⟩
end
section
theorem dS_panic_0 : Dc S_panic 0 (.aload_n 0) 1 1 := ⟨by decide +kernel, rfl⟩
theorem dS_panic_1 : Dc S_panic 1 (.getfield 12) 3 4 := ⟨by decide +kernel, rfl⟩
theorem dS_panic_4 : Dc S_panic 4 (.iload_n 1) 1 5 := ⟨by decide +kernel, rfl⟩
theorem dS_panic_5 : Dc S_panic 5 (.invokevirtual 100) 3 8 := ⟨by decide +kernel, rfl⟩
theorem dS_panic_8 : Dc S_panic 8 (.ifCond .eq 13) 3 11 := ⟨by decide +kernel, rfl⟩
theorem dS_panic_11 : Dc S_panic 11 (.iload_n 2) 1 12 := ⟨by decide +kernel, rfl⟩
theorem dS_panic_12 : Dc S_panic 12 (.iconst 0) 1 13 := ⟨by decide +kernel, rfl⟩
theorem dS_panic_13 : Dc S_panic 13 (.bipush 99) 2 15 := ⟨by decide +kernel, rfl⟩
theorem dS_panic_15 : Dc S_panic 15 (.invokestatic 81) 3 18 := ⟨by decide +kernel, rfl⟩
theorem dS_panic_18 : Dc S_panic 18 (.ifCond .ne 9) 3 21 := ⟨by decide +kernel, rfl⟩
theorem dS_panic_21 : Dc S_panic 21 (.aload_n 0) 1 22 := ⟨by decide +kernel, rfl⟩
theorem dS_panic_22 : Dc S_panic 22 (.iconst 0) 1 23 := ⟨by decide +kernel, rfl⟩
theorem dS_panic_23 : Dc S_panic 23 (.invokevirtual 61) 3 26 := ⟨by decide +kernel, rfl⟩
theorem dS_panic_26 : Dc S_panic 26 (.ireturn) 1 27 := ⟨by decide +kernel, rfl⟩
theorem dS_panic_27 : Dc S_panic 27 (.aload_n 0) 1 28 := ⟨by decide +kernel, rfl⟩
theorem dS_panic_28 : Dc S_panic 28 (.aload_n 0) 1 29 := ⟨by decide +kernel, rfl⟩
theorem dS_panic_29 : Dc S_panic 29 (.getfield 16) 3 32 := ⟨by decide +kernel, rfl⟩
theorem dS_panic_32 : Dc S_panic 32 (.getfield 118) 3 35 := ⟨by decide +kernel, rfl⟩
theorem dS_panic_35 : Dc S_panic 35 (.iload_n 1) 1 36 := ⟨by decide +kernel, rfl⟩
theorem dS_panic_36 : Dc S_panic 36 (.iload_n 2) 1 37 := ⟨by decide +kernel, rfl⟩
theorem dS_panic_37 : Dc S_panic 37 (.invokevirtual 155) 3 40 := ⟨by decide +kernel, rfl⟩
theorem dS_panic_40 : Dc S_panic 40 (.ireturn) 1 41 := ⟨by decide +kernel, rfl⟩
theorem dS_standFor_0 : Dc S_standFor 0 (.iload_n 1) 1 1 := ⟨by decide +kernel, rfl⟩
theorem dS_standFor_1 : Dc S_standFor 1 (.iconst 0) 1 2 := ⟨by decide +kernel, rfl⟩
theorem dS_standFor_2 : Dc S_standFor 2 (.bipush 40) 2 4 := ⟨by decide +kernel, rfl⟩
theorem dS_standFor_4 : Dc S_standFor 4 (.invokestatic 81) 3 7 := ⟨by decide +kernel, rfl⟩
theorem dS_standFor_7 : Dc S_standFor 7 (.ifCond .ne 9) 3 10 := ⟨by decide +kernel, rfl⟩
theorem dS_standFor_10 : Dc S_standFor 10 (.aload_n 0) 1 11 := ⟨by decide +kernel, rfl⟩
theorem dS_standFor_11 : Dc S_standFor 11 (.iconst 0) 1 12 := ⟨by decide +kernel, rfl⟩
theorem dS_standFor_12 : Dc S_standFor 12 (.invokevirtual 61) 3 15 := ⟨by decide +kernel, rfl⟩
theorem dS_standFor_15 : Dc S_standFor 15 (.ireturn) 1 16 := ⟨by decide +kernel, rfl⟩
theorem dS_standFor_16 : Dc S_standFor 16 (.aload_n 0) 1 17 := ⟨by decide +kernel, rfl⟩
theorem dS_standFor_17 : Dc S_standFor 17 (.getfield 12) 3 20 := ⟨by decide +kernel, rfl⟩
theorem dS_standFor_20 : Dc S_standFor 20 (.getfield 109) 3 23 := ⟨by decide +kernel, rfl⟩
theorem dS_standFor_23 : Dc S_standFor 23 (.iconst (-1)) 1 24 := ⟨by decide +kernel, rfl⟩
theorem dS_standFor_24 : Dc S_standFor 24 (.if_icmp .eq 9) 3 27 := ⟨by decide +kernel, rfl⟩
theorem dS_standFor_27 : Dc S_standFor 27 (.aload_n 0) 1 28 := ⟨by decide +kernel, rfl⟩
theorem dS_standFor_28 : Dc S_standFor 28 (.iconst 4) 1 29 := ⟨by decide +kernel, rfl⟩
theorem dS_standFor_29 : Dc S_standFor 29 (.invokevirtual 61) 3 32 := ⟨by decide +kernel, rfl⟩
theorem dS_standFor_32 : Dc S_standFor 32 (.ireturn) 1 33 := ⟨by decide +kernel, rfl⟩
theorem dS_standFor_33 : Dc S_standFor 33 (.iconst 0) 1 34 := ⟨by decide +kernel, rfl⟩
theorem dS_standFor_34 : Dc S_standFor 34 (.istore_n 2) 1 35 := ⟨by decide +kernel, rfl⟩
theorem dS_standFor_35 : Dc S_standFor 35 (.ldc 164) 2 37 := ⟨by decide +kernel, rfl⟩
theorem dS_standFor_37 : Dc S_standFor 37 (.istore_n 3) 1 38 := ⟨by decide +kernel, rfl⟩
theorem dS_standFor_38 : Dc S_standFor 38 (.iconst 0) 1 39 := ⟨by decide +kernel, rfl⟩
theorem dS_standFor_39 : Dc S_standFor 39 (.istore 4) 2 41 := ⟨by decide +kernel, rfl⟩
theorem dS_standFor_41 : Dc S_standFor 41 (.iload 4) 2 43 := ⟨by decide +kernel, rfl⟩
theorem dS_standFor_43 : Dc S_standFor 43 (.bipush 16) 2 45 := ⟨by decide +kernel, rfl⟩
theorem dS_standFor_45 : Dc S_standFor 45 (.if_icmp .ge 65) 3 48 := ⟨by decide +kernel, rfl⟩
theorem dS_standFor_48 : Dc S_standFor 48 (.aload_n 0) 1 49 := ⟨by decide +kernel, rfl⟩
theorem dS_standFor_49 : Dc S_standFor 49 (.getfield 16) 3 52 := ⟨by decide +kernel, rfl⟩
theorem dS_standFor_52 : Dc S_standFor 52 (.aload_n 0) 1 53 := ⟨by decide +kernel, rfl⟩
theorem dS_standFor_53 : Dc S_standFor 53 (.getfield 12) 3 56 := ⟨by decide +kernel, rfl⟩
theorem dS_standFor_56 : Dc S_standFor 56 (.invokevirtual 151) 3 59 := ⟨by decide +kernel, rfl⟩
theorem dS_standFor_59 : Dc S_standFor 59 (.aload_n 0) 1 60 := ⟨by decide +kernel, rfl⟩
theorem dS_standFor_60 : Dc S_standFor 60 (.getfield 16) 3 63 := ⟨by decide +kernel, rfl⟩
theorem dS_standFor_63 : Dc S_standFor 63 (.iload 4) 2 65 := ⟨by decide +kernel, rfl⟩
theorem dS_standFor_65 : Dc S_standFor 65 (.invokevirtual 71) 3 68 := ⟨by decide +kernel, rfl⟩
theorem dS_standFor_68 : Dc S_standFor 68 (.aload_n 0) 1 69 := ⟨by decide +kernel, rfl⟩
theorem dS_standFor_69 : Dc S_standFor 69 (.getfield 16) 3 72 := ⟨by decide +kernel, rfl⟩
theorem dS_standFor_72 : Dc S_standFor 72 (.iload_n 1) 1 73 := ⟨by decide +kernel, rfl⟩
theorem dS_standFor_73 : Dc S_standFor 73 (.invokevirtual 134) 3 76 := ⟨by decide +kernel, rfl⟩
theorem dS_standFor_76 : Dc S_standFor 76 (.aload_n 0) 1 77 := ⟨by decide +kernel, rfl⟩
theorem dS_standFor_77 : Dc S_standFor 77 (.getfield 16) 3 80 := ⟨by decide +kernel, rfl⟩
theorem dS_standFor_80 : Dc S_standFor 80 (.aload_n 0) 1 81 := ⟨by decide +kernel, rfl⟩
theorem dS_standFor_81 : Dc S_standFor 81 (.getfield 16) 3 84 := ⟨by decide +kernel, rfl⟩
theorem dS_standFor_84 : Dc S_standFor 84 (.getfield 118) 3 87 := ⟨by decide +kernel, rfl⟩
theorem dS_standFor_87 : Dc S_standFor 87 (.invokevirtual 137) 3 90 := ⟨by decide +kernel, rfl⟩
theorem dS_standFor_90 : Dc S_standFor 90 (.istore 5) 2 92 := ⟨by decide +kernel, rfl⟩
theorem dS_standFor_92 : Dc S_standFor 92 (.iload 5) 2 94 := ⟨by decide +kernel, rfl⟩
theorem dS_standFor_94 : Dc S_standFor 94 (.iload_n 3) 1 95 := ⟨by decide +kernel, rfl⟩
theorem dS_standFor_95 : Dc S_standFor 95 (.if_icmp .ge 9) 3 98 := ⟨by decide +kernel, rfl⟩
theorem dS_standFor_98 : Dc S_standFor 98 (.iload 5) 2 100 := ⟨by decide +kernel, rfl⟩
theorem dS_standFor_100 : Dc S_standFor 100 (.istore_n 3) 1 101 := ⟨by decide +kernel, rfl⟩
theorem dS_standFor_101 : Dc S_standFor 101 (.iload 4) 2 103 := ⟨by decide +kernel, rfl⟩
theorem dS_standFor_103 : Dc S_standFor 103 (.istore_n 2) 1 104 := ⟨by decide +kernel, rfl⟩
theorem dS_standFor_104 : Dc S_standFor 104 (.iinc 4 1) 3 107 := ⟨by decide +kernel, rfl⟩
theorem dS_standFor_107 : Dc S_standFor 107 (.goto (-66)) 3 110 := ⟨by decide +kernel, rfl⟩
theorem dS_standFor_110 : Dc S_standFor 110 (.iload_n 2) 1 111 := ⟨by decide +kernel, rfl⟩
theorem dS_standFor_111 : Dc S_standFor 111 (.ireturn) 1 112 := ⟨by decide +kernel, rfl⟩
theorem dS_foldFor_0 : Dc S_foldFor 0 (.iload_n 1) 1 1 := ⟨by decide +kernel, rfl⟩
theorem dS_foldFor_1 : Dc S_foldFor 1 (.iconst 0) 1 2 := ⟨by decide +kernel, rfl⟩
theorem dS_foldFor_2 : Dc S_foldFor 2 (.bipush 40) 2 4 := ⟨by decide +kernel, rfl⟩
theorem dS_foldFor_4 : Dc S_foldFor 4 (.invokestatic 81) 3 7 := ⟨by decide +kernel, rfl⟩
theorem dS_foldFor_7 : Dc S_foldFor 7 (.ifCond .ne 9) 3 10 := ⟨by decide +kernel, rfl⟩
theorem dS_foldFor_10 : Dc S_foldFor 10 (.aload_n 0) 1 11 := ⟨by decide +kernel, rfl⟩
theorem dS_foldFor_11 : Dc S_foldFor 11 (.iconst 0) 1 12 := ⟨by decide +kernel, rfl⟩
theorem dS_foldFor_12 : Dc S_foldFor 12 (.invokevirtual 61) 3 15 := ⟨by decide +kernel, rfl⟩
theorem dS_foldFor_15 : Dc S_foldFor 15 (.ireturn) 1 16 := ⟨by decide +kernel, rfl⟩
theorem dS_foldFor_16 : Dc S_foldFor 16 (.iconst 0) 1 17 := ⟨by decide +kernel, rfl⟩
theorem dS_foldFor_17 : Dc S_foldFor 17 (.istore_n 2) 1 18 := ⟨by decide +kernel, rfl⟩
theorem dS_foldFor_18 : Dc S_foldFor 18 (.ldc 164) 2 20 := ⟨by decide +kernel, rfl⟩
theorem dS_foldFor_20 : Dc S_foldFor 20 (.istore_n 3) 1 21 := ⟨by decide +kernel, rfl⟩
theorem dS_foldFor_21 : Dc S_foldFor 21 (.iconst 0) 1 22 := ⟨by decide +kernel, rfl⟩
theorem dS_foldFor_22 : Dc S_foldFor 22 (.istore 4) 2 24 := ⟨by decide +kernel, rfl⟩
theorem dS_foldFor_24 : Dc S_foldFor 24 (.iload 4) 2 26 := ⟨by decide +kernel, rfl⟩
theorem dS_foldFor_26 : Dc S_foldFor 26 (.bipush 16) 2 28 := ⟨by decide +kernel, rfl⟩
theorem dS_foldFor_28 : Dc S_foldFor 28 (.if_icmp .ge 65) 3 31 := ⟨by decide +kernel, rfl⟩
theorem dS_foldFor_31 : Dc S_foldFor 31 (.aload_n 0) 1 32 := ⟨by decide +kernel, rfl⟩
theorem dS_foldFor_32 : Dc S_foldFor 32 (.getfield 16) 3 35 := ⟨by decide +kernel, rfl⟩
theorem dS_foldFor_35 : Dc S_foldFor 35 (.aload_n 0) 1 36 := ⟨by decide +kernel, rfl⟩
theorem dS_foldFor_36 : Dc S_foldFor 36 (.getfield 12) 3 39 := ⟨by decide +kernel, rfl⟩
theorem dS_foldFor_39 : Dc S_foldFor 39 (.invokevirtual 151) 3 42 := ⟨by decide +kernel, rfl⟩
theorem dS_foldFor_42 : Dc S_foldFor 42 (.aload_n 0) 1 43 := ⟨by decide +kernel, rfl⟩
theorem dS_foldFor_43 : Dc S_foldFor 43 (.getfield 16) 3 46 := ⟨by decide +kernel, rfl⟩
theorem dS_foldFor_46 : Dc S_foldFor 46 (.iload 4) 2 48 := ⟨by decide +kernel, rfl⟩
theorem dS_foldFor_48 : Dc S_foldFor 48 (.putfield 68) 3 51 := ⟨by decide +kernel, rfl⟩
theorem dS_foldFor_51 : Dc S_foldFor 51 (.aload_n 0) 1 52 := ⟨by decide +kernel, rfl⟩
theorem dS_foldFor_52 : Dc S_foldFor 52 (.getfield 16) 3 55 := ⟨by decide +kernel, rfl⟩
theorem dS_foldFor_55 : Dc S_foldFor 55 (.iload_n 1) 1 56 := ⟨by decide +kernel, rfl⟩
theorem dS_foldFor_56 : Dc S_foldFor 56 (.invokevirtual 134) 3 59 := ⟨by decide +kernel, rfl⟩
theorem dS_foldFor_59 : Dc S_foldFor 59 (.aload_n 0) 1 60 := ⟨by decide +kernel, rfl⟩
theorem dS_foldFor_60 : Dc S_foldFor 60 (.getfield 16) 3 63 := ⟨by decide +kernel, rfl⟩
theorem dS_foldFor_63 : Dc S_foldFor 63 (.aload_n 0) 1 64 := ⟨by decide +kernel, rfl⟩
theorem dS_foldFor_64 : Dc S_foldFor 64 (.getfield 16) 3 67 := ⟨by decide +kernel, rfl⟩
theorem dS_foldFor_67 : Dc S_foldFor 67 (.getfield 121) 3 70 := ⟨by decide +kernel, rfl⟩
theorem dS_foldFor_70 : Dc S_foldFor 70 (.invokevirtual 137) 3 73 := ⟨by decide +kernel, rfl⟩
theorem dS_foldFor_73 : Dc S_foldFor 73 (.istore 5) 2 75 := ⟨by decide +kernel, rfl⟩
theorem dS_foldFor_75 : Dc S_foldFor 75 (.iload 5) 2 77 := ⟨by decide +kernel, rfl⟩
theorem dS_foldFor_77 : Dc S_foldFor 77 (.iload_n 3) 1 78 := ⟨by decide +kernel, rfl⟩
theorem dS_foldFor_78 : Dc S_foldFor 78 (.if_icmp .ge 9) 3 81 := ⟨by decide +kernel, rfl⟩
theorem dS_foldFor_81 : Dc S_foldFor 81 (.iload 5) 2 83 := ⟨by decide +kernel, rfl⟩
theorem dS_foldFor_83 : Dc S_foldFor 83 (.istore_n 3) 1 84 := ⟨by decide +kernel, rfl⟩
theorem dS_foldFor_84 : Dc S_foldFor 84 (.iload 4) 2 86 := ⟨by decide +kernel, rfl⟩
theorem dS_foldFor_86 : Dc S_foldFor 86 (.istore_n 2) 1 87 := ⟨by decide +kernel, rfl⟩
theorem dS_foldFor_87 : Dc S_foldFor 87 (.iinc 4 1) 3 90 := ⟨by decide +kernel, rfl⟩
theorem dS_foldFor_90 : Dc S_foldFor 90 (.goto (-66)) 3 93 := ⟨by decide +kernel, rfl⟩
theorem dS_foldFor_93 : Dc S_foldFor 93 (.iload_n 2) 1 94 := ⟨by decide +kernel, rfl⟩
theorem dS_foldFor_94 : Dc S_foldFor 94 (.ireturn) 1 95 := ⟨by decide +kernel, rfl⟩
theorem dS_kindFor_0 : Dc S_kindFor 0 (.aload_n 0) 1 1 := ⟨by decide +kernel, rfl⟩
theorem dS_kindFor_1 : Dc S_kindFor 1 (.getfield 12) 3 4 := ⟨by decide +kernel, rfl⟩
theorem dS_kindFor_4 : Dc S_kindFor 4 (.iload_n 1) 1 5 := ⟨by decide +kernel, rfl⟩
theorem dS_kindFor_5 : Dc S_kindFor 5 (.invokevirtual 100) 3 8 := ⟨by decide +kernel, rfl⟩
theorem dS_kindFor_8 : Dc S_kindFor 8 (.ifCond .eq 13) 3 11 := ⟨by decide +kernel, rfl⟩
theorem dS_kindFor_11 : Dc S_kindFor 11 (.iload_n 2) 1 12 := ⟨by decide +kernel, rfl⟩
theorem dS_kindFor_12 : Dc S_kindFor 12 (.iconst 0) 1 13 := ⟨by decide +kernel, rfl⟩
theorem dS_kindFor_13 : Dc S_kindFor 13 (.bipush 40) 2 15 := ⟨by decide +kernel, rfl⟩
theorem dS_kindFor_15 : Dc S_kindFor 15 (.invokestatic 81) 3 18 := ⟨by decide +kernel, rfl⟩
theorem dS_kindFor_18 : Dc S_kindFor 18 (.ifCond .ne 9) 3 21 := ⟨by decide +kernel, rfl⟩
theorem dS_kindFor_21 : Dc S_kindFor 21 (.aload_n 0) 1 22 := ⟨by decide +kernel, rfl⟩
theorem dS_kindFor_22 : Dc S_kindFor 22 (.iconst 0) 1 23 := ⟨by decide +kernel, rfl⟩
theorem dS_kindFor_23 : Dc S_kindFor 23 (.invokevirtual 61) 3 26 := ⟨by decide +kernel, rfl⟩
theorem dS_kindFor_26 : Dc S_kindFor 26 (.ireturn) 1 27 := ⟨by decide +kernel, rfl⟩
theorem dS_kindFor_27 : Dc S_kindFor 27 (.iconst 0) 1 28 := ⟨by decide +kernel, rfl⟩
theorem dS_kindFor_28 : Dc S_kindFor 28 (.istore_n 3) 1 29 := ⟨by decide +kernel, rfl⟩
theorem dS_kindFor_29 : Dc S_kindFor 29 (.iconst (-1)) 1 30 := ⟨by decide +kernel, rfl⟩
theorem dS_kindFor_30 : Dc S_kindFor 30 (.istore 4) 2 32 := ⟨by decide +kernel, rfl⟩
theorem dS_kindFor_32 : Dc S_kindFor 32 (.iconst 0) 1 33 := ⟨by decide +kernel, rfl⟩
theorem dS_kindFor_33 : Dc S_kindFor 33 (.istore 5) 2 35 := ⟨by decide +kernel, rfl⟩
theorem dS_kindFor_35 : Dc S_kindFor 35 (.iload 5) 2 37 := ⟨by decide +kernel, rfl⟩
theorem dS_kindFor_37 : Dc S_kindFor 37 (.bipush 7) 2 39 := ⟨by decide +kernel, rfl⟩
theorem dS_kindFor_39 : Dc S_kindFor 39 (.if_icmp .ge 67) 3 42 := ⟨by decide +kernel, rfl⟩
theorem dS_kindFor_42 : Dc S_kindFor 42 (.aload_n 0) 1 43 := ⟨by decide +kernel, rfl⟩
theorem dS_kindFor_43 : Dc S_kindFor 43 (.getfield 16) 3 46 := ⟨by decide +kernel, rfl⟩
theorem dS_kindFor_46 : Dc S_kindFor 46 (.aload_n 0) 1 47 := ⟨by decide +kernel, rfl⟩
theorem dS_kindFor_47 : Dc S_kindFor 47 (.getfield 12) 3 50 := ⟨by decide +kernel, rfl⟩
theorem dS_kindFor_50 : Dc S_kindFor 50 (.invokevirtual 151) 3 53 := ⟨by decide +kernel, rfl⟩
theorem dS_kindFor_53 : Dc S_kindFor 53 (.aload_n 0) 1 54 := ⟨by decide +kernel, rfl⟩
theorem dS_kindFor_54 : Dc S_kindFor 54 (.getfield 16) 3 57 := ⟨by decide +kernel, rfl⟩
theorem dS_kindFor_57 : Dc S_kindFor 57 (.getfield 112) 3 60 := ⟨by decide +kernel, rfl⟩
theorem dS_kindFor_60 : Dc S_kindFor 60 (.iload_n 1) 1 61 := ⟨by decide +kernel, rfl⟩
theorem dS_kindFor_61 : Dc S_kindFor 61 (.iload 5) 2 63 := ⟨by decide +kernel, rfl⟩
theorem dS_kindFor_63 : Dc S_kindFor 63 (.iastore) 1 64 := ⟨by decide +kernel, rfl⟩
theorem dS_kindFor_64 : Dc S_kindFor 64 (.aload_n 0) 1 65 := ⟨by decide +kernel, rfl⟩
theorem dS_kindFor_65 : Dc S_kindFor 65 (.getfield 16) 3 68 := ⟨by decide +kernel, rfl⟩
theorem dS_kindFor_68 : Dc S_kindFor 68 (.iload_n 2) 1 69 := ⟨by decide +kernel, rfl⟩
theorem dS_kindFor_69 : Dc S_kindFor 69 (.invokevirtual 134) 3 72 := ⟨by decide +kernel, rfl⟩
theorem dS_kindFor_72 : Dc S_kindFor 72 (.aload_n 0) 1 73 := ⟨by decide +kernel, rfl⟩
theorem dS_kindFor_73 : Dc S_kindFor 73 (.getfield 16) 3 76 := ⟨by decide +kernel, rfl⟩
theorem dS_kindFor_76 : Dc S_kindFor 76 (.getfield 124) 3 79 := ⟨by decide +kernel, rfl⟩
theorem dS_kindFor_79 : Dc S_kindFor 79 (.iload_n 1) 1 80 := ⟨by decide +kernel, rfl⟩
theorem dS_kindFor_80 : Dc S_kindFor 80 (.iaload) 1 81 := ⟨by decide +kernel, rfl⟩
theorem dS_kindFor_81 : Dc S_kindFor 81 (.iload 4) 2 83 := ⟨by decide +kernel, rfl⟩
theorem dS_kindFor_83 : Dc S_kindFor 83 (.if_icmp .le 17) 3 86 := ⟨by decide +kernel, rfl⟩
theorem dS_kindFor_86 : Dc S_kindFor 86 (.aload_n 0) 1 87 := ⟨by decide +kernel, rfl⟩
theorem dS_kindFor_87 : Dc S_kindFor 87 (.getfield 16) 3 90 := ⟨by decide +kernel, rfl⟩
theorem dS_kindFor_90 : Dc S_kindFor 90 (.getfield 124) 3 93 := ⟨by decide +kernel, rfl⟩
theorem dS_kindFor_93 : Dc S_kindFor 93 (.iload_n 1) 1 94 := ⟨by decide +kernel, rfl⟩
theorem dS_kindFor_94 : Dc S_kindFor 94 (.iaload) 1 95 := ⟨by decide +kernel, rfl⟩
theorem dS_kindFor_95 : Dc S_kindFor 95 (.istore 4) 2 97 := ⟨by decide +kernel, rfl⟩
theorem dS_kindFor_97 : Dc S_kindFor 97 (.iload 5) 2 99 := ⟨by decide +kernel, rfl⟩
theorem dS_kindFor_99 : Dc S_kindFor 99 (.istore_n 3) 1 100 := ⟨by decide +kernel, rfl⟩
theorem dS_kindFor_100 : Dc S_kindFor 100 (.iinc 5 1) 3 103 := ⟨by decide +kernel, rfl⟩
theorem dS_kindFor_103 : Dc S_kindFor 103 (.goto (-68)) 3 106 := ⟨by decide +kernel, rfl⟩
theorem dS_kindFor_106 : Dc S_kindFor 106 (.iload_n 3) 1 107 := ⟨by decide +kernel, rfl⟩
theorem dS_kindFor_107 : Dc S_kindFor 107 (.ireturn) 1 108 := ⟨by decide +kernel, rfl⟩
theorem dS_paceFor_0 : Dc S_paceFor 0 (.iload_n 1) 1 1 := ⟨by decide +kernel, rfl⟩
theorem dS_paceFor_1 : Dc S_paceFor 1 (.iconst 0) 1 2 := ⟨by decide +kernel, rfl⟩
theorem dS_paceFor_2 : Dc S_paceFor 2 (.sipush 999) 3 5 := ⟨by decide +kernel, rfl⟩
theorem dS_paceFor_5 : Dc S_paceFor 5 (.invokestatic 81) 3 8 := ⟨by decide +kernel, rfl⟩
theorem dS_paceFor_8 : Dc S_paceFor 8 (.ifCond .eq 13) 3 11 := ⟨by decide +kernel, rfl⟩
theorem dS_paceFor_11 : Dc S_paceFor 11 (.iload_n 2) 1 12 := ⟨by decide +kernel, rfl⟩
theorem dS_paceFor_12 : Dc S_paceFor 12 (.iconst 0) 1 13 := ⟨by decide +kernel, rfl⟩
theorem dS_paceFor_13 : Dc S_paceFor 13 (.bipush 40) 2 15 := ⟨by decide +kernel, rfl⟩
theorem dS_paceFor_15 : Dc S_paceFor 15 (.invokestatic 81) 3 18 := ⟨by decide +kernel, rfl⟩
theorem dS_paceFor_18 : Dc S_paceFor 18 (.ifCond .ne 9) 3 21 := ⟨by decide +kernel, rfl⟩
theorem dS_paceFor_21 : Dc S_paceFor 21 (.aload_n 0) 1 22 := ⟨by decide +kernel, rfl⟩
theorem dS_paceFor_22 : Dc S_paceFor 22 (.iconst 0) 1 23 := ⟨by decide +kernel, rfl⟩
theorem dS_paceFor_23 : Dc S_paceFor 23 (.invokevirtual 61) 3 26 := ⟨by decide +kernel, rfl⟩
theorem dS_paceFor_26 : Dc S_paceFor 26 (.ireturn) 1 27 := ⟨by decide +kernel, rfl⟩
theorem dS_paceFor_27 : Dc S_paceFor 27 (.iconst 5) 1 28 := ⟨by decide +kernel, rfl⟩
theorem dS_paceFor_28 : Dc S_paceFor 28 (.istore_n 3) 1 29 := ⟨by decide +kernel, rfl⟩
theorem dS_paceFor_29 : Dc S_paceFor 29 (.iload_n 3) 1 30 := ⟨by decide +kernel, rfl⟩
theorem dS_paceFor_30 : Dc S_paceFor 30 (.ifCond .lt 56) 3 33 := ⟨by decide +kernel, rfl⟩
theorem dS_paceFor_33 : Dc S_paceFor 33 (.aload_n 0) 1 34 := ⟨by decide +kernel, rfl⟩
theorem dS_paceFor_34 : Dc S_paceFor 34 (.getfield 16) 3 37 := ⟨by decide +kernel, rfl⟩
theorem dS_paceFor_37 : Dc S_paceFor 37 (.aload_n 0) 1 38 := ⟨by decide +kernel, rfl⟩
theorem dS_paceFor_38 : Dc S_paceFor 38 (.getfield 12) 3 41 := ⟨by decide +kernel, rfl⟩
theorem dS_paceFor_41 : Dc S_paceFor 41 (.invokevirtual 151) 3 44 := ⟨by decide +kernel, rfl⟩
theorem dS_paceFor_44 : Dc S_paceFor 44 (.aload_n 0) 1 45 := ⟨by decide +kernel, rfl⟩
theorem dS_paceFor_45 : Dc S_paceFor 45 (.getfield 16) 3 48 := ⟨by decide +kernel, rfl⟩
theorem dS_paceFor_48 : Dc S_paceFor 48 (.iload_n 3) 1 49 := ⟨by decide +kernel, rfl⟩
theorem dS_paceFor_49 : Dc S_paceFor 49 (.putfield 78) 3 52 := ⟨by decide +kernel, rfl⟩
theorem dS_paceFor_52 : Dc S_paceFor 52 (.aload_n 0) 1 53 := ⟨by decide +kernel, rfl⟩
theorem dS_paceFor_53 : Dc S_paceFor 53 (.getfield 16) 3 56 := ⟨by decide +kernel, rfl⟩
theorem dS_paceFor_56 : Dc S_paceFor 56 (.iload_n 2) 1 57 := ⟨by decide +kernel, rfl⟩
theorem dS_paceFor_57 : Dc S_paceFor 57 (.invokevirtual 134) 3 60 := ⟨by decide +kernel, rfl⟩
theorem dS_paceFor_60 : Dc S_paceFor 60 (.aload_n 0) 1 61 := ⟨by decide +kernel, rfl⟩
theorem dS_paceFor_61 : Dc S_paceFor 61 (.getfield 16) 3 64 := ⟨by decide +kernel, rfl⟩
theorem dS_paceFor_64 : Dc S_paceFor 64 (.aload_n 0) 1 65 := ⟨by decide +kernel, rfl⟩
theorem dS_paceFor_65 : Dc S_paceFor 65 (.getfield 16) 3 68 := ⟨by decide +kernel, rfl⟩
theorem dS_paceFor_68 : Dc S_paceFor 68 (.getfield 118) 3 71 := ⟨by decide +kernel, rfl⟩
theorem dS_paceFor_71 : Dc S_paceFor 71 (.invokevirtual 137) 3 74 := ⟨by decide +kernel, rfl⟩
theorem dS_paceFor_74 : Dc S_paceFor 74 (.iload_n 1) 1 75 := ⟨by decide +kernel, rfl⟩
theorem dS_paceFor_75 : Dc S_paceFor 75 (.if_icmp .gt 5) 3 78 := ⟨by decide +kernel, rfl⟩
theorem dS_paceFor_78 : Dc S_paceFor 78 (.iload_n 3) 1 79 := ⟨by decide +kernel, rfl⟩
theorem dS_paceFor_79 : Dc S_paceFor 79 (.ireturn) 1 80 := ⟨by decide +kernel, rfl⟩
theorem dS_paceFor_80 : Dc S_paceFor 80 (.iinc 3 (-1)) 3 83 := ⟨by decide +kernel, rfl⟩
theorem dS_paceFor_83 : Dc S_paceFor 83 (.goto (-54)) 3 86 := ⟨by decide +kernel, rfl⟩
theorem dS_paceFor_86 : Dc S_paceFor 86 (.aload_n 0) 1 87 := ⟨by decide +kernel, rfl⟩
theorem dS_paceFor_87 : Dc S_paceFor 87 (.iconst 3) 1 88 := ⟨by decide +kernel, rfl⟩
theorem dS_paceFor_88 : Dc S_paceFor 88 (.invokevirtual 61) 3 91 := ⟨by decide +kernel, rfl⟩
theorem dS_paceFor_91 : Dc S_paceFor 91 (.ireturn) 1 92 := ⟨by decide +kernel, rfl⟩
theorem dS_tether_0 : Dc S_tether 0 (.iload_n 1) 1 1 := ⟨by decide +kernel, rfl⟩
theorem dS_tether_1 : Dc S_tether 1 (.iconst 0) 1 2 := ⟨by decide +kernel, rfl⟩
theorem dS_tether_2 : Dc S_tether 2 (.bipush 20) 2 4 := ⟨by decide +kernel, rfl⟩
theorem dS_tether_4 : Dc S_tether 4 (.invokestatic 81) 3 7 := ⟨by decide +kernel, rfl⟩
theorem dS_tether_7 : Dc S_tether 7 (.ifCond .ne 9) 3 10 := ⟨by decide +kernel, rfl⟩
theorem dS_tether_10 : Dc S_tether 10 (.aload_n 0) 1 11 := ⟨by decide +kernel, rfl⟩
theorem dS_tether_11 : Dc S_tether 11 (.iconst 0) 1 12 := ⟨by decide +kernel, rfl⟩
theorem dS_tether_12 : Dc S_tether 12 (.invokevirtual 61) 3 15 := ⟨by decide +kernel, rfl⟩
theorem dS_tether_15 : Dc S_tether 15 (.ireturn) 1 16 := ⟨by decide +kernel, rfl⟩
theorem dS_tether_16 : Dc S_tether 16 (.iconst 0) 1 17 := ⟨by decide +kernel, rfl⟩
theorem dS_tether_17 : Dc S_tether 17 (.istore_n 2) 1 18 := ⟨by decide +kernel, rfl⟩
theorem dS_tether_18 : Dc S_tether 18 (.bipush 9) 2 20 := ⟨by decide +kernel, rfl⟩
theorem dS_tether_20 : Dc S_tether 20 (.istore_n 3) 1 21 := ⟨by decide +kernel, rfl⟩
theorem dS_tether_21 : Dc S_tether 21 (.iconst 1) 1 22 := ⟨by decide +kernel, rfl⟩
theorem dS_tether_22 : Dc S_tether 22 (.aload_n 0) 1 23 := ⟨by decide +kernel, rfl⟩
theorem dS_tether_23 : Dc S_tether 23 (.getfield 12) 3 26 := ⟨by decide +kernel, rfl⟩
theorem dS_tether_26 : Dc S_tether 26 (.getfield 165) 3 29 := ⟨by decide +kernel, rfl⟩
theorem dS_tether_29 : Dc S_tether 29 (.ishl) 1 30 := ⟨by decide +kernel, rfl⟩
theorem dS_tether_30 : Dc S_tether 30 (.istore 4) 2 32 := ⟨by decide +kernel, rfl⟩
theorem dS_tether_32 : Dc S_tether 32 (.iconst 0) 1 33 := ⟨by decide +kernel, rfl⟩
theorem dS_tether_33 : Dc S_tether 33 (.istore 5) 2 35 := ⟨by decide +kernel, rfl⟩
theorem dS_tether_35 : Dc S_tether 35 (.iload 5) 2 37 := ⟨by decide +kernel, rfl⟩
theorem dS_tether_37 : Dc S_tether 37 (.iload 4) 2 39 := ⟨by decide +kernel, rfl⟩
theorem dS_tether_39 : Dc S_tether 39 (.if_icmp .ge 37) 3 42 := ⟨by decide +kernel, rfl⟩
theorem dS_tether_42 : Dc S_tether 42 (.iload 5) 2 44 := ⟨by decide +kernel, rfl⟩
theorem dS_tether_44 : Dc S_tether 44 (.invokestatic 168) 3 47 := ⟨by decide +kernel, rfl⟩
theorem dS_tether_47 : Dc S_tether 47 (.iload_n 3) 1 48 := ⟨by decide +kernel, rfl⟩
theorem dS_tether_48 : Dc S_tether 48 (.if_icmp .ge 22) 3 51 := ⟨by decide +kernel, rfl⟩
theorem dS_tether_51 : Dc S_tether 51 (.aload_n 0) 1 52 := ⟨by decide +kernel, rfl⟩
theorem dS_tether_52 : Dc S_tether 52 (.iload 5) 2 54 := ⟨by decide +kernel, rfl⟩
theorem dS_tether_54 : Dc S_tether 54 (.iload_n 1) 1 55 := ⟨by decide +kernel, rfl⟩
theorem dS_tether_55 : Dc S_tether 55 (.invokevirtual 171) 3 58 := ⟨by decide +kernel, rfl⟩
theorem dS_tether_58 : Dc S_tether 58 (.ifCond .eq 12) 3 61 := ⟨by decide +kernel, rfl⟩
theorem dS_tether_61 : Dc S_tether 61 (.iload 5) 2 63 := ⟨by decide +kernel, rfl⟩
theorem dS_tether_63 : Dc S_tether 63 (.invokestatic 168) 3 66 := ⟨by decide +kernel, rfl⟩
theorem dS_tether_66 : Dc S_tether 66 (.istore_n 3) 1 67 := ⟨by decide +kernel, rfl⟩
theorem dS_tether_67 : Dc S_tether 67 (.iload 5) 2 69 := ⟨by decide +kernel, rfl⟩
theorem dS_tether_69 : Dc S_tether 69 (.istore_n 2) 1 70 := ⟨by decide +kernel, rfl⟩
theorem dS_tether_70 : Dc S_tether 70 (.iinc 5 1) 3 73 := ⟨by decide +kernel, rfl⟩
theorem dS_tether_73 : Dc S_tether 73 (.goto (-38)) 3 76 := ⟨by decide +kernel, rfl⟩
theorem dS_tether_76 : Dc S_tether 76 (.iload_n 3) 1 77 := ⟨by decide +kernel, rfl⟩
theorem dS_tether_77 : Dc S_tether 77 (.bipush 8) 2 79 := ⟨by decide +kernel, rfl⟩
theorem dS_tether_79 : Dc S_tether 79 (.if_icmp .gt 7) 3 82 := ⟨by decide +kernel, rfl⟩
theorem dS_tether_82 : Dc S_tether 82 (.iload_n 2) 1 83 := ⟨by decide +kernel, rfl⟩
theorem dS_tether_83 : Dc S_tether 83 (.goto 8) 3 86 := ⟨by decide +kernel, rfl⟩
theorem dS_tether_86 : Dc S_tether 86 (.aload_n 0) 1 87 := ⟨by decide +kernel, rfl⟩
theorem dS_tether_87 : Dc S_tether 87 (.iconst 3) 1 88 := ⟨by decide +kernel, rfl⟩
theorem dS_tether_88 : Dc S_tether 88 (.invokevirtual 61) 3 91 := ⟨by decide +kernel, rfl⟩
theorem dS_tether_91 : Dc S_tether 91 (.ireturn) 1 92 := ⟨by decide +kernel, rfl⟩
theorem dJI_bitCount_0 : Dc JI_bitCount 0 (.iload_n 0) 1 1 := ⟨by decide +kernel, rfl⟩
theorem dJI_bitCount_1 : Dc JI_bitCount 1 (.iload_n 0) 1 2 := ⟨by decide +kernel, rfl⟩
theorem dJI_bitCount_2 : Dc JI_bitCount 2 (.iconst 1) 1 3 := ⟨by decide +kernel, rfl⟩
theorem dJI_bitCount_3 : Dc JI_bitCount 3 (.iushr) 1 4 := ⟨by decide +kernel, rfl⟩
theorem dJI_bitCount_4 : Dc JI_bitCount 4 (.ldc_w 265) 3 7 := ⟨by decide +kernel, rfl⟩
theorem dJI_bitCount_7 : Dc JI_bitCount 7 (.iand) 1 8 := ⟨by decide +kernel, rfl⟩
theorem dJI_bitCount_8 : Dc JI_bitCount 8 (.isub) 1 9 := ⟨by decide +kernel, rfl⟩
theorem dJI_bitCount_9 : Dc JI_bitCount 9 (.istore_n 0) 1 10 := ⟨by decide +kernel, rfl⟩
theorem dJI_bitCount_10 : Dc JI_bitCount 10 (.iload_n 0) 1 11 := ⟨by decide +kernel, rfl⟩
theorem dJI_bitCount_11 : Dc JI_bitCount 11 (.ldc_w 266) 3 14 := ⟨by decide +kernel, rfl⟩
theorem dJI_bitCount_14 : Dc JI_bitCount 14 (.iand) 1 15 := ⟨by decide +kernel, rfl⟩
theorem dJI_bitCount_15 : Dc JI_bitCount 15 (.iload_n 0) 1 16 := ⟨by decide +kernel, rfl⟩
theorem dJI_bitCount_16 : Dc JI_bitCount 16 (.iconst 2) 1 17 := ⟨by decide +kernel, rfl⟩
theorem dJI_bitCount_17 : Dc JI_bitCount 17 (.iushr) 1 18 := ⟨by decide +kernel, rfl⟩
theorem dJI_bitCount_18 : Dc JI_bitCount 18 (.ldc_w 266) 3 21 := ⟨by decide +kernel, rfl⟩
theorem dJI_bitCount_21 : Dc JI_bitCount 21 (.iand) 1 22 := ⟨by decide +kernel, rfl⟩
theorem dJI_bitCount_22 : Dc JI_bitCount 22 (.iadd) 1 23 := ⟨by decide +kernel, rfl⟩
theorem dJI_bitCount_23 : Dc JI_bitCount 23 (.istore_n 0) 1 24 := ⟨by decide +kernel, rfl⟩
theorem dJI_bitCount_24 : Dc JI_bitCount 24 (.iload_n 0) 1 25 := ⟨by decide +kernel, rfl⟩
theorem dJI_bitCount_25 : Dc JI_bitCount 25 (.iload_n 0) 1 26 := ⟨by decide +kernel, rfl⟩
theorem dJI_bitCount_26 : Dc JI_bitCount 26 (.iconst 4) 1 27 := ⟨by decide +kernel, rfl⟩
theorem dJI_bitCount_27 : Dc JI_bitCount 27 (.iushr) 1 28 := ⟨by decide +kernel, rfl⟩
theorem dJI_bitCount_28 : Dc JI_bitCount 28 (.iadd) 1 29 := ⟨by decide +kernel, rfl⟩
theorem dJI_bitCount_29 : Dc JI_bitCount 29 (.ldc_w 267) 3 32 := ⟨by decide +kernel, rfl⟩
theorem dJI_bitCount_32 : Dc JI_bitCount 32 (.iand) 1 33 := ⟨by decide +kernel, rfl⟩
theorem dJI_bitCount_33 : Dc JI_bitCount 33 (.istore_n 0) 1 34 := ⟨by decide +kernel, rfl⟩
theorem dJI_bitCount_34 : Dc JI_bitCount 34 (.iload_n 0) 1 35 := ⟨by decide +kernel, rfl⟩
theorem dJI_bitCount_35 : Dc JI_bitCount 35 (.iload_n 0) 1 36 := ⟨by decide +kernel, rfl⟩
theorem dJI_bitCount_36 : Dc JI_bitCount 36 (.bipush 8) 2 38 := ⟨by decide +kernel, rfl⟩
theorem dJI_bitCount_38 : Dc JI_bitCount 38 (.iushr) 1 39 := ⟨by decide +kernel, rfl⟩
theorem dJI_bitCount_39 : Dc JI_bitCount 39 (.iadd) 1 40 := ⟨by decide +kernel, rfl⟩
theorem dJI_bitCount_40 : Dc JI_bitCount 40 (.istore_n 0) 1 41 := ⟨by decide +kernel, rfl⟩
theorem dJI_bitCount_41 : Dc JI_bitCount 41 (.iload_n 0) 1 42 := ⟨by decide +kernel, rfl⟩
theorem dJI_bitCount_42 : Dc JI_bitCount 42 (.iload_n 0) 1 43 := ⟨by decide +kernel, rfl⟩
theorem dJI_bitCount_43 : Dc JI_bitCount 43 (.bipush 16) 2 45 := ⟨by decide +kernel, rfl⟩
theorem dJI_bitCount_45 : Dc JI_bitCount 45 (.iushr) 1 46 := ⟨by decide +kernel, rfl⟩
theorem dJI_bitCount_46 : Dc JI_bitCount 46 (.iadd) 1 47 := ⟨by decide +kernel, rfl⟩
theorem dJI_bitCount_47 : Dc JI_bitCount 47 (.istore_n 0) 1 48 := ⟨by decide +kernel, rfl⟩
theorem dJI_bitCount_48 : Dc JI_bitCount 48 (.iload_n 0) 1 49 := ⟨by decide +kernel, rfl⟩
theorem dJI_bitCount_49 : Dc JI_bitCount 49 (.bipush 63) 2 51 := ⟨by decide +kernel, rfl⟩
theorem dJI_bitCount_51 : Dc JI_bitCount 51 (.iand) 1 52 := ⟨by decide +kernel, rfl⟩
theorem dJI_bitCount_52 : Dc JI_bitCount 52 (.ireturn) 1 53 := ⟨by decide +kernel, rfl⟩
theorem dS_keepsNear_0 : Dc S_keepsNear 0 (.aload_n 0) 1 1 := ⟨by decide +kernel, rfl⟩
theorem dS_keepsNear_1 : Dc S_keepsNear 1 (.getfield 16) 3 4 := ⟨by decide +kernel, rfl⟩
theorem dS_keepsNear_4 : Dc S_keepsNear 4 (.aload_n 0) 1 5 := ⟨by decide +kernel, rfl⟩
theorem dS_keepsNear_5 : Dc S_keepsNear 5 (.getfield 12) 3 8 := ⟨by decide +kernel, rfl⟩
theorem dS_keepsNear_8 : Dc S_keepsNear 8 (.invokevirtual 151) 3 11 := ⟨by decide +kernel, rfl⟩
theorem dS_keepsNear_11 : Dc S_keepsNear 11 (.iconst 0) 1 12 := ⟨by decide +kernel, rfl⟩
theorem dS_keepsNear_12 : Dc S_keepsNear 12 (.istore_n 3) 1 13 := ⟨by decide +kernel, rfl⟩
theorem dS_keepsNear_13 : Dc S_keepsNear 13 (.iload_n 3) 1 14 := ⟨by decide +kernel, rfl⟩
theorem dS_keepsNear_14 : Dc S_keepsNear 14 (.iload_n 2) 1 15 := ⟨by decide +kernel, rfl⟩
theorem dS_keepsNear_15 : Dc S_keepsNear 15 (.if_icmp .ge 17) 3 18 := ⟨by decide +kernel, rfl⟩
theorem dS_keepsNear_18 : Dc S_keepsNear 18 (.aload_n 0) 1 19 := ⟨by decide +kernel, rfl⟩
theorem dS_keepsNear_19 : Dc S_keepsNear 19 (.getfield 16) 3 22 := ⟨by decide +kernel, rfl⟩
theorem dS_keepsNear_22 : Dc S_keepsNear 22 (.iload_n 1) 1 23 := ⟨by decide +kernel, rfl⟩
theorem dS_keepsNear_23 : Dc S_keepsNear 23 (.invokevirtual 244) 3 26 := ⟨by decide +kernel, rfl⟩
theorem dS_keepsNear_26 : Dc S_keepsNear 26 (.iinc 3 1) 3 29 := ⟨by decide +kernel, rfl⟩
theorem dS_keepsNear_29 : Dc S_keepsNear 29 (.goto (-16)) 3 32 := ⟨by decide +kernel, rfl⟩
theorem dS_keepsNear_32 : Dc S_keepsNear 32 (.aload_n 0) 1 33 := ⟨by decide +kernel, rfl⟩
theorem dS_keepsNear_33 : Dc S_keepsNear 33 (.getfield 16) 3 36 := ⟨by decide +kernel, rfl⟩
theorem dS_keepsNear_36 : Dc S_keepsNear 36 (.invokevirtual 141) 3 39 := ⟨by decide +kernel, rfl⟩
theorem dS_keepsNear_39 : Dc S_keepsNear 39 (.ifCond .ne 7) 3 42 := ⟨by decide +kernel, rfl⟩
theorem dS_keepsNear_42 : Dc S_keepsNear 42 (.iconst 1) 1 43 := ⟨by decide +kernel, rfl⟩
theorem dS_keepsNear_43 : Dc S_keepsNear 43 (.goto 4) 3 46 := ⟨by decide +kernel, rfl⟩
theorem dS_keepsNear_46 : Dc S_keepsNear 46 (.iconst 0) 1 47 := ⟨by decide +kernel, rfl⟩
theorem dS_keepsNear_47 : Dc S_keepsNear 47 (.ireturn) 1 48 := ⟨by decide +kernel, rfl⟩
theorem dS_fits_0 : Dc S_fits 0 (.iload_n 1) 1 1 := ⟨by decide +kernel, rfl⟩
theorem dS_fits_1 : Dc S_fits 1 (.invokestatic 174) 3 4 := ⟨by decide +kernel, rfl⟩
theorem dS_fits_4 : Dc S_fits 4 (.ifCond .ne 9) 3 7 := ⟨by decide +kernel, rfl⟩
theorem dS_fits_7 : Dc S_fits 7 (.aload_n 0) 1 8 := ⟨by decide +kernel, rfl⟩
theorem dS_fits_8 : Dc S_fits 8 (.iconst 0) 1 9 := ⟨by decide +kernel, rfl⟩
theorem dS_fits_9 : Dc S_fits 9 (.invokevirtual 61) 3 12 := ⟨by decide +kernel, rfl⟩
theorem dS_fits_12 : Dc S_fits 12 (.ireturn) 1 13 := ⟨by decide +kernel, rfl⟩
theorem dS_fits_13 : Dc S_fits 13 (.aload_n 0) 1 14 := ⟨by decide +kernel, rfl⟩
theorem dS_fits_14 : Dc S_fits 14 (.getfield 50) 3 17 := ⟨by decide +kernel, rfl⟩
theorem dS_fits_17 : Dc S_fits 17 (.iload_n 1) 1 18 := ⟨by decide +kernel, rfl⟩
theorem dS_fits_18 : Dc S_fits 18 (.aaload) 1 19 := ⟨by decide +kernel, rfl⟩
theorem dS_fits_19 : Dc S_fits 19 (.invokevirtual 177) 3 22 := ⟨by decide +kernel, rfl⟩
theorem dS_fits_22 : Dc S_fits 22 (.ifCond .eq 9) 3 25 := ⟨by decide +kernel, rfl⟩
theorem dS_fits_25 : Dc S_fits 25 (.aload_n 0) 1 26 := ⟨by decide +kernel, rfl⟩
theorem dS_fits_26 : Dc S_fits 26 (.iconst 5) 1 27 := ⟨by decide +kernel, rfl⟩
theorem dS_fits_27 : Dc S_fits 27 (.invokevirtual 61) 3 30 := ⟨by decide +kernel, rfl⟩
theorem dS_fits_30 : Dc S_fits 30 (.ireturn) 1 31 := ⟨by decide +kernel, rfl⟩
theorem dS_fits_31 : Dc S_fits 31 (.aload_n 0) 1 32 := ⟨by decide +kernel, rfl⟩
theorem dS_fits_32 : Dc S_fits 32 (.getfield 12) 3 35 := ⟨by decide +kernel, rfl⟩
theorem dS_fits_35 : Dc S_fits 35 (.iload_n 2) 1 36 := ⟨by decide +kernel, rfl⟩
theorem dS_fits_36 : Dc S_fits 36 (.invokevirtual 100) 3 39 := ⟨by decide +kernel, rfl⟩
theorem dS_fits_39 : Dc S_fits 39 (.ifCond .ne 9) 3 42 := ⟨by decide +kernel, rfl⟩
theorem dS_fits_42 : Dc S_fits 42 (.aload_n 0) 1 43 := ⟨by decide +kernel, rfl⟩
theorem dS_fits_43 : Dc S_fits 43 (.iconst 0) 1 44 := ⟨by decide +kernel, rfl⟩
theorem dS_fits_44 : Dc S_fits 44 (.invokevirtual 61) 3 47 := ⟨by decide +kernel, rfl⟩
theorem dS_fits_47 : Dc S_fits 47 (.ireturn) 1 48 := ⟨by decide +kernel, rfl⟩
theorem dS_fits_48 : Dc S_fits 48 (.iload_n 2) 1 49 := ⟨by decide +kernel, rfl⟩
theorem dS_fits_49 : Dc S_fits 49 (.aload_n 0) 1 50 := ⟨by decide +kernel, rfl⟩
theorem dS_fits_50 : Dc S_fits 50 (.getfield 12) 3 53 := ⟨by decide +kernel, rfl⟩
theorem dS_fits_53 : Dc S_fits 53 (.getfield 109) 3 56 := ⟨by decide +kernel, rfl⟩
theorem dS_fits_56 : Dc S_fits 56 (.if_icmp .ne 9) 3 59 := ⟨by decide +kernel, rfl⟩
theorem dS_fits_59 : Dc S_fits 59 (.aload_n 0) 1 60 := ⟨by decide +kernel, rfl⟩
theorem dS_fits_60 : Dc S_fits 60 (.iconst 4) 1 61 := ⟨by decide +kernel, rfl⟩
theorem dS_fits_61 : Dc S_fits 61 (.invokevirtual 61) 3 64 := ⟨by decide +kernel, rfl⟩
theorem dS_fits_64 : Dc S_fits 64 (.ireturn) 1 65 := ⟨by decide +kernel, rfl⟩
theorem dS_fits_65 : Dc S_fits 65 (.iconst 0) 1 66 := ⟨by decide +kernel, rfl⟩
theorem dS_fits_66 : Dc S_fits 66 (.istore_n 3) 1 67 := ⟨by decide +kernel, rfl⟩
theorem dS_fits_67 : Dc S_fits 67 (.iconst 0) 1 68 := ⟨by decide +kernel, rfl⟩
theorem dS_fits_68 : Dc S_fits 68 (.istore 4) 2 70 := ⟨by decide +kernel, rfl⟩
theorem dS_fits_70 : Dc S_fits 70 (.iload 4) 2 72 := ⟨by decide +kernel, rfl⟩
theorem dS_fits_72 : Dc S_fits 72 (.bipush 16) 2 74 := ⟨by decide +kernel, rfl⟩
theorem dS_fits_74 : Dc S_fits 74 (.if_icmp .ge 51) 3 77 := ⟨by decide +kernel, rfl⟩
theorem dS_fits_77 : Dc S_fits 77 (.aload_n 0) 1 78 := ⟨by decide +kernel, rfl⟩
theorem dS_fits_78 : Dc S_fits 78 (.getfield 16) 3 81 := ⟨by decide +kernel, rfl⟩
theorem dS_fits_81 : Dc S_fits 81 (.aload_n 0) 1 82 := ⟨by decide +kernel, rfl⟩
theorem dS_fits_82 : Dc S_fits 82 (.getfield 12) 3 85 := ⟨by decide +kernel, rfl⟩
theorem dS_fits_85 : Dc S_fits 85 (.invokevirtual 151) 3 88 := ⟨by decide +kernel, rfl⟩
theorem dS_fits_88 : Dc S_fits 88 (.aload_n 0) 1 89 := ⟨by decide +kernel, rfl⟩
theorem dS_fits_89 : Dc S_fits 89 (.getfield 16) 3 92 := ⟨by decide +kernel, rfl⟩
theorem dS_fits_92 : Dc S_fits 92 (.getfield 115) 3 95 := ⟨by decide +kernel, rfl⟩
theorem dS_fits_95 : Dc S_fits 95 (.iload_n 2) 1 96 := ⟨by decide +kernel, rfl⟩
theorem dS_fits_96 : Dc S_fits 96 (.iload 4) 2 98 := ⟨by decide +kernel, rfl⟩
theorem dS_fits_98 : Dc S_fits 98 (.iastore) 1 99 := ⟨by decide +kernel, rfl⟩
theorem dS_fits_99 : Dc S_fits 99 (.aload_n 0) 1 100 := ⟨by decide +kernel, rfl⟩
theorem dS_fits_100 : Dc S_fits 100 (.aload_n 0) 1 101 := ⟨by decide +kernel, rfl⟩
theorem dS_fits_101 : Dc S_fits 101 (.getfield 50) 3 104 := ⟨by decide +kernel, rfl⟩
theorem dS_fits_104 : Dc S_fits 104 (.iload_n 1) 1 105 := ⟨by decide +kernel, rfl⟩
theorem dS_fits_105 : Dc S_fits 105 (.aaload) 1 106 := ⟨by decide +kernel, rfl⟩
theorem dS_fits_106 : Dc S_fits 106 (.invokevirtual 180) 3 109 := ⟨by decide +kernel, rfl⟩
theorem dS_fits_109 : Dc S_fits 109 (.ifCond .eq 10) 3 112 := ⟨by decide +kernel, rfl⟩
theorem dS_fits_112 : Dc S_fits 112 (.iload_n 3) 1 113 := ⟨by decide +kernel, rfl⟩
theorem dS_fits_113 : Dc S_fits 113 (.iconst 1) 1 114 := ⟨by decide +kernel, rfl⟩
theorem dS_fits_114 : Dc S_fits 114 (.iload 4) 2 116 := ⟨by decide +kernel, rfl⟩
theorem dS_fits_116 : Dc S_fits 116 (.ishl) 1 117 := ⟨by decide +kernel, rfl⟩
theorem dS_fits_117 : Dc S_fits 117 (.ior) 1 118 := ⟨by decide +kernel, rfl⟩
theorem dS_fits_118 : Dc S_fits 118 (.istore_n 3) 1 119 := ⟨by decide +kernel, rfl⟩
theorem dS_fits_119 : Dc S_fits 119 (.iinc 4 1) 3 122 := ⟨by decide +kernel, rfl⟩
theorem dS_fits_122 : Dc S_fits 122 (.goto (-52)) 3 125 := ⟨by decide +kernel, rfl⟩
theorem dS_fits_125 : Dc S_fits 125 (.iload_n 3) 1 126 := ⟨by decide +kernel, rfl⟩
theorem dS_fits_126 : Dc S_fits 126 (.ireturn) 1 127 := ⟨by decide +kernel, rfl⟩
theorem dS_isSheet_0 : Dc S_isSheet 0 (.iload_n 0) 1 1 := ⟨by decide +kernel, rfl⟩
theorem dS_isSheet_1 : Dc S_isSheet 1 (.iconst 0) 1 2 := ⟨by decide +kernel, rfl⟩
theorem dS_isSheet_2 : Dc S_isSheet 2 (.iconst 3) 1 3 := ⟨by decide +kernel, rfl⟩
theorem dS_isSheet_3 : Dc S_isSheet 3 (.invokestatic 81) 3 6 := ⟨by decide +kernel, rfl⟩
theorem dS_isSheet_6 : Dc S_isSheet 6 (.ireturn) 1 7 := ⟨by decide +kernel, rfl⟩
theorem dE_isMissing_0 : Dc E_isMissing 0 (.aload_n 0) 1 1 := ⟨by decide +kernel, rfl⟩
theorem dE_isMissing_1 : Dc E_isMissing 1 (.getfield 9) 3 4 := ⟨by decide +kernel, rfl⟩
theorem dE_isMissing_4 : Dc E_isMissing 4 (.ifCond .ne 7) 3 7 := ⟨by decide +kernel, rfl⟩
theorem dE_isMissing_7 : Dc E_isMissing 7 (.iconst 1) 1 8 := ⟨by decide +kernel, rfl⟩
theorem dE_isMissing_8 : Dc E_isMissing 8 (.goto 4) 3 11 := ⟨by decide +kernel, rfl⟩
theorem dE_isMissing_11 : Dc E_isMissing 11 (.iconst 0) 1 12 := ⟨by decide +kernel, rfl⟩
theorem dE_isMissing_12 : Dc E_isMissing 12 (.ireturn) 1 13 := ⟨by decide +kernel, rfl⟩
theorem dS_keeperGoesAsTold_0 : Dc S_keeperGoesAsTold 0 (.iconst 0) 1 1 := ⟨by decide +kernel, rfl⟩
theorem dS_keeperGoesAsTold_1 : Dc S_keeperGoesAsTold 1 (.istore_n 2) 1 2 := ⟨by decide +kernel, rfl⟩
theorem dS_keeperGoesAsTold_2 : Dc S_keeperGoesAsTold 2 (.iload_n 2) 1 3 := ⟨by decide +kernel, rfl⟩
theorem dS_keeperGoesAsTold_3 : Dc S_keeperGoesAsTold 3 (.aload_n 1) 1 4 := ⟨by decide +kernel, rfl⟩
theorem dS_keeperGoesAsTold_4 : Dc S_keeperGoesAsTold 4 (.getfield 221) 3 7 := ⟨by decide +kernel, rfl⟩
theorem dS_keeperGoesAsTold_7 : Dc S_keeperGoesAsTold 7 (.if_icmp .ge 34) 3 10 := ⟨by decide +kernel, rfl⟩
theorem dS_keeperGoesAsTold_10 : Dc S_keeperGoesAsTold 10 (.aload_n 1) 1 11 := ⟨by decide +kernel, rfl⟩
theorem dS_keeperGoesAsTold_11 : Dc S_keeperGoesAsTold 11 (.iload_n 2) 1 12 := ⟨by decide +kernel, rfl⟩
theorem dS_keeperGoesAsTold_12 : Dc S_keeperGoesAsTold 12 (.aload_n 0) 1 13 := ⟨by decide +kernel, rfl⟩
theorem dS_keeperGoesAsTold_13 : Dc S_keeperGoesAsTold 13 (.getfield 16) 3 16 := ⟨by decide +kernel, rfl⟩
theorem dS_keeperGoesAsTold_16 : Dc S_keeperGoesAsTold 16 (.getfield 247) 3 19 := ⟨by decide +kernel, rfl⟩
theorem dS_keeperGoesAsTold_19 : Dc S_keeperGoesAsTold 19 (.invokevirtual 250) 3 22 := ⟨by decide +kernel, rfl⟩
theorem dS_keeperGoesAsTold_22 : Dc S_keeperGoesAsTold 22 (.ifCond .ne 5) 3 25 := ⟨by decide +kernel, rfl⟩
theorem dS_keeperGoesAsTold_25 : Dc S_keeperGoesAsTold 25 (.iconst 0) 1 26 := ⟨by decide +kernel, rfl⟩
theorem dS_keeperGoesAsTold_26 : Dc S_keeperGoesAsTold 26 (.ireturn) 1 27 := ⟨by decide +kernel, rfl⟩
theorem dS_keeperGoesAsTold_27 : Dc S_keeperGoesAsTold 27 (.aload_n 0) 1 28 := ⟨by decide +kernel, rfl⟩
theorem dS_keeperGoesAsTold_28 : Dc S_keeperGoesAsTold 28 (.getfield 16) 3 31 := ⟨by decide +kernel, rfl⟩
theorem dS_keeperGoesAsTold_31 : Dc S_keeperGoesAsTold 31 (.iconst 1) 1 32 := ⟨by decide +kernel, rfl⟩
theorem dS_keeperGoesAsTold_32 : Dc S_keeperGoesAsTold 32 (.invokevirtual 134) 3 35 := ⟨by decide +kernel, rfl⟩
theorem dS_keeperGoesAsTold_35 : Dc S_keeperGoesAsTold 35 (.iinc 2 1) 3 38 := ⟨by decide +kernel, rfl⟩
theorem dS_keeperGoesAsTold_38 : Dc S_keeperGoesAsTold 38 (.goto (-36)) 3 41 := ⟨by decide +kernel, rfl⟩
theorem dS_keeperGoesAsTold_41 : Dc S_keeperGoesAsTold 41 (.iconst 1) 1 42 := ⟨by decide +kernel, rfl⟩
theorem dS_keeperGoesAsTold_42 : Dc S_keeperGoesAsTold 42 (.ireturn) 1 43 := ⟨by decide +kernel, rfl⟩
theorem dE_allows_0 : Dc E_allows 0 (.aload_n 0) 1 1 := ⟨by decide +kernel, rfl⟩
theorem dE_allows_1 : Dc E_allows 1 (.getfield 18) 3 4 := ⟨by decide +kernel, rfl⟩
theorem dE_allows_4 : Dc E_allows 4 (.iload_n 1) 1 5 := ⟨by decide +kernel, rfl⟩
theorem dE_allows_5 : Dc E_allows 5 (.iaload) 1 6 := ⟨by decide +kernel, rfl⟩
theorem dE_allows_6 : Dc E_allows 6 (.iconst (-1)) 1 7 := ⟨by decide +kernel, rfl⟩
theorem dE_allows_7 : Dc E_allows 7 (.if_icmp .eq 13) 3 10 := ⟨by decide +kernel, rfl⟩
theorem dE_allows_10 : Dc E_allows 10 (.aload_n 0) 1 11 := ⟨by decide +kernel, rfl⟩
theorem dE_allows_11 : Dc E_allows 11 (.getfield 18) 3 14 := ⟨by decide +kernel, rfl⟩
theorem dE_allows_14 : Dc E_allows 14 (.iload_n 1) 1 15 := ⟨by decide +kernel, rfl⟩
theorem dE_allows_15 : Dc E_allows 15 (.iaload) 1 16 := ⟨by decide +kernel, rfl⟩
theorem dE_allows_16 : Dc E_allows 16 (.iload_n 2) 1 17 := ⟨by decide +kernel, rfl⟩
theorem dE_allows_17 : Dc E_allows 17 (.if_icmp .ne 7) 3 20 := ⟨by decide +kernel, rfl⟩
theorem dE_allows_20 : Dc E_allows 20 (.iconst 1) 1 21 := ⟨by decide +kernel, rfl⟩
theorem dE_allows_21 : Dc E_allows 21 (.goto 4) 3 24 := ⟨by decide +kernel, rfl⟩
theorem dE_allows_24 : Dc E_allows 24 (.iconst 0) 1 25 := ⟨by decide +kernel, rfl⟩
theorem dE_allows_25 : Dc E_allows 25 (.ireturn) 1 26 := ⟨by decide +kernel, rfl⟩
theorem dS_kinds_0 : Dc S_kinds 0 (.iload_n 1) 1 1 := ⟨by decide +kernel, rfl⟩
theorem dS_kinds_1 : Dc S_kinds 1 (.invokestatic 174) 3 4 := ⟨by decide +kernel, rfl⟩
theorem dS_kinds_4 : Dc S_kinds 4 (.ifCond .ne 9) 3 7 := ⟨by decide +kernel, rfl⟩
theorem dS_kinds_7 : Dc S_kinds 7 (.aload_n 0) 1 8 := ⟨by decide +kernel, rfl⟩
theorem dS_kinds_8 : Dc S_kinds 8 (.iconst 0) 1 9 := ⟨by decide +kernel, rfl⟩
theorem dS_kinds_9 : Dc S_kinds 9 (.invokevirtual 61) 3 12 := ⟨by decide +kernel, rfl⟩
theorem dS_kinds_12 : Dc S_kinds 12 (.ireturn) 1 13 := ⟨by decide +kernel, rfl⟩
theorem dS_kinds_13 : Dc S_kinds 13 (.aload_n 0) 1 14 := ⟨by decide +kernel, rfl⟩
theorem dS_kinds_14 : Dc S_kinds 14 (.getfield 50) 3 17 := ⟨by decide +kernel, rfl⟩
theorem dS_kinds_17 : Dc S_kinds 17 (.iload_n 1) 1 18 := ⟨by decide +kernel, rfl⟩
theorem dS_kinds_18 : Dc S_kinds 18 (.aaload) 1 19 := ⟨by decide +kernel, rfl⟩
theorem dS_kinds_19 : Dc S_kinds 19 (.invokevirtual 177) 3 22 := ⟨by decide +kernel, rfl⟩
theorem dS_kinds_22 : Dc S_kinds 22 (.ifCond .eq 9) 3 25 := ⟨by decide +kernel, rfl⟩
theorem dS_kinds_25 : Dc S_kinds 25 (.aload_n 0) 1 26 := ⟨by decide +kernel, rfl⟩
theorem dS_kinds_26 : Dc S_kinds 26 (.iconst 5) 1 27 := ⟨by decide +kernel, rfl⟩
theorem dS_kinds_27 : Dc S_kinds 27 (.invokevirtual 61) 3 30 := ⟨by decide +kernel, rfl⟩
theorem dS_kinds_30 : Dc S_kinds 30 (.ireturn) 1 31 := ⟨by decide +kernel, rfl⟩
theorem dS_kinds_31 : Dc S_kinds 31 (.aload_n 0) 1 32 := ⟨by decide +kernel, rfl⟩
theorem dS_kinds_32 : Dc S_kinds 32 (.getfield 12) 3 35 := ⟨by decide +kernel, rfl⟩
theorem dS_kinds_35 : Dc S_kinds 35 (.iload_n 2) 1 36 := ⟨by decide +kernel, rfl⟩
theorem dS_kinds_36 : Dc S_kinds 36 (.invokevirtual 100) 3 39 := ⟨by decide +kernel, rfl⟩
theorem dS_kinds_39 : Dc S_kinds 39 (.ifCond .ne 9) 3 42 := ⟨by decide +kernel, rfl⟩
theorem dS_kinds_42 : Dc S_kinds 42 (.aload_n 0) 1 43 := ⟨by decide +kernel, rfl⟩
theorem dS_kinds_43 : Dc S_kinds 43 (.iconst 0) 1 44 := ⟨by decide +kernel, rfl⟩
theorem dS_kinds_44 : Dc S_kinds 44 (.invokevirtual 61) 3 47 := ⟨by decide +kernel, rfl⟩
theorem dS_kinds_47 : Dc S_kinds 47 (.ireturn) 1 48 := ⟨by decide +kernel, rfl⟩
theorem dS_kinds_48 : Dc S_kinds 48 (.iconst 0) 1 49 := ⟨by decide +kernel, rfl⟩
theorem dS_kinds_49 : Dc S_kinds 49 (.istore_n 3) 1 50 := ⟨by decide +kernel, rfl⟩
theorem dS_kinds_50 : Dc S_kinds 50 (.iconst 0) 1 51 := ⟨by decide +kernel, rfl⟩
theorem dS_kinds_51 : Dc S_kinds 51 (.istore 4) 2 53 := ⟨by decide +kernel, rfl⟩
theorem dS_kinds_53 : Dc S_kinds 53 (.iload 4) 2 55 := ⟨by decide +kernel, rfl⟩
theorem dS_kinds_55 : Dc S_kinds 55 (.bipush 7) 2 57 := ⟨by decide +kernel, rfl⟩
theorem dS_kinds_57 : Dc S_kinds 57 (.if_icmp .ge 52) 3 60 := ⟨by decide +kernel, rfl⟩
theorem dS_kinds_60 : Dc S_kinds 60 (.aload_n 0) 1 61 := ⟨by decide +kernel, rfl⟩
theorem dS_kinds_61 : Dc S_kinds 61 (.getfield 16) 3 64 := ⟨by decide +kernel, rfl⟩
theorem dS_kinds_64 : Dc S_kinds 64 (.aload_n 0) 1 65 := ⟨by decide +kernel, rfl⟩
theorem dS_kinds_65 : Dc S_kinds 65 (.getfield 12) 3 68 := ⟨by decide +kernel, rfl⟩
theorem dS_kinds_68 : Dc S_kinds 68 (.invokevirtual 151) 3 71 := ⟨by decide +kernel, rfl⟩
theorem dS_kinds_71 : Dc S_kinds 71 (.aload_n 0) 1 72 := ⟨by decide +kernel, rfl⟩
theorem dS_kinds_72 : Dc S_kinds 72 (.getfield 16) 3 75 := ⟨by decide +kernel, rfl⟩
theorem dS_kinds_75 : Dc S_kinds 75 (.getfield 112) 3 78 := ⟨by decide +kernel, rfl⟩
theorem dS_kinds_78 : Dc S_kinds 78 (.iload_n 2) 1 79 := ⟨by decide +kernel, rfl⟩
theorem dS_kinds_79 : Dc S_kinds 79 (.iload 4) 2 81 := ⟨by decide +kernel, rfl⟩
theorem dS_kinds_81 : Dc S_kinds 81 (.iastore) 1 82 := ⟨by decide +kernel, rfl⟩
theorem dS_kinds_82 : Dc S_kinds 82 (.aload_n 0) 1 83 := ⟨by decide +kernel, rfl⟩
theorem dS_kinds_83 : Dc S_kinds 83 (.aload_n 0) 1 84 := ⟨by decide +kernel, rfl⟩
theorem dS_kinds_84 : Dc S_kinds 84 (.getfield 50) 3 87 := ⟨by decide +kernel, rfl⟩
theorem dS_kinds_87 : Dc S_kinds 87 (.iload_n 1) 1 88 := ⟨by decide +kernel, rfl⟩
theorem dS_kinds_88 : Dc S_kinds 88 (.aaload) 1 89 := ⟨by decide +kernel, rfl⟩
theorem dS_kinds_89 : Dc S_kinds 89 (.iload_n 2) 1 90 := ⟨by decide +kernel, rfl⟩
theorem dS_kinds_90 : Dc S_kinds 90 (.invokevirtual 184) 3 93 := ⟨by decide +kernel, rfl⟩
theorem dS_kinds_93 : Dc S_kinds 93 (.ifCond .eq 10) 3 96 := ⟨by decide +kernel, rfl⟩
theorem dS_kinds_96 : Dc S_kinds 96 (.iload_n 3) 1 97 := ⟨by decide +kernel, rfl⟩
theorem dS_kinds_97 : Dc S_kinds 97 (.iconst 1) 1 98 := ⟨by decide +kernel, rfl⟩
theorem dS_kinds_98 : Dc S_kinds 98 (.iload 4) 2 100 := ⟨by decide +kernel, rfl⟩
theorem dS_kinds_100 : Dc S_kinds 100 (.ishl) 1 101 := ⟨by decide +kernel, rfl⟩
theorem dS_kinds_101 : Dc S_kinds 101 (.ior) 1 102 := ⟨by decide +kernel, rfl⟩
theorem dS_kinds_102 : Dc S_kinds 102 (.istore_n 3) 1 103 := ⟨by decide +kernel, rfl⟩
theorem dS_kinds_103 : Dc S_kinds 103 (.iinc 4 1) 3 106 := ⟨by decide +kernel, rfl⟩
theorem dS_kinds_106 : Dc S_kinds 106 (.goto (-53)) 3 109 := ⟨by decide +kernel, rfl⟩
theorem dS_kinds_109 : Dc S_kinds 109 (.iload_n 3) 1 110 := ⟨by decide +kernel, rfl⟩
theorem dS_kinds_110 : Dc S_kinds 110 (.ireturn) 1 111 := ⟨by decide +kernel, rfl⟩
theorem dS_sheepGoesAsTold_0 : Dc S_sheepGoesAsTold 0 (.iconst 0) 1 1 := ⟨by decide +kernel, rfl⟩
theorem dS_sheepGoesAsTold_1 : Dc S_sheepGoesAsTold 1 (.istore_n 3) 1 2 := ⟨by decide +kernel, rfl⟩
theorem dS_sheepGoesAsTold_2 : Dc S_sheepGoesAsTold 2 (.iload_n 3) 1 3 := ⟨by decide +kernel, rfl⟩
theorem dS_sheepGoesAsTold_3 : Dc S_sheepGoesAsTold 3 (.aload_n 1) 1 4 := ⟨by decide +kernel, rfl⟩
theorem dS_sheepGoesAsTold_4 : Dc S_sheepGoesAsTold 4 (.getfield 221) 3 7 := ⟨by decide +kernel, rfl⟩
theorem dS_sheepGoesAsTold_7 : Dc S_sheepGoesAsTold 7 (.if_icmp .ge 36) 3 10 := ⟨by decide +kernel, rfl⟩
theorem dS_sheepGoesAsTold_10 : Dc S_sheepGoesAsTold 10 (.aload_n 1) 1 11 := ⟨by decide +kernel, rfl⟩
theorem dS_sheepGoesAsTold_11 : Dc S_sheepGoesAsTold 11 (.iload_n 3) 1 12 := ⟨by decide +kernel, rfl⟩
theorem dS_sheepGoesAsTold_12 : Dc S_sheepGoesAsTold 12 (.aload_n 0) 1 13 := ⟨by decide +kernel, rfl⟩
theorem dS_sheepGoesAsTold_13 : Dc S_sheepGoesAsTold 13 (.getfield 16) 3 16 := ⟨by decide +kernel, rfl⟩
theorem dS_sheepGoesAsTold_16 : Dc S_sheepGoesAsTold 16 (.getfield 115) 3 19 := ⟨by decide +kernel, rfl⟩
theorem dS_sheepGoesAsTold_19 : Dc S_sheepGoesAsTold 19 (.iload_n 2) 1 20 := ⟨by decide +kernel, rfl⟩
theorem dS_sheepGoesAsTold_20 : Dc S_sheepGoesAsTold 20 (.iaload) 1 21 := ⟨by decide +kernel, rfl⟩
theorem dS_sheepGoesAsTold_21 : Dc S_sheepGoesAsTold 21 (.invokevirtual 250) 3 24 := ⟨by decide +kernel, rfl⟩
theorem dS_sheepGoesAsTold_24 : Dc S_sheepGoesAsTold 24 (.ifCond .ne 5) 3 27 := ⟨by decide +kernel, rfl⟩
theorem dS_sheepGoesAsTold_27 : Dc S_sheepGoesAsTold 27 (.iconst 0) 1 28 := ⟨by decide +kernel, rfl⟩
theorem dS_sheepGoesAsTold_28 : Dc S_sheepGoesAsTold 28 (.ireturn) 1 29 := ⟨by decide +kernel, rfl⟩
theorem dS_sheepGoesAsTold_29 : Dc S_sheepGoesAsTold 29 (.aload_n 0) 1 30 := ⟨by decide +kernel, rfl⟩
theorem dS_sheepGoesAsTold_30 : Dc S_sheepGoesAsTold 30 (.getfield 16) 3 33 := ⟨by decide +kernel, rfl⟩
theorem dS_sheepGoesAsTold_33 : Dc S_sheepGoesAsTold 33 (.iconst 1) 1 34 := ⟨by decide +kernel, rfl⟩
theorem dS_sheepGoesAsTold_34 : Dc S_sheepGoesAsTold 34 (.invokevirtual 134) 3 37 := ⟨by decide +kernel, rfl⟩
theorem dS_sheepGoesAsTold_37 : Dc S_sheepGoesAsTold 37 (.iinc 3 1) 3 40 := ⟨by decide +kernel, rfl⟩
theorem dS_sheepGoesAsTold_40 : Dc S_sheepGoesAsTold 40 (.goto (-38)) 3 43 := ⟨by decide +kernel, rfl⟩
theorem dS_sheepGoesAsTold_43 : Dc S_sheepGoesAsTold 43 (.iconst 1) 1 44 := ⟨by decide +kernel, rfl⟩
theorem dS_sheepGoesAsTold_44 : Dc S_sheepGoesAsTold 44 (.ireturn) 1 45 := ⟨by decide +kernel, rfl⟩
theorem dS_nights_0 : Dc S_nights 0 (.iload_n 1) 1 1 := ⟨by decide +kernel, rfl⟩
theorem dS_nights_1 : Dc S_nights 1 (.iconst 1) 1 2 := ⟨by decide +kernel, rfl⟩
theorem dS_nights_2 : Dc S_nights 2 (.bipush 20) 2 4 := ⟨by decide +kernel, rfl⟩
theorem dS_nights_4 : Dc S_nights 4 (.invokestatic 81) 3 7 := ⟨by decide +kernel, rfl⟩
theorem dS_nights_7 : Dc S_nights 7 (.ifCond .ne 9) 3 10 := ⟨by decide +kernel, rfl⟩
theorem dS_nights_10 : Dc S_nights 10 (.aload_n 0) 1 11 := ⟨by decide +kernel, rfl⟩
theorem dS_nights_11 : Dc S_nights 11 (.iconst 0) 1 12 := ⟨by decide +kernel, rfl⟩
theorem dS_nights_12 : Dc S_nights 12 (.invokevirtual 61) 3 15 := ⟨by decide +kernel, rfl⟩
theorem dS_nights_15 : Dc S_nights 15 (.ireturn) 1 16 := ⟨by decide +kernel, rfl⟩
theorem dS_nights_16 : Dc S_nights 16 (.aload_n 0) 1 17 := ⟨by decide +kernel, rfl⟩
theorem dS_nights_17 : Dc S_nights 17 (.getfield 12) 3 20 := ⟨by decide +kernel, rfl⟩
theorem dS_nights_20 : Dc S_nights 20 (.getfield 130) 3 23 := ⟨by decide +kernel, rfl⟩
theorem dS_nights_23 : Dc S_nights 23 (.ldc 133) 2 25 := ⟨by decide +kernel, rfl⟩
theorem dS_nights_25 : Dc S_nights 25 (.iload_n 1) 1 26 := ⟨by decide +kernel, rfl⟩
theorem dS_nights_26 : Dc S_nights 26 (.isub) 1 27 := ⟨by decide +kernel, rfl⟩
theorem dS_nights_27 : Dc S_nights 27 (.if_icmp .le 9) 3 30 := ⟨by decide +kernel, rfl⟩
theorem dS_nights_30 : Dc S_nights 30 (.aload_n 0) 1 31 := ⟨by decide +kernel, rfl⟩
theorem dS_nights_31 : Dc S_nights 31 (.iconst 4) 1 32 := ⟨by decide +kernel, rfl⟩
theorem dS_nights_32 : Dc S_nights 32 (.invokevirtual 61) 3 35 := ⟨by decide +kernel, rfl⟩
theorem dS_nights_35 : Dc S_nights 35 (.ireturn) 1 36 := ⟨by decide +kernel, rfl⟩
theorem dS_nights_36 : Dc S_nights 36 (.iconst 0) 1 37 := ⟨by decide +kernel, rfl⟩
theorem dS_nights_37 : Dc S_nights 37 (.istore_n 2) 1 38 := ⟨by decide +kernel, rfl⟩
theorem dS_nights_38 : Dc S_nights 38 (.iload_n 2) 1 39 := ⟨by decide +kernel, rfl⟩
theorem dS_nights_39 : Dc S_nights 39 (.iload_n 1) 1 40 := ⟨by decide +kernel, rfl⟩
theorem dS_nights_40 : Dc S_nights 40 (.if_icmp .ge 45) 3 43 := ⟨by decide +kernel, rfl⟩
theorem dS_nights_43 : Dc S_nights 43 (.aload_n 0) 1 44 := ⟨by decide +kernel, rfl⟩
theorem dS_nights_44 : Dc S_nights 44 (.getfield 12) 3 47 := ⟨by decide +kernel, rfl⟩
theorem dS_nights_47 : Dc S_nights 47 (.aload_n 0) 1 48 := ⟨by decide +kernel, rfl⟩
theorem dS_nights_48 : Dc S_nights 48 (.invokevirtual 188) 3 51 := ⟨by decide +kernel, rfl⟩
theorem dS_nights_51 : Dc S_nights 51 (.bipush 16) 2 53 := ⟨by decide +kernel, rfl⟩
theorem dS_nights_53 : Dc S_nights 53 (.irem) 1 54 := ⟨by decide +kernel, rfl⟩
theorem dS_nights_54 : Dc S_nights 54 (.putfield 75) 3 57 := ⟨by decide +kernel, rfl⟩
theorem dS_nights_57 : Dc S_nights 57 (.aload_n 0) 1 58 := ⟨by decide +kernel, rfl⟩
theorem dS_nights_58 : Dc S_nights 58 (.getfield 12) 3 61 := ⟨by decide +kernel, rfl⟩
theorem dS_nights_61 : Dc S_nights 61 (.aload_n 0) 1 62 := ⟨by decide +kernel, rfl⟩
theorem dS_nights_62 : Dc S_nights 62 (.invokevirtual 188) 3 65 := ⟨by decide +kernel, rfl⟩
theorem dS_nights_65 : Dc S_nights 65 (.bipush 6) 2 67 := ⟨by decide +kernel, rfl⟩
theorem dS_nights_67 : Dc S_nights 67 (.irem) 1 68 := ⟨by decide +kernel, rfl⟩
theorem dS_nights_68 : Dc S_nights 68 (.putfield 78) 3 71 := ⟨by decide +kernel, rfl⟩
theorem dS_nights_71 : Dc S_nights 71 (.aload_n 0) 1 72 := ⟨by decide +kernel, rfl⟩
theorem dS_nights_72 : Dc S_nights 72 (.getfield 12) 3 75 := ⟨by decide +kernel, rfl⟩
theorem dS_nights_75 : Dc S_nights 75 (.iconst 1) 1 76 := ⟨by decide +kernel, rfl⟩
theorem dS_nights_76 : Dc S_nights 76 (.invokevirtual 134) 3 79 := ⟨by decide +kernel, rfl⟩
theorem dS_nights_79 : Dc S_nights 79 (.iinc 2 1) 3 82 := ⟨by decide +kernel, rfl⟩
theorem dS_nights_82 : Dc S_nights 82 (.goto (-44)) 3 85 := ⟨by decide +kernel, rfl⟩
theorem dS_nights_85 : Dc S_nights 85 (.aload_n 0) 1 86 := ⟨by decide +kernel, rfl⟩
theorem dS_nights_86 : Dc S_nights 86 (.getfield 12) 3 89 := ⟨by decide +kernel, rfl⟩
theorem dS_nights_89 : Dc S_nights 89 (.aload_n 0) 1 90 := ⟨by decide +kernel, rfl⟩
theorem dS_nights_90 : Dc S_nights 90 (.getfield 12) 3 93 := ⟨by decide +kernel, rfl⟩
theorem dS_nights_93 : Dc S_nights 93 (.getfield 118) 3 96 := ⟨by decide +kernel, rfl⟩
theorem dS_nights_96 : Dc S_nights 96 (.invokevirtual 137) 3 99 := ⟨by decide +kernel, rfl⟩
theorem dS_nights_99 : Dc S_nights 99 (.ireturn) 1 100 := ⟨by decide +kernel, rfl⟩
theorem dS_draw_0 : Dc S_draw 0 (.aload_n 0) 1 1 := ⟨by decide +kernel, rfl⟩
theorem dS_draw_1 : Dc S_draw 1 (.aload_n 0) 1 2 := ⟨by decide +kernel, rfl⟩
theorem dS_draw_2 : Dc S_draw 2 (.getfield 33) 3 5 := ⟨by decide +kernel, rfl⟩
theorem dS_draw_5 : Dc S_draw 5 (.ldc 253) 2 7 := ⟨by decide +kernel, rfl⟩
theorem dS_draw_7 : Dc S_draw 7 (.imul) 1 8 := ⟨by decide +kernel, rfl⟩
theorem dS_draw_8 : Dc S_draw 8 (.sipush 12345) 3 11 := ⟨by decide +kernel, rfl⟩
theorem dS_draw_11 : Dc S_draw 11 (.iadd) 1 12 := ⟨by decide +kernel, rfl⟩
theorem dS_draw_12 : Dc S_draw 12 (.putfield 33) 3 15 := ⟨by decide +kernel, rfl⟩
theorem dS_draw_15 : Dc S_draw 15 (.aload_n 0) 1 16 := ⟨by decide +kernel, rfl⟩
theorem dS_draw_16 : Dc S_draw 16 (.getfield 33) 3 19 := ⟨by decide +kernel, rfl⟩
theorem dS_draw_19 : Dc S_draw 19 (.bipush 8) 2 21 := ⟨by decide +kernel, rfl⟩
theorem dS_draw_21 : Dc S_draw 21 (.iushr) 1 22 := ⟨by decide +kernel, rfl⟩
theorem dS_draw_22 : Dc S_draw 22 (.ireturn) 1 23 := ⟨by decide +kernel, rfl⟩
theorem dS_odds_0 : Dc S_odds 0 (.aload_n 0) 1 1 := ⟨by decide +kernel, rfl⟩
theorem dS_odds_1 : Dc S_odds 1 (.getfield 12) 3 4 := ⟨by decide +kernel, rfl⟩
theorem dS_odds_4 : Dc S_odds 4 (.iload_n 1) 1 5 := ⟨by decide +kernel, rfl⟩
theorem dS_odds_5 : Dc S_odds 5 (.invokevirtual 100) 3 8 := ⟨by decide +kernel, rfl⟩
theorem dS_odds_8 : Dc S_odds 8 (.ifCond .eq 22) 3 11 := ⟨by decide +kernel, rfl⟩
theorem dS_odds_11 : Dc S_odds 11 (.iload_n 2) 1 12 := ⟨by decide +kernel, rfl⟩
theorem dS_odds_12 : Dc S_odds 12 (.iconst 0) 1 13 := ⟨by decide +kernel, rfl⟩
theorem dS_odds_13 : Dc S_odds 13 (.bipush 15) 2 15 := ⟨by decide +kernel, rfl⟩
theorem dS_odds_15 : Dc S_odds 15 (.invokestatic 81) 3 18 := ⟨by decide +kernel, rfl⟩
theorem dS_odds_18 : Dc S_odds 18 (.ifCond .eq 12) 3 21 := ⟨by decide +kernel, rfl⟩
theorem dS_odds_21 : Dc S_odds 21 (.iload_n 3) 1 22 := ⟨by decide +kernel, rfl⟩
theorem dS_odds_22 : Dc S_odds 22 (.iconst 0) 1 23 := ⟨by decide +kernel, rfl⟩
theorem dS_odds_23 : Dc S_odds 23 (.iconst 1) 1 24 := ⟨by decide +kernel, rfl⟩
theorem dS_odds_24 : Dc S_odds 24 (.invokestatic 81) 3 27 := ⟨by decide +kernel, rfl⟩
theorem dS_odds_27 : Dc S_odds 27 (.ifCond .ne 10) 3 30 := ⟨by decide +kernel, rfl⟩
theorem dS_odds_30 : Dc S_odds 30 (.aload_n 0) 1 31 := ⟨by decide +kernel, rfl⟩
theorem dS_odds_31 : Dc S_odds 31 (.iconst 0) 1 32 := ⟨by decide +kernel, rfl⟩
theorem dS_odds_32 : Dc S_odds 32 (.invokevirtual 61) 3 35 := ⟨by decide +kernel, rfl⟩
theorem dS_odds_35 : Dc S_odds 35 (.i2l) 1 36 := ⟨by decide +kernel, rfl⟩
theorem dS_odds_36 : Dc S_odds 36 (.lreturn) 1 37 := ⟨by decide +kernel, rfl⟩
theorem dS_odds_37 : Dc S_odds 37 (.aload_n 0) 1 38 := ⟨by decide +kernel, rfl⟩
theorem dS_odds_38 : Dc S_odds 38 (.getfield 12) 3 41 := ⟨by decide +kernel, rfl⟩
theorem dS_odds_41 : Dc S_odds 41 (.iload_n 1) 1 42 := ⟨by decide +kernel, rfl⟩
theorem dS_odds_42 : Dc S_odds 42 (.invokevirtual 191) 3 45 := ⟨by decide +kernel, rfl⟩
theorem dS_odds_45 : Dc S_odds 45 (.istore 4) 2 47 := ⟨by decide +kernel, rfl⟩
theorem dS_odds_47 : Dc S_odds 47 (.bipush 16) 2 49 := ⟨by decide +kernel, rfl⟩
theorem dS_odds_49 : Dc S_odds 49 (.istore 5) 2 51 := ⟨by decide +kernel, rfl⟩
theorem dS_odds_51 : Dc S_odds 51 (.iconst 0) 1 52 := ⟨by decide +kernel, rfl⟩
theorem dS_odds_52 : Dc S_odds 52 (.istore 6) 2 54 := ⟨by decide +kernel, rfl⟩
theorem dS_odds_54 : Dc S_odds 54 (.iload 6) 2 56 := ⟨by decide +kernel, rfl⟩
theorem dS_odds_56 : Dc S_odds 56 (.iconst 4) 1 57 := ⟨by decide +kernel, rfl⟩
theorem dS_odds_57 : Dc S_odds 57 (.if_icmp .ge 28) 3 60 := ⟨by decide +kernel, rfl⟩
theorem dS_odds_60 : Dc S_odds 60 (.iload 4) 2 62 := ⟨by decide +kernel, rfl⟩
theorem dS_odds_62 : Dc S_odds 62 (.iconst 2) 1 63 := ⟨by decide +kernel, rfl⟩
theorem dS_odds_63 : Dc S_odds 63 (.irem) 1 64 := ⟨by decide +kernel, rfl⟩
theorem dS_odds_64 : Dc S_odds 64 (.ifCond .ne 21) 3 67 := ⟨by decide +kernel, rfl⟩
theorem dS_odds_67 : Dc S_odds 67 (.iload 4) 2 69 := ⟨by decide +kernel, rfl⟩
theorem dS_odds_69 : Dc S_odds 69 (.iconst 2) 1 70 := ⟨by decide +kernel, rfl⟩
theorem dS_odds_70 : Dc S_odds 70 (.idiv) 1 71 := ⟨by decide +kernel, rfl⟩
theorem dS_odds_71 : Dc S_odds 71 (.istore 4) 2 73 := ⟨by decide +kernel, rfl⟩
theorem dS_odds_73 : Dc S_odds 73 (.iload 5) 2 75 := ⟨by decide +kernel, rfl⟩
theorem dS_odds_75 : Dc S_odds 75 (.iconst 2) 1 76 := ⟨by decide +kernel, rfl⟩
theorem dS_odds_76 : Dc S_odds 76 (.idiv) 1 77 := ⟨by decide +kernel, rfl⟩
theorem dS_odds_77 : Dc S_odds 77 (.istore 5) 2 79 := ⟨by decide +kernel, rfl⟩
theorem dS_odds_79 : Dc S_odds 79 (.iinc 6 1) 3 82 := ⟨by decide +kernel, rfl⟩
theorem dS_odds_82 : Dc S_odds 82 (.goto (-28)) 3 85 := ⟨by decide +kernel, rfl⟩
theorem dS_odds_85 : Dc S_odds 85 (.iload_n 3) 1 86 := ⟨by decide +kernel, rfl⟩
theorem dS_odds_86 : Dc S_odds 86 (.ifCond .ne 8) 3 89 := ⟨by decide +kernel, rfl⟩
theorem dS_odds_89 : Dc S_odds 89 (.iload 4) 2 91 := ⟨by decide +kernel, rfl⟩
theorem dS_odds_91 : Dc S_odds 91 (.goto 5) 3 94 := ⟨by decide +kernel, rfl⟩
theorem dS_odds_94 : Dc S_odds 94 (.iload 5) 2 96 := ⟨by decide +kernel, rfl⟩
theorem dS_odds_96 : Dc S_odds 96 (.iload_n 2) 1 97 := ⟨by decide +kernel, rfl⟩
theorem dS_odds_97 : Dc S_odds 97 (.invokestatic 194) 3 100 := ⟨by decide +kernel, rfl⟩
theorem dS_odds_100 : Dc S_odds 100 (.lreturn) 1 101 := ⟨by decide +kernel, rfl⟩
theorem dH_cellsOutOfReachOf_0 : Dc H_cellsOutOfReachOf 0 (.iconst 0) 1 1 := ⟨by decide +kernel, rfl⟩
theorem dH_cellsOutOfReachOf_1 : Dc H_cellsOutOfReachOf 1 (.istore_n 2) 1 2 := ⟨by decide +kernel, rfl⟩
theorem dH_cellsOutOfReachOf_2 : Dc H_cellsOutOfReachOf 2 (.iconst 0) 1 3 := ⟨by decide +kernel, rfl⟩
theorem dH_cellsOutOfReachOf_3 : Dc H_cellsOutOfReachOf 3 (.istore_n 3) 1 4 := ⟨by decide +kernel, rfl⟩
theorem dH_cellsOutOfReachOf_4 : Dc H_cellsOutOfReachOf 4 (.iload_n 3) 1 5 := ⟨by decide +kernel, rfl⟩
theorem dH_cellsOutOfReachOf_5 : Dc H_cellsOutOfReachOf 5 (.bipush 16) 2 7 := ⟨by decide +kernel, rfl⟩
theorem dH_cellsOutOfReachOf_7 : Dc H_cellsOutOfReachOf 7 (.if_icmp .ge 26) 3 10 := ⟨by decide +kernel, rfl⟩
theorem dH_cellsOutOfReachOf_10 : Dc H_cellsOutOfReachOf 10 (.iload_n 3) 1 11 := ⟨by decide +kernel, rfl⟩
theorem dH_cellsOutOfReachOf_11 : Dc H_cellsOutOfReachOf 11 (.aload_n 0) 1 12 := ⟨by decide +kernel, rfl⟩
theorem dH_cellsOutOfReachOf_12 : Dc H_cellsOutOfReachOf 12 (.getfield 37) 3 15 := ⟨by decide +kernel, rfl⟩
theorem dH_cellsOutOfReachOf_15 : Dc H_cellsOutOfReachOf 15 (.iload_n 1) 1 16 := ⟨by decide +kernel, rfl⟩
theorem dH_cellsOutOfReachOf_16 : Dc H_cellsOutOfReachOf 16 (.iaload) 1 17 := ⟨by decide +kernel, rfl⟩
theorem dH_cellsOutOfReachOf_17 : Dc H_cellsOutOfReachOf 17 (.invokestatic 79) 3 20 := ⟨by decide +kernel, rfl⟩
theorem dH_cellsOutOfReachOf_20 : Dc H_cellsOutOfReachOf 20 (.iconst 2) 1 21 := ⟨by decide +kernel, rfl⟩
theorem dH_cellsOutOfReachOf_21 : Dc H_cellsOutOfReachOf 21 (.if_icmp .le 6) 3 24 := ⟨by decide +kernel, rfl⟩
theorem dH_cellsOutOfReachOf_24 : Dc H_cellsOutOfReachOf 24 (.iinc 2 1) 3 27 := ⟨by decide +kernel, rfl⟩
theorem dH_cellsOutOfReachOf_27 : Dc H_cellsOutOfReachOf 27 (.iinc 3 1) 3 30 := ⟨by decide +kernel, rfl⟩
theorem dH_cellsOutOfReachOf_30 : Dc H_cellsOutOfReachOf 30 (.goto (-26)) 3 33 := ⟨by decide +kernel, rfl⟩
theorem dH_cellsOutOfReachOf_33 : Dc H_cellsOutOfReachOf 33 (.iload_n 2) 1 34 := ⟨by decide +kernel, rfl⟩
theorem dH_cellsOutOfReachOf_34 : Dc H_cellsOutOfReachOf 34 (.ireturn) 1 35 := ⟨by decide +kernel, rfl⟩
theorem dS_power_0 : Dc S_power 0 (.lconst 1) 1 1 := ⟨by decide +kernel, rfl⟩
theorem dS_power_1 : Dc S_power 1 (.lstore_n 2) 1 2 := ⟨by decide +kernel, rfl⟩
theorem dS_power_2 : Dc S_power 2 (.iconst 0) 1 3 := ⟨by decide +kernel, rfl⟩
theorem dS_power_3 : Dc S_power 3 (.istore 4) 2 5 := ⟨by decide +kernel, rfl⟩
theorem dS_power_5 : Dc S_power 5 (.iload 4) 2 7 := ⟨by decide +kernel, rfl⟩
theorem dS_power_7 : Dc S_power 7 (.iload_n 1) 1 8 := ⟨by decide +kernel, rfl⟩
theorem dS_power_8 : Dc S_power 8 (.if_icmp .ge 14) 3 11 := ⟨by decide +kernel, rfl⟩
theorem dS_power_11 : Dc S_power 11 (.lload_n 2) 1 12 := ⟨by decide +kernel, rfl⟩
theorem dS_power_12 : Dc S_power 12 (.iload_n 0) 1 13 := ⟨by decide +kernel, rfl⟩
theorem dS_power_13 : Dc S_power 13 (.i2l) 1 14 := ⟨by decide +kernel, rfl⟩
theorem dS_power_14 : Dc S_power 14 (.lmul) 1 15 := ⟨by decide +kernel, rfl⟩
theorem dS_power_15 : Dc S_power 15 (.lstore_n 2) 1 16 := ⟨by decide +kernel, rfl⟩
theorem dS_power_16 : Dc S_power 16 (.iinc 4 1) 3 19 := ⟨by decide +kernel, rfl⟩
theorem dS_power_19 : Dc S_power 19 (.goto (-14)) 3 22 := ⟨by decide +kernel, rfl⟩
theorem dS_power_22 : Dc S_power 22 (.lload_n 2) 1 23 := ⟨by decide +kernel, rfl⟩
theorem dS_power_23 : Dc S_power 23 (.lreturn) 1 24 := ⟨by decide +kernel, rfl⟩
theorem dS_seed_0 : Dc S_seed 0 (.aload_n 0) 1 1 := ⟨by decide +kernel, rfl⟩
theorem dS_seed_1 : Dc S_seed 1 (.getfield 33) 3 4 := ⟨by decide +kernel, rfl⟩
theorem dS_seed_4 : Dc S_seed 4 (.istore_n 2) 1 5 := ⟨by decide +kernel, rfl⟩
theorem dS_seed_5 : Dc S_seed 5 (.aload_n 0) 1 6 := ⟨by decide +kernel, rfl⟩
theorem dS_seed_6 : Dc S_seed 6 (.iload_n 1) 1 7 := ⟨by decide +kernel, rfl⟩
theorem dS_seed_7 : Dc S_seed 7 (.putfield 33) 3 10 := ⟨by decide +kernel, rfl⟩
theorem dS_seed_10 : Dc S_seed 10 (.iload_n 2) 1 11 := ⟨by decide +kernel, rfl⟩
theorem dS_seed_11 : Dc S_seed 11 (.ireturn) 1 12 := ⟨by decide +kernel, rfl⟩
theorem dS_feed_0 : Dc S_feed 0 (.iload_n 2) 1 1 := ⟨by decide +kernel, rfl⟩
theorem dS_feed_1 : Dc S_feed 1 (.iconst 1) 1 2 := ⟨by decide +kernel, rfl⟩
theorem dS_feed_2 : Dc S_feed 2 (.iconst 4) 1 3 := ⟨by decide +kernel, rfl⟩
theorem dS_feed_3 : Dc S_feed 3 (.invokestatic 81) 3 6 := ⟨by decide +kernel, rfl⟩
theorem dS_feed_6 : Dc S_feed 6 (.ifCond .ne 9) 3 9 := ⟨by decide +kernel, rfl⟩
theorem dS_feed_9 : Dc S_feed 9 (.aload_n 0) 1 10 := ⟨by decide +kernel, rfl⟩
theorem dS_feed_10 : Dc S_feed 10 (.iconst 0) 1 11 := ⟨by decide +kernel, rfl⟩
theorem dS_feed_11 : Dc S_feed 11 (.invokevirtual 61) 3 14 := ⟨by decide +kernel, rfl⟩
theorem dS_feed_14 : Dc S_feed 14 (.ireturn) 1 15 := ⟨by decide +kernel, rfl⟩
theorem dS_feed_15 : Dc S_feed 15 (.aload_n 0) 1 16 := ⟨by decide +kernel, rfl⟩
theorem dS_feed_16 : Dc S_feed 16 (.getfield 43) 3 19 := ⟨by decide +kernel, rfl⟩
theorem dS_feed_19 : Dc S_feed 19 (.iload_n 2) 1 20 := ⟨by decide +kernel, rfl⟩
theorem dS_feed_20 : Dc S_feed 20 (.invokevirtual 198) 3 23 := ⟨by decide +kernel, rfl⟩
theorem dS_feed_23 : Dc S_feed 23 (.ifCond .ne 9) 3 26 := ⟨by decide +kernel, rfl⟩
theorem dS_feed_26 : Dc S_feed 26 (.aload_n 0) 1 27 := ⟨by decide +kernel, rfl⟩
theorem dS_feed_27 : Dc S_feed 27 (.iconst 1) 1 28 := ⟨by decide +kernel, rfl⟩
theorem dS_feed_28 : Dc S_feed 28 (.invokevirtual 61) 3 31 := ⟨by decide +kernel, rfl⟩
theorem dS_feed_31 : Dc S_feed 31 (.ireturn) 1 32 := ⟨by decide +kernel, rfl⟩
theorem dS_feed_32 : Dc S_feed 32 (.iload_n 2) 1 33 := ⟨by decide +kernel, rfl⟩
theorem dS_feed_33 : Dc S_feed 33 (.iconst 1) 1 34 := ⟨by decide +kernel, rfl⟩
theorem dS_feed_34 : Dc S_feed 34 (.isub) 1 35 := ⟨by decide +kernel, rfl⟩
theorem dS_feed_35 : Dc S_feed 35 (.istore_n 3) 1 36 := ⟨by decide +kernel, rfl⟩
theorem dS_feed_36 : Dc S_feed 36 (.iload_n 3) 1 37 := ⟨by decide +kernel, rfl⟩
theorem dS_feed_37 : Dc S_feed 37 (.ifCond .lt 26) 3 40 := ⟨by decide +kernel, rfl⟩
theorem dS_feed_40 : Dc S_feed 40 (.aload_n 0) 1 41 := ⟨by decide +kernel, rfl⟩
theorem dS_feed_41 : Dc S_feed 41 (.getfield 43) 3 44 := ⟨by decide +kernel, rfl⟩
theorem dS_feed_44 : Dc S_feed 44 (.iload_n 1) 1 45 := ⟨by decide +kernel, rfl⟩
theorem dS_feed_45 : Dc S_feed 45 (.bipush 8) 2 47 := ⟨by decide +kernel, rfl⟩
theorem dS_feed_47 : Dc S_feed 47 (.iload_n 3) 1 48 := ⟨by decide +kernel, rfl⟩
theorem dS_feed_48 : Dc S_feed 48 (.imul) 1 49 := ⟨by decide +kernel, rfl⟩
theorem dS_feed_49 : Dc S_feed 49 (.iushr) 1 50 := ⟨by decide +kernel, rfl⟩
theorem dS_feed_50 : Dc S_feed 50 (.sipush 255) 3 53 := ⟨by decide +kernel, rfl⟩
theorem dS_feed_53 : Dc S_feed 53 (.iand) 1 54 := ⟨by decide +kernel, rfl⟩
theorem dS_feed_54 : Dc S_feed 54 (.invokevirtual 201) 3 57 := ⟨by decide +kernel, rfl⟩
theorem dS_feed_57 : Dc S_feed 57 (.iinc 3 (-1)) 3 60 := ⟨by decide +kernel, rfl⟩
theorem dS_feed_60 : Dc S_feed 60 (.goto (-24)) 3 63 := ⟨by decide +kernel, rfl⟩
theorem dS_feed_63 : Dc S_feed 63 (.aload_n 0) 1 64 := ⟨by decide +kernel, rfl⟩
theorem dS_feed_64 : Dc S_feed 64 (.getfield 43) 3 67 := ⟨by decide +kernel, rfl⟩
theorem dS_feed_67 : Dc S_feed 67 (.getfield 204) 3 70 := ⟨by decide +kernel, rfl⟩
theorem dS_feed_70 : Dc S_feed 70 (.ireturn) 1 71 := ⟨by decide +kernel, rfl⟩
theorem dT_hasRoomFor_0 : Dc T_hasRoomFor 0 (.iload_n 1) 1 1 := ⟨by decide +kernel, rfl⟩
theorem dT_hasRoomFor_1 : Dc T_hasRoomFor 1 (.bipush 120) 2 3 := ⟨by decide +kernel, rfl⟩
theorem dT_hasRoomFor_3 : Dc T_hasRoomFor 3 (.aload_n 0) 1 4 := ⟨by decide +kernel, rfl⟩
theorem dT_hasRoomFor_4 : Dc T_hasRoomFor 4 (.getfield 15) 3 7 := ⟨by decide +kernel, rfl⟩
theorem dT_hasRoomFor_7 : Dc T_hasRoomFor 7 (.isub) 1 8 := ⟨by decide +kernel, rfl⟩
theorem dT_hasRoomFor_8 : Dc T_hasRoomFor 8 (.if_icmp .gt 7) 3 11 := ⟨by decide +kernel, rfl⟩
theorem dT_hasRoomFor_11 : Dc T_hasRoomFor 11 (.iconst 1) 1 12 := ⟨by decide +kernel, rfl⟩
theorem dT_hasRoomFor_12 : Dc T_hasRoomFor 12 (.goto 4) 3 15 := ⟨by decide +kernel, rfl⟩
theorem dT_hasRoomFor_15 : Dc T_hasRoomFor 15 (.iconst 0) 1 16 := ⟨by decide +kernel, rfl⟩
theorem dT_hasRoomFor_16 : Dc T_hasRoomFor 16 (.ireturn) 1 17 := ⟨by decide +kernel, rfl⟩
theorem dT_append_0 : Dc T_append 0 (.aload_n 0) 1 1 := ⟨by decide +kernel, rfl⟩
theorem dT_append_1 : Dc T_append 1 (.iconst 1) 1 2 := ⟨by decide +kernel, rfl⟩
theorem dT_append_2 : Dc T_append 2 (.invokevirtual 28) 3 5 := ⟨by decide +kernel, rfl⟩
theorem dT_append_5 : Dc T_append 5 (.ifCond .eq 23) 3 8 := ⟨by decide +kernel, rfl⟩
theorem dT_append_8 : Dc T_append 8 (.aload_n 0) 1 9 := ⟨by decide +kernel, rfl⟩
theorem dT_append_9 : Dc T_append 9 (.getfield 9) 3 12 := ⟨by decide +kernel, rfl⟩
theorem dT_append_12 : Dc T_append 12 (.aload_n 0) 1 13 := ⟨by decide +kernel, rfl⟩
theorem dT_append_13 : Dc T_append 13 (.getfield 15) 3 16 := ⟨by decide +kernel, rfl⟩
theorem dT_append_16 : Dc T_append 16 (.iload_n 1) 1 17 := ⟨by decide +kernel, rfl⟩
theorem dT_append_17 : Dc T_append 17 (.iastore) 1 18 := ⟨by decide +kernel, rfl⟩
theorem dT_append_18 : Dc T_append 18 (.aload_n 0) 1 19 := ⟨by decide +kernel, rfl⟩
theorem dT_append_19 : Dc T_append 19 (.dup) 1 20 := ⟨by decide +kernel, rfl⟩
theorem dT_append_20 : Dc T_append 20 (.getfield 15) 3 23 := ⟨by decide +kernel, rfl⟩
theorem dT_append_23 : Dc T_append 23 (.iconst 1) 1 24 := ⟨by decide +kernel, rfl⟩
theorem dT_append_24 : Dc T_append 24 (.iadd) 1 25 := ⟨by decide +kernel, rfl⟩
theorem dT_append_25 : Dc T_append 25 (.putfield 15) 3 28 := ⟨by decide +kernel, rfl⟩
theorem dT_append_28 : Dc T_append 28 (.return_) 1 29 := ⟨by decide +kernel, rfl⟩
theorem dS_wipe_0 : Dc S_wipe 0 (.aload_n 0) 1 1 := ⟨by decide +kernel, rfl⟩
theorem dS_wipe_1 : Dc S_wipe 1 (.getfield 43) 3 4 := ⟨by decide +kernel, rfl⟩
theorem dS_wipe_4 : Dc S_wipe 4 (.getfield 204) 3 7 := ⟨by decide +kernel, rfl⟩
theorem dS_wipe_7 : Dc S_wipe 7 (.istore_n 1) 1 8 := ⟨by decide +kernel, rfl⟩
theorem dS_wipe_8 : Dc S_wipe 8 (.aload_n 0) 1 9 := ⟨by decide +kernel, rfl⟩
theorem dS_wipe_9 : Dc S_wipe 9 (.getfield 43) 3 12 := ⟨by decide +kernel, rfl⟩
theorem dS_wipe_12 : Dc S_wipe 12 (.iconst 0) 1 13 := ⟨by decide +kernel, rfl⟩
theorem dS_wipe_13 : Dc S_wipe 13 (.putfield 204) 3 16 := ⟨by decide +kernel, rfl⟩
theorem dS_wipe_16 : Dc S_wipe 16 (.iload_n 1) 1 17 := ⟨by decide +kernel, rfl⟩
theorem dS_wipe_17 : Dc S_wipe 17 (.ireturn) 1 18 := ⟨by decide +kernel, rfl⟩
theorem dS_text_0 : Dc S_text 0 (.aload_n 0) 1 1 := ⟨by decide +kernel, rfl⟩
theorem dS_text_1 : Dc S_text 1 (.getfield 16) 3 4 := ⟨by decide +kernel, rfl⟩
theorem dS_text_4 : Dc S_text 4 (.aload_n 0) 1 5 := ⟨by decide +kernel, rfl⟩
theorem dS_text_5 : Dc S_text 5 (.getfield 12) 3 8 := ⟨by decide +kernel, rfl⟩
theorem dS_text_8 : Dc S_text 8 (.invokevirtual 151) 3 11 := ⟨by decide +kernel, rfl⟩
theorem dS_text_11 : Dc S_text 11 (.aload_n 0) 1 12 := ⟨by decide +kernel, rfl⟩
theorem dS_text_12 : Dc S_text 12 (.getfield 43) 3 15 := ⟨by decide +kernel, rfl⟩
theorem dS_text_15 : Dc S_text 15 (.aload_n 0) 1 16 := ⟨by decide +kernel, rfl⟩
theorem dS_text_16 : Dc S_text 16 (.getfield 16) 3 19 := ⟨by decide +kernel, rfl⟩
theorem dS_text_19 : Dc S_text 19 (.invokevirtual 207) 3 22 := ⟨by decide +kernel, rfl⟩
theorem dS_text_22 : Dc S_text 22 (.istore_n 1) 1 23 := ⟨by decide +kernel, rfl⟩
theorem dS_text_23 : Dc S_text 23 (.aload_n 0) 1 24 := ⟨by decide +kernel, rfl⟩
theorem dS_text_24 : Dc S_text 24 (.getfield 43) 3 27 := ⟨by decide +kernel, rfl⟩
theorem dS_text_27 : Dc S_text 27 (.iconst 0) 1 28 := ⟨by decide +kernel, rfl⟩
theorem dS_text_28 : Dc S_text 28 (.putfield 204) 3 31 := ⟨by decide +kernel, rfl⟩
theorem dS_text_31 : Dc S_text 31 (.iload_n 1) 1 32 := ⟨by decide +kernel, rfl⟩
theorem dS_text_32 : Dc S_text 32 (.ifCond .lt 14) 3 35 := ⟨by decide +kernel, rfl⟩
theorem dS_text_35 : Dc S_text 35 (.aload_n 0) 1 36 := ⟨by decide +kernel, rfl⟩
theorem dS_text_36 : Dc S_text 36 (.getfield 12) 3 39 := ⟨by decide +kernel, rfl⟩
theorem dS_text_39 : Dc S_text 39 (.aload_n 0) 1 40 := ⟨by decide +kernel, rfl⟩
theorem dS_text_40 : Dc S_text 40 (.getfield 16) 3 43 := ⟨by decide +kernel, rfl⟩
theorem dS_text_43 : Dc S_text 43 (.invokevirtual 151) 3 46 := ⟨by decide +kernel, rfl⟩
theorem dS_text_46 : Dc S_text 46 (.iload_n 1) 1 47 := ⟨by decide +kernel, rfl⟩
theorem dS_text_47 : Dc S_text 47 (.ireturn) 1 48 := ⟨by decide +kernel, rfl⟩
theorem dT_readOnto_0 : Dc T_readOnto 0 (.aload_n 0) 1 1 := ⟨by decide +kernel, rfl⟩
theorem dT_readOnto_1 : Dc T_readOnto 1 (.iconst 0) 1 2 := ⟨by decide +kernel, rfl⟩
theorem dT_readOnto_2 : Dc T_readOnto 2 (.putfield 22) 3 5 := ⟨by decide +kernel, rfl⟩
theorem dT_readOnto_5 : Dc T_readOnto 5 (.aload_n 0) 1 6 := ⟨by decide +kernel, rfl⟩
theorem dT_readOnto_6 : Dc T_readOnto 6 (.invokevirtual 32) 3 9 := ⟨by decide +kernel, rfl⟩
theorem dT_readOnto_9 : Dc T_readOnto 9 (.iconst 1) 1 10 := ⟨by decide +kernel, rfl⟩
theorem dT_readOnto_10 : Dc T_readOnto 10 (.istore_n 2) 1 11 := ⟨by decide +kernel, rfl⟩
theorem dT_readOnto_11 : Dc T_readOnto 11 (.iload_n 2) 1 12 := ⟨by decide +kernel, rfl⟩
theorem dT_readOnto_12 : Dc T_readOnto 12 (.bipush 120) 2 14 := ⟨by decide +kernel, rfl⟩
theorem dT_readOnto_14 : Dc T_readOnto 14 (.if_icmp .gt 52) 3 17 := ⟨by decide +kernel, rfl⟩
theorem dT_readOnto_17 : Dc T_readOnto 17 (.aload_n 0) 1 18 := ⟨by decide +kernel, rfl⟩
theorem dT_readOnto_18 : Dc T_readOnto 18 (.aload_n 1) 1 19 := ⟨by decide +kernel, rfl⟩
theorem dT_readOnto_19 : Dc T_readOnto 19 (.invokevirtual 35) 3 22 := ⟨by decide +kernel, rfl⟩
theorem dT_readOnto_22 : Dc T_readOnto 22 (.ifCond .ne 10) 3 25 := ⟨by decide +kernel, rfl⟩
theorem dT_readOnto_25 : Dc T_readOnto 25 (.iconst (-1)) 1 26 := ⟨by decide +kernel, rfl⟩
theorem dT_readOnto_26 : Dc T_readOnto 26 (.aload_n 0) 1 27 := ⟨by decide +kernel, rfl⟩
theorem dT_readOnto_27 : Dc T_readOnto 27 (.getfield 19) 3 30 := ⟨by decide +kernel, rfl⟩
theorem dT_readOnto_30 : Dc T_readOnto 30 (.isub) 1 31 := ⟨by decide +kernel, rfl⟩
theorem dT_readOnto_31 : Dc T_readOnto 31 (.ireturn) 1 32 := ⟨by decide +kernel, rfl⟩
theorem dT_readOnto_32 : Dc T_readOnto 32 (.aload_n 0) 1 33 := ⟨by decide +kernel, rfl⟩
theorem dT_readOnto_33 : Dc T_readOnto 33 (.getfield 25) 3 36 := ⟨by decide +kernel, rfl⟩
theorem dT_readOnto_36 : Dc T_readOnto 36 (.ifCond .ne 5) 3 39 := ⟨by decide +kernel, rfl⟩
theorem dT_readOnto_39 : Dc T_readOnto 39 (.iload_n 2) 1 40 := ⟨by decide +kernel, rfl⟩
theorem dT_readOnto_40 : Dc T_readOnto 40 (.ireturn) 1 41 := ⟨by decide +kernel, rfl⟩
theorem dT_readOnto_41 : Dc T_readOnto 41 (.aload_n 0) 1 42 := ⟨by decide +kernel, rfl⟩
theorem dT_readOnto_42 : Dc T_readOnto 42 (.getfield 25) 3 45 := ⟨by decide +kernel, rfl⟩
theorem dT_readOnto_45 : Dc T_readOnto 45 (.iconst 3) 1 46 := ⟨by decide +kernel, rfl⟩
theorem dT_readOnto_46 : Dc T_readOnto 46 (.if_icmp .eq 10) 3 49 := ⟨by decide +kernel, rfl⟩
theorem dT_readOnto_49 : Dc T_readOnto 49 (.iconst (-1)) 1 50 := ⟨by decide +kernel, rfl⟩
theorem dT_readOnto_50 : Dc T_readOnto 50 (.aload_n 0) 1 51 := ⟨by decide +kernel, rfl⟩
theorem dT_readOnto_51 : Dc T_readOnto 51 (.getfield 19) 3 54 := ⟨by decide +kernel, rfl⟩
theorem dT_readOnto_54 : Dc T_readOnto 54 (.isub) 1 55 := ⟨by decide +kernel, rfl⟩
theorem dT_readOnto_55 : Dc T_readOnto 55 (.ireturn) 1 56 := ⟨by decide +kernel, rfl⟩
theorem dT_readOnto_56 : Dc T_readOnto 56 (.aload_n 0) 1 57 := ⟨by decide +kernel, rfl⟩
theorem dT_readOnto_57 : Dc T_readOnto 57 (.invokevirtual 32) 3 60 := ⟨by decide +kernel, rfl⟩
theorem dT_readOnto_60 : Dc T_readOnto 60 (.iinc 2 1) 3 63 := ⟨by decide +kernel, rfl⟩
theorem dT_readOnto_63 : Dc T_readOnto 63 (.goto (-52)) 3 66 := ⟨by decide +kernel, rfl⟩
theorem dT_readOnto_66 : Dc T_readOnto 66 (.iconst (-1)) 1 67 := ⟨by decide +kernel, rfl⟩
theorem dT_readOnto_67 : Dc T_readOnto 67 (.aload_n 0) 1 68 := ⟨by decide +kernel, rfl⟩
theorem dT_readOnto_68 : Dc T_readOnto 68 (.getfield 19) 3 71 := ⟨by decide +kernel, rfl⟩
theorem dT_readOnto_71 : Dc T_readOnto 71 (.isub) 1 72 := ⟨by decide +kernel, rfl⟩
theorem dT_readOnto_72 : Dc T_readOnto 72 (.ireturn) 1 73 := ⟨by decide +kernel, rfl⟩
theorem dT_nextToken_0 : Dc T_nextToken 0 (.aload_n 0) 1 1 := ⟨by decide +kernel, rfl⟩
theorem dT_nextToken_1 : Dc T_nextToken 1 (.aload_n 0) 1 2 := ⟨by decide +kernel, rfl⟩
theorem dT_nextToken_2 : Dc T_nextToken 2 (.getfield 22) 3 5 := ⟨by decide +kernel, rfl⟩
theorem dT_nextToken_5 : Dc T_nextToken 5 (.putfield 19) 3 8 := ⟨by decide +kernel, rfl⟩
theorem dT_nextToken_8 : Dc T_nextToken 8 (.aload_n 0) 1 9 := ⟨by decide +kernel, rfl⟩
theorem dT_nextToken_9 : Dc T_nextToken 9 (.getfield 19) 3 12 := ⟨by decide +kernel, rfl⟩
theorem dT_nextToken_12 : Dc T_nextToken 12 (.aload_n 0) 1 13 := ⟨by decide +kernel, rfl⟩
theorem dT_nextToken_13 : Dc T_nextToken 13 (.getfield 15) 3 16 := ⟨by decide +kernel, rfl⟩
theorem dT_nextToken_16 : Dc T_nextToken 16 (.if_icmp .ge 28) 3 19 := ⟨by decide +kernel, rfl⟩
theorem dT_nextToken_19 : Dc T_nextToken 19 (.aload_n 0) 1 20 := ⟨by decide +kernel, rfl⟩
theorem dT_nextToken_20 : Dc T_nextToken 20 (.aload_n 0) 1 21 := ⟨by decide +kernel, rfl⟩
theorem dT_nextToken_21 : Dc T_nextToken 21 (.getfield 19) 3 24 := ⟨by decide +kernel, rfl⟩
theorem dT_nextToken_24 : Dc T_nextToken 24 (.invokevirtual 135) 3 27 := ⟨by decide +kernel, rfl⟩
theorem dT_nextToken_27 : Dc T_nextToken 27 (.iconst 4) 1 28 := ⟨by decide +kernel, rfl⟩
theorem dT_nextToken_28 : Dc T_nextToken 28 (.if_icmp .ne 16) 3 31 := ⟨by decide +kernel, rfl⟩
theorem dT_nextToken_31 : Dc T_nextToken 31 (.aload_n 0) 1 32 := ⟨by decide +kernel, rfl⟩
theorem dT_nextToken_32 : Dc T_nextToken 32 (.dup) 1 33 := ⟨by decide +kernel, rfl⟩
theorem dT_nextToken_33 : Dc T_nextToken 33 (.getfield 19) 3 36 := ⟨by decide +kernel, rfl⟩
theorem dT_nextToken_36 : Dc T_nextToken 36 (.iconst 1) 1 37 := ⟨by decide +kernel, rfl⟩
theorem dT_nextToken_37 : Dc T_nextToken 37 (.iadd) 1 38 := ⟨by decide +kernel, rfl⟩
theorem dT_nextToken_38 : Dc T_nextToken 38 (.putfield 19) 3 41 := ⟨by decide +kernel, rfl⟩
theorem dT_nextToken_41 : Dc T_nextToken 41 (.goto (-33)) 3 44 := ⟨by decide +kernel, rfl⟩
theorem dT_nextToken_44 : Dc T_nextToken 44 (.aload_n 0) 1 45 := ⟨by decide +kernel, rfl⟩
theorem dT_nextToken_45 : Dc T_nextToken 45 (.aload_n 0) 1 46 := ⟨by decide +kernel, rfl⟩
theorem dT_nextToken_46 : Dc T_nextToken 46 (.aload_n 0) 1 47 := ⟨by decide +kernel, rfl⟩
theorem dT_nextToken_47 : Dc T_nextToken 47 (.getfield 19) 3 50 := ⟨by decide +kernel, rfl⟩
theorem dT_nextToken_50 : Dc T_nextToken 50 (.invokevirtual 135) 3 53 := ⟨by decide +kernel, rfl⟩
theorem dT_nextToken_53 : Dc T_nextToken 53 (.putfield 25) 3 56 := ⟨by decide +kernel, rfl⟩
theorem dT_nextToken_56 : Dc T_nextToken 56 (.aload_n 0) 1 57 := ⟨by decide +kernel, rfl⟩
theorem dT_nextToken_57 : Dc T_nextToken 57 (.getfield 25) 3 60 := ⟨by decide +kernel, rfl⟩
theorem dT_nextToken_60 : Dc T_nextToken 60 (.ifCond .ne 4) 3 63 := ⟨by decide +kernel, rfl⟩
theorem dT_nextToken_63 : Dc T_nextToken 63 (.return_) 1 64 := ⟨by decide +kernel, rfl⟩
theorem dT_nextToken_64 : Dc T_nextToken 64 (.aload_n 0) 1 65 := ⟨by decide +kernel, rfl⟩
theorem dT_nextToken_65 : Dc T_nextToken 65 (.aload_n 0) 1 66 := ⟨by decide +kernel, rfl⟩
theorem dT_nextToken_66 : Dc T_nextToken 66 (.getfield 19) 3 69 := ⟨by decide +kernel, rfl⟩
theorem dT_nextToken_69 : Dc T_nextToken 69 (.iconst 1) 1 70 := ⟨by decide +kernel, rfl⟩
theorem dT_nextToken_70 : Dc T_nextToken 70 (.iadd) 1 71 := ⟨by decide +kernel, rfl⟩
theorem dT_nextToken_71 : Dc T_nextToken 71 (.putfield 22) 3 74 := ⟨by decide +kernel, rfl⟩
theorem dT_nextToken_74 : Dc T_nextToken 74 (.aload_n 0) 1 75 := ⟨by decide +kernel, rfl⟩
theorem dT_nextToken_75 : Dc T_nextToken 75 (.getfield 22) 3 78 := ⟨by decide +kernel, rfl⟩
theorem dT_nextToken_78 : Dc T_nextToken 78 (.aload_n 0) 1 79 := ⟨by decide +kernel, rfl⟩
theorem dT_nextToken_79 : Dc T_nextToken 79 (.getfield 15) 3 82 := ⟨by decide +kernel, rfl⟩
theorem dT_nextToken_82 : Dc T_nextToken 82 (.if_icmp .ge 41) 3 85 := ⟨by decide +kernel, rfl⟩
theorem dT_nextToken_85 : Dc T_nextToken 85 (.aload_n 0) 1 86 := ⟨by decide +kernel, rfl⟩
theorem dT_nextToken_86 : Dc T_nextToken 86 (.getfield 25) 3 89 := ⟨by decide +kernel, rfl⟩
theorem dT_nextToken_89 : Dc T_nextToken 89 (.invokestatic 138) 3 92 := ⟨by decide +kernel, rfl⟩
theorem dT_nextToken_92 : Dc T_nextToken 92 (.ifCond .eq 31) 3 95 := ⟨by decide +kernel, rfl⟩
theorem dT_nextToken_95 : Dc T_nextToken 95 (.aload_n 0) 1 96 := ⟨by decide +kernel, rfl⟩
theorem dT_nextToken_96 : Dc T_nextToken 96 (.aload_n 0) 1 97 := ⟨by decide +kernel, rfl⟩
theorem dT_nextToken_97 : Dc T_nextToken 97 (.getfield 22) 3 100 := ⟨by decide +kernel, rfl⟩
theorem dT_nextToken_100 : Dc T_nextToken 100 (.invokevirtual 135) 3 103 := ⟨by decide +kernel, rfl⟩
theorem dT_nextToken_103 : Dc T_nextToken 103 (.aload_n 0) 1 104 := ⟨by decide +kernel, rfl⟩
theorem dT_nextToken_104 : Dc T_nextToken 104 (.getfield 25) 3 107 := ⟨by decide +kernel, rfl⟩
theorem dT_nextToken_107 : Dc T_nextToken 107 (.if_icmp .ne 16) 3 110 := ⟨by decide +kernel, rfl⟩
theorem dT_nextToken_110 : Dc T_nextToken 110 (.aload_n 0) 1 111 := ⟨by decide +kernel, rfl⟩
theorem dT_nextToken_111 : Dc T_nextToken 111 (.dup) 1 112 := ⟨by decide +kernel, rfl⟩
theorem dT_nextToken_112 : Dc T_nextToken 112 (.getfield 22) 3 115 := ⟨by decide +kernel, rfl⟩
theorem dT_nextToken_115 : Dc T_nextToken 115 (.iconst 1) 1 116 := ⟨by decide +kernel, rfl⟩
theorem dT_nextToken_116 : Dc T_nextToken 116 (.iadd) 1 117 := ⟨by decide +kernel, rfl⟩
theorem dT_nextToken_117 : Dc T_nextToken 117 (.putfield 22) 3 120 := ⟨by decide +kernel, rfl⟩
theorem dT_nextToken_120 : Dc T_nextToken 120 (.goto (-46)) 3 123 := ⟨by decide +kernel, rfl⟩
theorem dT_nextToken_123 : Dc T_nextToken 123 (.return_) 1 124 := ⟨by decide +kernel, rfl⟩
theorem dT_tokenAt_0 : Dc T_tokenAt 0 (.iload_n 1) 1 1 := ⟨by decide +kernel, rfl⟩
theorem dT_tokenAt_1 : Dc T_tokenAt 1 (.aload_n 0) 1 2 := ⟨by decide +kernel, rfl⟩
theorem dT_tokenAt_2 : Dc T_tokenAt 2 (.getfield 15) 3 5 := ⟨by decide +kernel, rfl⟩
theorem dT_tokenAt_5 : Dc T_tokenAt 5 (.if_icmp .lt 5) 3 8 := ⟨by decide +kernel, rfl⟩
theorem dT_tokenAt_8 : Dc T_tokenAt 8 (.iconst 0) 1 9 := ⟨by decide +kernel, rfl⟩
theorem dT_tokenAt_9 : Dc T_tokenAt 9 (.ireturn) 1 10 := ⟨by decide +kernel, rfl⟩
theorem dT_tokenAt_10 : Dc T_tokenAt 10 (.aload_n 0) 1 11 := ⟨by decide +kernel, rfl⟩
theorem dT_tokenAt_11 : Dc T_tokenAt 11 (.getfield 9) 3 14 := ⟨by decide +kernel, rfl⟩
theorem dT_tokenAt_14 : Dc T_tokenAt 14 (.iload_n 1) 1 15 := ⟨by decide +kernel, rfl⟩
theorem dT_tokenAt_15 : Dc T_tokenAt 15 (.iaload) 1 16 := ⟨by decide +kernel, rfl⟩
theorem dT_tokenAt_16 : Dc T_tokenAt 16 (.istore_n 2) 1 17 := ⟨by decide +kernel, rfl⟩
theorem dT_tokenAt_17 : Dc T_tokenAt 17 (.iload_n 2) 1 18 := ⟨by decide +kernel, rfl⟩
theorem dT_tokenAt_18 : Dc T_tokenAt 18 (.bipush 97) 2 20 := ⟨by decide +kernel, rfl⟩
theorem dT_tokenAt_20 : Dc T_tokenAt 20 (.if_icmp .lt 11) 3 23 := ⟨by decide +kernel, rfl⟩
theorem dT_tokenAt_23 : Dc T_tokenAt 23 (.iload_n 2) 1 24 := ⟨by decide +kernel, rfl⟩
theorem dT_tokenAt_24 : Dc T_tokenAt 24 (.bipush 122) 2 26 := ⟨by decide +kernel, rfl⟩
theorem dT_tokenAt_26 : Dc T_tokenAt 26 (.if_icmp .gt 5) 3 29 := ⟨by decide +kernel, rfl⟩
theorem dT_tokenAt_29 : Dc T_tokenAt 29 (.iconst 1) 1 30 := ⟨by decide +kernel, rfl⟩
theorem dT_tokenAt_30 : Dc T_tokenAt 30 (.ireturn) 1 31 := ⟨by decide +kernel, rfl⟩
theorem dT_tokenAt_31 : Dc T_tokenAt 31 (.iload_n 2) 1 32 := ⟨by decide +kernel, rfl⟩
theorem dT_tokenAt_32 : Dc T_tokenAt 32 (.bipush 48) 2 34 := ⟨by decide +kernel, rfl⟩
theorem dT_tokenAt_34 : Dc T_tokenAt 34 (.if_icmp .lt 11) 3 37 := ⟨by decide +kernel, rfl⟩
theorem dT_tokenAt_37 : Dc T_tokenAt 37 (.iload_n 2) 1 38 := ⟨by decide +kernel, rfl⟩
theorem dT_tokenAt_38 : Dc T_tokenAt 38 (.bipush 57) 2 40 := ⟨by decide +kernel, rfl⟩
theorem dT_tokenAt_40 : Dc T_tokenAt 40 (.if_icmp .gt 5) 3 43 := ⟨by decide +kernel, rfl⟩
theorem dT_tokenAt_43 : Dc T_tokenAt 43 (.iconst 2) 1 44 := ⟨by decide +kernel, rfl⟩
theorem dT_tokenAt_44 : Dc T_tokenAt 44 (.ireturn) 1 45 := ⟨by decide +kernel, rfl⟩
theorem dT_tokenAt_45 : Dc T_tokenAt 45 (.iload_n 2) 1 46 := ⟨by decide +kernel, rfl⟩
theorem dT_tokenAt_46 : Dc T_tokenAt 46 (.bipush 59) 2 48 := ⟨by decide +kernel, rfl⟩
theorem dT_tokenAt_48 : Dc T_tokenAt 48 (.if_icmp .ne 5) 3 51 := ⟨by decide +kernel, rfl⟩
theorem dT_tokenAt_51 : Dc T_tokenAt 51 (.iconst 3) 1 52 := ⟨by decide +kernel, rfl⟩
theorem dT_tokenAt_52 : Dc T_tokenAt 52 (.ireturn) 1 53 := ⟨by decide +kernel, rfl⟩
theorem dT_tokenAt_53 : Dc T_tokenAt 53 (.iload_n 2) 1 54 := ⟨by decide +kernel, rfl⟩
theorem dT_tokenAt_54 : Dc T_tokenAt 54 (.bipush 32) 2 56 := ⟨by decide +kernel, rfl⟩
theorem dT_tokenAt_56 : Dc T_tokenAt 56 (.if_icmp .ne 7) 3 59 := ⟨by decide +kernel, rfl⟩
theorem dT_tokenAt_59 : Dc T_tokenAt 59 (.iconst 4) 1 60 := ⟨by decide +kernel, rfl⟩
theorem dT_tokenAt_60 : Dc T_tokenAt 60 (.goto 4) 3 63 := ⟨by decide +kernel, rfl⟩
theorem dT_tokenAt_63 : Dc T_tokenAt 63 (.iconst 5) 1 64 := ⟨by decide +kernel, rfl⟩
theorem dT_tokenAt_64 : Dc T_tokenAt 64 (.ireturn) 1 65 := ⟨by decide +kernel, rfl⟩
theorem dT_isLong_0 : Dc T_isLong 0 (.iload_n 0) 1 1 := ⟨by decide +kernel, rfl⟩
theorem dT_isLong_1 : Dc T_isLong 1 (.iconst 1) 1 2 := ⟨by decide +kernel, rfl⟩
theorem dT_isLong_2 : Dc T_isLong 2 (.if_icmp .eq 8) 3 5 := ⟨by decide +kernel, rfl⟩
theorem dT_isLong_5 : Dc T_isLong 5 (.iload_n 0) 1 6 := ⟨by decide +kernel, rfl⟩
theorem dT_isLong_6 : Dc T_isLong 6 (.iconst 2) 1 7 := ⟨by decide +kernel, rfl⟩
theorem dT_isLong_7 : Dc T_isLong 7 (.if_icmp .ne 7) 3 10 := ⟨by decide +kernel, rfl⟩
theorem dT_isLong_10 : Dc T_isLong 10 (.iconst 1) 1 11 := ⟨by decide +kernel, rfl⟩
theorem dT_isLong_11 : Dc T_isLong 11 (.goto 4) 3 14 := ⟨by decide +kernel, rfl⟩
theorem dT_isLong_14 : Dc T_isLong 14 (.iconst 0) 1 15 := ⟨by decide +kernel, rfl⟩
theorem dT_isLong_15 : Dc T_isLong 15 (.ireturn) 1 16 := ⟨by decide +kernel, rfl⟩
theorem dT_readItem_0 : Dc T_readItem 0 (.aload_n 0) 1 1 := ⟨by decide +kernel, rfl⟩
theorem dT_readItem_1 : Dc T_readItem 1 (.invokevirtual 39) 3 4 := ⟨by decide +kernel, rfl⟩
theorem dT_readItem_4 : Dc T_readItem 4 (.istore_n 2) 1 5 := ⟨by decide +kernel, rfl⟩
theorem dT_readItem_5 : Dc T_readItem 5 (.iload_n 2) 1 6 := ⟨by decide +kernel, rfl⟩
theorem dT_readItem_6 : Dc T_readItem 6 (.iconst (-1)) 1 7 := ⟨by decide +kernel, rfl⟩
theorem dT_readItem_7 : Dc T_readItem 7 (.if_icmp .eq 10) 3 10 := ⟨by decide +kernel, rfl⟩
theorem dT_readItem_10 : Dc T_readItem 10 (.aload_n 0) 1 11 := ⟨by decide +kernel, rfl⟩
theorem dT_readItem_11 : Dc T_readItem 11 (.aload_n 1) 1 12 := ⟨by decide +kernel, rfl⟩
theorem dT_readItem_12 : Dc T_readItem 12 (.iload_n 2) 1 13 := ⟨by decide +kernel, rfl⟩
theorem dT_readItem_13 : Dc T_readItem 13 (.invokevirtual 43) 3 16 := ⟨by decide +kernel, rfl⟩
theorem dT_readItem_16 : Dc T_readItem 16 (.ireturn) 1 17 := ⟨by decide +kernel, rfl⟩
theorem dT_readItem_17 : Dc T_readItem 17 (.aload_n 0) 1 18 := ⟨by decide +kernel, rfl⟩
theorem dT_readItem_18 : Dc T_readItem 18 (.ldc 47) 2 20 := ⟨by decide +kernel, rfl⟩
theorem dT_readItem_20 : Dc T_readItem 20 (.invokevirtual 49) 3 23 := ⟨by decide +kernel, rfl⟩
theorem dT_readItem_23 : Dc T_readItem 23 (.ifCond .eq 9) 3 26 := ⟨by decide +kernel, rfl⟩
theorem dT_readItem_26 : Dc T_readItem 26 (.aload_n 0) 1 27 := ⟨by decide +kernel, rfl⟩
theorem dT_readItem_27 : Dc T_readItem 27 (.aload_n 1) 1 28 := ⟨by decide +kernel, rfl⟩
theorem dT_readItem_28 : Dc T_readItem 28 (.invokevirtual 53) 3 31 := ⟨by decide +kernel, rfl⟩
theorem dT_readItem_31 : Dc T_readItem 31 (.ireturn) 1 32 := ⟨by decide +kernel, rfl⟩
theorem dT_readItem_32 : Dc T_readItem 32 (.aload_n 0) 1 33 := ⟨by decide +kernel, rfl⟩
theorem dT_readItem_33 : Dc T_readItem 33 (.ldc 56) 2 35 := ⟨by decide +kernel, rfl⟩
theorem dT_readItem_35 : Dc T_readItem 35 (.invokevirtual 49) 3 38 := ⟨by decide +kernel, rfl⟩
theorem dT_readItem_38 : Dc T_readItem 38 (.ifCond .eq 9) 3 41 := ⟨by decide +kernel, rfl⟩
theorem dT_readItem_41 : Dc T_readItem 41 (.aload_n 0) 1 42 := ⟨by decide +kernel, rfl⟩
theorem dT_readItem_42 : Dc T_readItem 42 (.aload_n 1) 1 43 := ⟨by decide +kernel, rfl⟩
theorem dT_readItem_43 : Dc T_readItem 43 (.invokevirtual 58) 3 46 := ⟨by decide +kernel, rfl⟩
theorem dT_readItem_46 : Dc T_readItem 46 (.ireturn) 1 47 := ⟨by decide +kernel, rfl⟩
theorem dT_readItem_47 : Dc T_readItem 47 (.aload_n 0) 1 48 := ⟨by decide +kernel, rfl⟩
theorem dT_readItem_48 : Dc T_readItem 48 (.ldc 61) 2 50 := ⟨by decide +kernel, rfl⟩
theorem dT_readItem_50 : Dc T_readItem 50 (.invokevirtual 49) 3 53 := ⟨by decide +kernel, rfl⟩
theorem dT_readItem_53 : Dc T_readItem 53 (.ifCond .eq 9) 3 56 := ⟨by decide +kernel, rfl⟩
theorem dT_readItem_56 : Dc T_readItem 56 (.aload_n 0) 1 57 := ⟨by decide +kernel, rfl⟩
theorem dT_readItem_57 : Dc T_readItem 57 (.aload_n 1) 1 58 := ⟨by decide +kernel, rfl⟩
theorem dT_readItem_58 : Dc T_readItem 58 (.invokevirtual 63) 3 61 := ⟨by decide +kernel, rfl⟩
theorem dT_readItem_61 : Dc T_readItem 61 (.ireturn) 1 62 := ⟨by decide +kernel, rfl⟩
theorem dT_readItem_62 : Dc T_readItem 62 (.iconst 0) 1 63 := ⟨by decide +kernel, rfl⟩
theorem dT_readItem_63 : Dc T_readItem 63 (.ireturn) 1 64 := ⟨by decide +kernel, rfl⟩
theorem dT_kindOfWord_0 : Dc T_kindOfWord 0 (.iconst 0) 1 1 := ⟨by decide +kernel, rfl⟩
theorem dT_kindOfWord_1 : Dc T_kindOfWord 1 (.istore_n 1) 1 2 := ⟨by decide +kernel, rfl⟩
theorem dT_kindOfWord_2 : Dc T_kindOfWord 2 (.iload_n 1) 1 3 := ⟨by decide +kernel, rfl⟩
theorem dT_kindOfWord_3 : Dc T_kindOfWord 3 (.bipush 7) 2 5 := ⟨by decide +kernel, rfl⟩
theorem dT_kindOfWord_5 : Dc T_kindOfWord 5 (.if_icmp .ge 22) 3 8 := ⟨by decide +kernel, rfl⟩
theorem dT_kindOfWord_8 : Dc T_kindOfWord 8 (.aload_n 0) 1 9 := ⟨by decide +kernel, rfl⟩
theorem dT_kindOfWord_9 : Dc T_kindOfWord 9 (.iload_n 1) 1 10 := ⟨by decide +kernel, rfl⟩
theorem dT_kindOfWord_10 : Dc T_kindOfWord 10 (.invokestatic 101) 3 13 := ⟨by decide +kernel, rfl⟩
theorem dT_kindOfWord_13 : Dc T_kindOfWord 13 (.invokevirtual 105) 3 16 := ⟨by decide +kernel, rfl⟩
theorem dT_kindOfWord_16 : Dc T_kindOfWord 16 (.ifCond .eq 5) 3 19 := ⟨by decide +kernel, rfl⟩
theorem dT_kindOfWord_19 : Dc T_kindOfWord 19 (.iload_n 1) 1 20 := ⟨by decide +kernel, rfl⟩
theorem dT_kindOfWord_20 : Dc T_kindOfWord 20 (.ireturn) 1 21 := ⟨by decide +kernel, rfl⟩
theorem dT_kindOfWord_21 : Dc T_kindOfWord 21 (.iinc 1 1) 3 24 := ⟨by decide +kernel, rfl⟩
theorem dT_kindOfWord_24 : Dc T_kindOfWord 24 (.goto (-22)) 3 27 := ⟨by decide +kernel, rfl⟩
theorem dT_kindOfWord_27 : Dc T_kindOfWord 27 (.iconst (-1)) 1 28 := ⟨by decide +kernel, rfl⟩
theorem dT_kindOfWord_28 : Dc T_kindOfWord 28 (.ireturn) 1 29 := ⟨by decide +kernel, rfl⟩
theorem dT_nameOf_0 : Dc T_nameOf 0 (.iload_n 0) 1 1 := ⟨by decide +kernel, rfl⟩
theorem dT_nameOf_1 : Dc T_nameOf 1 (.tableswitch 57 1 6 #[39, 42, 45, 48, 51, 54]) 39 40 := ⟨by decide +kernel, rfl⟩
theorem dT_nameOf_40 : Dc T_nameOf 40 (.ldc 108) 2 42 := ⟨by decide +kernel, rfl⟩
theorem dT_nameOf_42 : Dc T_nameOf 42 (.areturn) 1 43 := ⟨by decide +kernel, rfl⟩
theorem dT_nameOf_43 : Dc T_nameOf 43 (.ldc 110) 2 45 := ⟨by decide +kernel, rfl⟩
theorem dT_nameOf_45 : Dc T_nameOf 45 (.areturn) 1 46 := ⟨by decide +kernel, rfl⟩
theorem dT_nameOf_46 : Dc T_nameOf 46 (.ldc 112) 2 48 := ⟨by decide +kernel, rfl⟩
theorem dT_nameOf_48 : Dc T_nameOf 48 (.areturn) 1 49 := ⟨by decide +kernel, rfl⟩
theorem dT_nameOf_49 : Dc T_nameOf 49 (.ldc 114) 2 51 := ⟨by decide +kernel, rfl⟩
theorem dT_nameOf_51 : Dc T_nameOf 51 (.areturn) 1 52 := ⟨by decide +kernel, rfl⟩
theorem dT_nameOf_52 : Dc T_nameOf 52 (.ldc 116) 2 54 := ⟨by decide +kernel, rfl⟩
theorem dT_nameOf_54 : Dc T_nameOf 54 (.areturn) 1 55 := ⟨by decide +kernel, rfl⟩
theorem dT_nameOf_55 : Dc T_nameOf 55 (.ldc 118) 2 57 := ⟨by decide +kernel, rfl⟩
theorem dT_nameOf_57 : Dc T_nameOf 57 (.areturn) 1 58 := ⟨by decide +kernel, rfl⟩
theorem dT_nameOf_58 : Dc T_nameOf 58 (.ldc 120) 2 60 := ⟨by decide +kernel, rfl⟩
theorem dT_nameOf_60 : Dc T_nameOf 60 (.areturn) 1 61 := ⟨by decide +kernel, rfl⟩
theorem dT_isWord_0 : Dc T_isWord 0 (.aload_n 0) 1 1 := ⟨by decide +kernel, rfl⟩
theorem dT_isWord_1 : Dc T_isWord 1 (.getfield 25) 3 4 := ⟨by decide +kernel, rfl⟩
theorem dT_isWord_4 : Dc T_isWord 4 (.iconst 1) 1 5 := ⟨by decide +kernel, rfl⟩
theorem dT_isWord_5 : Dc T_isWord 5 (.if_icmp .ne 19) 3 8 := ⟨by decide +kernel, rfl⟩
theorem dT_isWord_8 : Dc T_isWord 8 (.aload_n 0) 1 9 := ⟨by decide +kernel, rfl⟩
theorem dT_isWord_9 : Dc T_isWord 9 (.getfield 22) 3 12 := ⟨by decide +kernel, rfl⟩
theorem dT_isWord_12 : Dc T_isWord 12 (.aload_n 0) 1 13 := ⟨by decide +kernel, rfl⟩
theorem dT_isWord_13 : Dc T_isWord 13 (.getfield 19) 3 16 := ⟨by decide +kernel, rfl⟩
theorem dT_isWord_16 : Dc T_isWord 16 (.isub) 1 17 := ⟨by decide +kernel, rfl⟩
theorem dT_isWord_17 : Dc T_isWord 17 (.aload_n 1) 1 18 := ⟨by decide +kernel, rfl⟩
theorem dT_isWord_18 : Dc T_isWord 18 (.invokevirtual 122) 3 21 := ⟨by decide +kernel, rfl⟩
theorem dT_isWord_21 : Dc T_isWord 21 (.if_icmp .eq 5) 3 24 := ⟨by decide +kernel, rfl⟩
theorem dT_isWord_24 : Dc T_isWord 24 (.iconst 0) 1 25 := ⟨by decide +kernel, rfl⟩
theorem dT_isWord_25 : Dc T_isWord 25 (.ireturn) 1 26 := ⟨by decide +kernel, rfl⟩
theorem dT_isWord_26 : Dc T_isWord 26 (.iconst 0) 1 27 := ⟨by decide +kernel, rfl⟩
theorem dT_isWord_27 : Dc T_isWord 27 (.istore_n 2) 1 28 := ⟨by decide +kernel, rfl⟩
theorem dT_isWord_28 : Dc T_isWord 28 (.iload_n 2) 1 29 := ⟨by decide +kernel, rfl⟩
theorem dT_isWord_29 : Dc T_isWord 29 (.aload_n 1) 1 30 := ⟨by decide +kernel, rfl⟩
theorem dT_isWord_30 : Dc T_isWord 30 (.invokevirtual 122) 3 33 := ⟨by decide +kernel, rfl⟩
theorem dT_isWord_33 : Dc T_isWord 33 (.if_icmp .ge 30) 3 36 := ⟨by decide +kernel, rfl⟩
theorem dT_isWord_36 : Dc T_isWord 36 (.aload_n 0) 1 37 := ⟨by decide +kernel, rfl⟩
theorem dT_isWord_37 : Dc T_isWord 37 (.getfield 9) 3 40 := ⟨by decide +kernel, rfl⟩
theorem dT_isWord_40 : Dc T_isWord 40 (.aload_n 0) 1 41 := ⟨by decide +kernel, rfl⟩
theorem dT_isWord_41 : Dc T_isWord 41 (.getfield 19) 3 44 := ⟨by decide +kernel, rfl⟩
theorem dT_isWord_44 : Dc T_isWord 44 (.iload_n 2) 1 45 := ⟨by decide +kernel, rfl⟩
theorem dT_isWord_45 : Dc T_isWord 45 (.iadd) 1 46 := ⟨by decide +kernel, rfl⟩
theorem dT_isWord_46 : Dc T_isWord 46 (.iaload) 1 47 := ⟨by decide +kernel, rfl⟩
theorem dT_isWord_47 : Dc T_isWord 47 (.aload_n 1) 1 48 := ⟨by decide +kernel, rfl⟩
theorem dT_isWord_48 : Dc T_isWord 48 (.iload_n 2) 1 49 := ⟨by decide +kernel, rfl⟩
theorem dT_isWord_49 : Dc T_isWord 49 (.invokevirtual 126) 3 52 := ⟨by decide +kernel, rfl⟩
theorem dT_isWord_52 : Dc T_isWord 52 (.if_icmp .eq 5) 3 55 := ⟨by decide +kernel, rfl⟩
theorem dT_isWord_55 : Dc T_isWord 55 (.iconst 0) 1 56 := ⟨by decide +kernel, rfl⟩
theorem dT_isWord_56 : Dc T_isWord 56 (.ireturn) 1 57 := ⟨by decide +kernel, rfl⟩
theorem dT_isWord_57 : Dc T_isWord 57 (.iinc 2 1) 3 60 := ⟨by decide +kernel, rfl⟩
theorem dT_isWord_60 : Dc T_isWord 60 (.goto (-32)) 3 63 := ⟨by decide +kernel, rfl⟩
theorem dT_isWord_63 : Dc T_isWord 63 (.iconst 1) 1 64 := ⟨by decide +kernel, rfl⟩
theorem dT_isWord_64 : Dc T_isWord 64 (.ireturn) 1 65 := ⟨by decide +kernel, rfl⟩
theorem dJS_length_0 : Dc JS_length 0 (.aload_n 0) 1 1 := ⟨by decide +kernel, rfl⟩
theorem dJS_length_1 : Dc JS_length 1 (.getfield 9) 3 4 := ⟨by decide +kernel, rfl⟩
theorem dJS_length_4 : Dc JS_length 4 (.arraylength) 1 5 := ⟨by decide +kernel, rfl⟩
theorem dJS_length_5 : Dc JS_length 5 (.aload_n 0) 1 6 := ⟨by decide +kernel, rfl⟩
theorem dJS_length_6 : Dc JS_length 6 (.invokevirtual 335) 3 9 := ⟨by decide +kernel, rfl⟩
theorem dJS_length_9 : Dc JS_length 9 (.ishr) 1 10 := ⟨by decide +kernel, rfl⟩
theorem dJS_length_10 : Dc JS_length 10 (.ireturn) 1 11 := ⟨by decide +kernel, rfl⟩
theorem dJS_coder_0 : Dc JS_coder 0 (.getstatic 38) 3 3 := ⟨by decide +kernel, rfl⟩
theorem dJS_coder_3 : Dc JS_coder 3 (.ifCond .eq 10) 3 6 := ⟨by decide +kernel, rfl⟩
theorem dJS_coder_6 : Dc JS_coder 6 (.aload_n 0) 1 7 := ⟨by decide +kernel, rfl⟩
theorem dJS_coder_7 : Dc JS_coder 7 (.getfield 15) 3 10 := ⟨by decide +kernel, rfl⟩
theorem dJS_coder_10 : Dc JS_coder 10 (.goto 4) 3 13 := ⟨by decide +kernel, rfl⟩
theorem dJS_coder_13 : Dc JS_coder 13 (.iconst 1) 1 14 := ⟨by decide +kernel, rfl⟩
theorem dJS_coder_14 : Dc JS_coder 14 (.ireturn) 1 15 := ⟨by decide +kernel, rfl⟩
theorem dJS_charAt_0 : Dc JS_charAt 0 (.aload_n 0) 1 1 := ⟨by decide +kernel, rfl⟩
theorem dJS_charAt_1 : Dc JS_charAt 1 (.invokevirtual 492) 3 4 := ⟨by decide +kernel, rfl⟩
theorem dJS_charAt_4 : Dc JS_charAt 4 (.ifCond .eq 12) 3 7 := ⟨by decide +kernel, rfl⟩
theorem dJS_charAt_7 : Dc JS_charAt 7 (.aload_n 0) 1 8 := ⟨by decide +kernel, rfl⟩
theorem dJS_charAt_8 : Dc JS_charAt 8 (.getfield 9) 3 11 := ⟨by decide +kernel, rfl⟩
theorem dJS_charAt_11 : Dc JS_charAt 11 (.iload_n 1) 1 12 := ⟨by decide +kernel, rfl⟩
theorem dJS_charAt_12 : Dc JS_charAt 12 (.invokestatic 495) 3 15 := ⟨by decide +kernel, rfl⟩
theorem dJS_charAt_15 : Dc JS_charAt 15 (.ireturn) 1 16 := ⟨by decide +kernel, rfl⟩
theorem dJS_charAt_16 : Dc JS_charAt 16 (.aload_n 0) 1 17 := ⟨by decide +kernel, rfl⟩
theorem dJS_charAt_17 : Dc JS_charAt 17 (.getfield 9) 3 20 := ⟨by decide +kernel, rfl⟩
theorem dJS_charAt_20 : Dc JS_charAt 20 (.iload_n 1) 1 21 := ⟨by decide +kernel, rfl⟩
theorem dJS_charAt_21 : Dc JS_charAt 21 (.invokestatic 498) 3 24 := ⟨by decide +kernel, rfl⟩
theorem dJS_charAt_24 : Dc JS_charAt 24 (.ireturn) 1 25 := ⟨by decide +kernel, rfl⟩
theorem dJS_isLatin1_0 : Dc JS_isLatin1 0 (.getstatic 38) 3 3 := ⟨by decide +kernel, rfl⟩
theorem dJS_isLatin1_3 : Dc JS_isLatin1 3 (.ifCond .eq 14) 3 6 := ⟨by decide +kernel, rfl⟩
theorem dJS_isLatin1_6 : Dc JS_isLatin1 6 (.aload_n 0) 1 7 := ⟨by decide +kernel, rfl⟩
theorem dJS_isLatin1_7 : Dc JS_isLatin1 7 (.getfield 15) 3 10 := ⟨by decide +kernel, rfl⟩
theorem dJS_isLatin1_10 : Dc JS_isLatin1 10 (.ifCond .ne 7) 3 13 := ⟨by decide +kernel, rfl⟩
theorem dJS_isLatin1_13 : Dc JS_isLatin1 13 (.iconst 1) 1 14 := ⟨by decide +kernel, rfl⟩
theorem dJS_isLatin1_14 : Dc JS_isLatin1 14 (.goto 4) 3 17 := ⟨by decide +kernel, rfl⟩
theorem dJS_isLatin1_17 : Dc JS_isLatin1 17 (.iconst 0) 1 18 := ⟨by decide +kernel, rfl⟩
theorem dJS_isLatin1_18 : Dc JS_isLatin1 18 (.ireturn) 1 19 := ⟨by decide +kernel, rfl⟩
theorem dJL_charAt_0 : Dc JL_charAt 0 (.iload_n 1) 1 1 := ⟨by decide +kernel, rfl⟩
theorem dJL_charAt_1 : Dc JL_charAt 1 (.aload_n 0) 1 2 := ⟨by decide +kernel, rfl⟩
theorem dJL_charAt_2 : Dc JL_charAt 2 (.arraylength) 1 3 := ⟨by decide +kernel, rfl⟩
theorem dJL_charAt_3 : Dc JL_charAt 3 (.invokestatic 9) 3 6 := ⟨by decide +kernel, rfl⟩
theorem dJL_charAt_6 : Dc JL_charAt 6 (.aload_n 0) 1 7 := ⟨by decide +kernel, rfl⟩
theorem dJL_charAt_7 : Dc JL_charAt 7 (.iload_n 1) 1 8 := ⟨by decide +kernel, rfl⟩
theorem dJL_charAt_8 : Dc JL_charAt 8 (.baload) 1 9 := ⟨by decide +kernel, rfl⟩
theorem dJL_charAt_9 : Dc JL_charAt 9 (.sipush 255) 3 12 := ⟨by decide +kernel, rfl⟩
theorem dJL_charAt_12 : Dc JL_charAt 12 (.iand) 1 13 := ⟨by decide +kernel, rfl⟩
theorem dJL_charAt_13 : Dc JL_charAt 13 (.i2c) 1 14 := ⟨by decide +kernel, rfl⟩
theorem dJL_charAt_14 : Dc JL_charAt 14 (.ireturn) 1 15 := ⟨by decide +kernel, rfl⟩
theorem dJS_checkIndex_0 : Dc JS_checkIndex 0 (.iload_n 0) 1 1 := ⟨by decide +kernel, rfl⟩
theorem dJS_checkIndex_1 : Dc JS_checkIndex 1 (.iload_n 1) 1 2 := ⟨by decide +kernel, rfl⟩
theorem dJS_checkIndex_2 : Dc JS_checkIndex 2 (.getstatic 1053) 3 5 := ⟨by decide +kernel, rfl⟩
theorem dJS_checkIndex_5 : Dc JS_checkIndex 5 (.invokestatic 1059) 3 8 := ⟨by decide +kernel, rfl⟩
theorem dJS_checkIndex_8 : Dc JS_checkIndex 8 (.pop) 1 9 := ⟨by decide +kernel, rfl⟩
theorem dJS_checkIndex_9 : Dc JS_checkIndex 9 (.return_) 1 10 := ⟨by decide +kernel, rfl⟩
theorem dJP_checkIndex_0 : Dc JP_checkIndex 0 (.iload_n 0) 1 1 := ⟨by decide +kernel, rfl⟩
theorem dJP_checkIndex_1 : Dc JP_checkIndex 1 (.ifCond .lt 8) 3 4 := ⟨by decide +kernel, rfl⟩
theorem dJP_checkIndex_4 : Dc JP_checkIndex 4 (.iload_n 0) 1 5 := ⟨by decide +kernel, rfl⟩
theorem dJP_checkIndex_5 : Dc JP_checkIndex 5 (.iload_n 1) 1 6 := ⟨by decide +kernel, rfl⟩
theorem dJP_checkIndex_6 : Dc JP_checkIndex 6 (.if_icmp .lt 10) 3 9 := ⟨by decide +kernel, rfl⟩
theorem dJP_checkIndex_9 : Dc JP_checkIndex 9 (.aload_n 2) 1 10 := ⟨by decide +kernel, rfl⟩
theorem dJP_checkIndex_10 : Dc JP_checkIndex 10 (.iload_n 0) 1 11 := ⟨by decide +kernel, rfl⟩
theorem dJP_checkIndex_11 : Dc JP_checkIndex 11 (.iload_n 1) 1 12 := ⟨by decide +kernel, rfl⟩
theorem dJP_checkIndex_12 : Dc JP_checkIndex 12 (.invokestatic 95) 3 15 := ⟨by decide +kernel, rfl⟩
theorem dJP_checkIndex_15 : Dc JP_checkIndex 15 (.athrow) 1 16 := ⟨by decide +kernel, rfl⟩
theorem dJP_checkIndex_16 : Dc JP_checkIndex 16 (.iload_n 0) 1 17 := ⟨by decide +kernel, rfl⟩
theorem dJP_checkIndex_17 : Dc JP_checkIndex 17 (.ireturn) 1 18 := ⟨by decide +kernel, rfl⟩
theorem dT_readSheep_0 : Dc T_readSheep 0 (.aload_n 1) 1 1 := ⟨by decide +kernel, rfl⟩
theorem dT_readSheep_1 : Dc T_readSheep 1 (.iload_n 2) 1 2 := ⟨by decide +kernel, rfl⟩
theorem dT_readSheep_2 : Dc T_readSheep 2 (.iconst 0) 1 3 := ⟨by decide +kernel, rfl⟩
theorem dT_readSheep_3 : Dc T_readSheep 3 (.invokevirtual 66) 3 6 := ⟨by decide +kernel, rfl⟩
theorem dT_readSheep_6 : Dc T_readSheep 6 (.istore_n 3) 1 7 := ⟨by decide +kernel, rfl⟩
theorem dT_readSheep_7 : Dc T_readSheep 7 (.iload_n 3) 1 8 := ⟨by decide +kernel, rfl⟩
theorem dT_readSheep_8 : Dc T_readSheep 8 (.iconst (-1)) 1 9 := ⟨by decide +kernel, rfl⟩
theorem dT_readSheep_9 : Dc T_readSheep 9 (.if_icmp .ne 5) 3 12 := ⟨by decide +kernel, rfl⟩
theorem dT_readSheep_12 : Dc T_readSheep 12 (.iconst 0) 1 13 := ⟨by decide +kernel, rfl⟩
theorem dT_readSheep_13 : Dc T_readSheep 13 (.ireturn) 1 14 := ⟨by decide +kernel, rfl⟩
theorem dT_readSheep_14 : Dc T_readSheep 14 (.aload_n 0) 1 15 := ⟨by decide +kernel, rfl⟩
theorem dT_readSheep_15 : Dc T_readSheep 15 (.invokevirtual 32) 3 18 := ⟨by decide +kernel, rfl⟩
theorem dT_readSheep_18 : Dc T_readSheep 18 (.aload_n 0) 1 19 := ⟨by decide +kernel, rfl⟩
theorem dT_readSheep_19 : Dc T_readSheep 19 (.ldc 72) 2 21 := ⟨by decide +kernel, rfl⟩
theorem dT_readSheep_21 : Dc T_readSheep 21 (.invokevirtual 49) 3 24 := ⟨by decide +kernel, rfl⟩
theorem dT_readSheep_24 : Dc T_readSheep 24 (.ifCond .eq 27) 3 27 := ⟨by decide +kernel, rfl⟩
theorem dT_readSheep_27 : Dc T_readSheep 27 (.aload_n 0) 1 28 := ⟨by decide +kernel, rfl⟩
theorem dT_readSheep_28 : Dc T_readSheep 28 (.bipush 15) 2 30 := ⟨by decide +kernel, rfl⟩
theorem dT_readSheep_30 : Dc T_readSheep 30 (.invokevirtual 74) 3 33 := ⟨by decide +kernel, rfl⟩
theorem dT_readSheep_33 : Dc T_readSheep 33 (.istore 4) 2 35 := ⟨by decide +kernel, rfl⟩
theorem dT_readSheep_35 : Dc T_readSheep 35 (.iload 4) 2 37 := ⟨by decide +kernel, rfl⟩
theorem dT_readSheep_37 : Dc T_readSheep 37 (.iconst (-1)) 1 38 := ⟨by decide +kernel, rfl⟩
theorem dT_readSheep_38 : Dc T_readSheep 38 (.if_icmp .ne 5) 3 41 := ⟨by decide +kernel, rfl⟩
theorem dT_readSheep_41 : Dc T_readSheep 41 (.iconst 0) 1 42 := ⟨by decide +kernel, rfl⟩
theorem dT_readSheep_42 : Dc T_readSheep 42 (.ireturn) 1 43 := ⟨by decide +kernel, rfl⟩
theorem dT_readSheep_43 : Dc T_readSheep 43 (.aload_n 1) 1 44 := ⟨by decide +kernel, rfl⟩
theorem dT_readSheep_44 : Dc T_readSheep 44 (.getfield 78) 3 47 := ⟨by decide +kernel, rfl⟩
theorem dT_readSheep_47 : Dc T_readSheep 47 (.iload_n 3) 1 48 := ⟨by decide +kernel, rfl⟩
theorem dT_readSheep_48 : Dc T_readSheep 48 (.iload 4) 2 50 := ⟨by decide +kernel, rfl⟩
theorem dT_readSheep_50 : Dc T_readSheep 50 (.iastore) 1 51 := ⟨by decide +kernel, rfl⟩
theorem dT_readSheep_51 : Dc T_readSheep 51 (.aload_n 0) 1 52 := ⟨by decide +kernel, rfl⟩
theorem dT_readSheep_52 : Dc T_readSheep 52 (.ldc 81) 2 54 := ⟨by decide +kernel, rfl⟩
theorem dT_readSheep_54 : Dc T_readSheep 54 (.invokevirtual 49) 3 57 := ⟨by decide +kernel, rfl⟩
theorem dT_readSheep_57 : Dc T_readSheep 57 (.ifCond .eq 27) 3 60 := ⟨by decide +kernel, rfl⟩
theorem dT_readSheep_60 : Dc T_readSheep 60 (.aload_n 0) 1 61 := ⟨by decide +kernel, rfl⟩
theorem dT_readSheep_61 : Dc T_readSheep 61 (.bipush 99) 2 63 := ⟨by decide +kernel, rfl⟩
theorem dT_readSheep_63 : Dc T_readSheep 63 (.invokevirtual 74) 3 66 := ⟨by decide +kernel, rfl⟩
theorem dT_readSheep_66 : Dc T_readSheep 66 (.istore 4) 2 68 := ⟨by decide +kernel, rfl⟩
theorem dT_readSheep_68 : Dc T_readSheep 68 (.iload 4) 2 70 := ⟨by decide +kernel, rfl⟩
theorem dT_readSheep_70 : Dc T_readSheep 70 (.iconst (-1)) 1 71 := ⟨by decide +kernel, rfl⟩
theorem dT_readSheep_71 : Dc T_readSheep 71 (.if_icmp .ne 5) 3 74 := ⟨by decide +kernel, rfl⟩
theorem dT_readSheep_74 : Dc T_readSheep 74 (.iconst 0) 1 75 := ⟨by decide +kernel, rfl⟩
theorem dT_readSheep_75 : Dc T_readSheep 75 (.ireturn) 1 76 := ⟨by decide +kernel, rfl⟩
theorem dT_readSheep_76 : Dc T_readSheep 76 (.aload_n 1) 1 77 := ⟨by decide +kernel, rfl⟩
theorem dT_readSheep_77 : Dc T_readSheep 77 (.getfield 83) 3 80 := ⟨by decide +kernel, rfl⟩
theorem dT_readSheep_80 : Dc T_readSheep 80 (.iload_n 3) 1 81 := ⟨by decide +kernel, rfl⟩
theorem dT_readSheep_81 : Dc T_readSheep 81 (.iload 4) 2 83 := ⟨by decide +kernel, rfl⟩
theorem dT_readSheep_83 : Dc T_readSheep 83 (.iastore) 1 84 := ⟨by decide +kernel, rfl⟩
theorem dT_readSheep_84 : Dc T_readSheep 84 (.aload_n 0) 1 85 := ⟨by decide +kernel, rfl⟩
theorem dT_readSheep_85 : Dc T_readSheep 85 (.ldc 85) 2 87 := ⟨by decide +kernel, rfl⟩
theorem dT_readSheep_87 : Dc T_readSheep 87 (.invokevirtual 49) 3 90 := ⟨by decide +kernel, rfl⟩
theorem dT_readSheep_90 : Dc T_readSheep 90 (.ifCond .eq 28) 3 93 := ⟨by decide +kernel, rfl⟩
theorem dT_readSheep_93 : Dc T_readSheep 93 (.aload_n 0) 1 94 := ⟨by decide +kernel, rfl⟩
theorem dT_readSheep_94 : Dc T_readSheep 94 (.sipush 9999) 3 97 := ⟨by decide +kernel, rfl⟩
theorem dT_readSheep_97 : Dc T_readSheep 97 (.invokevirtual 74) 3 100 := ⟨by decide +kernel, rfl⟩
theorem dT_readSheep_100 : Dc T_readSheep 100 (.istore 4) 2 102 := ⟨by decide +kernel, rfl⟩
theorem dT_readSheep_102 : Dc T_readSheep 102 (.iload 4) 2 104 := ⟨by decide +kernel, rfl⟩
theorem dT_readSheep_104 : Dc T_readSheep 104 (.iconst (-1)) 1 105 := ⟨by decide +kernel, rfl⟩
theorem dT_readSheep_105 : Dc T_readSheep 105 (.if_icmp .ne 5) 3 108 := ⟨by decide +kernel, rfl⟩
theorem dT_readSheep_108 : Dc T_readSheep 108 (.iconst 0) 1 109 := ⟨by decide +kernel, rfl⟩
theorem dT_readSheep_109 : Dc T_readSheep 109 (.ireturn) 1 110 := ⟨by decide +kernel, rfl⟩
theorem dT_readSheep_110 : Dc T_readSheep 110 (.aload_n 1) 1 111 := ⟨by decide +kernel, rfl⟩
theorem dT_readSheep_111 : Dc T_readSheep 111 (.getfield 87) 3 114 := ⟨by decide +kernel, rfl⟩
theorem dT_readSheep_114 : Dc T_readSheep 114 (.iload_n 3) 1 115 := ⟨by decide +kernel, rfl⟩
theorem dT_readSheep_115 : Dc T_readSheep 115 (.iload 4) 2 117 := ⟨by decide +kernel, rfl⟩
theorem dT_readSheep_117 : Dc T_readSheep 117 (.iastore) 1 118 := ⟨by decide +kernel, rfl⟩
theorem dT_readSheep_118 : Dc T_readSheep 118 (.iconst 1) 1 119 := ⟨by decide +kernel, rfl⟩
theorem dT_readSheep_119 : Dc T_readSheep 119 (.ireturn) 1 120 := ⟨by decide +kernel, rfl⟩
theorem dT_skipWord_0 : Dc T_skipWord 0 (.aload_n 0) 1 1 := ⟨by decide +kernel, rfl⟩
theorem dT_skipWord_1 : Dc T_skipWord 1 (.aload_n 1) 1 2 := ⟨by decide +kernel, rfl⟩
theorem dT_skipWord_2 : Dc T_skipWord 2 (.invokevirtual 105) 3 5 := ⟨by decide +kernel, rfl⟩
theorem dT_skipWord_5 : Dc T_skipWord 5 (.ifCond .ne 5) 3 8 := ⟨by decide +kernel, rfl⟩
theorem dT_skipWord_8 : Dc T_skipWord 8 (.iconst 0) 1 9 := ⟨by decide +kernel, rfl⟩
theorem dT_skipWord_9 : Dc T_skipWord 9 (.ireturn) 1 10 := ⟨by decide +kernel, rfl⟩
theorem dT_skipWord_10 : Dc T_skipWord 10 (.aload_n 0) 1 11 := ⟨by decide +kernel, rfl⟩
theorem dT_skipWord_11 : Dc T_skipWord 11 (.invokevirtual 32) 3 14 := ⟨by decide +kernel, rfl⟩
theorem dT_skipWord_14 : Dc T_skipWord 14 (.iconst 1) 1 15 := ⟨by decide +kernel, rfl⟩
theorem dT_skipWord_15 : Dc T_skipWord 15 (.ireturn) 1 16 := ⟨by decide +kernel, rfl⟩
theorem dT_takeNumber_0 : Dc T_takeNumber 0 (.aload_n 0) 1 1 := ⟨by decide +kernel, rfl⟩
theorem dT_takeNumber_1 : Dc T_takeNumber 1 (.getfield 25) 3 4 := ⟨by decide +kernel, rfl⟩
theorem dT_takeNumber_4 : Dc T_takeNumber 4 (.iconst 2) 1 5 := ⟨by decide +kernel, rfl⟩
theorem dT_takeNumber_5 : Dc T_takeNumber 5 (.if_icmp .eq 5) 3 8 := ⟨by decide +kernel, rfl⟩
theorem dT_takeNumber_8 : Dc T_takeNumber 8 (.iconst (-1)) 1 9 := ⟨by decide +kernel, rfl⟩
theorem dT_takeNumber_9 : Dc T_takeNumber 9 (.ireturn) 1 10 := ⟨by decide +kernel, rfl⟩
theorem dT_takeNumber_10 : Dc T_takeNumber 10 (.iconst 0) 1 11 := ⟨by decide +kernel, rfl⟩
theorem dT_takeNumber_11 : Dc T_takeNumber 11 (.istore_n 2) 1 12 := ⟨by decide +kernel, rfl⟩
theorem dT_takeNumber_12 : Dc T_takeNumber 12 (.aload_n 0) 1 13 := ⟨by decide +kernel, rfl⟩
theorem dT_takeNumber_13 : Dc T_takeNumber 13 (.getfield 19) 3 16 := ⟨by decide +kernel, rfl⟩
theorem dT_takeNumber_16 : Dc T_takeNumber 16 (.istore_n 3) 1 17 := ⟨by decide +kernel, rfl⟩
theorem dT_takeNumber_17 : Dc T_takeNumber 17 (.iload_n 3) 1 18 := ⟨by decide +kernel, rfl⟩
theorem dT_takeNumber_18 : Dc T_takeNumber 18 (.aload_n 0) 1 19 := ⟨by decide +kernel, rfl⟩
theorem dT_takeNumber_19 : Dc T_takeNumber 19 (.getfield 22) 3 22 := ⟨by decide +kernel, rfl⟩
theorem dT_takeNumber_22 : Dc T_takeNumber 22 (.if_icmp .ge 30) 3 25 := ⟨by decide +kernel, rfl⟩
theorem dT_takeNumber_25 : Dc T_takeNumber 25 (.iload_n 2) 1 26 := ⟨by decide +kernel, rfl⟩
theorem dT_takeNumber_26 : Dc T_takeNumber 26 (.bipush 10) 2 28 := ⟨by decide +kernel, rfl⟩
theorem dT_takeNumber_28 : Dc T_takeNumber 28 (.imul) 1 29 := ⟨by decide +kernel, rfl⟩
theorem dT_takeNumber_29 : Dc T_takeNumber 29 (.aload_n 0) 1 30 := ⟨by decide +kernel, rfl⟩
theorem dT_takeNumber_30 : Dc T_takeNumber 30 (.getfield 9) 3 33 := ⟨by decide +kernel, rfl⟩
theorem dT_takeNumber_33 : Dc T_takeNumber 33 (.iload_n 3) 1 34 := ⟨by decide +kernel, rfl⟩
theorem dT_takeNumber_34 : Dc T_takeNumber 34 (.iaload) 1 35 := ⟨by decide +kernel, rfl⟩
theorem dT_takeNumber_35 : Dc T_takeNumber 35 (.iadd) 1 36 := ⟨by decide +kernel, rfl⟩
theorem dT_takeNumber_36 : Dc T_takeNumber 36 (.bipush 48) 2 38 := ⟨by decide +kernel, rfl⟩
theorem dT_takeNumber_38 : Dc T_takeNumber 38 (.isub) 1 39 := ⟨by decide +kernel, rfl⟩
theorem dT_takeNumber_39 : Dc T_takeNumber 39 (.sipush 10000) 3 42 := ⟨by decide +kernel, rfl⟩
theorem dT_takeNumber_42 : Dc T_takeNumber 42 (.invokestatic 130) 3 45 := ⟨by decide +kernel, rfl⟩
theorem dT_takeNumber_45 : Dc T_takeNumber 45 (.istore_n 2) 1 46 := ⟨by decide +kernel, rfl⟩
theorem dT_takeNumber_46 : Dc T_takeNumber 46 (.iinc 3 1) 3 49 := ⟨by decide +kernel, rfl⟩
theorem dT_takeNumber_49 : Dc T_takeNumber 49 (.goto (-32)) 3 52 := ⟨by decide +kernel, rfl⟩
theorem dT_takeNumber_52 : Dc T_takeNumber 52 (.iload_n 2) 1 53 := ⟨by decide +kernel, rfl⟩
theorem dT_takeNumber_53 : Dc T_takeNumber 53 (.iload_n 1) 1 54 := ⟨by decide +kernel, rfl⟩
theorem dT_takeNumber_54 : Dc T_takeNumber 54 (.if_icmp .le 5) 3 57 := ⟨by decide +kernel, rfl⟩
theorem dT_takeNumber_57 : Dc T_takeNumber 57 (.iconst (-1)) 1 58 := ⟨by decide +kernel, rfl⟩
theorem dT_takeNumber_58 : Dc T_takeNumber 58 (.ireturn) 1 59 := ⟨by decide +kernel, rfl⟩
theorem dT_takeNumber_59 : Dc T_takeNumber 59 (.aload_n 0) 1 60 := ⟨by decide +kernel, rfl⟩
theorem dT_takeNumber_60 : Dc T_takeNumber 60 (.invokevirtual 32) 3 63 := ⟨by decide +kernel, rfl⟩
theorem dT_takeNumber_63 : Dc T_takeNumber 63 (.iload_n 2) 1 64 := ⟨by decide +kernel, rfl⟩
theorem dT_takeNumber_64 : Dc T_takeNumber 64 (.ireturn) 1 65 := ⟨by decide +kernel, rfl⟩
theorem dT_readFold_0 : Dc T_readFold 0 (.aload_n 0) 1 1 := ⟨by decide +kernel, rfl⟩
theorem dT_readFold_1 : Dc T_readFold 1 (.bipush 15) 2 3 := ⟨by decide +kernel, rfl⟩
theorem dT_readFold_3 : Dc T_readFold 3 (.invokevirtual 74) 3 6 := ⟨by decide +kernel, rfl⟩
theorem dT_readFold_6 : Dc T_readFold 6 (.istore_n 2) 1 7 := ⟨by decide +kernel, rfl⟩
theorem dT_readFold_7 : Dc T_readFold 7 (.iload_n 2) 1 8 := ⟨by decide +kernel, rfl⟩
theorem dT_readFold_8 : Dc T_readFold 8 (.iconst (-1)) 1 9 := ⟨by decide +kernel, rfl⟩
theorem dT_readFold_9 : Dc T_readFold 9 (.if_icmp .ne 5) 3 12 := ⟨by decide +kernel, rfl⟩
theorem dT_readFold_12 : Dc T_readFold 12 (.iconst 0) 1 13 := ⟨by decide +kernel, rfl⟩
theorem dT_readFold_13 : Dc T_readFold 13 (.ireturn) 1 14 := ⟨by decide +kernel, rfl⟩
theorem dT_readFold_14 : Dc T_readFold 14 (.aload_n 1) 1 15 := ⟨by decide +kernel, rfl⟩
theorem dT_readFold_15 : Dc T_readFold 15 (.iload_n 2) 1 16 := ⟨by decide +kernel, rfl⟩
theorem dT_readFold_16 : Dc T_readFold 16 (.putfield 89) 3 19 := ⟨by decide +kernel, rfl⟩
theorem dT_readFold_19 : Dc T_readFold 19 (.iconst 1) 1 20 := ⟨by decide +kernel, rfl⟩
theorem dT_readFold_20 : Dc T_readFold 20 (.ireturn) 1 21 := ⟨by decide +kernel, rfl⟩
theorem dT_readKeeper_0 : Dc T_readKeeper 0 (.aload_n 0) 1 1 := ⟨by decide +kernel, rfl⟩
theorem dT_readKeeper_1 : Dc T_readKeeper 1 (.bipush 15) 2 3 := ⟨by decide +kernel, rfl⟩
theorem dT_readKeeper_3 : Dc T_readKeeper 3 (.invokevirtual 74) 3 6 := ⟨by decide +kernel, rfl⟩
theorem dT_readKeeper_6 : Dc T_readKeeper 6 (.istore_n 2) 1 7 := ⟨by decide +kernel, rfl⟩
theorem dT_readKeeper_7 : Dc T_readKeeper 7 (.iload_n 2) 1 8 := ⟨by decide +kernel, rfl⟩
theorem dT_readKeeper_8 : Dc T_readKeeper 8 (.iconst (-1)) 1 9 := ⟨by decide +kernel, rfl⟩
theorem dT_readKeeper_9 : Dc T_readKeeper 9 (.if_icmp .ne 5) 3 12 := ⟨by decide +kernel, rfl⟩
theorem dT_readKeeper_12 : Dc T_readKeeper 12 (.iconst 0) 1 13 := ⟨by decide +kernel, rfl⟩
theorem dT_readKeeper_13 : Dc T_readKeeper 13 (.ireturn) 1 14 := ⟨by decide +kernel, rfl⟩
theorem dT_readKeeper_14 : Dc T_readKeeper 14 (.aload_n 1) 1 15 := ⟨by decide +kernel, rfl⟩
theorem dT_readKeeper_15 : Dc T_readKeeper 15 (.iload_n 2) 1 16 := ⟨by decide +kernel, rfl⟩
theorem dT_readKeeper_16 : Dc T_readKeeper 16 (.invokevirtual 91) 3 19 := ⟨by decide +kernel, rfl⟩
theorem dT_readKeeper_19 : Dc T_readKeeper 19 (.iconst 1) 1 20 := ⟨by decide +kernel, rfl⟩
theorem dT_readKeeper_20 : Dc T_readKeeper 20 (.ireturn) 1 21 := ⟨by decide +kernel, rfl⟩
theorem dT_readWolf_0 : Dc T_readWolf 0 (.aload_n 0) 1 1 := ⟨by decide +kernel, rfl⟩
theorem dT_readWolf_1 : Dc T_readWolf 1 (.bipush 15) 2 3 := ⟨by decide +kernel, rfl⟩
theorem dT_readWolf_3 : Dc T_readWolf 3 (.invokevirtual 74) 3 6 := ⟨by decide +kernel, rfl⟩
theorem dT_readWolf_6 : Dc T_readWolf 6 (.istore_n 2) 1 7 := ⟨by decide +kernel, rfl⟩
theorem dT_readWolf_7 : Dc T_readWolf 7 (.iload_n 2) 1 8 := ⟨by decide +kernel, rfl⟩
theorem dT_readWolf_8 : Dc T_readWolf 8 (.iconst (-1)) 1 9 := ⟨by decide +kernel, rfl⟩
theorem dT_readWolf_9 : Dc T_readWolf 9 (.if_icmp .ne 5) 3 12 := ⟨by decide +kernel, rfl⟩
theorem dT_readWolf_12 : Dc T_readWolf 12 (.iconst 0) 1 13 := ⟨by decide +kernel, rfl⟩
theorem dT_readWolf_13 : Dc T_readWolf 13 (.ireturn) 1 14 := ⟨by decide +kernel, rfl⟩
theorem dT_readWolf_14 : Dc T_readWolf 14 (.aload_n 1) 1 15 := ⟨by decide +kernel, rfl⟩
theorem dT_readWolf_15 : Dc T_readWolf 15 (.iload_n 2) 1 16 := ⟨by decide +kernel, rfl⟩
theorem dT_readWolf_16 : Dc T_readWolf 16 (.putfield 95) 3 19 := ⟨by decide +kernel, rfl⟩
theorem dT_readWolf_19 : Dc T_readWolf 19 (.aload_n 0) 1 20 := ⟨by decide +kernel, rfl⟩
theorem dT_readWolf_20 : Dc T_readWolf 20 (.ldc 97) 2 22 := ⟨by decide +kernel, rfl⟩
theorem dT_readWolf_22 : Dc T_readWolf 22 (.invokevirtual 49) 3 25 := ⟨by decide +kernel, rfl⟩
theorem dT_readWolf_25 : Dc T_readWolf 25 (.ifCond .eq 21) 3 28 := ⟨by decide +kernel, rfl⟩
theorem dT_readWolf_28 : Dc T_readWolf 28 (.aload_n 0) 1 29 := ⟨by decide +kernel, rfl⟩
theorem dT_readWolf_29 : Dc T_readWolf 29 (.iconst 5) 1 30 := ⟨by decide +kernel, rfl⟩
theorem dT_readWolf_30 : Dc T_readWolf 30 (.invokevirtual 74) 3 33 := ⟨by decide +kernel, rfl⟩
theorem dT_readWolf_33 : Dc T_readWolf 33 (.istore_n 3) 1 34 := ⟨by decide +kernel, rfl⟩
theorem dT_readWolf_34 : Dc T_readWolf 34 (.iload_n 3) 1 35 := ⟨by decide +kernel, rfl⟩
theorem dT_readWolf_35 : Dc T_readWolf 35 (.iconst (-1)) 1 36 := ⟨by decide +kernel, rfl⟩
theorem dT_readWolf_36 : Dc T_readWolf 36 (.if_icmp .ne 5) 3 39 := ⟨by decide +kernel, rfl⟩
theorem dT_readWolf_39 : Dc T_readWolf 39 (.iconst 0) 1 40 := ⟨by decide +kernel, rfl⟩
theorem dT_readWolf_40 : Dc T_readWolf 40 (.ireturn) 1 41 := ⟨by decide +kernel, rfl⟩
theorem dT_readWolf_41 : Dc T_readWolf 41 (.aload_n 1) 1 42 := ⟨by decide +kernel, rfl⟩
theorem dT_readWolf_42 : Dc T_readWolf 42 (.iload_n 3) 1 43 := ⟨by decide +kernel, rfl⟩
theorem dT_readWolf_43 : Dc T_readWolf 43 (.putfield 99) 3 46 := ⟨by decide +kernel, rfl⟩
theorem dT_readWolf_46 : Dc T_readWolf 46 (.iconst 1) 1 47 := ⟨by decide +kernel, rfl⟩
theorem dT_readWolf_47 : Dc T_readWolf 47 (.ireturn) 1 48 := ⟨by decide +kernel, rfl⟩
theorem dS_hold_0 : Dc S_hold 0 (.iload_n 1) 1 1 := ⟨by decide +kernel, rfl⟩
theorem dS_hold_1 : Dc S_hold 1 (.invokestatic 211) 3 4 := ⟨by decide +kernel, rfl⟩
theorem dS_hold_4 : Dc S_hold 4 (.ifCond .eq 19) 3 7 := ⟨by decide +kernel, rfl⟩
theorem dS_hold_7 : Dc S_hold 7 (.iload_n 2) 1 8 := ⟨by decide +kernel, rfl⟩
theorem dS_hold_8 : Dc S_hold 8 (.iconst (-1)) 1 9 := ⟨by decide +kernel, rfl⟩
theorem dS_hold_9 : Dc S_hold 9 (.if_icmp .eq 20) 3 12 := ⟨by decide +kernel, rfl⟩
theorem dS_hold_12 : Dc S_hold 12 (.aload_n 0) 1 13 := ⟨by decide +kernel, rfl⟩
theorem dS_hold_13 : Dc S_hold 13 (.getfield 12) 3 16 := ⟨by decide +kernel, rfl⟩
theorem dS_hold_16 : Dc S_hold 16 (.iload_n 2) 1 17 := ⟨by decide +kernel, rfl⟩
theorem dS_hold_17 : Dc S_hold 17 (.invokevirtual 100) 3 20 := ⟨by decide +kernel, rfl⟩
theorem dS_hold_20 : Dc S_hold 20 (.ifCond .ne 9) 3 23 := ⟨by decide +kernel, rfl⟩
theorem dS_hold_23 : Dc S_hold 23 (.aload_n 0) 1 24 := ⟨by decide +kernel, rfl⟩
theorem dS_hold_24 : Dc S_hold 24 (.iconst 0) 1 25 := ⟨by decide +kernel, rfl⟩
theorem dS_hold_25 : Dc S_hold 25 (.invokevirtual 61) 3 28 := ⟨by decide +kernel, rfl⟩
theorem dS_hold_28 : Dc S_hold 28 (.ireturn) 1 29 := ⟨by decide +kernel, rfl⟩
theorem dS_hold_29 : Dc S_hold 29 (.aload_n 0) 1 30 := ⟨by decide +kernel, rfl⟩
theorem dS_hold_30 : Dc S_hold 30 (.getfield 26) 3 33 := ⟨by decide +kernel, rfl⟩
theorem dS_hold_33 : Dc S_hold 33 (.iload_n 1) 1 34 := ⟨by decide +kernel, rfl⟩
theorem dS_hold_34 : Dc S_hold 34 (.iload_n 2) 1 35 := ⟨by decide +kernel, rfl⟩
theorem dS_hold_35 : Dc S_hold 35 (.iastore) 1 36 := ⟨by decide +kernel, rfl⟩
theorem dS_hold_36 : Dc S_hold 36 (.iconst 1) 1 37 := ⟨by decide +kernel, rfl⟩
theorem dS_hold_37 : Dc S_hold 37 (.ireturn) 1 38 := ⟨by decide +kernel, rfl⟩
theorem dS_isSpot_0 : Dc S_isSpot 0 (.iload_n 0) 1 1 := ⟨by decide +kernel, rfl⟩
theorem dS_isSpot_1 : Dc S_isSpot 1 (.iconst 0) 1 2 := ⟨by decide +kernel, rfl⟩
theorem dS_isSpot_2 : Dc S_isSpot 2 (.bipush 9) 2 4 := ⟨by decide +kernel, rfl⟩
theorem dS_isSpot_4 : Dc S_isSpot 4 (.invokestatic 81) 3 7 := ⟨by decide +kernel, rfl⟩
theorem dS_isSpot_7 : Dc S_isSpot 7 (.ireturn) 1 8 := ⟨by decide +kernel, rfl⟩
theorem dS_as_0 : Dc S_as 0 (.iload_n 1) 1 1 := ⟨by decide +kernel, rfl⟩
theorem dS_as_1 : Dc S_as 1 (.invokestatic 211) 3 4 := ⟨by decide +kernel, rfl⟩
theorem dS_as_4 : Dc S_as 4 (.ifCond .eq 10) 3 7 := ⟨by decide +kernel, rfl⟩
theorem dS_as_7 : Dc S_as 7 (.iload_n 2) 1 8 := ⟨by decide +kernel, rfl⟩
theorem dS_as_8 : Dc S_as 8 (.invokestatic 85) 3 11 := ⟨by decide +kernel, rfl⟩
theorem dS_as_11 : Dc S_as 11 (.ifCond .ne 9) 3 14 := ⟨by decide +kernel, rfl⟩
theorem dS_as_14 : Dc S_as 14 (.aload_n 0) 1 15 := ⟨by decide +kernel, rfl⟩
theorem dS_as_15 : Dc S_as 15 (.iconst 0) 1 16 := ⟨by decide +kernel, rfl⟩
theorem dS_as_16 : Dc S_as 16 (.invokevirtual 61) 3 19 := ⟨by decide +kernel, rfl⟩
theorem dS_as_19 : Dc S_as 19 (.ireturn) 1 20 := ⟨by decide +kernel, rfl⟩
theorem dS_as_20 : Dc S_as 20 (.aload_n 0) 1 21 := ⟨by decide +kernel, rfl⟩
theorem dS_as_21 : Dc S_as 21 (.getfield 26) 3 24 := ⟨by decide +kernel, rfl⟩
theorem dS_as_24 : Dc S_as 24 (.iload_n 1) 1 25 := ⟨by decide +kernel, rfl⟩
theorem dS_as_25 : Dc S_as 25 (.iaload) 1 26 := ⟨by decide +kernel, rfl⟩
theorem dS_as_26 : Dc S_as 26 (.istore_n 3) 1 27 := ⟨by decide +kernel, rfl⟩
theorem dS_as_27 : Dc S_as 27 (.aload_n 0) 1 28 := ⟨by decide +kernel, rfl⟩
theorem dS_as_28 : Dc S_as 28 (.getfield 12) 3 31 := ⟨by decide +kernel, rfl⟩
theorem dS_as_31 : Dc S_as 31 (.iload_n 3) 1 32 := ⟨by decide +kernel, rfl⟩
theorem dS_as_32 : Dc S_as 32 (.invokevirtual 100) 3 35 := ⟨by decide +kernel, rfl⟩
theorem dS_as_35 : Dc S_as 35 (.ifCond .ne 9) 3 38 := ⟨by decide +kernel, rfl⟩
theorem dS_as_38 : Dc S_as 38 (.aload_n 0) 1 39 := ⟨by decide +kernel, rfl⟩
theorem dS_as_39 : Dc S_as 39 (.iconst 5) 1 40 := ⟨by decide +kernel, rfl⟩
theorem dS_as_40 : Dc S_as 40 (.invokevirtual 61) 3 43 := ⟨by decide +kernel, rfl⟩
theorem dS_as_43 : Dc S_as 43 (.ireturn) 1 44 := ⟨by decide +kernel, rfl⟩
theorem dS_as_44 : Dc S_as 44 (.aload_n 0) 1 45 := ⟨by decide +kernel, rfl⟩
theorem dS_as_45 : Dc S_as 45 (.getfield 12) 3 48 := ⟨by decide +kernel, rfl⟩
theorem dS_as_48 : Dc S_as 48 (.getfield 112) 3 51 := ⟨by decide +kernel, rfl⟩
theorem dS_as_51 : Dc S_as 51 (.iload_n 3) 1 52 := ⟨by decide +kernel, rfl⟩
theorem dS_as_52 : Dc S_as 52 (.iaload) 1 53 := ⟨by decide +kernel, rfl⟩
theorem dS_as_53 : Dc S_as 53 (.iload_n 2) 1 54 := ⟨by decide +kernel, rfl⟩
theorem dS_as_54 : Dc S_as 54 (.invokestatic 214) 3 57 := ⟨by decide +kernel, rfl⟩
theorem dS_as_57 : Dc S_as 57 (.ifCond .ne 9) 3 60 := ⟨by decide +kernel, rfl⟩
theorem dS_as_60 : Dc S_as 60 (.aload_n 0) 1 61 := ⟨by decide +kernel, rfl⟩
theorem dS_as_61 : Dc S_as 61 (.iconst 2) 1 62 := ⟨by decide +kernel, rfl⟩
theorem dS_as_62 : Dc S_as 62 (.invokevirtual 61) 3 65 := ⟨by decide +kernel, rfl⟩
theorem dS_as_65 : Dc S_as 65 (.ireturn) 1 66 := ⟨by decide +kernel, rfl⟩
theorem dS_as_66 : Dc S_as 66 (.iload_n 3) 1 67 := ⟨by decide +kernel, rfl⟩
theorem dS_as_67 : Dc S_as 67 (.ireturn) 1 68 := ⟨by decide +kernel, rfl⟩
theorem dS_isUnder_0 : Dc S_isUnder 0 (.iload_n 0) 1 1 := ⟨by decide +kernel, rfl⟩
theorem dS_isUnder_1 : Dc S_isUnder 1 (.istore_n 2) 1 2 := ⟨by decide +kernel, rfl⟩
theorem dS_isUnder_2 : Dc S_isUnder 2 (.iconst 0) 1 3 := ⟨by decide +kernel, rfl⟩
theorem dS_isUnder_3 : Dc S_isUnder 3 (.istore_n 3) 1 4 := ⟨by decide +kernel, rfl⟩
theorem dS_isUnder_4 : Dc S_isUnder 4 (.iload_n 3) 1 5 := ⟨by decide +kernel, rfl⟩
theorem dS_isUnder_5 : Dc S_isUnder 5 (.bipush 7) 2 7 := ⟨by decide +kernel, rfl⟩
theorem dS_isUnder_7 : Dc S_isUnder 7 (.if_icmp .ge 26) 3 10 := ⟨by decide +kernel, rfl⟩
theorem dS_isUnder_10 : Dc S_isUnder 10 (.iload_n 2) 1 11 := ⟨by decide +kernel, rfl⟩
theorem dS_isUnder_11 : Dc S_isUnder 11 (.iconst (-1)) 1 12 := ⟨by decide +kernel, rfl⟩
theorem dS_isUnder_12 : Dc S_isUnder 12 (.if_icmp .eq 21) 3 15 := ⟨by decide +kernel, rfl⟩
theorem dS_isUnder_15 : Dc S_isUnder 15 (.iload_n 2) 1 16 := ⟨by decide +kernel, rfl⟩
theorem dS_isUnder_16 : Dc S_isUnder 16 (.iload_n 1) 1 17 := ⟨by decide +kernel, rfl⟩
theorem dS_isUnder_17 : Dc S_isUnder 17 (.if_icmp .ne 5) 3 20 := ⟨by decide +kernel, rfl⟩
theorem dS_isUnder_20 : Dc S_isUnder 20 (.iconst 1) 1 21 := ⟨by decide +kernel, rfl⟩
theorem dS_isUnder_21 : Dc S_isUnder 21 (.ireturn) 1 22 := ⟨by decide +kernel, rfl⟩
theorem dS_isUnder_22 : Dc S_isUnder 22 (.iload_n 2) 1 23 := ⟨by decide +kernel, rfl⟩
theorem dS_isUnder_23 : Dc S_isUnder 23 (.invokestatic 254) 3 26 := ⟨by decide +kernel, rfl⟩
theorem dS_isUnder_26 : Dc S_isUnder 26 (.istore_n 2) 1 27 := ⟨by decide +kernel, rfl⟩
theorem dS_isUnder_27 : Dc S_isUnder 27 (.iinc 3 1) 3 30 := ⟨by decide +kernel, rfl⟩
theorem dS_isUnder_30 : Dc S_isUnder 30 (.goto (-26)) 3 33 := ⟨by decide +kernel, rfl⟩
theorem dS_isUnder_33 : Dc S_isUnder 33 (.iconst 0) 1 34 := ⟨by decide +kernel, rfl⟩
theorem dS_isUnder_34 : Dc S_isUnder 34 (.ireturn) 1 35 := ⟨by decide +kernel, rfl⟩
theorem dS_kindAbove_0 : Dc S_kindAbove 0 (.iload_n 0) 1 1 := ⟨by decide +kernel, rfl⟩
theorem dS_kindAbove_1 : Dc S_kindAbove 1 (.tableswitch 47 1 6 #[39, 39, 41, 43, 39, 45]) 39 40 := ⟨by decide +kernel, rfl⟩
theorem dS_kindAbove_40 : Dc S_kindAbove 40 (.iconst 0) 1 41 := ⟨by decide +kernel, rfl⟩
theorem dS_kindAbove_41 : Dc S_kindAbove 41 (.ireturn) 1 42 := ⟨by decide +kernel, rfl⟩
theorem dS_kindAbove_42 : Dc S_kindAbove 42 (.iconst 2) 1 43 := ⟨by decide +kernel, rfl⟩
theorem dS_kindAbove_43 : Dc S_kindAbove 43 (.ireturn) 1 44 := ⟨by decide +kernel, rfl⟩
theorem dS_kindAbove_44 : Dc S_kindAbove 44 (.iconst 3) 1 45 := ⟨by decide +kernel, rfl⟩
theorem dS_kindAbove_45 : Dc S_kindAbove 45 (.ireturn) 1 46 := ⟨by decide +kernel, rfl⟩
theorem dS_kindAbove_46 : Dc S_kindAbove 46 (.iconst 1) 1 47 := ⟨by decide +kernel, rfl⟩
theorem dS_kindAbove_47 : Dc S_kindAbove 47 (.ireturn) 1 48 := ⟨by decide +kernel, rfl⟩
theorem dS_kindAbove_48 : Dc S_kindAbove 48 (.iconst (-1)) 1 49 := ⟨by decide +kernel, rfl⟩
theorem dS_kindAbove_49 : Dc S_kindAbove 49 (.ireturn) 1 50 := ⟨by decide +kernel, rfl⟩
theorem dS_sheet_0 : Dc S_sheet 0 (.iload_n 1) 1 1 := ⟨by decide +kernel, rfl⟩
theorem dS_sheet_1 : Dc S_sheet 1 (.invokestatic 174) 3 4 := ⟨by decide +kernel, rfl⟩
theorem dS_sheet_4 : Dc S_sheet 4 (.ifCond .eq 25) 3 7 := ⟨by decide +kernel, rfl⟩
theorem dS_sheet_7 : Dc S_sheet 7 (.iload_n 2) 1 8 := ⟨by decide +kernel, rfl⟩
theorem dS_sheet_8 : Dc S_sheet 8 (.ifCond .eq 27) 3 11 := ⟨by decide +kernel, rfl⟩
theorem dS_sheet_11 : Dc S_sheet 11 (.iload_n 2) 1 12 := ⟨by decide +kernel, rfl⟩
theorem dS_sheet_12 : Dc S_sheet 12 (.bipush 8) 2 14 := ⟨by decide +kernel, rfl⟩
theorem dS_sheet_14 : Dc S_sheet 14 (.if_icmp .eq 21) 3 17 := ⟨by decide +kernel, rfl⟩
theorem dS_sheet_17 : Dc S_sheet 17 (.iload_n 2) 1 18 := ⟨by decide +kernel, rfl⟩
theorem dS_sheet_18 : Dc S_sheet 18 (.bipush 16) 2 20 := ⟨by decide +kernel, rfl⟩
theorem dS_sheet_20 : Dc S_sheet 20 (.if_icmp .eq 15) 3 23 := ⟨by decide +kernel, rfl⟩
theorem dS_sheet_23 : Dc S_sheet 23 (.iload_n 2) 1 24 := ⟨by decide +kernel, rfl⟩
theorem dS_sheet_24 : Dc S_sheet 24 (.bipush 32) 2 26 := ⟨by decide +kernel, rfl⟩
theorem dS_sheet_26 : Dc S_sheet 26 (.if_icmp .eq 9) 3 29 := ⟨by decide +kernel, rfl⟩
theorem dS_sheet_29 : Dc S_sheet 29 (.aload_n 0) 1 30 := ⟨by decide +kernel, rfl⟩
theorem dS_sheet_30 : Dc S_sheet 30 (.iconst 0) 1 31 := ⟨by decide +kernel, rfl⟩
theorem dS_sheet_31 : Dc S_sheet 31 (.invokevirtual 61) 3 34 := ⟨by decide +kernel, rfl⟩
theorem dS_sheet_34 : Dc S_sheet 34 (.ireturn) 1 35 := ⟨by decide +kernel, rfl⟩
theorem dS_sheet_35 : Dc S_sheet 35 (.iload_n 3) 1 36 := ⟨by decide +kernel, rfl⟩
theorem dS_sheet_36 : Dc S_sheet 36 (.ifCond .ge 10) 3 39 := ⟨by decide +kernel, rfl⟩
theorem dS_sheet_39 : Dc S_sheet 39 (.aload_n 0) 1 40 := ⟨by decide +kernel, rfl⟩
theorem dS_sheet_40 : Dc S_sheet 40 (.bipush 6) 2 42 := ⟨by decide +kernel, rfl⟩
theorem dS_sheet_42 : Dc S_sheet 42 (.invokevirtual 61) 3 45 := ⟨by decide +kernel, rfl⟩
theorem dS_sheet_45 : Dc S_sheet 45 (.ireturn) 1 46 := ⟨by decide +kernel, rfl⟩
theorem dS_sheet_46 : Dc S_sheet 46 (.iload_n 3) 1 47 := ⟨by decide +kernel, rfl⟩
theorem dS_sheet_47 : Dc S_sheet 47 (.bipush 40) 2 49 := ⟨by decide +kernel, rfl⟩
theorem dS_sheet_49 : Dc S_sheet 49 (.if_icmp .le 9) 3 52 := ⟨by decide +kernel, rfl⟩
theorem dS_sheet_52 : Dc S_sheet 52 (.aload_n 0) 1 53 := ⟨by decide +kernel, rfl⟩
theorem dS_sheet_53 : Dc S_sheet 53 (.iconst 0) 1 54 := ⟨by decide +kernel, rfl⟩
theorem dS_sheet_54 : Dc S_sheet 54 (.invokevirtual 61) 3 57 := ⟨by decide +kernel, rfl⟩
theorem dS_sheet_57 : Dc S_sheet 57 (.ireturn) 1 58 := ⟨by decide +kernel, rfl⟩
theorem dS_sheet_58 : Dc S_sheet 58 (.aload_n 0) 1 59 := ⟨by decide +kernel, rfl⟩
theorem dS_sheet_59 : Dc S_sheet 59 (.getfield 50) 3 62 := ⟨by decide +kernel, rfl⟩
theorem dS_sheet_62 : Dc S_sheet 62 (.iload_n 1) 1 63 := ⟨by decide +kernel, rfl⟩
theorem dS_sheet_63 : Dc S_sheet 63 (.aaload) 1 64 := ⟨by decide +kernel, rfl⟩
theorem dS_sheet_64 : Dc S_sheet 64 (.iload_n 2) 1 65 := ⟨by decide +kernel, rfl⟩
theorem dS_sheet_65 : Dc S_sheet 65 (.iload_n 3) 1 66 := ⟨by decide +kernel, rfl⟩
theorem dS_sheet_66 : Dc S_sheet 66 (.invokevirtual 217) 3 69 := ⟨by decide +kernel, rfl⟩
theorem dS_sheet_69 : Dc S_sheet 69 (.aload_n 0) 1 70 := ⟨by decide +kernel, rfl⟩
theorem dS_sheet_70 : Dc S_sheet 70 (.getfield 50) 3 73 := ⟨by decide +kernel, rfl⟩
theorem dS_sheet_73 : Dc S_sheet 73 (.iload_n 1) 1 74 := ⟨by decide +kernel, rfl⟩
theorem dS_sheet_74 : Dc S_sheet 74 (.aaload) 1 75 := ⟨by decide +kernel, rfl⟩
theorem dS_sheet_75 : Dc S_sheet 75 (.getfield 221) 3 78 := ⟨by decide +kernel, rfl⟩
theorem dS_sheet_78 : Dc S_sheet 78 (.ireturn) 1 79 := ⟨by decide +kernel, rfl⟩
theorem dE_begin_0 : Dc E_begin 0 (.aload_n 0) 1 1 := ⟨by decide +kernel, rfl⟩
theorem dE_begin_1 : Dc E_begin 1 (.iload_n 1) 1 2 := ⟨by decide +kernel, rfl⟩
theorem dE_begin_2 : Dc E_begin 2 (.putfield 9) 3 5 := ⟨by decide +kernel, rfl⟩
theorem dE_begin_5 : Dc E_begin 5 (.aload_n 0) 1 6 := ⟨by decide +kernel, rfl⟩
theorem dE_begin_6 : Dc E_begin 6 (.iload_n 1) 1 7 := ⟨by decide +kernel, rfl⟩
theorem dE_begin_7 : Dc E_begin 7 (.ifCond .ne 7) 3 10 := ⟨by decide +kernel, rfl⟩
theorem dE_begin_10 : Dc E_begin 10 (.iconst 0) 1 11 := ⟨by decide +kernel, rfl⟩
theorem dE_begin_11 : Dc E_begin 11 (.goto 4) 3 14 := ⟨by decide +kernel, rfl⟩
theorem dE_begin_14 : Dc E_begin 14 (.iload_n 2) 1 15 := ⟨by decide +kernel, rfl⟩
theorem dE_begin_15 : Dc E_begin 15 (.putfield 15) 3 18 := ⟨by decide +kernel, rfl⟩
theorem dE_begin_18 : Dc E_begin 18 (.iconst 0) 1 19 := ⟨by decide +kernel, rfl⟩
theorem dE_begin_19 : Dc E_begin 19 (.istore_n 3) 1 20 := ⟨by decide +kernel, rfl⟩
theorem dE_begin_20 : Dc E_begin 20 (.iload_n 3) 1 21 := ⟨by decide +kernel, rfl⟩
theorem dE_begin_21 : Dc E_begin 21 (.bipush 40) 2 23 := ⟨by decide +kernel, rfl⟩
theorem dE_begin_23 : Dc E_begin 23 (.if_icmp .ge 16) 3 26 := ⟨by decide +kernel, rfl⟩
theorem dE_begin_26 : Dc E_begin 26 (.aload_n 0) 1 27 := ⟨by decide +kernel, rfl⟩
theorem dE_begin_27 : Dc E_begin 27 (.getfield 18) 3 30 := ⟨by decide +kernel, rfl⟩
theorem dE_begin_30 : Dc E_begin 30 (.iload_n 3) 1 31 := ⟨by decide +kernel, rfl⟩
theorem dE_begin_31 : Dc E_begin 31 (.iconst 0) 1 32 := ⟨by decide +kernel, rfl⟩
theorem dE_begin_32 : Dc E_begin 32 (.iastore) 1 33 := ⟨by decide +kernel, rfl⟩
theorem dE_begin_33 : Dc E_begin 33 (.iinc 3 1) 3 36 := ⟨by decide +kernel, rfl⟩
theorem dE_begin_36 : Dc E_begin 36 (.goto (-16)) 3 39 := ⟨by decide +kernel, rfl⟩
theorem dE_begin_39 : Dc E_begin 39 (.return_) 1 40 := ⟨by decide +kernel, rfl⟩
theorem dS_write_0 : Dc S_write 0 (.iload_n 1) 1 1 := ⟨by decide +kernel, rfl⟩
theorem dS_write_1 : Dc S_write 1 (.invokestatic 174) 3 4 := ⟨by decide +kernel, rfl⟩
theorem dS_write_4 : Dc S_write 4 (.ifCond .ne 9) 3 7 := ⟨by decide +kernel, rfl⟩
theorem dS_write_7 : Dc S_write 7 (.aload_n 0) 1 8 := ⟨by decide +kernel, rfl⟩
theorem dS_write_8 : Dc S_write 8 (.iconst 0) 1 9 := ⟨by decide +kernel, rfl⟩
theorem dS_write_9 : Dc S_write 9 (.invokevirtual 61) 3 12 := ⟨by decide +kernel, rfl⟩
theorem dS_write_12 : Dc S_write 12 (.ireturn) 1 13 := ⟨by decide +kernel, rfl⟩
theorem dS_write_13 : Dc S_write 13 (.aload_n 0) 1 14 := ⟨by decide +kernel, rfl⟩
theorem dS_write_14 : Dc S_write 14 (.getfield 50) 3 17 := ⟨by decide +kernel, rfl⟩
theorem dS_write_17 : Dc S_write 17 (.iload_n 1) 1 18 := ⟨by decide +kernel, rfl⟩
theorem dS_write_18 : Dc S_write 18 (.aaload) 1 19 := ⟨by decide +kernel, rfl⟩
theorem dS_write_19 : Dc S_write 19 (.invokevirtual 177) 3 22 := ⟨by decide +kernel, rfl⟩
theorem dS_write_22 : Dc S_write 22 (.ifCond .eq 9) 3 25 := ⟨by decide +kernel, rfl⟩
theorem dS_write_25 : Dc S_write 25 (.aload_n 0) 1 26 := ⟨by decide +kernel, rfl⟩
theorem dS_write_26 : Dc S_write 26 (.iconst 5) 1 27 := ⟨by decide +kernel, rfl⟩
theorem dS_write_27 : Dc S_write 27 (.invokevirtual 61) 3 30 := ⟨by decide +kernel, rfl⟩
theorem dS_write_30 : Dc S_write 30 (.ireturn) 1 31 := ⟨by decide +kernel, rfl⟩
theorem dS_write_31 : Dc S_write 31 (.iload_n 2) 1 32 := ⟨by decide +kernel, rfl⟩
theorem dS_write_32 : Dc S_write 32 (.iconst 0) 1 33 := ⟨by decide +kernel, rfl⟩
theorem dS_write_33 : Dc S_write 33 (.aload_n 0) 1 34 := ⟨by decide +kernel, rfl⟩
theorem dS_write_34 : Dc S_write 34 (.getfield 50) 3 37 := ⟨by decide +kernel, rfl⟩
theorem dS_write_37 : Dc S_write 37 (.iload_n 1) 1 38 := ⟨by decide +kernel, rfl⟩
theorem dS_write_38 : Dc S_write 38 (.aaload) 1 39 := ⟨by decide +kernel, rfl⟩
theorem dS_write_39 : Dc S_write 39 (.getfield 221) 3 42 := ⟨by decide +kernel, rfl⟩
theorem dS_write_42 : Dc S_write 42 (.iconst 1) 1 43 := ⟨by decide +kernel, rfl⟩
theorem dS_write_43 : Dc S_write 43 (.isub) 1 44 := ⟨by decide +kernel, rfl⟩
theorem dS_write_44 : Dc S_write 44 (.invokestatic 81) 3 47 := ⟨by decide +kernel, rfl⟩
theorem dS_write_47 : Dc S_write 47 (.ifCond .ne 9) 3 50 := ⟨by decide +kernel, rfl⟩
theorem dS_write_50 : Dc S_write 50 (.aload_n 0) 1 51 := ⟨by decide +kernel, rfl⟩
theorem dS_write_51 : Dc S_write 51 (.iconst 0) 1 52 := ⟨by decide +kernel, rfl⟩
theorem dS_write_52 : Dc S_write 52 (.invokevirtual 61) 3 55 := ⟨by decide +kernel, rfl⟩
theorem dS_write_55 : Dc S_write 55 (.ireturn) 1 56 := ⟨by decide +kernel, rfl⟩
theorem dS_write_56 : Dc S_write 56 (.aload_n 0) 1 57 := ⟨by decide +kernel, rfl⟩
theorem dS_write_57 : Dc S_write 57 (.getfield 50) 3 60 := ⟨by decide +kernel, rfl⟩
theorem dS_write_60 : Dc S_write 60 (.iload_n 1) 1 61 := ⟨by decide +kernel, rfl⟩
theorem dS_write_61 : Dc S_write 61 (.aaload) 1 62 := ⟨by decide +kernel, rfl⟩
theorem dS_write_62 : Dc S_write 62 (.iload_n 2) 1 63 := ⟨by decide +kernel, rfl⟩
theorem dS_write_63 : Dc S_write 63 (.iload_n 3) 1 64 := ⟨by decide +kernel, rfl⟩
theorem dS_write_64 : Dc S_write 64 (.invokevirtual 222) 3 67 := ⟨by decide +kernel, rfl⟩
theorem dS_write_67 : Dc S_write 67 (.iconst 1) 1 68 := ⟨by decide +kernel, rfl⟩
theorem dS_write_68 : Dc S_write 68 (.ireturn) 1 69 := ⟨by decide +kernel, rfl⟩
end
section
theorem dE_put_0 : Dc E_put 0 (.aload_n 0) 1 1 := ⟨by decide +kernel, rfl⟩
theorem dE_put_1 : Dc E_put 1 (.getfield 9) 3 4 := ⟨by decide +kernel, rfl⟩
theorem dE_put_4 : Dc E_put 4 (.lookupswitch 50 #[(8, 28), (16, 39)]) 28 32 := ⟨by decide +kernel, rfl⟩
theorem dE_put_32 : Dc E_put 32 (.aload_n 0) 1 33 := ⟨by decide +kernel, rfl⟩
theorem dE_put_33 : Dc E_put 33 (.getfield 18) 3 36 := ⟨by decide +kernel, rfl⟩
theorem dE_put_36 : Dc E_put 36 (.iload_n 1) 1 37 := ⟨by decide +kernel, rfl⟩
theorem dE_put_37 : Dc E_put 37 (.iload_n 2) 1 38 := ⟨by decide +kernel, rfl⟩
theorem dE_put_38 : Dc E_put 38 (.i2b) 1 39 := ⟨by decide +kernel, rfl⟩
theorem dE_put_39 : Dc E_put 39 (.iastore) 1 40 := ⟨by decide +kernel, rfl⟩
theorem dE_put_40 : Dc E_put 40 (.goto 21) 3 43 := ⟨by decide +kernel, rfl⟩
theorem dE_put_43 : Dc E_put 43 (.aload_n 0) 1 44 := ⟨by decide +kernel, rfl⟩
theorem dE_put_44 : Dc E_put 44 (.getfield 18) 3 47 := ⟨by decide +kernel, rfl⟩
theorem dE_put_47 : Dc E_put 47 (.iload_n 1) 1 48 := ⟨by decide +kernel, rfl⟩
theorem dE_put_48 : Dc E_put 48 (.iload_n 2) 1 49 := ⟨by decide +kernel, rfl⟩
theorem dE_put_49 : Dc E_put 49 (.i2s) 1 50 := ⟨by decide +kernel, rfl⟩
theorem dE_put_50 : Dc E_put 50 (.iastore) 1 51 := ⟨by decide +kernel, rfl⟩
theorem dE_put_51 : Dc E_put 51 (.goto 10) 3 54 := ⟨by decide +kernel, rfl⟩
theorem dE_put_54 : Dc E_put 54 (.aload_n 0) 1 55 := ⟨by decide +kernel, rfl⟩
theorem dE_put_55 : Dc E_put 55 (.getfield 18) 3 58 := ⟨by decide +kernel, rfl⟩
theorem dE_put_58 : Dc E_put 58 (.iload_n 1) 1 59 := ⟨by decide +kernel, rfl⟩
theorem dE_put_59 : Dc E_put 59 (.iload_n 2) 1 60 := ⟨by decide +kernel, rfl⟩
theorem dE_put_60 : Dc E_put 60 (.iastore) 1 61 := ⟨by decide +kernel, rfl⟩
theorem dE_put_61 : Dc E_put 61 (.return_) 1 62 := ⟨by decide +kernel, rfl⟩
theorem dS_copy_0 : Dc S_copy 0 (.iload_n 1) 1 1 := ⟨by decide +kernel, rfl⟩
theorem dS_copy_1 : Dc S_copy 1 (.invokestatic 174) 3 4 := ⟨by decide +kernel, rfl⟩
theorem dS_copy_4 : Dc S_copy 4 (.ifCond .eq 10) 3 7 := ⟨by decide +kernel, rfl⟩
theorem dS_copy_7 : Dc S_copy 7 (.iload_n 3) 1 8 := ⟨by decide +kernel, rfl⟩
theorem dS_copy_8 : Dc S_copy 8 (.invokestatic 174) 3 11 := ⟨by decide +kernel, rfl⟩
theorem dS_copy_11 : Dc S_copy 11 (.ifCond .ne 9) 3 14 := ⟨by decide +kernel, rfl⟩
theorem dS_copy_14 : Dc S_copy 14 (.aload_n 0) 1 15 := ⟨by decide +kernel, rfl⟩
theorem dS_copy_15 : Dc S_copy 15 (.iconst 0) 1 16 := ⟨by decide +kernel, rfl⟩
theorem dS_copy_16 : Dc S_copy 16 (.invokevirtual 61) 3 19 := ⟨by decide +kernel, rfl⟩
theorem dS_copy_19 : Dc S_copy 19 (.ireturn) 1 20 := ⟨by decide +kernel, rfl⟩
theorem dS_copy_20 : Dc S_copy 20 (.aload_n 0) 1 21 := ⟨by decide +kernel, rfl⟩
theorem dS_copy_21 : Dc S_copy 21 (.getfield 50) 3 24 := ⟨by decide +kernel, rfl⟩
theorem dS_copy_24 : Dc S_copy 24 (.iload_n 1) 1 25 := ⟨by decide +kernel, rfl⟩
theorem dS_copy_25 : Dc S_copy 25 (.aaload) 1 26 := ⟨by decide +kernel, rfl⟩
theorem dS_copy_26 : Dc S_copy 26 (.invokevirtual 177) 3 29 := ⟨by decide +kernel, rfl⟩
theorem dS_copy_29 : Dc S_copy 29 (.ifCond .ne 15) 3 32 := ⟨by decide +kernel, rfl⟩
theorem dS_copy_32 : Dc S_copy 32 (.aload_n 0) 1 33 := ⟨by decide +kernel, rfl⟩
theorem dS_copy_33 : Dc S_copy 33 (.getfield 50) 3 36 := ⟨by decide +kernel, rfl⟩
theorem dS_copy_36 : Dc S_copy 36 (.iload_n 3) 1 37 := ⟨by decide +kernel, rfl⟩
theorem dS_copy_37 : Dc S_copy 37 (.aaload) 1 38 := ⟨by decide +kernel, rfl⟩
theorem dS_copy_38 : Dc S_copy 38 (.invokevirtual 177) 3 41 := ⟨by decide +kernel, rfl⟩
theorem dS_copy_41 : Dc S_copy 41 (.ifCond .eq 9) 3 44 := ⟨by decide +kernel, rfl⟩
theorem dS_copy_44 : Dc S_copy 44 (.aload_n 0) 1 45 := ⟨by decide +kernel, rfl⟩
theorem dS_copy_45 : Dc S_copy 45 (.iconst 5) 1 46 := ⟨by decide +kernel, rfl⟩
theorem dS_copy_46 : Dc S_copy 46 (.invokevirtual 61) 3 49 := ⟨by decide +kernel, rfl⟩
theorem dS_copy_49 : Dc S_copy 49 (.ireturn) 1 50 := ⟨by decide +kernel, rfl⟩
theorem dS_copy_50 : Dc S_copy 50 (.aload_n 0) 1 51 := ⟨by decide +kernel, rfl⟩
theorem dS_copy_51 : Dc S_copy 51 (.getfield 50) 3 54 := ⟨by decide +kernel, rfl⟩
theorem dS_copy_54 : Dc S_copy 54 (.iload_n 1) 1 55 := ⟨by decide +kernel, rfl⟩
theorem dS_copy_55 : Dc S_copy 55 (.aaload) 1 56 := ⟨by decide +kernel, rfl⟩
theorem dS_copy_56 : Dc S_copy 56 (.getfield 225) 3 59 := ⟨by decide +kernel, rfl⟩
theorem dS_copy_59 : Dc S_copy 59 (.aload_n 0) 1 60 := ⟨by decide +kernel, rfl⟩
theorem dS_copy_60 : Dc S_copy 60 (.getfield 50) 3 63 := ⟨by decide +kernel, rfl⟩
theorem dS_copy_63 : Dc S_copy 63 (.iload_n 3) 1 64 := ⟨by decide +kernel, rfl⟩
theorem dS_copy_64 : Dc S_copy 64 (.aaload) 1 65 := ⟨by decide +kernel, rfl⟩
theorem dS_copy_65 : Dc S_copy 65 (.getfield 225) 3 68 := ⟨by decide +kernel, rfl⟩
theorem dS_copy_68 : Dc S_copy 68 (.if_icmp .eq 9) 3 71 := ⟨by decide +kernel, rfl⟩
theorem dS_copy_71 : Dc S_copy 71 (.aload_n 0) 1 72 := ⟨by decide +kernel, rfl⟩
theorem dS_copy_72 : Dc S_copy 72 (.iconst 2) 1 73 := ⟨by decide +kernel, rfl⟩
theorem dS_copy_73 : Dc S_copy 73 (.invokevirtual 61) 3 76 := ⟨by decide +kernel, rfl⟩
theorem dS_copy_76 : Dc S_copy 76 (.ireturn) 1 77 := ⟨by decide +kernel, rfl⟩
theorem dS_copy_77 : Dc S_copy 77 (.aload_n 0) 1 78 := ⟨by decide +kernel, rfl⟩
theorem dS_copy_78 : Dc S_copy 78 (.getfield 50) 3 81 := ⟨by decide +kernel, rfl⟩
theorem dS_copy_81 : Dc S_copy 81 (.iload_n 1) 1 82 := ⟨by decide +kernel, rfl⟩
theorem dS_copy_82 : Dc S_copy 82 (.aaload) 1 83 := ⟨by decide +kernel, rfl⟩
theorem dS_copy_83 : Dc S_copy 83 (.iload_n 2) 1 84 := ⟨by decide +kernel, rfl⟩
theorem dS_copy_84 : Dc S_copy 84 (.iload 5) 2 86 := ⟨by decide +kernel, rfl⟩
theorem dS_copy_86 : Dc S_copy 86 (.invokevirtual 228) 3 89 := ⟨by decide +kernel, rfl⟩
theorem dS_copy_89 : Dc S_copy 89 (.ifCond .eq 19) 3 92 := ⟨by decide +kernel, rfl⟩
theorem dS_copy_92 : Dc S_copy 92 (.aload_n 0) 1 93 := ⟨by decide +kernel, rfl⟩
theorem dS_copy_93 : Dc S_copy 93 (.getfield 50) 3 96 := ⟨by decide +kernel, rfl⟩
theorem dS_copy_96 : Dc S_copy 96 (.iload_n 3) 1 97 := ⟨by decide +kernel, rfl⟩
theorem dS_copy_97 : Dc S_copy 97 (.aaload) 1 98 := ⟨by decide +kernel, rfl⟩
theorem dS_copy_98 : Dc S_copy 98 (.iload 4) 2 100 := ⟨by decide +kernel, rfl⟩
theorem dS_copy_100 : Dc S_copy 100 (.iload 5) 2 102 := ⟨by decide +kernel, rfl⟩
theorem dS_copy_102 : Dc S_copy 102 (.invokevirtual 228) 3 105 := ⟨by decide +kernel, rfl⟩
theorem dS_copy_105 : Dc S_copy 105 (.ifCond .ne 9) 3 108 := ⟨by decide +kernel, rfl⟩
theorem dS_copy_108 : Dc S_copy 108 (.aload_n 0) 1 109 := ⟨by decide +kernel, rfl⟩
theorem dS_copy_109 : Dc S_copy 109 (.iconst 0) 1 110 := ⟨by decide +kernel, rfl⟩
theorem dS_copy_110 : Dc S_copy 110 (.invokevirtual 61) 3 113 := ⟨by decide +kernel, rfl⟩
theorem dS_copy_113 : Dc S_copy 113 (.ireturn) 1 114 := ⟨by decide +kernel, rfl⟩
theorem dS_copy_114 : Dc S_copy 114 (.aload_n 0) 1 115 := ⟨by decide +kernel, rfl⟩
theorem dS_copy_115 : Dc S_copy 115 (.getfield 50) 3 118 := ⟨by decide +kernel, rfl⟩
theorem dS_copy_118 : Dc S_copy 118 (.iload_n 1) 1 119 := ⟨by decide +kernel, rfl⟩
theorem dS_copy_119 : Dc S_copy 119 (.aaload) 1 120 := ⟨by decide +kernel, rfl⟩
theorem dS_copy_120 : Dc S_copy 120 (.getfield 231) 3 123 := ⟨by decide +kernel, rfl⟩
theorem dS_copy_123 : Dc S_copy 123 (.iload_n 2) 1 124 := ⟨by decide +kernel, rfl⟩
theorem dS_copy_124 : Dc S_copy 124 (.aload_n 0) 1 125 := ⟨by decide +kernel, rfl⟩
theorem dS_copy_125 : Dc S_copy 125 (.getfield 50) 3 128 := ⟨by decide +kernel, rfl⟩
theorem dS_copy_128 : Dc S_copy 128 (.iload_n 3) 1 129 := ⟨by decide +kernel, rfl⟩
theorem dS_copy_129 : Dc S_copy 129 (.aaload) 1 130 := ⟨by decide +kernel, rfl⟩
theorem dS_copy_130 : Dc S_copy 130 (.getfield 231) 3 133 := ⟨by decide +kernel, rfl⟩
theorem dS_copy_133 : Dc S_copy 133 (.iload 4) 2 135 := ⟨by decide +kernel, rfl⟩
theorem dS_copy_135 : Dc S_copy 135 (.iload 5) 2 137 := ⟨by decide +kernel, rfl⟩
theorem dS_copy_137 : Dc S_copy 137 (.invokestatic 234) 3 140 := ⟨by decide +kernel, rfl⟩
theorem dS_copy_140 : Dc S_copy 140 (.iload 5) 2 142 := ⟨by decide +kernel, rfl⟩
theorem dS_copy_142 : Dc S_copy 142 (.ireturn) 1 143 := ⟨by decide +kernel, rfl⟩
theorem dE_hasRun_0 : Dc E_hasRun 0 (.iload_n 1) 1 1 := ⟨by decide +kernel, rfl⟩
theorem dE_hasRun_1 : Dc E_hasRun 1 (.ifCond .lt 29) 3 4 := ⟨by decide +kernel, rfl⟩
theorem dE_hasRun_4 : Dc E_hasRun 4 (.iload_n 2) 1 5 := ⟨by decide +kernel, rfl⟩
theorem dE_hasRun_5 : Dc E_hasRun 5 (.ifCond .lt 25) 3 8 := ⟨by decide +kernel, rfl⟩
theorem dE_hasRun_8 : Dc E_hasRun 8 (.iload_n 2) 1 9 := ⟨by decide +kernel, rfl⟩
theorem dE_hasRun_9 : Dc E_hasRun 9 (.aload_n 0) 1 10 := ⟨by decide +kernel, rfl⟩
theorem dE_hasRun_10 : Dc E_hasRun 10 (.getfield 15) 3 13 := ⟨by decide +kernel, rfl⟩
theorem dE_hasRun_13 : Dc E_hasRun 13 (.if_icmp .gt 17) 3 16 := ⟨by decide +kernel, rfl⟩
theorem dE_hasRun_16 : Dc E_hasRun 16 (.iload_n 1) 1 17 := ⟨by decide +kernel, rfl⟩
theorem dE_hasRun_17 : Dc E_hasRun 17 (.aload_n 0) 1 18 := ⟨by decide +kernel, rfl⟩
theorem dE_hasRun_18 : Dc E_hasRun 18 (.getfield 15) 3 21 := ⟨by decide +kernel, rfl⟩
theorem dE_hasRun_21 : Dc E_hasRun 21 (.iload_n 2) 1 22 := ⟨by decide +kernel, rfl⟩
theorem dE_hasRun_22 : Dc E_hasRun 22 (.isub) 1 23 := ⟨by decide +kernel, rfl⟩
theorem dE_hasRun_23 : Dc E_hasRun 23 (.if_icmp .gt 7) 3 26 := ⟨by decide +kernel, rfl⟩
theorem dE_hasRun_26 : Dc E_hasRun 26 (.iconst 1) 1 27 := ⟨by decide +kernel, rfl⟩
theorem dE_hasRun_27 : Dc E_hasRun 27 (.goto 4) 3 30 := ⟨by decide +kernel, rfl⟩
theorem dE_hasRun_30 : Dc E_hasRun 30 (.iconst 0) 1 31 := ⟨by decide +kernel, rfl⟩
theorem dE_hasRun_31 : Dc E_hasRun 31 (.ireturn) 1 32 := ⟨by decide +kernel, rfl⟩
theorem dS_load_0 : Dc S_load 0 (.iload_n 1) 1 1 := ⟨by decide +kernel, rfl⟩
theorem dS_load_1 : Dc S_load 1 (.invokestatic 174) 3 4 := ⟨by decide +kernel, rfl⟩
theorem dS_load_4 : Dc S_load 4 (.ifCond .ne 9) 3 7 := ⟨by decide +kernel, rfl⟩
theorem dS_load_7 : Dc S_load 7 (.aload_n 0) 1 8 := ⟨by decide +kernel, rfl⟩
theorem dS_load_8 : Dc S_load 8 (.iconst 0) 1 9 := ⟨by decide +kernel, rfl⟩
theorem dS_load_9 : Dc S_load 9 (.invokevirtual 61) 3 12 := ⟨by decide +kernel, rfl⟩
theorem dS_load_12 : Dc S_load 12 (.ireturn) 1 13 := ⟨by decide +kernel, rfl⟩
theorem dS_load_13 : Dc S_load 13 (.aload_n 0) 1 14 := ⟨by decide +kernel, rfl⟩
theorem dS_load_14 : Dc S_load 14 (.getfield 50) 3 17 := ⟨by decide +kernel, rfl⟩
theorem dS_load_17 : Dc S_load 17 (.iload_n 1) 1 18 := ⟨by decide +kernel, rfl⟩
theorem dS_load_18 : Dc S_load 18 (.aaload) 1 19 := ⟨by decide +kernel, rfl⟩
theorem dS_load_19 : Dc S_load 19 (.invokevirtual 177) 3 22 := ⟨by decide +kernel, rfl⟩
theorem dS_load_22 : Dc S_load 22 (.ifCond .eq 9) 3 25 := ⟨by decide +kernel, rfl⟩
theorem dS_load_25 : Dc S_load 25 (.aload_n 0) 1 26 := ⟨by decide +kernel, rfl⟩
theorem dS_load_26 : Dc S_load 26 (.iconst 5) 1 27 := ⟨by decide +kernel, rfl⟩
theorem dS_load_27 : Dc S_load 27 (.invokevirtual 61) 3 30 := ⟨by decide +kernel, rfl⟩
theorem dS_load_30 : Dc S_load 30 (.ireturn) 1 31 := ⟨by decide +kernel, rfl⟩
theorem dS_load_31 : Dc S_load 31 (.iconst 0) 1 32 := ⟨by decide +kernel, rfl⟩
theorem dS_load_32 : Dc S_load 32 (.istore_n 2) 1 33 := ⟨by decide +kernel, rfl⟩
theorem dS_load_33 : Dc S_load 33 (.iload_n 2) 1 34 := ⟨by decide +kernel, rfl⟩
theorem dS_load_34 : Dc S_load 34 (.aload_n 0) 1 35 := ⟨by decide +kernel, rfl⟩
theorem dS_load_35 : Dc S_load 35 (.getfield 50) 3 38 := ⟨by decide +kernel, rfl⟩
theorem dS_load_38 : Dc S_load 38 (.iload_n 1) 1 39 := ⟨by decide +kernel, rfl⟩
theorem dS_load_39 : Dc S_load 39 (.aaload) 1 40 := ⟨by decide +kernel, rfl⟩
theorem dS_load_40 : Dc S_load 40 (.getfield 221) 3 43 := ⟨by decide +kernel, rfl⟩
theorem dS_load_43 : Dc S_load 43 (.if_icmp .ge 60) 3 46 := ⟨by decide +kernel, rfl⟩
theorem dS_load_46 : Dc S_load 46 (.aload_n 0) 1 47 := ⟨by decide +kernel, rfl⟩
theorem dS_load_47 : Dc S_load 47 (.getfield 12) 3 50 := ⟨by decide +kernel, rfl⟩
theorem dS_load_50 : Dc S_load 50 (.iload_n 2) 1 51 := ⟨by decide +kernel, rfl⟩
theorem dS_load_51 : Dc S_load 51 (.invokevirtual 100) 3 54 := ⟨by decide +kernel, rfl⟩
theorem dS_load_54 : Dc S_load 54 (.ifCond .eq 49) 3 57 := ⟨by decide +kernel, rfl⟩
theorem dS_load_57 : Dc S_load 57 (.aload_n 0) 1 58 := ⟨by decide +kernel, rfl⟩
theorem dS_load_58 : Dc S_load 58 (.getfield 50) 3 61 := ⟨by decide +kernel, rfl⟩
theorem dS_load_61 : Dc S_load 61 (.iload_n 1) 1 62 := ⟨by decide +kernel, rfl⟩
theorem dS_load_62 : Dc S_load 62 (.aaload) 1 63 := ⟨by decide +kernel, rfl⟩
theorem dS_load_63 : Dc S_load 63 (.getfield 231) 3 66 := ⟨by decide +kernel, rfl⟩
theorem dS_load_66 : Dc S_load 66 (.iload_n 2) 1 67 := ⟨by decide +kernel, rfl⟩
theorem dS_load_67 : Dc S_load 67 (.iaload) 1 68 := ⟨by decide +kernel, rfl⟩
theorem dS_load_68 : Dc S_load 68 (.iconst 0) 1 69 := ⟨by decide +kernel, rfl⟩
theorem dS_load_69 : Dc S_load 69 (.bipush 99) 2 71 := ⟨by decide +kernel, rfl⟩
theorem dS_load_71 : Dc S_load 71 (.invokestatic 81) 3 74 := ⟨by decide +kernel, rfl⟩
theorem dS_load_74 : Dc S_load 74 (.ifCond .eq 29) 3 77 := ⟨by decide +kernel, rfl⟩
theorem dS_load_77 : Dc S_load 77 (.aload_n 0) 1 78 := ⟨by decide +kernel, rfl⟩
theorem dS_load_78 : Dc S_load 78 (.getfield 12) 3 81 := ⟨by decide +kernel, rfl⟩
theorem dS_load_81 : Dc S_load 81 (.getfield 118) 3 84 := ⟨by decide +kernel, rfl⟩
theorem dS_load_84 : Dc S_load 84 (.iload_n 2) 1 85 := ⟨by decide +kernel, rfl⟩
theorem dS_load_85 : Dc S_load 85 (.aload_n 0) 1 86 := ⟨by decide +kernel, rfl⟩
theorem dS_load_86 : Dc S_load 86 (.getfield 50) 3 89 := ⟨by decide +kernel, rfl⟩
theorem dS_load_89 : Dc S_load 89 (.iload_n 1) 1 90 := ⟨by decide +kernel, rfl⟩
theorem dS_load_90 : Dc S_load 90 (.aaload) 1 91 := ⟨by decide +kernel, rfl⟩
theorem dS_load_91 : Dc S_load 91 (.getfield 231) 3 94 := ⟨by decide +kernel, rfl⟩
theorem dS_load_94 : Dc S_load 94 (.iload_n 2) 1 95 := ⟨by decide +kernel, rfl⟩
theorem dS_load_95 : Dc S_load 95 (.iaload) 1 96 := ⟨by decide +kernel, rfl⟩
theorem dS_load_96 : Dc S_load 96 (.iastore) 1 97 := ⟨by decide +kernel, rfl⟩
theorem dS_load_97 : Dc S_load 97 (.iinc 2 1) 3 100 := ⟨by decide +kernel, rfl⟩
theorem dS_load_100 : Dc S_load 100 (.goto (-67)) 3 103 := ⟨by decide +kernel, rfl⟩
theorem dS_load_103 : Dc S_load 103 (.iload_n 2) 1 104 := ⟨by decide +kernel, rfl⟩
theorem dS_load_104 : Dc S_load 104 (.ireturn) 1 105 := ⟨by decide +kernel, rfl⟩
theorem dS_judge_0 : Dc S_judge 0 (.iload_n 1) 1 1 := ⟨by decide +kernel, rfl⟩
theorem dS_judge_1 : Dc S_judge 1 (.invokestatic 174) 3 4 := ⟨by decide +kernel, rfl⟩
theorem dS_judge_4 : Dc S_judge 4 (.ifCond .ne 9) 3 7 := ⟨by decide +kernel, rfl⟩
theorem dS_judge_7 : Dc S_judge 7 (.aload_n 0) 1 8 := ⟨by decide +kernel, rfl⟩
theorem dS_judge_8 : Dc S_judge 8 (.iconst 0) 1 9 := ⟨by decide +kernel, rfl⟩
theorem dS_judge_9 : Dc S_judge 9 (.invokevirtual 61) 3 12 := ⟨by decide +kernel, rfl⟩
theorem dS_judge_12 : Dc S_judge 12 (.ireturn) 1 13 := ⟨by decide +kernel, rfl⟩
theorem dS_judge_13 : Dc S_judge 13 (.aload_n 0) 1 14 := ⟨by decide +kernel, rfl⟩
theorem dS_judge_14 : Dc S_judge 14 (.getfield 50) 3 17 := ⟨by decide +kernel, rfl⟩
theorem dS_judge_17 : Dc S_judge 17 (.iload_n 1) 1 18 := ⟨by decide +kernel, rfl⟩
theorem dS_judge_18 : Dc S_judge 18 (.aaload) 1 19 := ⟨by decide +kernel, rfl⟩
theorem dS_judge_19 : Dc S_judge 19 (.invokevirtual 177) 3 22 := ⟨by decide +kernel, rfl⟩
theorem dS_judge_22 : Dc S_judge 22 (.ifCond .eq 9) 3 25 := ⟨by decide +kernel, rfl⟩
theorem dS_judge_25 : Dc S_judge 25 (.aload_n 0) 1 26 := ⟨by decide +kernel, rfl⟩
theorem dS_judge_26 : Dc S_judge 26 (.iconst 5) 1 27 := ⟨by decide +kernel, rfl⟩
theorem dS_judge_27 : Dc S_judge 27 (.invokevirtual 61) 3 30 := ⟨by decide +kernel, rfl⟩
theorem dS_judge_30 : Dc S_judge 30 (.ireturn) 1 31 := ⟨by decide +kernel, rfl⟩
theorem dS_judge_31 : Dc S_judge 31 (.iconst 0) 1 32 := ⟨by decide +kernel, rfl⟩
theorem dS_judge_32 : Dc S_judge 32 (.istore_n 2) 1 33 := ⟨by decide +kernel, rfl⟩
theorem dS_judge_33 : Dc S_judge 33 (.iload_n 2) 1 34 := ⟨by decide +kernel, rfl⟩
theorem dS_judge_34 : Dc S_judge 34 (.aload_n 0) 1 35 := ⟨by decide +kernel, rfl⟩
theorem dS_judge_35 : Dc S_judge 35 (.getfield 50) 3 38 := ⟨by decide +kernel, rfl⟩
theorem dS_judge_38 : Dc S_judge 38 (.iload_n 1) 1 39 := ⟨by decide +kernel, rfl⟩
theorem dS_judge_39 : Dc S_judge 39 (.aaload) 1 40 := ⟨by decide +kernel, rfl⟩
theorem dS_judge_40 : Dc S_judge 40 (.getfield 221) 3 43 := ⟨by decide +kernel, rfl⟩
theorem dS_judge_43 : Dc S_judge 43 (.if_icmp .ge 47) 3 46 := ⟨by decide +kernel, rfl⟩
theorem dS_judge_46 : Dc S_judge 46 (.aload_n 0) 1 47 := ⟨by decide +kernel, rfl⟩
theorem dS_judge_47 : Dc S_judge 47 (.getfield 12) 3 50 := ⟨by decide +kernel, rfl⟩
theorem dS_judge_50 : Dc S_judge 50 (.iload_n 2) 1 51 := ⟨by decide +kernel, rfl⟩
theorem dS_judge_51 : Dc S_judge 51 (.invokevirtual 100) 3 54 := ⟨by decide +kernel, rfl⟩
theorem dS_judge_54 : Dc S_judge 54 (.ifCond .eq 26) 3 57 := ⟨by decide +kernel, rfl⟩
theorem dS_judge_57 : Dc S_judge 57 (.aload_n 0) 1 58 := ⟨by decide +kernel, rfl⟩
theorem dS_judge_58 : Dc S_judge 58 (.getfield 12) 3 61 := ⟨by decide +kernel, rfl⟩
theorem dS_judge_61 : Dc S_judge 61 (.getfield 115) 3 64 := ⟨by decide +kernel, rfl⟩
theorem dS_judge_64 : Dc S_judge 64 (.iload_n 2) 1 65 := ⟨by decide +kernel, rfl⟩
theorem dS_judge_65 : Dc S_judge 65 (.iaload) 1 66 := ⟨by decide +kernel, rfl⟩
theorem dS_judge_66 : Dc S_judge 66 (.aload_n 0) 1 67 := ⟨by decide +kernel, rfl⟩
theorem dS_judge_67 : Dc S_judge 67 (.getfield 50) 3 70 := ⟨by decide +kernel, rfl⟩
theorem dS_judge_70 : Dc S_judge 70 (.iload_n 1) 1 71 := ⟨by decide +kernel, rfl⟩
theorem dS_judge_71 : Dc S_judge 71 (.aaload) 1 72 := ⟨by decide +kernel, rfl⟩
theorem dS_judge_72 : Dc S_judge 72 (.getfield 231) 3 75 := ⟨by decide +kernel, rfl⟩
theorem dS_judge_75 : Dc S_judge 75 (.iload_n 2) 1 76 := ⟨by decide +kernel, rfl⟩
theorem dS_judge_76 : Dc S_judge 76 (.iaload) 1 77 := ⟨by decide +kernel, rfl⟩
theorem dS_judge_77 : Dc S_judge 77 (.if_icmp .eq 7) 3 80 := ⟨by decide +kernel, rfl⟩
theorem dS_judge_80 : Dc S_judge 80 (.iconst 1) 1 81 := ⟨by decide +kernel, rfl⟩
theorem dS_judge_81 : Dc S_judge 81 (.iload_n 2) 1 82 := ⟨by decide +kernel, rfl⟩
theorem dS_judge_82 : Dc S_judge 82 (.iadd) 1 83 := ⟨by decide +kernel, rfl⟩
theorem dS_judge_83 : Dc S_judge 83 (.ireturn) 1 84 := ⟨by decide +kernel, rfl⟩
theorem dS_judge_84 : Dc S_judge 84 (.iinc 2 1) 3 87 := ⟨by decide +kernel, rfl⟩
theorem dS_judge_87 : Dc S_judge 87 (.goto (-54)) 3 90 := ⟨by decide +kernel, rfl⟩
theorem dS_judge_90 : Dc S_judge 90 (.iconst 0) 1 91 := ⟨by decide +kernel, rfl⟩
theorem dS_judge_91 : Dc S_judge 91 (.ireturn) 1 92 := ⟨by decide +kernel, rfl⟩
theorem dS_image_0 : Dc S_image 0 (.aload_n 0) 1 1 := ⟨by decide +kernel, rfl⟩
theorem dS_image_1 : Dc S_image 1 (.getfield 19) 3 4 := ⟨by decide +kernel, rfl⟩
theorem dS_image_4 : Dc S_image 4 (.aload_n 0) 1 5 := ⟨by decide +kernel, rfl⟩
theorem dS_image_5 : Dc S_image 5 (.getfield 12) 3 8 := ⟨by decide +kernel, rfl⟩
theorem dS_image_8 : Dc S_image 8 (.invokevirtual 151) 3 11 := ⟨by decide +kernel, rfl⟩
theorem dS_image_11 : Dc S_image 11 (.aload_n 0) 1 12 := ⟨by decide +kernel, rfl⟩
theorem dS_image_12 : Dc S_image 12 (.getfield 26) 3 15 := ⟨by decide +kernel, rfl⟩
theorem dS_image_15 : Dc S_image 15 (.iconst 0) 1 16 := ⟨by decide +kernel, rfl⟩
theorem dS_image_16 : Dc S_image 16 (.aload_n 0) 1 17 := ⟨by decide +kernel, rfl⟩
theorem dS_image_17 : Dc S_image 17 (.getfield 30) 3 20 := ⟨by decide +kernel, rfl⟩
theorem dS_image_20 : Dc S_image 20 (.iconst 0) 1 21 := ⟨by decide +kernel, rfl⟩
theorem dS_image_21 : Dc S_image 21 (.bipush 10) 2 23 := ⟨by decide +kernel, rfl⟩
theorem dS_image_23 : Dc S_image 23 (.invokestatic 234) 3 26 := ⟨by decide +kernel, rfl⟩
theorem dS_image_26 : Dc S_image 26 (.aload_n 0) 1 27 := ⟨by decide +kernel, rfl⟩
theorem dS_image_27 : Dc S_image 27 (.aload_n 0) 1 28 := ⟨by decide +kernel, rfl⟩
theorem dS_image_28 : Dc S_image 28 (.getfield 33) 3 31 := ⟨by decide +kernel, rfl⟩
theorem dS_image_31 : Dc S_image 31 (.putfield 37) 3 34 := ⟨by decide +kernel, rfl⟩
theorem dS_image_34 : Dc S_image 34 (.aload_n 0) 1 35 := ⟨by decide +kernel, rfl⟩
theorem dS_image_35 : Dc S_image 35 (.iconst 1) 1 36 := ⟨by decide +kernel, rfl⟩
theorem dS_image_36 : Dc S_image 36 (.putfield 22) 3 39 := ⟨by decide +kernel, rfl⟩
theorem dS_image_39 : Dc S_image 39 (.iconst 1) 1 40 := ⟨by decide +kernel, rfl⟩
theorem dS_image_40 : Dc S_image 40 (.ireturn) 1 41 := ⟨by decide +kernel, rfl⟩
theorem dS_undo_0 : Dc S_undo 0 (.aload_n 0) 1 1 := ⟨by decide +kernel, rfl⟩
theorem dS_undo_1 : Dc S_undo 1 (.getfield 22) 3 4 := ⟨by decide +kernel, rfl⟩
theorem dS_undo_4 : Dc S_undo 4 (.ifCond .ne 9) 3 7 := ⟨by decide +kernel, rfl⟩
theorem dS_undo_7 : Dc S_undo 7 (.aload_n 0) 1 8 := ⟨by decide +kernel, rfl⟩
theorem dS_undo_8 : Dc S_undo 8 (.iconst 3) 1 9 := ⟨by decide +kernel, rfl⟩
theorem dS_undo_9 : Dc S_undo 9 (.invokevirtual 61) 3 12 := ⟨by decide +kernel, rfl⟩
theorem dS_undo_12 : Dc S_undo 12 (.ireturn) 1 13 := ⟨by decide +kernel, rfl⟩
theorem dS_undo_13 : Dc S_undo 13 (.aload_n 0) 1 14 := ⟨by decide +kernel, rfl⟩
theorem dS_undo_14 : Dc S_undo 14 (.getfield 12) 3 17 := ⟨by decide +kernel, rfl⟩
theorem dS_undo_17 : Dc S_undo 17 (.aload_n 0) 1 18 := ⟨by decide +kernel, rfl⟩
theorem dS_undo_18 : Dc S_undo 18 (.getfield 19) 3 21 := ⟨by decide +kernel, rfl⟩
theorem dS_undo_21 : Dc S_undo 21 (.invokevirtual 151) 3 24 := ⟨by decide +kernel, rfl⟩
theorem dS_undo_24 : Dc S_undo 24 (.aload_n 0) 1 25 := ⟨by decide +kernel, rfl⟩
theorem dS_undo_25 : Dc S_undo 25 (.getfield 30) 3 28 := ⟨by decide +kernel, rfl⟩
theorem dS_undo_28 : Dc S_undo 28 (.iconst 0) 1 29 := ⟨by decide +kernel, rfl⟩
theorem dS_undo_29 : Dc S_undo 29 (.aload_n 0) 1 30 := ⟨by decide +kernel, rfl⟩
theorem dS_undo_30 : Dc S_undo 30 (.getfield 26) 3 33 := ⟨by decide +kernel, rfl⟩
theorem dS_undo_33 : Dc S_undo 33 (.iconst 0) 1 34 := ⟨by decide +kernel, rfl⟩
theorem dS_undo_34 : Dc S_undo 34 (.bipush 10) 2 36 := ⟨by decide +kernel, rfl⟩
theorem dS_undo_36 : Dc S_undo 36 (.invokestatic 234) 3 39 := ⟨by decide +kernel, rfl⟩
theorem dS_undo_39 : Dc S_undo 39 (.aload_n 0) 1 40 := ⟨by decide +kernel, rfl⟩
theorem dS_undo_40 : Dc S_undo 40 (.aload_n 0) 1 41 := ⟨by decide +kernel, rfl⟩
theorem dS_undo_41 : Dc S_undo 41 (.getfield 37) 3 44 := ⟨by decide +kernel, rfl⟩
theorem dS_undo_44 : Dc S_undo 44 (.putfield 33) 3 47 := ⟨by decide +kernel, rfl⟩
theorem dS_undo_47 : Dc S_undo 47 (.aload_n 0) 1 48 := ⟨by decide +kernel, rfl⟩
theorem dS_undo_48 : Dc S_undo 48 (.getfield 12) 3 51 := ⟨by decide +kernel, rfl⟩
theorem dS_undo_51 : Dc S_undo 51 (.getfield 130) 3 54 := ⟨by decide +kernel, rfl⟩
theorem dS_undo_54 : Dc S_undo 54 (.ireturn) 1 55 := ⟨by decide +kernel, rfl⟩
theorem dS_tear_0 : Dc S_tear 0 (.aload_n 0) 1 1 := ⟨by decide +kernel, rfl⟩
theorem dS_tear_1 : Dc S_tear 1 (.getfield 22) 3 4 := ⟨by decide +kernel, rfl⟩
theorem dS_tear_4 : Dc S_tear 4 (.ifCond .eq 7) 3 7 := ⟨by decide +kernel, rfl⟩
theorem dS_tear_7 : Dc S_tear 7 (.iconst 1) 1 8 := ⟨by decide +kernel, rfl⟩
theorem dS_tear_8 : Dc S_tear 8 (.goto 4) 3 11 := ⟨by decide +kernel, rfl⟩
theorem dS_tear_11 : Dc S_tear 11 (.iconst 0) 1 12 := ⟨by decide +kernel, rfl⟩
theorem dS_tear_12 : Dc S_tear 12 (.istore_n 1) 1 13 := ⟨by decide +kernel, rfl⟩
theorem dS_tear_13 : Dc S_tear 13 (.aload_n 0) 1 14 := ⟨by decide +kernel, rfl⟩
theorem dS_tear_14 : Dc S_tear 14 (.iconst 0) 1 15 := ⟨by decide +kernel, rfl⟩
theorem dS_tear_15 : Dc S_tear 15 (.putfield 22) 3 18 := ⟨by decide +kernel, rfl⟩
theorem dS_tear_18 : Dc S_tear 18 (.iload_n 1) 1 19 := ⟨by decide +kernel, rfl⟩
theorem dS_tear_19 : Dc S_tear 19 (.ireturn) 1 20 := ⟨by decide +kernel, rfl⟩
theorem dS_count_0 : Dc S_count 0 (.iload_n 1) 1 1 := ⟨by decide +kernel, rfl⟩
theorem dS_count_1 : Dc S_count 1 (.tableswitch 126 0 7 #[47, 55, 63, 78, 93, 108, 116, 121]) 47 48 := ⟨by decide +kernel, rfl⟩
theorem dS_count_48 : Dc S_count 48 (.aload_n 0) 1 49 := ⟨by decide +kernel, rfl⟩
theorem dS_count_49 : Dc S_count 49 (.getfield 12) 3 52 := ⟨by decide +kernel, rfl⟩
theorem dS_count_52 : Dc S_count 52 (.getfield 130) 3 55 := ⟨by decide +kernel, rfl⟩
theorem dS_count_55 : Dc S_count 55 (.ireturn) 1 56 := ⟨by decide +kernel, rfl⟩
theorem dS_count_56 : Dc S_count 56 (.aload_n 0) 1 57 := ⟨by decide +kernel, rfl⟩
theorem dS_count_57 : Dc S_count 57 (.getfield 12) 3 60 := ⟨by decide +kernel, rfl⟩
theorem dS_count_60 : Dc S_count 60 (.getfield 165) 3 63 := ⟨by decide +kernel, rfl⟩
theorem dS_count_63 : Dc S_count 63 (.ireturn) 1 64 := ⟨by decide +kernel, rfl⟩
theorem dS_count_64 : Dc S_count 64 (.aload_n 0) 1 65 := ⟨by decide +kernel, rfl⟩
theorem dS_count_65 : Dc S_count 65 (.getfield 12) 3 68 := ⟨by decide +kernel, rfl⟩
theorem dS_count_68 : Dc S_count 68 (.aload_n 0) 1 69 := ⟨by decide +kernel, rfl⟩
theorem dS_count_69 : Dc S_count 69 (.getfield 12) 3 72 := ⟨by decide +kernel, rfl⟩
theorem dS_count_72 : Dc S_count 72 (.getfield 118) 3 75 := ⟨by decide +kernel, rfl⟩
theorem dS_count_75 : Dc S_count 75 (.invokevirtual 137) 3 78 := ⟨by decide +kernel, rfl⟩
theorem dS_count_78 : Dc S_count 78 (.ireturn) 1 79 := ⟨by decide +kernel, rfl⟩
theorem dS_count_79 : Dc S_count 79 (.aload_n 0) 1 80 := ⟨by decide +kernel, rfl⟩
theorem dS_count_80 : Dc S_count 80 (.getfield 12) 3 83 := ⟨by decide +kernel, rfl⟩
theorem dS_count_83 : Dc S_count 83 (.aload_n 0) 1 84 := ⟨by decide +kernel, rfl⟩
theorem dS_count_84 : Dc S_count 84 (.getfield 12) 3 87 := ⟨by decide +kernel, rfl⟩
theorem dS_count_87 : Dc S_count 87 (.getfield 124) 3 90 := ⟨by decide +kernel, rfl⟩
theorem dS_count_90 : Dc S_count 90 (.invokevirtual 137) 3 93 := ⟨by decide +kernel, rfl⟩
theorem dS_count_93 : Dc S_count 93 (.ireturn) 1 94 := ⟨by decide +kernel, rfl⟩
theorem dS_count_94 : Dc S_count 94 (.aload_n 0) 1 95 := ⟨by decide +kernel, rfl⟩
theorem dS_count_95 : Dc S_count 95 (.getfield 12) 3 98 := ⟨by decide +kernel, rfl⟩
theorem dS_count_98 : Dc S_count 98 (.aload_n 0) 1 99 := ⟨by decide +kernel, rfl⟩
theorem dS_count_99 : Dc S_count 99 (.getfield 12) 3 102 := ⟨by decide +kernel, rfl⟩
theorem dS_count_102 : Dc S_count 102 (.getfield 121) 3 105 := ⟨by decide +kernel, rfl⟩
theorem dS_count_105 : Dc S_count 105 (.invokevirtual 137) 3 108 := ⟨by decide +kernel, rfl⟩
theorem dS_count_108 : Dc S_count 108 (.ireturn) 1 109 := ⟨by decide +kernel, rfl⟩
theorem dS_count_109 : Dc S_count 109 (.aload_n 0) 1 110 := ⟨by decide +kernel, rfl⟩
theorem dS_count_110 : Dc S_count 110 (.getfield 43) 3 113 := ⟨by decide +kernel, rfl⟩
theorem dS_count_113 : Dc S_count 113 (.getfield 204) 3 116 := ⟨by decide +kernel, rfl⟩
theorem dS_count_116 : Dc S_count 116 (.ireturn) 1 117 := ⟨by decide +kernel, rfl⟩
theorem dS_count_117 : Dc S_count 117 (.aload_n 0) 1 118 := ⟨by decide +kernel, rfl⟩
theorem dS_count_118 : Dc S_count 118 (.getfield 33) 3 121 := ⟨by decide +kernel, rfl⟩
theorem dS_count_121 : Dc S_count 121 (.ireturn) 1 122 := ⟨by decide +kernel, rfl⟩
theorem dS_count_122 : Dc S_count 122 (.aload_n 0) 1 123 := ⟨by decide +kernel, rfl⟩
theorem dS_count_123 : Dc S_count 123 (.invokevirtual 240) 3 126 := ⟨by decide +kernel, rfl⟩
theorem dS_count_126 : Dc S_count 126 (.ireturn) 1 127 := ⟨by decide +kernel, rfl⟩
theorem dS_count_127 : Dc S_count 127 (.aload_n 0) 1 128 := ⟨by decide +kernel, rfl⟩
theorem dS_count_128 : Dc S_count 128 (.iconst 0) 1 129 := ⟨by decide +kernel, rfl⟩
theorem dS_count_129 : Dc S_count 129 (.invokevirtual 61) 3 132 := ⟨by decide +kernel, rfl⟩
theorem dS_count_132 : Dc S_count 132 (.ireturn) 1 133 := ⟨by decide +kernel, rfl⟩
theorem dS_spotsInUse_0 : Dc S_spotsInUse 0 (.iconst 0) 1 1 := ⟨by decide +kernel, rfl⟩
theorem dS_spotsInUse_1 : Dc S_spotsInUse 1 (.istore_n 1) 1 2 := ⟨by decide +kernel, rfl⟩
theorem dS_spotsInUse_2 : Dc S_spotsInUse 2 (.iconst 0) 1 3 := ⟨by decide +kernel, rfl⟩
theorem dS_spotsInUse_3 : Dc S_spotsInUse 3 (.istore_n 2) 1 4 := ⟨by decide +kernel, rfl⟩
theorem dS_spotsInUse_4 : Dc S_spotsInUse 4 (.iload_n 2) 1 5 := ⟨by decide +kernel, rfl⟩
theorem dS_spotsInUse_5 : Dc S_spotsInUse 5 (.bipush 10) 2 7 := ⟨by decide +kernel, rfl⟩
theorem dS_spotsInUse_7 : Dc S_spotsInUse 7 (.if_icmp .ge 22) 3 10 := ⟨by decide +kernel, rfl⟩
theorem dS_spotsInUse_10 : Dc S_spotsInUse 10 (.aload_n 0) 1 11 := ⟨by decide +kernel, rfl⟩
theorem dS_spotsInUse_11 : Dc S_spotsInUse 11 (.getfield 26) 3 14 := ⟨by decide +kernel, rfl⟩
theorem dS_spotsInUse_14 : Dc S_spotsInUse 14 (.iload_n 2) 1 15 := ⟨by decide +kernel, rfl⟩
theorem dS_spotsInUse_15 : Dc S_spotsInUse 15 (.iaload) 1 16 := ⟨by decide +kernel, rfl⟩
theorem dS_spotsInUse_16 : Dc S_spotsInUse 16 (.iconst (-1)) 1 17 := ⟨by decide +kernel, rfl⟩
theorem dS_spotsInUse_17 : Dc S_spotsInUse 17 (.if_icmp .eq 6) 3 20 := ⟨by decide +kernel, rfl⟩
theorem dS_spotsInUse_20 : Dc S_spotsInUse 20 (.iinc 1 1) 3 23 := ⟨by decide +kernel, rfl⟩
theorem dS_spotsInUse_23 : Dc S_spotsInUse 23 (.iinc 2 1) 3 26 := ⟨by decide +kernel, rfl⟩
theorem dS_spotsInUse_26 : Dc S_spotsInUse 26 (.goto (-22)) 3 29 := ⟨by decide +kernel, rfl⟩
theorem dS_spotsInUse_29 : Dc S_spotsInUse 29 (.iload_n 1) 1 30 := ⟨by decide +kernel, rfl⟩
theorem dS_spotsInUse_30 : Dc S_spotsInUse 30 (.ireturn) 1 31 := ⟨by decide +kernel, rfl⟩
theorem dS_status_0 : Dc S_status 0 (.iload_n 1) 1 1 := ⟨by decide +kernel, rfl⟩
theorem dS_status_1 : Dc S_status 1 (.iconst (-1)) 1 2 := ⟨by decide +kernel, rfl⟩
theorem dS_status_2 : Dc S_status 2 (.bipush 6) 2 4 := ⟨by decide +kernel, rfl⟩
theorem dS_status_4 : Dc S_status 4 (.invokestatic 81) 3 7 := ⟨by decide +kernel, rfl⟩
theorem dS_status_7 : Dc S_status 7 (.ifCond .ne 9) 3 10 := ⟨by decide +kernel, rfl⟩
theorem dS_status_10 : Dc S_status 10 (.aload_n 0) 1 11 := ⟨by decide +kernel, rfl⟩
theorem dS_status_11 : Dc S_status 11 (.iconst 0) 1 12 := ⟨by decide +kernel, rfl⟩
theorem dS_status_12 : Dc S_status 12 (.invokevirtual 61) 3 15 := ⟨by decide +kernel, rfl⟩
theorem dS_status_15 : Dc S_status 15 (.ireturn) 1 16 := ⟨by decide +kernel, rfl⟩
theorem dS_status_16 : Dc S_status 16 (.iload_n 1) 1 17 := ⟨by decide +kernel, rfl⟩
theorem dS_status_17 : Dc S_status 17 (.ifCond .lt 10) 3 20 := ⟨by decide +kernel, rfl⟩
theorem dS_status_20 : Dc S_status 20 (.aload_n 0) 1 21 := ⟨by decide +kernel, rfl⟩
theorem dS_status_21 : Dc S_status 21 (.getfield 54) 3 24 := ⟨by decide +kernel, rfl⟩
theorem dS_status_24 : Dc S_status 24 (.iload_n 1) 1 25 := ⟨by decide +kernel, rfl⟩
theorem dS_status_25 : Dc S_status 25 (.iaload) 1 26 := ⟨by decide +kernel, rfl⟩
theorem dS_status_26 : Dc S_status 26 (.ireturn) 1 27 := ⟨by decide +kernel, rfl⟩
theorem dS_status_27 : Dc S_status 27 (.iconst 0) 1 28 := ⟨by decide +kernel, rfl⟩
theorem dS_status_28 : Dc S_status 28 (.istore_n 2) 1 29 := ⟨by decide +kernel, rfl⟩
theorem dS_status_29 : Dc S_status 29 (.iconst 0) 1 30 := ⟨by decide +kernel, rfl⟩
theorem dS_status_30 : Dc S_status 30 (.istore_n 3) 1 31 := ⟨by decide +kernel, rfl⟩
theorem dS_status_31 : Dc S_status 31 (.iload_n 3) 1 32 := ⟨by decide +kernel, rfl⟩
theorem dS_status_32 : Dc S_status 32 (.bipush 7) 2 34 := ⟨by decide +kernel, rfl⟩
theorem dS_status_34 : Dc S_status 34 (.if_icmp .ge 18) 3 37 := ⟨by decide +kernel, rfl⟩
theorem dS_status_37 : Dc S_status 37 (.iload_n 2) 1 38 := ⟨by decide +kernel, rfl⟩
theorem dS_status_38 : Dc S_status 38 (.aload_n 0) 1 39 := ⟨by decide +kernel, rfl⟩
theorem dS_status_39 : Dc S_status 39 (.getfield 54) 3 42 := ⟨by decide +kernel, rfl⟩
theorem dS_status_42 : Dc S_status 42 (.iload_n 3) 1 43 := ⟨by decide +kernel, rfl⟩
theorem dS_status_43 : Dc S_status 43 (.iaload) 1 44 := ⟨by decide +kernel, rfl⟩
theorem dS_status_44 : Dc S_status 44 (.iadd) 1 45 := ⟨by decide +kernel, rfl⟩
theorem dS_status_45 : Dc S_status 45 (.istore_n 2) 1 46 := ⟨by decide +kernel, rfl⟩
theorem dS_status_46 : Dc S_status 46 (.iinc 3 1) 3 49 := ⟨by decide +kernel, rfl⟩
theorem dS_status_49 : Dc S_status 49 (.goto (-18)) 3 52 := ⟨by decide +kernel, rfl⟩
theorem dS_status_52 : Dc S_status 52 (.iload_n 2) 1 53 := ⟨by decide +kernel, rfl⟩
theorem dS_status_53 : Dc S_status 53 (.ireturn) 1 54 := ⟨by decide +kernel, rfl⟩
theorem dQ_init_0 : Dc Q_init 0 (.aload_n 0) 1 1 := ⟨by decide +kernel, rfl⟩
theorem dQ_init_1 : Dc Q_init 1 (.invokespecial 1) 3 4 := ⟨by decide +kernel, rfl⟩
theorem dQ_init_4 : Dc Q_init 4 (.aload_n 0) 1 5 := ⟨by decide +kernel, rfl⟩
theorem dQ_init_5 : Dc Q_init 5 (.bipush 58) 2 7 := ⟨by decide +kernel, rfl⟩
theorem dQ_init_7 : Dc Q_init 7 (.newarray .int) 2 9 := ⟨by decide +kernel, rfl⟩
theorem dQ_init_9 : Dc Q_init 9 (.putfield 9) 3 12 := ⟨by decide +kernel, rfl⟩
theorem dQ_init_12 : Dc Q_init 12 (.aload_n 0) 1 13 := ⟨by decide +kernel, rfl⟩
theorem dQ_init_13 : Dc Q_init 13 (.bipush 58) 2 15 := ⟨by decide +kernel, rfl⟩
theorem dQ_init_15 : Dc Q_init 15 (.newarray .int) 2 17 := ⟨by decide +kernel, rfl⟩
theorem dQ_init_17 : Dc Q_init 17 (.putfield 13) 3 20 := ⟨by decide +kernel, rfl⟩
theorem dQ_init_20 : Dc Q_init 20 (.aload_n 0) 1 21 := ⟨by decide +kernel, rfl⟩
theorem dQ_init_21 : Dc Q_init 21 (.bipush 58) 2 23 := ⟨by decide +kernel, rfl⟩
theorem dQ_init_23 : Dc Q_init 23 (.newarray .int) 2 25 := ⟨by decide +kernel, rfl⟩
theorem dQ_init_25 : Dc Q_init 25 (.putfield 16) 3 28 := ⟨by decide +kernel, rfl⟩
theorem dQ_init_28 : Dc Q_init 28 (.aload_n 0) 1 29 := ⟨by decide +kernel, rfl⟩
theorem dQ_init_29 : Dc Q_init 29 (.bipush 8) 2 31 := ⟨by decide +kernel, rfl⟩
theorem dQ_init_31 : Dc Q_init 31 (.newarray .int) 2 33 := ⟨by decide +kernel, rfl⟩
theorem dQ_init_33 : Dc Q_init 33 (.putfield 19) 3 36 := ⟨by decide +kernel, rfl⟩
theorem dQ_init_36 : Dc Q_init 36 (.aload_n 0) 1 37 := ⟨by decide +kernel, rfl⟩
theorem dQ_init_37 : Dc Q_init 37 (.bipush 120) 2 39 := ⟨by decide +kernel, rfl⟩
theorem dQ_init_39 : Dc Q_init 39 (.newarray .int) 2 41 := ⟨by decide +kernel, rfl⟩
theorem dQ_init_41 : Dc Q_init 41 (.putfield 22) 3 44 := ⟨by decide +kernel, rfl⟩
theorem dQ_init_44 : Dc Q_init 44 (.aload_n 0) 1 45 := ⟨by decide +kernel, rfl⟩
theorem dQ_init_45 : Dc Q_init 45 (.bipush 7) 2 47 := ⟨by decide +kernel, rfl⟩
theorem dQ_init_47 : Dc Q_init 47 (.anewarray 25) 3 50 := ⟨by decide +kernel, rfl⟩
theorem dQ_init_50 : Dc Q_init 50 (.dup) 1 51 := ⟨by decide +kernel, rfl⟩
theorem dQ_init_51 : Dc Q_init 51 (.iconst 0) 1 52 := ⟨by decide +kernel, rfl⟩
theorem dQ_init_52 : Dc Q_init 52 (.ldc 27) 2 54 := ⟨by decide +kernel, rfl⟩
theorem dQ_init_54 : Dc Q_init 54 (.aastore) 1 55 := ⟨by decide +kernel, rfl⟩
theorem dQ_init_55 : Dc Q_init 55 (.dup) 1 56 := ⟨by decide +kernel, rfl⟩
theorem dQ_init_56 : Dc Q_init 56 (.iconst 1) 1 57 := ⟨by decide +kernel, rfl⟩
theorem dQ_init_57 : Dc Q_init 57 (.ldc 29) 2 59 := ⟨by decide +kernel, rfl⟩
theorem dQ_init_59 : Dc Q_init 59 (.aastore) 1 60 := ⟨by decide +kernel, rfl⟩
theorem dQ_init_60 : Dc Q_init 60 (.dup) 1 61 := ⟨by decide +kernel, rfl⟩
theorem dQ_init_61 : Dc Q_init 61 (.iconst 2) 1 62 := ⟨by decide +kernel, rfl⟩
theorem dQ_init_62 : Dc Q_init 62 (.ldc 31) 2 64 := ⟨by decide +kernel, rfl⟩
theorem dQ_init_64 : Dc Q_init 64 (.aastore) 1 65 := ⟨by decide +kernel, rfl⟩
theorem dQ_init_65 : Dc Q_init 65 (.dup) 1 66 := ⟨by decide +kernel, rfl⟩
theorem dQ_init_66 : Dc Q_init 66 (.iconst 3) 1 67 := ⟨by decide +kernel, rfl⟩
theorem dQ_init_67 : Dc Q_init 67 (.ldc 33) 2 69 := ⟨by decide +kernel, rfl⟩
theorem dQ_init_69 : Dc Q_init 69 (.aastore) 1 70 := ⟨by decide +kernel, rfl⟩
theorem dQ_init_70 : Dc Q_init 70 (.dup) 1 71 := ⟨by decide +kernel, rfl⟩
theorem dQ_init_71 : Dc Q_init 71 (.iconst 4) 1 72 := ⟨by decide +kernel, rfl⟩
theorem dQ_init_72 : Dc Q_init 72 (.ldc 35) 2 74 := ⟨by decide +kernel, rfl⟩
theorem dQ_init_74 : Dc Q_init 74 (.aastore) 1 75 := ⟨by decide +kernel, rfl⟩
theorem dQ_init_75 : Dc Q_init 75 (.dup) 1 76 := ⟨by decide +kernel, rfl⟩
theorem dQ_init_76 : Dc Q_init 76 (.iconst 5) 1 77 := ⟨by decide +kernel, rfl⟩
theorem dQ_init_77 : Dc Q_init 77 (.ldc 37) 2 79 := ⟨by decide +kernel, rfl⟩
theorem dQ_init_79 : Dc Q_init 79 (.aastore) 1 80 := ⟨by decide +kernel, rfl⟩
theorem dQ_init_80 : Dc Q_init 80 (.dup) 1 81 := ⟨by decide +kernel, rfl⟩
theorem dQ_init_81 : Dc Q_init 81 (.bipush 6) 2 83 := ⟨by decide +kernel, rfl⟩
theorem dQ_init_83 : Dc Q_init 83 (.ldc 39) 2 85 := ⟨by decide +kernel, rfl⟩
theorem dQ_init_85 : Dc Q_init 85 (.aastore) 1 86 := ⟨by decide +kernel, rfl⟩
theorem dQ_init_86 : Dc Q_init 86 (.putfield 41) 3 89 := ⟨by decide +kernel, rfl⟩
theorem dQ_init_89 : Dc Q_init 89 (.aload_n 0) 1 90 := ⟨by decide +kernel, rfl⟩
theorem dQ_init_90 : Dc Q_init 90 (.bipush 120) 2 92 := ⟨by decide +kernel, rfl⟩
theorem dQ_init_92 : Dc Q_init 92 (.newarray .int) 2 94 := ⟨by decide +kernel, rfl⟩
theorem dQ_init_94 : Dc Q_init 94 (.putfield 45) 3 97 := ⟨by decide +kernel, rfl⟩
theorem dQ_init_97 : Dc Q_init 97 (.aload_n 0) 1 98 := ⟨by decide +kernel, rfl⟩
theorem dQ_init_98 : Dc Q_init 98 (.bipush 120) 2 100 := ⟨by decide +kernel, rfl⟩
theorem dQ_init_100 : Dc Q_init 100 (.newarray .int) 2 102 := ⟨by decide +kernel, rfl⟩
theorem dQ_init_102 : Dc Q_init 102 (.putfield 48) 3 105 := ⟨by decide +kernel, rfl⟩
theorem dQ_init_105 : Dc Q_init 105 (.aload_n 0) 1 106 := ⟨by decide +kernel, rfl⟩
theorem dQ_init_106 : Dc Q_init 106 (.bipush 120) 2 108 := ⟨by decide +kernel, rfl⟩
theorem dQ_init_108 : Dc Q_init 108 (.newarray .int) 2 110 := ⟨by decide +kernel, rfl⟩
theorem dQ_init_110 : Dc Q_init 110 (.putfield 51) 3 113 := ⟨by decide +kernel, rfl⟩
theorem dQ_init_113 : Dc Q_init 113 (.aload_n 0) 1 114 := ⟨by decide +kernel, rfl⟩
theorem dQ_init_114 : Dc Q_init 114 (.bipush 120) 2 116 := ⟨by decide +kernel, rfl⟩
theorem dQ_init_116 : Dc Q_init 116 (.newarray .int) 2 118 := ⟨by decide +kernel, rfl⟩
theorem dQ_init_118 : Dc Q_init 118 (.putfield 54) 3 121 := ⟨by decide +kernel, rfl⟩
theorem dQ_init_121 : Dc Q_init 121 (.aload_n 0) 1 122 := ⟨by decide +kernel, rfl⟩
theorem dQ_init_122 : Dc Q_init 122 (.iconst 4) 1 123 := ⟨by decide +kernel, rfl⟩
theorem dQ_init_123 : Dc Q_init 123 (.newarray .int) 2 125 := ⟨by decide +kernel, rfl⟩
theorem dQ_init_125 : Dc Q_init 125 (.putfield 57) 3 128 := ⟨by decide +kernel, rfl⟩
theorem dQ_init_128 : Dc Q_init 128 (.aload_n 0) 1 129 := ⟨by decide +kernel, rfl⟩
theorem dQ_init_129 : Dc Q_init 129 (.iconst 4) 1 130 := ⟨by decide +kernel, rfl⟩
theorem dQ_init_130 : Dc Q_init 130 (.newarray .int) 2 132 := ⟨by decide +kernel, rfl⟩
theorem dQ_init_132 : Dc Q_init 132 (.putfield 60) 3 135 := ⟨by decide +kernel, rfl⟩
theorem dQ_init_135 : Dc Q_init 135 (.aload_n 0) 1 136 := ⟨by decide +kernel, rfl⟩
theorem dQ_init_136 : Dc Q_init 136 (.sipush 160) 3 139 := ⟨by decide +kernel, rfl⟩
theorem dQ_init_139 : Dc Q_init 139 (.newarray .int) 2 141 := ⟨by decide +kernel, rfl⟩
theorem dQ_init_141 : Dc Q_init 141 (.putfield 63) 3 144 := ⟨by decide +kernel, rfl⟩
theorem dQ_init_144 : Dc Q_init 144 (.aload_n 0) 1 145 := ⟨by decide +kernel, rfl⟩
theorem dQ_init_145 : Dc Q_init 145 (.bipush 40) 2 147 := ⟨by decide +kernel, rfl⟩
theorem dQ_init_147 : Dc Q_init 147 (.newarray .int) 2 149 := ⟨by decide +kernel, rfl⟩
theorem dQ_init_149 : Dc Q_init 149 (.putfield 66) 3 152 := ⟨by decide +kernel, rfl⟩
theorem dQ_init_152 : Dc Q_init 152 (.aload_n 0) 1 153 := ⟨by decide +kernel, rfl⟩
theorem dQ_init_153 : Dc Q_init 153 (.getfield 9) 3 156 := ⟨by decide +kernel, rfl⟩
theorem dQ_init_156 : Dc Q_init 156 (.iconst 2) 1 157 := ⟨by decide +kernel, rfl⟩
theorem dQ_init_157 : Dc Q_init 157 (.iconst 1) 1 158 := ⟨by decide +kernel, rfl⟩
theorem dQ_init_158 : Dc Q_init 158 (.iastore) 1 159 := ⟨by decide +kernel, rfl⟩
theorem dQ_init_159 : Dc Q_init 159 (.aload_n 0) 1 160 := ⟨by decide +kernel, rfl⟩
theorem dQ_init_160 : Dc Q_init 160 (.getfield 9) 3 163 := ⟨by decide +kernel, rfl⟩
theorem dQ_init_163 : Dc Q_init 163 (.iconst 5) 1 164 := ⟨by decide +kernel, rfl⟩
theorem dQ_init_164 : Dc Q_init 164 (.iconst (-1)) 1 165 := ⟨by decide +kernel, rfl⟩
theorem dQ_init_165 : Dc Q_init 165 (.iastore) 1 166 := ⟨by decide +kernel, rfl⟩
theorem dQ_init_166 : Dc Q_init 166 (.aload_n 0) 1 167 := ⟨by decide +kernel, rfl⟩
theorem dQ_init_167 : Dc Q_init 167 (.getfield 9) 3 170 := ⟨by decide +kernel, rfl⟩
theorem dQ_init_170 : Dc Q_init 170 (.bipush 6) 2 172 := ⟨by decide +kernel, rfl⟩
theorem dQ_init_172 : Dc Q_init 172 (.iconst 1) 1 173 := ⟨by decide +kernel, rfl⟩
theorem dQ_init_173 : Dc Q_init 173 (.iastore) 1 174 := ⟨by decide +kernel, rfl⟩
theorem dQ_init_174 : Dc Q_init 174 (.aload_n 0) 1 175 := ⟨by decide +kernel, rfl⟩
theorem dQ_init_175 : Dc Q_init 175 (.getfield 9) 3 178 := ⟨by decide +kernel, rfl⟩
theorem dQ_init_178 : Dc Q_init 178 (.bipush 7) 2 180 := ⟨by decide +kernel, rfl⟩
theorem dQ_init_180 : Dc Q_init 180 (.iconst (-1)) 1 181 := ⟨by decide +kernel, rfl⟩
theorem dQ_init_181 : Dc Q_init 181 (.iastore) 1 182 := ⟨by decide +kernel, rfl⟩
theorem dQ_init_182 : Dc Q_init 182 (.iconst 0) 1 183 := ⟨by decide +kernel, rfl⟩
theorem dQ_init_183 : Dc Q_init 183 (.istore_n 1) 1 184 := ⟨by decide +kernel, rfl⟩
theorem dQ_init_184 : Dc Q_init 184 (.iload_n 1) 1 185 := ⟨by decide +kernel, rfl⟩
theorem dQ_init_185 : Dc Q_init 185 (.bipush 10) 2 187 := ⟨by decide +kernel, rfl⟩
theorem dQ_init_187 : Dc Q_init 187 (.if_icmp .ge 19) 3 190 := ⟨by decide +kernel, rfl⟩
theorem dQ_init_190 : Dc Q_init 190 (.aload_n 0) 1 191 := ⟨by decide +kernel, rfl⟩
theorem dQ_init_191 : Dc Q_init 191 (.getfield 9) 3 194 := ⟨by decide +kernel, rfl⟩
theorem dQ_init_194 : Dc Q_init 194 (.bipush 8) 2 196 := ⟨by decide +kernel, rfl⟩
theorem dQ_init_196 : Dc Q_init 196 (.iload_n 1) 1 197 := ⟨by decide +kernel, rfl⟩
theorem dQ_init_197 : Dc Q_init 197 (.iadd) 1 198 := ⟨by decide +kernel, rfl⟩
theorem dQ_init_198 : Dc Q_init 198 (.iconst (-1)) 1 199 := ⟨by decide +kernel, rfl⟩
theorem dQ_init_199 : Dc Q_init 199 (.iastore) 1 200 := ⟨by decide +kernel, rfl⟩
theorem dQ_init_200 : Dc Q_init 200 (.iinc 1 1) 3 203 := ⟨by decide +kernel, rfl⟩
theorem dQ_init_203 : Dc Q_init 203 (.goto (-19)) 3 206 := ⟨by decide +kernel, rfl⟩
theorem dQ_init_206 : Dc Q_init 206 (.return_) 1 207 := ⟨by decide +kernel, rfl⟩
theorem dQ_set_0 : Dc Q_set 0 (.iload_n 1) 1 1 := ⟨by decide +kernel, rfl⟩
theorem dQ_set_1 : Dc Q_set 1 (.iconst 2) 1 2 := ⟨by decide +kernel, rfl⟩
theorem dQ_set_2 : Dc Q_set 2 (.if_icmp .ne 8) 3 5 := ⟨by decide +kernel, rfl⟩
theorem dQ_set_5 : Dc Q_set 5 (.iload_n 2) 1 6 := ⟨by decide +kernel, rfl⟩
theorem dQ_set_6 : Dc Q_set 6 (.iconst (-1)) 1 7 := ⟨by decide +kernel, rfl⟩
theorem dQ_set_7 : Dc Q_set 7 (.if_icmp .eq 33) 3 10 := ⟨by decide +kernel, rfl⟩
theorem dQ_set_10 : Dc Q_set 10 (.iload_n 1) 1 11 := ⟨by decide +kernel, rfl⟩
theorem dQ_set_11 : Dc Q_set 11 (.iconst 0) 1 12 := ⟨by decide +kernel, rfl⟩
theorem dQ_set_12 : Dc Q_set 12 (.iconst 2) 1 13 := ⟨by decide +kernel, rfl⟩
theorem dQ_set_13 : Dc Q_set 13 (.invokestatic 79) 3 16 := ⟨by decide +kernel, rfl⟩
theorem dQ_set_16 : Dc Q_set 16 (.ifCond .eq 10) 3 19 := ⟨by decide +kernel, rfl⟩
theorem dQ_set_19 : Dc Q_set 19 (.iload_n 2) 1 20 := ⟨by decide +kernel, rfl⟩
theorem dQ_set_20 : Dc Q_set 20 (.invokestatic 91) 3 23 := ⟨by decide +kernel, rfl⟩
theorem dQ_set_23 : Dc Q_set 23 (.ifCond .ne 17) 3 26 := ⟨by decide +kernel, rfl⟩
theorem dQ_set_26 : Dc Q_set 26 (.iload_n 1) 1 27 := ⟨by decide +kernel, rfl⟩
theorem dQ_set_27 : Dc Q_set 27 (.iconst 3) 1 28 := ⟨by decide +kernel, rfl⟩
theorem dQ_set_28 : Dc Q_set 28 (.if_icmp .ne 16) 3 31 := ⟨by decide +kernel, rfl⟩
theorem dQ_set_31 : Dc Q_set 31 (.iload_n 2) 1 32 := ⟨by decide +kernel, rfl⟩
theorem dQ_set_32 : Dc Q_set 32 (.iconst 0) 1 33 := ⟨by decide +kernel, rfl⟩
theorem dQ_set_33 : Dc Q_set 33 (.iconst 5) 1 34 := ⟨by decide +kernel, rfl⟩
theorem dQ_set_34 : Dc Q_set 34 (.invokestatic 79) 3 37 := ⟨by decide +kernel, rfl⟩
theorem dQ_set_37 : Dc Q_set 37 (.ifCond .eq 7) 3 40 := ⟨by decide +kernel, rfl⟩
theorem dQ_set_40 : Dc Q_set 40 (.iconst 1) 1 41 := ⟨by decide +kernel, rfl⟩
theorem dQ_set_41 : Dc Q_set 41 (.goto 4) 3 44 := ⟨by decide +kernel, rfl⟩
theorem dQ_set_44 : Dc Q_set 44 (.iconst 0) 1 45 := ⟨by decide +kernel, rfl⟩
theorem dQ_set_45 : Dc Q_set 45 (.istore_n 3) 1 46 := ⟨by decide +kernel, rfl⟩
theorem dQ_set_46 : Dc Q_set 46 (.iload_n 3) 1 47 := ⟨by decide +kernel, rfl⟩
theorem dQ_set_47 : Dc Q_set 47 (.ifCond .ne 10) 3 50 := ⟨by decide +kernel, rfl⟩
theorem dQ_set_50 : Dc Q_set 50 (.aload_n 0) 1 51 := ⟨by decide +kernel, rfl⟩
theorem dQ_set_51 : Dc Q_set 51 (.ldc 69) 2 53 := ⟨by decide +kernel, rfl⟩
theorem dQ_set_53 : Dc Q_set 53 (.invokevirtual 75) 3 56 := ⟨by decide +kernel, rfl⟩
theorem dQ_set_56 : Dc Q_set 56 (.ireturn) 1 57 := ⟨by decide +kernel, rfl⟩
theorem dQ_set_57 : Dc Q_set 57 (.iload_n 1) 1 58 := ⟨by decide +kernel, rfl⟩
theorem dQ_set_58 : Dc Q_set 58 (.iconst 1) 1 59 := ⟨by decide +kernel, rfl⟩
theorem dQ_set_59 : Dc Q_set 59 (.if_icmp .ne 11) 3 62 := ⟨by decide +kernel, rfl⟩
theorem dQ_set_62 : Dc Q_set 62 (.aload_n 0) 1 63 := ⟨by decide +kernel, rfl⟩
theorem dQ_set_63 : Dc Q_set 63 (.iload_n 2) 1 64 := ⟨by decide +kernel, rfl⟩
theorem dQ_set_64 : Dc Q_set 64 (.invokevirtual 95) 3 67 := ⟨by decide +kernel, rfl⟩
theorem dQ_set_67 : Dc Q_set 67 (.goto 11) 3 70 := ⟨by decide +kernel, rfl⟩
theorem dQ_set_70 : Dc Q_set 70 (.aload_n 0) 1 71 := ⟨by decide +kernel, rfl⟩
theorem dQ_set_71 : Dc Q_set 71 (.iconst 3) 1 72 := ⟨by decide +kernel, rfl⟩
theorem dQ_set_72 : Dc Q_set 72 (.iload_n 1) 1 73 := ⟨by decide +kernel, rfl⟩
theorem dQ_set_73 : Dc Q_set 73 (.iadd) 1 74 := ⟨by decide +kernel, rfl⟩
theorem dQ_set_74 : Dc Q_set 74 (.iload_n 2) 1 75 := ⟨by decide +kernel, rfl⟩
theorem dQ_set_75 : Dc Q_set 75 (.invokevirtual 98) 3 78 := ⟨by decide +kernel, rfl⟩
theorem dQ_set_78 : Dc Q_set 78 (.ireturn) 1 79 := ⟨by decide +kernel, rfl⟩
theorem dQ_within_0 : Dc Q_within 0 (.iload_n 0) 1 1 := ⟨by decide +kernel, rfl⟩
theorem dQ_within_1 : Dc Q_within 1 (.iload_n 1) 1 2 := ⟨by decide +kernel, rfl⟩
theorem dQ_within_2 : Dc Q_within 2 (.if_icmp .lt 12) 3 5 := ⟨by decide +kernel, rfl⟩
theorem dQ_within_5 : Dc Q_within 5 (.iload_n 0) 1 6 := ⟨by decide +kernel, rfl⟩
theorem dQ_within_6 : Dc Q_within 6 (.iload_n 2) 1 7 := ⟨by decide +kernel, rfl⟩
theorem dQ_within_7 : Dc Q_within 7 (.if_icmp .gt 7) 3 10 := ⟨by decide +kernel, rfl⟩
theorem dQ_within_10 : Dc Q_within 10 (.iconst 1) 1 11 := ⟨by decide +kernel, rfl⟩
theorem dQ_within_11 : Dc Q_within 11 (.goto 4) 3 14 := ⟨by decide +kernel, rfl⟩
theorem dQ_within_14 : Dc Q_within 14 (.iconst 0) 1 15 := ⟨by decide +kernel, rfl⟩
theorem dQ_within_15 : Dc Q_within 15 (.ireturn) 1 16 := ⟨by decide +kernel, rfl⟩
theorem dQ_isCell_0 : Dc Q_isCell 0 (.iload_n 0) 1 1 := ⟨by decide +kernel, rfl⟩
theorem dQ_isCell_1 : Dc Q_isCell 1 (.iconst 0) 1 2 := ⟨by decide +kernel, rfl⟩
theorem dQ_isCell_2 : Dc Q_isCell 2 (.bipush 15) 2 4 := ⟨by decide +kernel, rfl⟩
theorem dQ_isCell_4 : Dc Q_isCell 4 (.invokestatic 79) 3 7 := ⟨by decide +kernel, rfl⟩
theorem dQ_isCell_7 : Dc Q_isCell 7 (.ireturn) 1 8 := ⟨by decide +kernel, rfl⟩
theorem dQ_finding_0 : Dc Q_finding 0 (.aload_n 0) 1 1 := ⟨by decide +kernel, rfl⟩
theorem dQ_finding_1 : Dc Q_finding 1 (.getfield 19) 3 4 := ⟨by decide +kernel, rfl⟩
theorem dQ_finding_4 : Dc Q_finding 4 (.ldc 69) 2 6 := ⟨by decide +kernel, rfl⟩
theorem dQ_finding_6 : Dc Q_finding 6 (.iload_n 1) 1 7 := ⟨by decide +kernel, rfl⟩
theorem dQ_finding_7 : Dc Q_finding 7 (.isub) 1 8 := ⟨by decide +kernel, rfl⟩
theorem dQ_finding_8 : Dc Q_finding 8 (.iconst 1) 1 9 := ⟨by decide +kernel, rfl⟩
theorem dQ_finding_9 : Dc Q_finding 9 (.iadd) 1 10 := ⟨by decide +kernel, rfl⟩
theorem dQ_finding_10 : Dc Q_finding 10 (.dup2) 1 11 := ⟨by decide +kernel, rfl⟩
theorem dQ_finding_11 : Dc Q_finding 11 (.iaload) 1 12 := ⟨by decide +kernel, rfl⟩
theorem dQ_finding_12 : Dc Q_finding 12 (.iconst 1) 1 13 := ⟨by decide +kernel, rfl⟩
theorem dQ_finding_13 : Dc Q_finding 13 (.iadd) 1 14 := ⟨by decide +kernel, rfl⟩
theorem dQ_finding_14 : Dc Q_finding 14 (.iastore) 1 15 := ⟨by decide +kernel, rfl⟩
theorem dQ_finding_15 : Dc Q_finding 15 (.aload_n 0) 1 16 := ⟨by decide +kernel, rfl⟩
theorem dQ_finding_16 : Dc Q_finding 16 (.getfield 19) 3 19 := ⟨by decide +kernel, rfl⟩
theorem dQ_finding_19 : Dc Q_finding 19 (.iconst 0) 1 20 := ⟨by decide +kernel, rfl⟩
theorem dQ_finding_20 : Dc Q_finding 20 (.dup2) 1 21 := ⟨by decide +kernel, rfl⟩
theorem dQ_finding_21 : Dc Q_finding 21 (.iaload) 1 22 := ⟨by decide +kernel, rfl⟩
theorem dQ_finding_22 : Dc Q_finding 22 (.iconst 1) 1 23 := ⟨by decide +kernel, rfl⟩
theorem dQ_finding_23 : Dc Q_finding 23 (.iadd) 1 24 := ⟨by decide +kernel, rfl⟩
theorem dQ_finding_24 : Dc Q_finding 24 (.iastore) 1 25 := ⟨by decide +kernel, rfl⟩
theorem dQ_finding_25 : Dc Q_finding 25 (.iload_n 1) 1 26 := ⟨by decide +kernel, rfl⟩
theorem dQ_finding_26 : Dc Q_finding 26 (.ireturn) 1 27 := ⟨by decide +kernel, rfl⟩
theorem dQ_keeperTo_0 : Dc Q_keeperTo 0 (.aload_n 0) 1 1 := ⟨by decide +kernel, rfl⟩
theorem dQ_keeperTo_1 : Dc Q_keeperTo 1 (.getfield 9) 3 4 := ⟨by decide +kernel, rfl⟩
theorem dQ_keeperTo_4 : Dc Q_keeperTo 4 (.iconst 4) 1 5 := ⟨by decide +kernel, rfl⟩
theorem dQ_keeperTo_5 : Dc Q_keeperTo 5 (.iaload) 1 6 := ⟨by decide +kernel, rfl⟩
theorem dQ_keeperTo_6 : Dc Q_keeperTo 6 (.istore_n 2) 1 7 := ⟨by decide +kernel, rfl⟩
theorem dQ_keeperTo_7 : Dc Q_keeperTo 7 (.aload_n 0) 1 8 := ⟨by decide +kernel, rfl⟩
theorem dQ_keeperTo_8 : Dc Q_keeperTo 8 (.iload_n 1) 1 9 := ⟨by decide +kernel, rfl⟩
theorem dQ_keeperTo_9 : Dc Q_keeperTo 9 (.invokevirtual 87) 3 12 := ⟨by decide +kernel, rfl⟩
theorem dQ_keeperTo_12 : Dc Q_keeperTo 12 (.iload_n 2) 1 13 := ⟨by decide +kernel, rfl⟩
theorem dQ_keeperTo_13 : Dc Q_keeperTo 13 (.ireturn) 1 14 := ⟨by decide +kernel, rfl⟩
theorem dQ_keeperAt_0 : Dc Q_keeperAt 0 (.aload_n 0) 1 1 := ⟨by decide +kernel, rfl⟩
theorem dQ_keeperAt_1 : Dc Q_keeperAt 1 (.getfield 9) 3 4 := ⟨by decide +kernel, rfl⟩
theorem dQ_keeperAt_4 : Dc Q_keeperAt 4 (.iconst 4) 1 5 := ⟨by decide +kernel, rfl⟩
theorem dQ_keeperAt_5 : Dc Q_keeperAt 5 (.iload_n 1) 1 6 := ⟨by decide +kernel, rfl⟩
theorem dQ_keeperAt_6 : Dc Q_keeperAt 6 (.iastore) 1 7 := ⟨by decide +kernel, rfl⟩
theorem dQ_keeperAt_7 : Dc Q_keeperAt 7 (.aload_n 0) 1 8 := ⟨by decide +kernel, rfl⟩
theorem dQ_keeperAt_8 : Dc Q_keeperAt 8 (.getfield 9) 3 11 := ⟨by decide +kernel, rfl⟩
theorem dQ_keeperAt_11 : Dc Q_keeperAt 11 (.bipush 7) 2 13 := ⟨by decide +kernel, rfl⟩
theorem dQ_keeperAt_13 : Dc Q_keeperAt 13 (.iaload) 1 14 := ⟨by decide +kernel, rfl⟩
theorem dQ_keeperAt_14 : Dc Q_keeperAt 14 (.ifCond .lt 20) 3 17 := ⟨by decide +kernel, rfl⟩
theorem dQ_keeperAt_17 : Dc Q_keeperAt 17 (.aload_n 0) 1 18 := ⟨by decide +kernel, rfl⟩
theorem dQ_keeperAt_18 : Dc Q_keeperAt 18 (.getfield 9) 3 21 := ⟨by decide +kernel, rfl⟩
theorem dQ_keeperAt_21 : Dc Q_keeperAt 21 (.aload_n 0) 1 22 := ⟨by decide +kernel, rfl⟩
theorem dQ_keeperAt_22 : Dc Q_keeperAt 22 (.getfield 9) 3 25 := ⟨by decide +kernel, rfl⟩
theorem dQ_keeperAt_25 : Dc Q_keeperAt 25 (.bipush 7) 2 27 := ⟨by decide +kernel, rfl⟩
theorem dQ_keeperAt_27 : Dc Q_keeperAt 27 (.iaload) 1 28 := ⟨by decide +kernel, rfl⟩
theorem dQ_keeperAt_28 : Dc Q_keeperAt 28 (.iconst 1) 1 29 := ⟨by decide +kernel, rfl⟩
theorem dQ_keeperAt_29 : Dc Q_keeperAt 29 (.invokestatic 83) 3 32 := ⟨by decide +kernel, rfl⟩
theorem dQ_keeperAt_32 : Dc Q_keeperAt 32 (.iload_n 1) 1 33 := ⟨by decide +kernel, rfl⟩
theorem dQ_keeperAt_33 : Dc Q_keeperAt 33 (.iastore) 1 34 := ⟨by decide +kernel, rfl⟩
theorem dQ_keeperAt_34 : Dc Q_keeperAt 34 (.return_) 1 35 := ⟨by decide +kernel, rfl⟩
theorem dQ_sheepAt_0 : Dc Q_sheepAt 0 (.bipush 18) 2 2 := ⟨by decide +kernel, rfl⟩
theorem dQ_sheepAt_2 : Dc Q_sheepAt 2 (.iconst 5) 1 3 := ⟨by decide +kernel, rfl⟩
theorem dQ_sheepAt_3 : Dc Q_sheepAt 3 (.iload_n 0) 1 4 := ⟨by decide +kernel, rfl⟩
theorem dQ_sheepAt_4 : Dc Q_sheepAt 4 (.imul) 1 5 := ⟨by decide +kernel, rfl⟩
theorem dQ_sheepAt_5 : Dc Q_sheepAt 5 (.iadd) 1 6 := ⟨by decide +kernel, rfl⟩
theorem dQ_sheepAt_6 : Dc Q_sheepAt 6 (.iload_n 1) 1 7 := ⟨by decide +kernel, rfl⟩
theorem dQ_sheepAt_7 : Dc Q_sheepAt 7 (.iadd) 1 8 := ⟨by decide +kernel, rfl⟩
theorem dQ_sheepAt_8 : Dc Q_sheepAt 8 (.ireturn) 1 9 := ⟨by decide +kernel, rfl⟩
theorem dQ_become_0 : Dc Q_become 0 (.aload_n 0) 1 1 := ⟨by decide +kernel, rfl⟩
theorem dQ_become_1 : Dc Q_become 1 (.getfield 9) 3 4 := ⟨by decide +kernel, rfl⟩
theorem dQ_become_4 : Dc Q_become 4 (.iload_n 1) 1 5 := ⟨by decide +kernel, rfl⟩
theorem dQ_become_5 : Dc Q_become 5 (.iaload) 1 6 := ⟨by decide +kernel, rfl⟩
theorem dQ_become_6 : Dc Q_become 6 (.istore_n 3) 1 7 := ⟨by decide +kernel, rfl⟩
theorem dQ_become_7 : Dc Q_become 7 (.aload_n 0) 1 8 := ⟨by decide +kernel, rfl⟩
theorem dQ_become_8 : Dc Q_become 8 (.getfield 9) 3 11 := ⟨by decide +kernel, rfl⟩
theorem dQ_become_11 : Dc Q_become 11 (.iload_n 1) 1 12 := ⟨by decide +kernel, rfl⟩
theorem dQ_become_12 : Dc Q_become 12 (.iload_n 2) 1 13 := ⟨by decide +kernel, rfl⟩
theorem dQ_become_13 : Dc Q_become 13 (.iastore) 1 14 := ⟨by decide +kernel, rfl⟩
theorem dQ_become_14 : Dc Q_become 14 (.iload_n 3) 1 15 := ⟨by decide +kernel, rfl⟩
theorem dQ_become_15 : Dc Q_become 15 (.ireturn) 1 16 := ⟨by decide +kernel, rfl⟩
theorem dQ_hill_0 : Dc Q_hill 0 (.iload_n 1) 1 1 := ⟨by decide +kernel, rfl⟩
theorem dQ_hill_1 : Dc Q_hill 1 (.iconst 0) 1 2 := ⟨by decide +kernel, rfl⟩
theorem dQ_hill_2 : Dc Q_hill 2 (.iconst 4) 1 3 := ⟨by decide +kernel, rfl⟩
theorem dQ_hill_3 : Dc Q_hill 3 (.invokestatic 79) 3 6 := ⟨by decide +kernel, rfl⟩
theorem dQ_hill_6 : Dc Q_hill 6 (.ifCond .eq 14) 3 9 := ⟨by decide +kernel, rfl⟩
theorem dQ_hill_9 : Dc Q_hill 9 (.aload_n 0) 1 10 := ⟨by decide +kernel, rfl⟩
theorem dQ_hill_10 : Dc Q_hill 10 (.getfield 9) 3 13 := ⟨by decide +kernel, rfl⟩
theorem dQ_hill_13 : Dc Q_hill 13 (.iconst 3) 1 14 := ⟨by decide +kernel, rfl⟩
theorem dQ_hill_14 : Dc Q_hill 14 (.iload_n 1) 1 15 := ⟨by decide +kernel, rfl⟩
theorem dQ_hill_15 : Dc Q_hill 15 (.iadd) 1 16 := ⟨by decide +kernel, rfl⟩
theorem dQ_hill_16 : Dc Q_hill 16 (.iaload) 1 17 := ⟨by decide +kernel, rfl⟩
theorem dQ_hill_17 : Dc Q_hill 17 (.goto 9) 3 20 := ⟨by decide +kernel, rfl⟩
theorem dQ_hill_20 : Dc Q_hill 20 (.aload_n 0) 1 21 := ⟨by decide +kernel, rfl⟩
theorem dQ_hill_21 : Dc Q_hill 21 (.ldc 69) 2 23 := ⟨by decide +kernel, rfl⟩
theorem dQ_hill_23 : Dc Q_hill 23 (.invokevirtual 75) 3 26 := ⟨by decide +kernel, rfl⟩
theorem dQ_hill_26 : Dc Q_hill 26 (.ireturn) 1 27 := ⟨by decide +kernel, rfl⟩
theorem dQ_sheep_0 : Dc Q_sheep 0 (.iload_n 1) 1 1 := ⟨by decide +kernel, rfl⟩
theorem dQ_sheep_1 : Dc Q_sheep 1 (.invokestatic 101) 3 4 := ⟨by decide +kernel, rfl⟩
theorem dQ_sheep_4 : Dc Q_sheep 4 (.ifCond .eq 10) 3 7 := ⟨by decide +kernel, rfl⟩
theorem dQ_sheep_7 : Dc Q_sheep 7 (.iload_n 2) 1 8 := ⟨by decide +kernel, rfl⟩
theorem dQ_sheep_8 : Dc Q_sheep 8 (.invokestatic 91) 3 11 := ⟨by decide +kernel, rfl⟩
theorem dQ_sheep_11 : Dc Q_sheep 11 (.ifCond .ne 10) 3 14 := ⟨by decide +kernel, rfl⟩
theorem dQ_sheep_14 : Dc Q_sheep 14 (.aload_n 0) 1 15 := ⟨by decide +kernel, rfl⟩
theorem dQ_sheep_15 : Dc Q_sheep 15 (.ldc 69) 2 17 := ⟨by decide +kernel, rfl⟩
theorem dQ_sheep_17 : Dc Q_sheep 17 (.invokevirtual 75) 3 20 := ⟨by decide +kernel, rfl⟩
theorem dQ_sheep_20 : Dc Q_sheep 20 (.ireturn) 1 21 := ⟨by decide +kernel, rfl⟩
theorem dQ_sheep_21 : Dc Q_sheep 21 (.aload_n 0) 1 22 := ⟨by decide +kernel, rfl⟩
theorem dQ_sheep_22 : Dc Q_sheep 22 (.getfield 9) 3 25 := ⟨by decide +kernel, rfl⟩
theorem dQ_sheep_25 : Dc Q_sheep 25 (.iconst 1) 1 26 := ⟨by decide +kernel, rfl⟩
theorem dQ_sheep_26 : Dc Q_sheep 26 (.iaload) 1 27 := ⟨by decide +kernel, rfl⟩
theorem dQ_sheep_27 : Dc Q_sheep 27 (.bipush 8) 2 29 := ⟨by decide +kernel, rfl⟩
theorem dQ_sheep_29 : Dc Q_sheep 29 (.if_icmp .ne 12) 3 32 := ⟨by decide +kernel, rfl⟩
theorem dQ_sheep_32 : Dc Q_sheep 32 (.aload_n 0) 1 33 := ⟨by decide +kernel, rfl⟩
theorem dQ_sheep_33 : Dc Q_sheep 33 (.ldc 104) 2 35 := ⟨by decide +kernel, rfl⟩
theorem dQ_sheep_35 : Dc Q_sheep 35 (.invokevirtual 75) 3 38 := ⟨by decide +kernel, rfl⟩
theorem dQ_sheep_38 : Dc Q_sheep 38 (.goto 9) 3 41 := ⟨by decide +kernel, rfl⟩
theorem dQ_sheep_41 : Dc Q_sheep 41 (.aload_n 0) 1 42 := ⟨by decide +kernel, rfl⟩
theorem dQ_sheep_42 : Dc Q_sheep 42 (.iload_n 1) 1 43 := ⟨by decide +kernel, rfl⟩
theorem dQ_sheep_43 : Dc Q_sheep 43 (.iload_n 2) 1 44 := ⟨by decide +kernel, rfl⟩
theorem dQ_sheep_44 : Dc Q_sheep 44 (.invokevirtual 105) 3 47 := ⟨by decide +kernel, rfl⟩
theorem dQ_sheep_47 : Dc Q_sheep 47 (.ireturn) 1 48 := ⟨by decide +kernel, rfl⟩
theorem dQ_isKind_0 : Dc Q_isKind 0 (.iload_n 0) 1 1 := ⟨by decide +kernel, rfl⟩
theorem dQ_isKind_1 : Dc Q_isKind 1 (.iconst 0) 1 2 := ⟨by decide +kernel, rfl⟩
theorem dQ_isKind_2 : Dc Q_isKind 2 (.bipush 6) 2 4 := ⟨by decide +kernel, rfl⟩
theorem dQ_isKind_4 : Dc Q_isKind 4 (.invokestatic 79) 3 7 := ⟨by decide +kernel, rfl⟩
theorem dQ_isKind_7 : Dc Q_isKind 7 (.ireturn) 1 8 := ⟨by decide +kernel, rfl⟩
theorem dQ_comes_0 : Dc Q_comes 0 (.aload_n 0) 1 1 := ⟨by decide +kernel, rfl⟩
theorem dQ_comes_1 : Dc Q_comes 1 (.getfield 9) 3 4 := ⟨by decide +kernel, rfl⟩
theorem dQ_comes_4 : Dc Q_comes 4 (.iconst 1) 1 5 := ⟨by decide +kernel, rfl⟩
theorem dQ_comes_5 : Dc Q_comes 5 (.iaload) 1 6 := ⟨by decide +kernel, rfl⟩
theorem dQ_comes_6 : Dc Q_comes 6 (.istore_n 3) 1 7 := ⟨by decide +kernel, rfl⟩
theorem dQ_comes_7 : Dc Q_comes 7 (.iconst 0) 1 8 := ⟨by decide +kernel, rfl⟩
theorem dQ_comes_8 : Dc Q_comes 8 (.istore 4) 2 10 := ⟨by decide +kernel, rfl⟩
theorem dQ_comes_10 : Dc Q_comes 10 (.iload 4) 2 12 := ⟨by decide +kernel, rfl⟩
theorem dQ_comes_12 : Dc Q_comes 12 (.iconst 5) 1 13 := ⟨by decide +kernel, rfl⟩
theorem dQ_comes_13 : Dc Q_comes 13 (.if_icmp .ge 21) 3 16 := ⟨by decide +kernel, rfl⟩
theorem dQ_comes_16 : Dc Q_comes 16 (.aload_n 0) 1 17 := ⟨by decide +kernel, rfl⟩
theorem dQ_comes_17 : Dc Q_comes 17 (.getfield 9) 3 20 := ⟨by decide +kernel, rfl⟩
theorem dQ_comes_20 : Dc Q_comes 20 (.iload_n 3) 1 21 := ⟨by decide +kernel, rfl⟩
theorem dQ_comes_21 : Dc Q_comes 21 (.iload 4) 2 23 := ⟨by decide +kernel, rfl⟩
theorem dQ_comes_23 : Dc Q_comes 23 (.invokestatic 83) 3 26 := ⟨by decide +kernel, rfl⟩
theorem dQ_comes_26 : Dc Q_comes 26 (.iconst 0) 1 27 := ⟨by decide +kernel, rfl⟩
theorem dQ_comes_27 : Dc Q_comes 27 (.iastore) 1 28 := ⟨by decide +kernel, rfl⟩
theorem dQ_comes_28 : Dc Q_comes 28 (.iinc 4 1) 3 31 := ⟨by decide +kernel, rfl⟩
theorem dQ_comes_31 : Dc Q_comes 31 (.goto (-21)) 3 34 := ⟨by decide +kernel, rfl⟩
theorem dQ_comes_34 : Dc Q_comes 34 (.aload_n 0) 1 35 := ⟨by decide +kernel, rfl⟩
theorem dQ_comes_35 : Dc Q_comes 35 (.getfield 9) 3 38 := ⟨by decide +kernel, rfl⟩
theorem dQ_comes_38 : Dc Q_comes 38 (.iload_n 3) 1 39 := ⟨by decide +kernel, rfl⟩
theorem dQ_comes_39 : Dc Q_comes 39 (.iconst 0) 1 40 := ⟨by decide +kernel, rfl⟩
theorem dQ_comes_40 : Dc Q_comes 40 (.invokestatic 83) 3 43 := ⟨by decide +kernel, rfl⟩
theorem dQ_comes_43 : Dc Q_comes 43 (.iload_n 1) 1 44 := ⟨by decide +kernel, rfl⟩
theorem dQ_comes_44 : Dc Q_comes 44 (.iastore) 1 45 := ⟨by decide +kernel, rfl⟩
theorem dQ_comes_45 : Dc Q_comes 45 (.aload_n 0) 1 46 := ⟨by decide +kernel, rfl⟩
theorem dQ_comes_46 : Dc Q_comes 46 (.getfield 9) 3 49 := ⟨by decide +kernel, rfl⟩
theorem dQ_comes_49 : Dc Q_comes 49 (.iload_n 3) 1 50 := ⟨by decide +kernel, rfl⟩
theorem dQ_comes_50 : Dc Q_comes 50 (.iconst 1) 1 51 := ⟨by decide +kernel, rfl⟩
theorem dQ_comes_51 : Dc Q_comes 51 (.invokestatic 83) 3 54 := ⟨by decide +kernel, rfl⟩
theorem dQ_comes_54 : Dc Q_comes 54 (.iload_n 2) 1 55 := ⟨by decide +kernel, rfl⟩
theorem dQ_comes_55 : Dc Q_comes 55 (.iastore) 1 56 := ⟨by decide +kernel, rfl⟩
theorem dQ_comes_56 : Dc Q_comes 56 (.aload_n 0) 1 57 := ⟨by decide +kernel, rfl⟩
theorem dQ_comes_57 : Dc Q_comes 57 (.getfield 9) 3 60 := ⟨by decide +kernel, rfl⟩
theorem dQ_comes_60 : Dc Q_comes 60 (.iconst 1) 1 61 := ⟨by decide +kernel, rfl⟩
theorem dQ_comes_61 : Dc Q_comes 61 (.dup2) 1 62 := ⟨by decide +kernel, rfl⟩
theorem dQ_comes_62 : Dc Q_comes 62 (.iaload) 1 63 := ⟨by decide +kernel, rfl⟩
theorem dQ_comes_63 : Dc Q_comes 63 (.iconst 1) 1 64 := ⟨by decide +kernel, rfl⟩
theorem dQ_comes_64 : Dc Q_comes 64 (.iadd) 1 65 := ⟨by decide +kernel, rfl⟩
theorem dQ_comes_65 : Dc Q_comes 65 (.iastore) 1 66 := ⟨by decide +kernel, rfl⟩
theorem dQ_comes_66 : Dc Q_comes 66 (.iload_n 3) 1 67 := ⟨by decide +kernel, rfl⟩
theorem dQ_comes_67 : Dc Q_comes 67 (.ireturn) 1 68 := ⟨by decide +kernel, rfl⟩
theorem dQ_of_0 : Dc Q_of 0 (.aload_n 0) 1 1 := ⟨by decide +kernel, rfl⟩
theorem dQ_of_1 : Dc Q_of 1 (.iload_n 1) 1 2 := ⟨by decide +kernel, rfl⟩
theorem dQ_of_2 : Dc Q_of 2 (.invokevirtual 119) 3 5 := ⟨by decide +kernel, rfl⟩
theorem dQ_of_5 : Dc Q_of 5 (.ifCond .eq 13) 3 8 := ⟨by decide +kernel, rfl⟩
theorem dQ_of_8 : Dc Q_of 8 (.iload_n 2) 1 9 := ⟨by decide +kernel, rfl⟩
theorem dQ_of_9 : Dc Q_of 9 (.iconst 0) 1 10 := ⟨by decide +kernel, rfl⟩
theorem dQ_of_10 : Dc Q_of 10 (.bipush 9) 2 12 := ⟨by decide +kernel, rfl⟩
theorem dQ_of_12 : Dc Q_of 12 (.invokestatic 79) 3 15 := ⟨by decide +kernel, rfl⟩
theorem dQ_of_15 : Dc Q_of 15 (.ifCond .ne 10) 3 18 := ⟨by decide +kernel, rfl⟩
theorem dQ_of_18 : Dc Q_of 18 (.aload_n 0) 1 19 := ⟨by decide +kernel, rfl⟩
theorem dQ_of_19 : Dc Q_of 19 (.ldc 69) 2 21 := ⟨by decide +kernel, rfl⟩
theorem dQ_of_21 : Dc Q_of 21 (.invokevirtual 75) 3 24 := ⟨by decide +kernel, rfl⟩
theorem dQ_of_24 : Dc Q_of 24 (.ireturn) 1 25 := ⟨by decide +kernel, rfl⟩
theorem dQ_of_25 : Dc Q_of 25 (.iload_n 2) 1 26 := ⟨by decide +kernel, rfl⟩
theorem dQ_of_26 : Dc Q_of 26 (.tableswitch 64 5 9 #[34, 40, 46, 52, 58]) 34 60 := ⟨by decide +kernel, rfl⟩
theorem dQ_of_60 : Dc Q_of 60 (.aload_n 0) 1 61 := ⟨by decide +kernel, rfl⟩
theorem dQ_of_61 : Dc Q_of 61 (.iload_n 1) 1 62 := ⟨by decide +kernel, rfl⟩
theorem dQ_of_62 : Dc Q_of 62 (.invokevirtual 122) 3 65 := ⟨by decide +kernel, rfl⟩
theorem dQ_of_65 : Dc Q_of 65 (.ireturn) 1 66 := ⟨by decide +kernel, rfl⟩
theorem dQ_of_66 : Dc Q_of 66 (.aload_n 0) 1 67 := ⟨by decide +kernel, rfl⟩
theorem dQ_of_67 : Dc Q_of 67 (.iload_n 1) 1 68 := ⟨by decide +kernel, rfl⟩
theorem dQ_of_68 : Dc Q_of 68 (.invokevirtual 125) 3 71 := ⟨by decide +kernel, rfl⟩
theorem dQ_of_71 : Dc Q_of 71 (.ireturn) 1 72 := ⟨by decide +kernel, rfl⟩
theorem dQ_of_72 : Dc Q_of 72 (.aload_n 0) 1 73 := ⟨by decide +kernel, rfl⟩
theorem dQ_of_73 : Dc Q_of 73 (.iload_n 1) 1 74 := ⟨by decide +kernel, rfl⟩
theorem dQ_of_74 : Dc Q_of 74 (.invokevirtual 128) 3 77 := ⟨by decide +kernel, rfl⟩
theorem dQ_of_77 : Dc Q_of 77 (.ireturn) 1 78 := ⟨by decide +kernel, rfl⟩
theorem dQ_of_78 : Dc Q_of 78 (.aload_n 0) 1 79 := ⟨by decide +kernel, rfl⟩
theorem dQ_of_79 : Dc Q_of 79 (.iload_n 1) 1 80 := ⟨by decide +kernel, rfl⟩
theorem dQ_of_80 : Dc Q_of 80 (.invokevirtual 131) 3 83 := ⟨by decide +kernel, rfl⟩
theorem dQ_of_83 : Dc Q_of 83 (.ireturn) 1 84 := ⟨by decide +kernel, rfl⟩
theorem dQ_of_84 : Dc Q_of 84 (.aload_n 0) 1 85 := ⟨by decide +kernel, rfl⟩
theorem dQ_of_85 : Dc Q_of 85 (.iload_n 1) 1 86 := ⟨by decide +kernel, rfl⟩
theorem dQ_of_86 : Dc Q_of 86 (.invokevirtual 134) 3 89 := ⟨by decide +kernel, rfl⟩
theorem dQ_of_89 : Dc Q_of 89 (.ireturn) 1 90 := ⟨by decide +kernel, rfl⟩
theorem dQ_of_90 : Dc Q_of 90 (.aload_n 0) 1 91 := ⟨by decide +kernel, rfl⟩
theorem dQ_of_91 : Dc Q_of 91 (.iload_n 1) 1 92 := ⟨by decide +kernel, rfl⟩
theorem dQ_of_92 : Dc Q_of 92 (.iload_n 2) 1 93 := ⟨by decide +kernel, rfl⟩
theorem dQ_of_93 : Dc Q_of 93 (.invokevirtual 108) 3 96 := ⟨by decide +kernel, rfl⟩
theorem dQ_of_96 : Dc Q_of 96 (.ireturn) 1 97 := ⟨by decide +kernel, rfl⟩
theorem dQ_isSheep_0 : Dc Q_isSheep 0 (.iload_n 1) 1 1 := ⟨by decide +kernel, rfl⟩
theorem dQ_isSheep_1 : Dc Q_isSheep 1 (.iconst 0) 1 2 := ⟨by decide +kernel, rfl⟩
theorem dQ_isSheep_2 : Dc Q_isSheep 2 (.aload_n 0) 1 3 := ⟨by decide +kernel, rfl⟩
theorem dQ_isSheep_3 : Dc Q_isSheep 3 (.getfield 9) 3 6 := ⟨by decide +kernel, rfl⟩
theorem dQ_isSheep_6 : Dc Q_isSheep 6 (.iconst 1) 1 7 := ⟨by decide +kernel, rfl⟩
theorem dQ_isSheep_7 : Dc Q_isSheep 7 (.iaload) 1 8 := ⟨by decide +kernel, rfl⟩
theorem dQ_isSheep_8 : Dc Q_isSheep 8 (.iconst 1) 1 9 := ⟨by decide +kernel, rfl⟩
theorem dQ_isSheep_9 : Dc Q_isSheep 9 (.isub) 1 10 := ⟨by decide +kernel, rfl⟩
theorem dQ_isSheep_10 : Dc Q_isSheep 10 (.invokestatic 79) 3 13 := ⟨by decide +kernel, rfl⟩
theorem dQ_isSheep_13 : Dc Q_isSheep 13 (.ireturn) 1 14 := ⟨by decide +kernel, rfl⟩
theorem dQ_far_0 : Dc Q_far 0 (.aload_n 0) 1 1 := ⟨by decide +kernel, rfl⟩
theorem dQ_far_1 : Dc Q_far 1 (.iload_n 1) 1 2 := ⟨by decide +kernel, rfl⟩
theorem dQ_far_2 : Dc Q_far 2 (.iconst 1) 1 3 := ⟨by decide +kernel, rfl⟩
theorem dQ_far_3 : Dc Q_far 3 (.invokevirtual 108) 3 6 := ⟨by decide +kernel, rfl⟩
theorem dQ_far_6 : Dc Q_far 6 (.aload_n 0) 1 7 := ⟨by decide +kernel, rfl⟩
theorem dQ_far_7 : Dc Q_far 7 (.getfield 9) 3 10 := ⟨by decide +kernel, rfl⟩
theorem dQ_far_10 : Dc Q_far 10 (.iconst 3) 1 11 := ⟨by decide +kernel, rfl⟩
theorem dQ_far_11 : Dc Q_far 11 (.iaload) 1 12 := ⟨by decide +kernel, rfl⟩
theorem dQ_far_12 : Dc Q_far 12 (.isub) 1 13 := ⟨by decide +kernel, rfl⟩
theorem dQ_far_13 : Dc Q_far 13 (.invokestatic 111) 3 16 := ⟨by decide +kernel, rfl⟩
theorem dQ_far_16 : Dc Q_far 16 (.ireturn) 1 17 := ⟨by decide +kernel, rfl⟩
theorem dQ_sheepIs_0 : Dc Q_sheepIs 0 (.aload_n 0) 1 1 := ⟨by decide +kernel, rfl⟩
theorem dQ_sheepIs_1 : Dc Q_sheepIs 1 (.getfield 9) 3 4 := ⟨by decide +kernel, rfl⟩
theorem dQ_sheepIs_4 : Dc Q_sheepIs 4 (.iload_n 1) 1 5 := ⟨by decide +kernel, rfl⟩
theorem dQ_sheepIs_5 : Dc Q_sheepIs 5 (.iload_n 2) 1 6 := ⟨by decide +kernel, rfl⟩
theorem dQ_sheepIs_6 : Dc Q_sheepIs 6 (.invokestatic 83) 3 9 := ⟨by decide +kernel, rfl⟩
theorem dQ_sheepIs_9 : Dc Q_sheepIs 9 (.iaload) 1 10 := ⟨by decide +kernel, rfl⟩
theorem dQ_sheepIs_10 : Dc Q_sheepIs 10 (.ireturn) 1 11 := ⟨by decide +kernel, rfl⟩
theorem dJM_abs_0 : Dc JM_abs 0 (.iload_n 0) 1 1 := ⟨by decide +kernel, rfl⟩
theorem dJM_abs_1 : Dc JM_abs 1 (.ifCond .ge 8) 3 4 := ⟨by decide +kernel, rfl⟩
theorem dJM_abs_4 : Dc JM_abs 4 (.iload_n 0) 1 5 := ⟨by decide +kernel, rfl⟩
theorem dJM_abs_5 : Dc JM_abs 5 (.ineg) 1 6 := ⟨by decide +kernel, rfl⟩
theorem dJM_abs_6 : Dc JM_abs 6 (.goto 4) 3 9 := ⟨by decide +kernel, rfl⟩
theorem dJM_abs_9 : Dc JM_abs 9 (.iload_n 0) 1 10 := ⟨by decide +kernel, rfl⟩
theorem dJM_abs_10 : Dc JM_abs 10 (.ireturn) 1 11 := ⟨by decide +kernel, rfl⟩
theorem dQ_strays_0 : Dc Q_strays 0 (.aload_n 0) 1 1 := ⟨by decide +kernel, rfl⟩
theorem dQ_strays_1 : Dc Q_strays 1 (.getfield 9) 3 4 := ⟨by decide +kernel, rfl⟩
theorem dQ_strays_4 : Dc Q_strays 4 (.iconst 0) 1 5 := ⟨by decide +kernel, rfl⟩
theorem dQ_strays_5 : Dc Q_strays 5 (.iaload) 1 6 := ⟨by decide +kernel, rfl⟩
theorem dQ_strays_6 : Dc Q_strays 6 (.iconst 3) 1 7 := ⟨by decide +kernel, rfl⟩
theorem dQ_strays_7 : Dc Q_strays 7 (.irem) 1 8 := ⟨by decide +kernel, rfl⟩
theorem dQ_strays_8 : Dc Q_strays 8 (.ifCond .ne 7) 3 11 := ⟨by decide +kernel, rfl⟩
theorem dQ_strays_11 : Dc Q_strays 11 (.iconst 1) 1 12 := ⟨by decide +kernel, rfl⟩
theorem dQ_strays_12 : Dc Q_strays 12 (.goto 4) 3 15 := ⟨by decide +kernel, rfl⟩
theorem dQ_strays_15 : Dc Q_strays 15 (.iconst 0) 1 16 := ⟨by decide +kernel, rfl⟩
theorem dQ_strays_16 : Dc Q_strays 16 (.istore_n 2) 1 17 := ⟨by decide +kernel, rfl⟩
theorem dQ_strays_17 : Dc Q_strays 17 (.aload_n 0) 1 18 := ⟨by decide +kernel, rfl⟩
theorem dQ_strays_18 : Dc Q_strays 18 (.iload_n 1) 1 19 := ⟨by decide +kernel, rfl⟩
theorem dQ_strays_19 : Dc Q_strays 19 (.iconst 2) 1 20 := ⟨by decide +kernel, rfl⟩
theorem dQ_strays_20 : Dc Q_strays 20 (.invokevirtual 108) 3 23 := ⟨by decide +kernel, rfl⟩
theorem dQ_strays_23 : Dc Q_strays 23 (.bipush 50) 2 25 := ⟨by decide +kernel, rfl⟩
theorem dQ_strays_25 : Dc Q_strays 25 (.if_icmp .lt 9) 3 28 := ⟨by decide +kernel, rfl⟩
theorem dQ_strays_28 : Dc Q_strays 28 (.iload_n 2) 1 29 := ⟨by decide +kernel, rfl⟩
theorem dQ_strays_29 : Dc Q_strays 29 (.iconst 1) 1 30 := ⟨by decide +kernel, rfl⟩
theorem dQ_strays_30 : Dc Q_strays 30 (.iadd) 1 31 := ⟨by decide +kernel, rfl⟩
theorem dQ_strays_31 : Dc Q_strays 31 (.goto 4) 3 34 := ⟨by decide +kernel, rfl⟩
theorem dQ_strays_34 : Dc Q_strays 34 (.iload_n 2) 1 35 := ⟨by decide +kernel, rfl⟩
theorem dQ_strays_35 : Dc Q_strays 35 (.istore_n 3) 1 36 := ⟨by decide +kernel, rfl⟩
theorem dQ_strays_36 : Dc Q_strays 36 (.aload_n 0) 1 37 := ⟨by decide +kernel, rfl⟩
theorem dQ_strays_37 : Dc Q_strays 37 (.iload_n 1) 1 38 := ⟨by decide +kernel, rfl⟩
theorem dQ_strays_38 : Dc Q_strays 38 (.iconst 2) 1 39 := ⟨by decide +kernel, rfl⟩
theorem dQ_strays_39 : Dc Q_strays 39 (.invokevirtual 108) 3 42 := ⟨by decide +kernel, rfl⟩
theorem dQ_strays_42 : Dc Q_strays 42 (.bipush 30) 2 44 := ⟨by decide +kernel, rfl⟩
theorem dQ_strays_44 : Dc Q_strays 44 (.if_icmp .lt 7) 3 47 := ⟨by decide +kernel, rfl⟩
theorem dQ_strays_47 : Dc Q_strays 47 (.iconst (-1)) 1 48 := ⟨by decide +kernel, rfl⟩
theorem dQ_strays_48 : Dc Q_strays 48 (.goto 4) 3 51 := ⟨by decide +kernel, rfl⟩
theorem dQ_strays_51 : Dc Q_strays 51 (.iload_n 2) 1 52 := ⟨by decide +kernel, rfl⟩
theorem dQ_strays_52 : Dc Q_strays 52 (.istore 4) 2 54 := ⟨by decide +kernel, rfl⟩
theorem dQ_strays_54 : Dc Q_strays 54 (.aload_n 0) 1 55 := ⟨by decide +kernel, rfl⟩
theorem dQ_strays_55 : Dc Q_strays 55 (.iload_n 1) 1 56 := ⟨by decide +kernel, rfl⟩
theorem dQ_strays_56 : Dc Q_strays 56 (.iconst 0) 1 57 := ⟨by decide +kernel, rfl⟩
theorem dQ_strays_57 : Dc Q_strays 57 (.invokevirtual 108) 3 60 := ⟨by decide +kernel, rfl⟩
theorem dQ_strays_60 : Dc Q_strays 60 (.tableswitch 73 1 6 #[40, 42, 45, 50, 67, 69]) 40 100 := ⟨by decide +kernel, rfl⟩
theorem dQ_strays_100 : Dc Q_strays 100 (.iload_n 3) 1 101 := ⟨by decide +kernel, rfl⟩
theorem dQ_strays_101 : Dc Q_strays 101 (.ireturn) 1 102 := ⟨by decide +kernel, rfl⟩
theorem dQ_strays_102 : Dc Q_strays 102 (.iload 4) 2 104 := ⟨by decide +kernel, rfl⟩
theorem dQ_strays_104 : Dc Q_strays 104 (.ireturn) 1 105 := ⟨by decide +kernel, rfl⟩
theorem dQ_strays_105 : Dc Q_strays 105 (.iconst 2) 1 106 := ⟨by decide +kernel, rfl⟩
theorem dQ_strays_106 : Dc Q_strays 106 (.iload 4) 2 108 := ⟨by decide +kernel, rfl⟩
theorem dQ_strays_108 : Dc Q_strays 108 (.imul) 1 109 := ⟨by decide +kernel, rfl⟩
theorem dQ_strays_109 : Dc Q_strays 109 (.ireturn) 1 110 := ⟨by decide +kernel, rfl⟩
theorem dQ_strays_110 : Dc Q_strays 110 (.aload_n 0) 1 111 := ⟨by decide +kernel, rfl⟩
theorem dQ_strays_111 : Dc Q_strays 111 (.iload_n 1) 1 112 := ⟨by decide +kernel, rfl⟩
theorem dQ_strays_112 : Dc Q_strays 112 (.invokevirtual 116) 3 115 := ⟨by decide +kernel, rfl⟩
theorem dQ_strays_115 : Dc Q_strays 115 (.ifCond .eq 10) 3 118 := ⟨by decide +kernel, rfl⟩
theorem dQ_strays_118 : Dc Q_strays 118 (.iconst 2) 1 119 := ⟨by decide +kernel, rfl⟩
theorem dQ_strays_119 : Dc Q_strays 119 (.iload 4) 2 121 := ⟨by decide +kernel, rfl⟩
theorem dQ_strays_121 : Dc Q_strays 121 (.imul) 1 122 := ⟨by decide +kernel, rfl⟩
theorem dQ_strays_122 : Dc Q_strays 122 (.goto 4) 3 125 := ⟨by decide +kernel, rfl⟩
theorem dQ_strays_125 : Dc Q_strays 125 (.iconst 0) 1 126 := ⟨by decide +kernel, rfl⟩
theorem dQ_strays_126 : Dc Q_strays 126 (.ireturn) 1 127 := ⟨by decide +kernel, rfl⟩
theorem dQ_strays_127 : Dc Q_strays 127 (.iconst 2) 1 128 := ⟨by decide +kernel, rfl⟩
theorem dQ_strays_128 : Dc Q_strays 128 (.ireturn) 1 129 := ⟨by decide +kernel, rfl⟩
theorem dQ_strays_129 : Dc Q_strays 129 (.iload_n 3) 1 130 := ⟨by decide +kernel, rfl⟩
theorem dQ_strays_130 : Dc Q_strays 130 (.iconst 1) 1 131 := ⟨by decide +kernel, rfl⟩
theorem dQ_strays_131 : Dc Q_strays 131 (.isub) 1 132 := ⟨by decide +kernel, rfl⟩
theorem dQ_strays_132 : Dc Q_strays 132 (.ireturn) 1 133 := ⟨by decide +kernel, rfl⟩
theorem dQ_strays_133 : Dc Q_strays 133 (.iload_n 2) 1 134 := ⟨by decide +kernel, rfl⟩
theorem dQ_strays_134 : Dc Q_strays 134 (.ireturn) 1 135 := ⟨by decide +kernel, rfl⟩
theorem dQ_isAlone_0 : Dc Q_isAlone 0 (.iconst 1) 1 1 := ⟨by decide +kernel, rfl⟩
theorem dQ_isAlone_1 : Dc Q_isAlone 1 (.istore_n 2) 1 2 := ⟨by decide +kernel, rfl⟩
theorem dQ_isAlone_2 : Dc Q_isAlone 2 (.iconst 0) 1 3 := ⟨by decide +kernel, rfl⟩
theorem dQ_isAlone_3 : Dc Q_isAlone 3 (.istore_n 3) 1 4 := ⟨by decide +kernel, rfl⟩
theorem dQ_isAlone_4 : Dc Q_isAlone 4 (.iload_n 3) 1 5 := ⟨by decide +kernel, rfl⟩
theorem dQ_isAlone_5 : Dc Q_isAlone 5 (.aload_n 0) 1 6 := ⟨by decide +kernel, rfl⟩
theorem dQ_isAlone_6 : Dc Q_isAlone 6 (.getfield 9) 3 9 := ⟨by decide +kernel, rfl⟩
theorem dQ_isAlone_9 : Dc Q_isAlone 9 (.iconst 1) 1 10 := ⟨by decide +kernel, rfl⟩
theorem dQ_isAlone_10 : Dc Q_isAlone 10 (.iaload) 1 11 := ⟨by decide +kernel, rfl⟩
theorem dQ_isAlone_11 : Dc Q_isAlone 11 (.if_icmp .ge 39) 3 14 := ⟨by decide +kernel, rfl⟩
theorem dQ_isAlone_14 : Dc Q_isAlone 14 (.iload_n 2) 1 15 := ⟨by decide +kernel, rfl⟩
theorem dQ_isAlone_15 : Dc Q_isAlone 15 (.ifCond .eq 27) 3 18 := ⟨by decide +kernel, rfl⟩
theorem dQ_isAlone_18 : Dc Q_isAlone 18 (.iload_n 3) 1 19 := ⟨by decide +kernel, rfl⟩
theorem dQ_isAlone_19 : Dc Q_isAlone 19 (.iload_n 1) 1 20 := ⟨by decide +kernel, rfl⟩
theorem dQ_isAlone_20 : Dc Q_isAlone 20 (.if_icmp .eq 18) 3 23 := ⟨by decide +kernel, rfl⟩
theorem dQ_isAlone_23 : Dc Q_isAlone 23 (.aload_n 0) 1 24 := ⟨by decide +kernel, rfl⟩
theorem dQ_isAlone_24 : Dc Q_isAlone 24 (.iload_n 3) 1 25 := ⟨by decide +kernel, rfl⟩
theorem dQ_isAlone_25 : Dc Q_isAlone 25 (.iconst 1) 1 26 := ⟨by decide +kernel, rfl⟩
theorem dQ_isAlone_26 : Dc Q_isAlone 26 (.invokevirtual 108) 3 29 := ⟨by decide +kernel, rfl⟩
theorem dQ_isAlone_29 : Dc Q_isAlone 29 (.aload_n 0) 1 30 := ⟨by decide +kernel, rfl⟩
theorem dQ_isAlone_30 : Dc Q_isAlone 30 (.iload_n 1) 1 31 := ⟨by decide +kernel, rfl⟩
theorem dQ_isAlone_31 : Dc Q_isAlone 31 (.iconst 1) 1 32 := ⟨by decide +kernel, rfl⟩
theorem dQ_isAlone_32 : Dc Q_isAlone 32 (.invokevirtual 108) 3 35 := ⟨by decide +kernel, rfl⟩
theorem dQ_isAlone_35 : Dc Q_isAlone 35 (.if_icmp .eq 7) 3 38 := ⟨by decide +kernel, rfl⟩
theorem dQ_isAlone_38 : Dc Q_isAlone 38 (.iconst 1) 1 39 := ⟨by decide +kernel, rfl⟩
theorem dQ_isAlone_39 : Dc Q_isAlone 39 (.goto 4) 3 42 := ⟨by decide +kernel, rfl⟩
theorem dQ_isAlone_42 : Dc Q_isAlone 42 (.iconst 0) 1 43 := ⟨by decide +kernel, rfl⟩
theorem dQ_isAlone_43 : Dc Q_isAlone 43 (.istore_n 2) 1 44 := ⟨by decide +kernel, rfl⟩
theorem dQ_isAlone_44 : Dc Q_isAlone 44 (.iinc 3 1) 3 47 := ⟨by decide +kernel, rfl⟩
theorem dQ_isAlone_47 : Dc Q_isAlone 47 (.goto (-43)) 3 50 := ⟨by decide +kernel, rfl⟩
theorem dQ_isAlone_50 : Dc Q_isAlone 50 (.iload_n 2) 1 51 := ⟨by decide +kernel, rfl⟩
theorem dQ_isAlone_51 : Dc Q_isAlone 51 (.ireturn) 1 52 := ⟨by decide +kernel, rfl⟩
theorem dQ_fears_0 : Dc Q_fears 0 (.aload_n 0) 1 1 := ⟨by decide +kernel, rfl⟩
theorem dQ_fears_1 : Dc Q_fears 1 (.iload_n 1) 1 2 := ⟨by decide +kernel, rfl⟩
theorem dQ_fears_2 : Dc Q_fears 2 (.iconst 0) 1 3 := ⟨by decide +kernel, rfl⟩
theorem dQ_fears_3 : Dc Q_fears 3 (.invokevirtual 108) 3 6 := ⟨by decide +kernel, rfl⟩
theorem dQ_fears_6 : Dc Q_fears 6 (.tableswitch 45 0 4 #[34, 37, 39, 42, 42]) 34 40 := ⟨by decide +kernel, rfl⟩
theorem dQ_fears_40 : Dc Q_fears 40 (.bipush 10) 2 42 := ⟨by decide +kernel, rfl⟩
theorem dQ_fears_42 : Dc Q_fears 42 (.ireturn) 1 43 := ⟨by decide +kernel, rfl⟩
theorem dQ_fears_43 : Dc Q_fears 43 (.iconst 5) 1 44 := ⟨by decide +kernel, rfl⟩
theorem dQ_fears_44 : Dc Q_fears 44 (.ireturn) 1 45 := ⟨by decide +kernel, rfl⟩
theorem dQ_fears_45 : Dc Q_fears 45 (.bipush 20) 2 47 := ⟨by decide +kernel, rfl⟩
theorem dQ_fears_47 : Dc Q_fears 47 (.ireturn) 1 48 := ⟨by decide +kernel, rfl⟩
theorem dQ_fears_48 : Dc Q_fears 48 (.bipush 25) 2 50 := ⟨by decide +kernel, rfl⟩
theorem dQ_fears_50 : Dc Q_fears 50 (.ireturn) 1 51 := ⟨by decide +kernel, rfl⟩
theorem dQ_fears_51 : Dc Q_fears 51 (.iconst 0) 1 52 := ⟨by decide +kernel, rfl⟩
theorem dQ_fears_52 : Dc Q_fears 52 (.ireturn) 1 53 := ⟨by decide +kernel, rfl⟩
theorem dQ_calms_0 : Dc Q_calms 0 (.aload_n 0) 1 1 := ⟨by decide +kernel, rfl⟩
theorem dQ_calms_1 : Dc Q_calms 1 (.iload_n 1) 1 2 := ⟨by decide +kernel, rfl⟩
theorem dQ_calms_2 : Dc Q_calms 2 (.iconst 0) 1 3 := ⟨by decide +kernel, rfl⟩
theorem dQ_calms_3 : Dc Q_calms 3 (.invokevirtual 108) 3 6 := ⟨by decide +kernel, rfl⟩
theorem dQ_calms_6 : Dc Q_calms 6 (.lookupswitch 40 #[(1, 34), (4, 38), (6, 36)]) 34 40 := ⟨by decide +kernel, rfl⟩
theorem dQ_calms_40 : Dc Q_calms 40 (.iconst 2) 1 41 := ⟨by decide +kernel, rfl⟩
theorem dQ_calms_41 : Dc Q_calms 41 (.ireturn) 1 42 := ⟨by decide +kernel, rfl⟩
theorem dQ_calms_42 : Dc Q_calms 42 (.iconst 4) 1 43 := ⟨by decide +kernel, rfl⟩
theorem dQ_calms_43 : Dc Q_calms 43 (.ireturn) 1 44 := ⟨by decide +kernel, rfl⟩
theorem dQ_calms_44 : Dc Q_calms 44 (.iconst 0) 1 45 := ⟨by decide +kernel, rfl⟩
theorem dQ_calms_45 : Dc Q_calms 45 (.ireturn) 1 46 := ⟨by decide +kernel, rfl⟩
theorem dQ_calms_46 : Dc Q_calms 46 (.iconst 1) 1 47 := ⟨by decide +kernel, rfl⟩
theorem dQ_calms_47 : Dc Q_calms 47 (.ireturn) 1 48 := ⟨by decide +kernel, rfl⟩
theorem dQ_light_0 : Dc Q_light 0 (.aload_n 0) 1 1 := ⟨by decide +kernel, rfl⟩
theorem dQ_light_1 : Dc Q_light 1 (.iload_n 1) 1 2 := ⟨by decide +kernel, rfl⟩
theorem dQ_light_2 : Dc Q_light 2 (.iconst 0) 1 3 := ⟨by decide +kernel, rfl⟩
theorem dQ_light_3 : Dc Q_light 3 (.invokevirtual 108) 3 6 := ⟨by decide +kernel, rfl⟩
theorem dQ_light_6 : Dc Q_light 6 (.tableswitch 44 1 6 #[38, 44, 40, 42, 38, 38]) 38 44 := ⟨by decide +kernel, rfl⟩
theorem dQ_light_44 : Dc Q_light 44 (.iconst 1) 1 45 := ⟨by decide +kernel, rfl⟩
theorem dQ_light_45 : Dc Q_light 45 (.ireturn) 1 46 := ⟨by decide +kernel, rfl⟩
theorem dQ_light_46 : Dc Q_light 46 (.iconst 3) 1 47 := ⟨by decide +kernel, rfl⟩
theorem dQ_light_47 : Dc Q_light 47 (.ireturn) 1 48 := ⟨by decide +kernel, rfl⟩
theorem dQ_light_48 : Dc Q_light 48 (.iconst 4) 1 49 := ⟨by decide +kernel, rfl⟩
theorem dQ_light_49 : Dc Q_light 49 (.ireturn) 1 50 := ⟨by decide +kernel, rfl⟩
theorem dQ_light_50 : Dc Q_light 50 (.iconst 2) 1 51 := ⟨by decide +kernel, rfl⟩
theorem dQ_light_51 : Dc Q_light 51 (.ireturn) 1 52 := ⟨by decide +kernel, rfl⟩
theorem dQ_change_0 : Dc Q_change 0 (.aload_n 0) 1 1 := ⟨by decide +kernel, rfl⟩
theorem dQ_change_1 : Dc Q_change 1 (.iload_n 1) 1 2 := ⟨by decide +kernel, rfl⟩
theorem dQ_change_2 : Dc Q_change 2 (.invokevirtual 119) 3 5 := ⟨by decide +kernel, rfl⟩
theorem dQ_change_5 : Dc Q_change 5 (.ifCond .eq 11) 3 8 := ⟨by decide +kernel, rfl⟩
theorem dQ_change_8 : Dc Q_change 8 (.iload_n 2) 1 9 := ⟨by decide +kernel, rfl⟩
theorem dQ_change_9 : Dc Q_change 9 (.iload_n 3) 1 10 := ⟨by decide +kernel, rfl⟩
theorem dQ_change_10 : Dc Q_change 10 (.invokestatic 137) 3 13 := ⟨by decide +kernel, rfl⟩
theorem dQ_change_13 : Dc Q_change 13 (.ifCond .ne 10) 3 16 := ⟨by decide +kernel, rfl⟩
theorem dQ_change_16 : Dc Q_change 16 (.aload_n 0) 1 17 := ⟨by decide +kernel, rfl⟩
theorem dQ_change_17 : Dc Q_change 17 (.ldc 69) 2 19 := ⟨by decide +kernel, rfl⟩
theorem dQ_change_19 : Dc Q_change 19 (.invokevirtual 75) 3 22 := ⟨by decide +kernel, rfl⟩
theorem dQ_change_22 : Dc Q_change 22 (.ireturn) 1 23 := ⟨by decide +kernel, rfl⟩
theorem dQ_change_23 : Dc Q_change 23 (.iload_n 2) 1 24 := ⟨by decide +kernel, rfl⟩
theorem dQ_change_24 : Dc Q_change 24 (.iconst 1) 1 25 := ⟨by decide +kernel, rfl⟩
theorem dQ_change_25 : Dc Q_change 25 (.if_icmp .ne 23) 3 28 := ⟨by decide +kernel, rfl⟩
theorem dQ_change_28 : Dc Q_change 28 (.aload_n 0) 1 29 := ⟨by decide +kernel, rfl⟩
theorem dQ_change_29 : Dc Q_change 29 (.getfield 9) 3 32 := ⟨by decide +kernel, rfl⟩
theorem dQ_change_32 : Dc Q_change 32 (.bipush 7) 2 34 := ⟨by decide +kernel, rfl⟩
theorem dQ_change_34 : Dc Q_change 34 (.iaload) 1 35 := ⟨by decide +kernel, rfl⟩
theorem dQ_change_35 : Dc Q_change 35 (.iload_n 1) 1 36 := ⟨by decide +kernel, rfl⟩
theorem dQ_change_36 : Dc Q_change 36 (.if_icmp .ne 12) 3 39 := ⟨by decide +kernel, rfl⟩
theorem dQ_change_39 : Dc Q_change 39 (.aload_n 0) 1 40 := ⟨by decide +kernel, rfl⟩
theorem dQ_change_40 : Dc Q_change 40 (.ldc 141) 2 42 := ⟨by decide +kernel, rfl⟩
theorem dQ_change_42 : Dc Q_change 42 (.invokevirtual 75) 3 45 := ⟨by decide +kernel, rfl⟩
theorem dQ_change_45 : Dc Q_change 45 (.goto 13) 3 48 := ⟨by decide +kernel, rfl⟩
theorem dQ_change_48 : Dc Q_change 48 (.aload_n 0) 1 49 := ⟨by decide +kernel, rfl⟩
theorem dQ_change_49 : Dc Q_change 49 (.iload_n 1) 1 50 := ⟨by decide +kernel, rfl⟩
theorem dQ_change_50 : Dc Q_change 50 (.iload_n 2) 1 51 := ⟨by decide +kernel, rfl⟩
theorem dQ_change_51 : Dc Q_change 51 (.invokestatic 83) 3 54 := ⟨by decide +kernel, rfl⟩
theorem dQ_change_54 : Dc Q_change 54 (.iload_n 3) 1 55 := ⟨by decide +kernel, rfl⟩
theorem dQ_change_55 : Dc Q_change 55 (.invokevirtual 98) 3 58 := ⟨by decide +kernel, rfl⟩
theorem dQ_change_58 : Dc Q_change 58 (.ireturn) 1 59 := ⟨by decide +kernel, rfl⟩
theorem dQ_isField_0 : Dc Q_isField 0 (.iload_n 0) 1 1 := ⟨by decide +kernel, rfl⟩
theorem dQ_isField_1 : Dc Q_isField 1 (.tableswitch 62 0 4 #[35, 40, 45, 53, 53]) 35 36 := ⟨by decide +kernel, rfl⟩
theorem dQ_isField_36 : Dc Q_isField 36 (.iload_n 1) 1 37 := ⟨by decide +kernel, rfl⟩
theorem dQ_isField_37 : Dc Q_isField 37 (.invokestatic 101) 3 40 := ⟨by decide +kernel, rfl⟩
theorem dQ_isField_40 : Dc Q_isField 40 (.ireturn) 1 41 := ⟨by decide +kernel, rfl⟩
theorem dQ_isField_41 : Dc Q_isField 41 (.iload_n 1) 1 42 := ⟨by decide +kernel, rfl⟩
theorem dQ_isField_42 : Dc Q_isField 42 (.invokestatic 91) 3 45 := ⟨by decide +kernel, rfl⟩
theorem dQ_isField_45 : Dc Q_isField 45 (.ireturn) 1 46 := ⟨by decide +kernel, rfl⟩
theorem dQ_isField_46 : Dc Q_isField 46 (.iload_n 1) 1 47 := ⟨by decide +kernel, rfl⟩
theorem dQ_isField_47 : Dc Q_isField 47 (.iconst 0) 1 48 := ⟨by decide +kernel, rfl⟩
theorem dQ_isField_48 : Dc Q_isField 48 (.bipush 99) 2 50 := ⟨by decide +kernel, rfl⟩
theorem dQ_isField_50 : Dc Q_isField 50 (.invokestatic 79) 3 53 := ⟨by decide +kernel, rfl⟩
theorem dQ_isField_53 : Dc Q_isField 53 (.ireturn) 1 54 := ⟨by decide +kernel, rfl⟩
theorem dQ_isField_54 : Dc Q_isField 54 (.iload_n 1) 1 55 := ⟨by decide +kernel, rfl⟩
theorem dQ_isField_55 : Dc Q_isField 55 (.iconst 0) 1 56 := ⟨by decide +kernel, rfl⟩
theorem dQ_isField_56 : Dc Q_isField 56 (.sipush 9999) 3 59 := ⟨by decide +kernel, rfl⟩
theorem dQ_isField_59 : Dc Q_isField 59 (.invokestatic 79) 3 62 := ⟨by decide +kernel, rfl⟩
theorem dQ_isField_62 : Dc Q_isField 62 (.ireturn) 1 63 := ⟨by decide +kernel, rfl⟩
theorem dQ_isField_63 : Dc Q_isField 63 (.iconst 0) 1 64 := ⟨by decide +kernel, rfl⟩
theorem dQ_isField_64 : Dc Q_isField 64 (.ireturn) 1 65 := ⟨by decide +kernel, rfl⟩
theorem dQ_drop_0 : Dc Q_drop 0 (.aload_n 0) 1 1 := ⟨by decide +kernel, rfl⟩
theorem dQ_drop_1 : Dc Q_drop 1 (.getfield 9) 3 4 := ⟨by decide +kernel, rfl⟩
theorem dQ_drop_4 : Dc Q_drop 4 (.bipush 7) 2 6 := ⟨by decide +kernel, rfl⟩
theorem dQ_drop_6 : Dc Q_drop 6 (.iaload) 1 7 := ⟨by decide +kernel, rfl⟩
theorem dQ_drop_7 : Dc Q_drop 7 (.istore_n 1) 1 8 := ⟨by decide +kernel, rfl⟩
theorem dQ_drop_8 : Dc Q_drop 8 (.aload_n 0) 1 9 := ⟨by decide +kernel, rfl⟩
theorem dQ_drop_9 : Dc Q_drop 9 (.getfield 9) 3 12 := ⟨by decide +kernel, rfl⟩
theorem dQ_drop_12 : Dc Q_drop 12 (.bipush 7) 2 14 := ⟨by decide +kernel, rfl⟩
theorem dQ_drop_14 : Dc Q_drop 14 (.iconst (-1)) 1 15 := ⟨by decide +kernel, rfl⟩
theorem dQ_drop_15 : Dc Q_drop 15 (.iastore) 1 16 := ⟨by decide +kernel, rfl⟩
theorem dQ_drop_16 : Dc Q_drop 16 (.aload_n 0) 1 17 := ⟨by decide +kernel, rfl⟩
theorem dQ_drop_17 : Dc Q_drop 17 (.iload_n 1) 1 18 := ⟨by decide +kernel, rfl⟩
theorem dQ_drop_18 : Dc Q_drop 18 (.invokevirtual 142) 3 21 := ⟨by decide +kernel, rfl⟩
theorem dQ_drop_21 : Dc Q_drop 21 (.ireturn) 1 22 := ⟨by decide +kernel, rfl⟩
theorem dQ_orNone_0 : Dc Q_orNone 0 (.iload_n 1) 1 1 := ⟨by decide +kernel, rfl⟩
theorem dQ_orNone_1 : Dc Q_orNone 1 (.ifCond .ge 12) 3 4 := ⟨by decide +kernel, rfl⟩
theorem dQ_orNone_4 : Dc Q_orNone 4 (.aload_n 0) 1 5 := ⟨by decide +kernel, rfl⟩
theorem dQ_orNone_5 : Dc Q_orNone 5 (.ldc 74) 2 7 := ⟨by decide +kernel, rfl⟩
theorem dQ_orNone_7 : Dc Q_orNone 7 (.invokevirtual 75) 3 10 := ⟨by decide +kernel, rfl⟩
theorem dQ_orNone_10 : Dc Q_orNone 10 (.goto 4) 3 13 := ⟨by decide +kernel, rfl⟩
theorem dQ_orNone_13 : Dc Q_orNone 13 (.iload_n 1) 1 14 := ⟨by decide +kernel, rfl⟩
theorem dQ_orNone_14 : Dc Q_orNone 14 (.ireturn) 1 15 := ⟨by decide +kernel, rfl⟩
theorem dQ_who_0 : Dc Q_who 0 (.iload_n 1) 1 1 := ⟨by decide +kernel, rfl⟩
theorem dQ_who_1 : Dc Q_who 1 (.invokestatic 91) 3 4 := ⟨by decide +kernel, rfl⟩
theorem dQ_who_4 : Dc Q_who 4 (.ifCond .eq 11) 3 7 := ⟨by decide +kernel, rfl⟩
theorem dQ_who_7 : Dc Q_who 7 (.aload_n 0) 1 8 := ⟨by decide +kernel, rfl⟩
theorem dQ_who_8 : Dc Q_who 8 (.iload_n 1) 1 9 := ⟨by decide +kernel, rfl⟩
theorem dQ_who_9 : Dc Q_who 9 (.invokevirtual 145) 3 12 := ⟨by decide +kernel, rfl⟩
theorem dQ_who_12 : Dc Q_who 12 (.goto 9) 3 15 := ⟨by decide +kernel, rfl⟩
theorem dQ_who_15 : Dc Q_who 15 (.aload_n 0) 1 16 := ⟨by decide +kernel, rfl⟩
theorem dQ_who_16 : Dc Q_who 16 (.ldc 69) 2 18 := ⟨by decide +kernel, rfl⟩
theorem dQ_who_18 : Dc Q_who 18 (.invokevirtual 75) 3 21 := ⟨by decide +kernel, rfl⟩
theorem dQ_who_21 : Dc Q_who 21 (.ireturn) 1 22 := ⟨by decide +kernel, rfl⟩
theorem dQ_setAt_0 : Dc Q_setAt 0 (.iconst 0) 1 1 := ⟨by decide +kernel, rfl⟩
theorem dQ_setAt_1 : Dc Q_setAt 1 (.istore_n 2) 1 2 := ⟨by decide +kernel, rfl⟩
theorem dQ_setAt_2 : Dc Q_setAt 2 (.iconst 0) 1 3 := ⟨by decide +kernel, rfl⟩
theorem dQ_setAt_3 : Dc Q_setAt 3 (.istore_n 3) 1 4 := ⟨by decide +kernel, rfl⟩
theorem dQ_setAt_4 : Dc Q_setAt 4 (.iload_n 3) 1 5 := ⟨by decide +kernel, rfl⟩
theorem dQ_setAt_5 : Dc Q_setAt 5 (.aload_n 0) 1 6 := ⟨by decide +kernel, rfl⟩
theorem dQ_setAt_6 : Dc Q_setAt 6 (.getfield 9) 3 9 := ⟨by decide +kernel, rfl⟩
theorem dQ_setAt_9 : Dc Q_setAt 9 (.iconst 1) 1 10 := ⟨by decide +kernel, rfl⟩
theorem dQ_setAt_10 : Dc Q_setAt 10 (.iaload) 1 11 := ⟨by decide +kernel, rfl⟩
theorem dQ_setAt_11 : Dc Q_setAt 11 (.if_icmp .ge 29) 3 14 := ⟨by decide +kernel, rfl⟩
theorem dQ_setAt_14 : Dc Q_setAt 14 (.iload_n 2) 1 15 := ⟨by decide +kernel, rfl⟩
theorem dQ_setAt_15 : Dc Q_setAt 15 (.aload_n 0) 1 16 := ⟨by decide +kernel, rfl⟩
theorem dQ_setAt_16 : Dc Q_setAt 16 (.iload_n 3) 1 17 := ⟨by decide +kernel, rfl⟩
theorem dQ_setAt_17 : Dc Q_setAt 17 (.iconst 1) 1 18 := ⟨by decide +kernel, rfl⟩
theorem dQ_setAt_18 : Dc Q_setAt 18 (.invokevirtual 108) 3 21 := ⟨by decide +kernel, rfl⟩
theorem dQ_setAt_21 : Dc Q_setAt 21 (.iload_n 1) 1 22 := ⟨by decide +kernel, rfl⟩
theorem dQ_setAt_22 : Dc Q_setAt 22 (.if_icmp .ne 9) 3 25 := ⟨by decide +kernel, rfl⟩
theorem dQ_setAt_25 : Dc Q_setAt 25 (.iconst 1) 1 26 := ⟨by decide +kernel, rfl⟩
theorem dQ_setAt_26 : Dc Q_setAt 26 (.iload_n 3) 1 27 := ⟨by decide +kernel, rfl⟩
theorem dQ_setAt_27 : Dc Q_setAt 27 (.ishl) 1 28 := ⟨by decide +kernel, rfl⟩
theorem dQ_setAt_28 : Dc Q_setAt 28 (.goto 4) 3 31 := ⟨by decide +kernel, rfl⟩
theorem dQ_setAt_31 : Dc Q_setAt 31 (.iconst 0) 1 32 := ⟨by decide +kernel, rfl⟩
theorem dQ_setAt_32 : Dc Q_setAt 32 (.ior) 1 33 := ⟨by decide +kernel, rfl⟩
theorem dQ_setAt_33 : Dc Q_setAt 33 (.istore_n 2) 1 34 := ⟨by decide +kernel, rfl⟩
theorem dQ_setAt_34 : Dc Q_setAt 34 (.iinc 3 1) 3 37 := ⟨by decide +kernel, rfl⟩
theorem dQ_setAt_37 : Dc Q_setAt 37 (.goto (-33)) 3 40 := ⟨by decide +kernel, rfl⟩
theorem dQ_setAt_40 : Dc Q_setAt 40 (.iload_n 2) 1 41 := ⟨by decide +kernel, rfl⟩
theorem dQ_setAt_41 : Dc Q_setAt 41 (.ireturn) 1 42 := ⟨by decide +kernel, rfl⟩
theorem dQ_go_0 : Dc Q_go 0 (.iload_n 1) 1 1 := ⟨by decide +kernel, rfl⟩
theorem dQ_go_1 : Dc Q_go 1 (.iconst 1) 1 2 := ⟨by decide +kernel, rfl⟩
theorem dQ_go_2 : Dc Q_go 2 (.bipush 60) 2 4 := ⟨by decide +kernel, rfl⟩
theorem dQ_go_4 : Dc Q_go 4 (.invokestatic 79) 3 7 := ⟨by decide +kernel, rfl⟩
theorem dQ_go_7 : Dc Q_go 7 (.ifCond .ne 10) 3 10 := ⟨by decide +kernel, rfl⟩
theorem dQ_go_10 : Dc Q_go 10 (.aload_n 0) 1 11 := ⟨by decide +kernel, rfl⟩
theorem dQ_go_11 : Dc Q_go 11 (.ldc 69) 2 13 := ⟨by decide +kernel, rfl⟩
theorem dQ_go_13 : Dc Q_go 13 (.invokevirtual 75) 3 16 := ⟨by decide +kernel, rfl⟩
theorem dQ_go_16 : Dc Q_go 16 (.ireturn) 1 17 := ⟨by decide +kernel, rfl⟩
theorem dQ_go_17 : Dc Q_go 17 (.aload_n 0) 1 18 := ⟨by decide +kernel, rfl⟩
theorem dQ_go_18 : Dc Q_go 18 (.getfield 9) 3 21 := ⟨by decide +kernel, rfl⟩
theorem dQ_go_21 : Dc Q_go 21 (.iconst 0) 1 22 := ⟨by decide +kernel, rfl⟩
theorem dQ_go_22 : Dc Q_go 22 (.iaload) 1 23 := ⟨by decide +kernel, rfl⟩
theorem dQ_go_23 : Dc Q_go 23 (.iload_n 1) 1 24 := ⟨by decide +kernel, rfl⟩
theorem dQ_go_24 : Dc Q_go 24 (.iadd) 1 25 := ⟨by decide +kernel, rfl⟩
theorem dQ_go_25 : Dc Q_go 25 (.ldc 190) 2 27 := ⟨by decide +kernel, rfl⟩
theorem dQ_go_27 : Dc Q_go 27 (.if_icmp .le 10) 3 30 := ⟨by decide +kernel, rfl⟩
theorem dQ_go_30 : Dc Q_go 30 (.aload_n 0) 1 31 := ⟨by decide +kernel, rfl⟩
theorem dQ_go_31 : Dc Q_go 31 (.ldc 141) 2 33 := ⟨by decide +kernel, rfl⟩
theorem dQ_go_33 : Dc Q_go 33 (.invokevirtual 75) 3 36 := ⟨by decide +kernel, rfl⟩
theorem dQ_go_36 : Dc Q_go 36 (.ireturn) 1 37 := ⟨by decide +kernel, rfl⟩
theorem dQ_go_37 : Dc Q_go 37 (.aload_n 0) 1 38 := ⟨by decide +kernel, rfl⟩
theorem dQ_go_38 : Dc Q_go 38 (.iload_n 1) 1 39 := ⟨by decide +kernel, rfl⟩
theorem dQ_go_39 : Dc Q_go 39 (.invokevirtual 191) 3 42 := ⟨by decide +kernel, rfl⟩
theorem dQ_go_42 : Dc Q_go 42 (.aload_n 0) 1 43 := ⟨by decide +kernel, rfl⟩
theorem dQ_go_43 : Dc Q_go 43 (.iconst 4) 1 44 := ⟨by decide +kernel, rfl⟩
theorem dQ_go_44 : Dc Q_go 44 (.invokevirtual 194) 3 47 := ⟨by decide +kernel, rfl⟩
theorem dQ_go_47 : Dc Q_go 47 (.ireturn) 1 48 := ⟨by decide +kernel, rfl⟩
theorem dQ_hoursGo_0 : Dc Q_hoursGo 0 (.iconst 0) 1 1 := ⟨by decide +kernel, rfl⟩
theorem dQ_hoursGo_1 : Dc Q_hoursGo 1 (.istore_n 2) 1 2 := ⟨by decide +kernel, rfl⟩
theorem dQ_hoursGo_2 : Dc Q_hoursGo 2 (.iload_n 2) 1 3 := ⟨by decide +kernel, rfl⟩
theorem dQ_hoursGo_3 : Dc Q_hoursGo 3 (.iload_n 1) 1 4 := ⟨by decide +kernel, rfl⟩
theorem dQ_hoursGo_4 : Dc Q_hoursGo 4 (.if_icmp .ge 13) 3 7 := ⟨by decide +kernel, rfl⟩
theorem dQ_hoursGo_7 : Dc Q_hoursGo 7 (.aload_n 0) 1 8 := ⟨by decide +kernel, rfl⟩
theorem dQ_hoursGo_8 : Dc Q_hoursGo 8 (.invokevirtual 187) 3 11 := ⟨by decide +kernel, rfl⟩
theorem dQ_hoursGo_11 : Dc Q_hoursGo 11 (.iinc 2 1) 3 14 := ⟨by decide +kernel, rfl⟩
theorem dQ_hoursGo_14 : Dc Q_hoursGo 14 (.goto (-12)) 3 17 := ⟨by decide +kernel, rfl⟩
theorem dQ_hoursGo_17 : Dc Q_hoursGo 17 (.return_) 1 18 := ⟨by decide +kernel, rfl⟩
theorem dQ_hour_0 : Dc Q_hour 0 (.aload_n 0) 1 1 := ⟨by decide +kernel, rfl⟩
theorem dQ_hour_1 : Dc Q_hour 1 (.invokevirtual 175) 3 4 := ⟨by decide +kernel, rfl⟩
theorem dQ_hour_4 : Dc Q_hour 4 (.aload_n 0) 1 5 := ⟨by decide +kernel, rfl⟩
theorem dQ_hour_5 : Dc Q_hour 5 (.invokevirtual 178) 3 8 := ⟨by decide +kernel, rfl⟩
theorem dQ_hour_8 : Dc Q_hour 8 (.aload_n 0) 1 9 := ⟨by decide +kernel, rfl⟩
theorem dQ_hour_9 : Dc Q_hour 9 (.getfield 9) 3 12 := ⟨by decide +kernel, rfl⟩
theorem dQ_hour_12 : Dc Q_hour 12 (.bipush 7) 2 14 := ⟨by decide +kernel, rfl⟩
theorem dQ_hour_14 : Dc Q_hour 14 (.iaload) 1 15 := ⟨by decide +kernel, rfl⟩
theorem dQ_hour_15 : Dc Q_hour 15 (.ifCond .lt 10) 3 18 := ⟨by decide +kernel, rfl⟩
theorem dQ_hour_18 : Dc Q_hour 18 (.aload_n 0) 1 19 := ⟨by decide +kernel, rfl⟩
theorem dQ_hour_19 : Dc Q_hour 19 (.invokevirtual 181) 3 22 := ⟨by decide +kernel, rfl⟩
theorem dQ_hour_22 : Dc Q_hour 22 (.goto 7) 3 25 := ⟨by decide +kernel, rfl⟩
theorem dQ_hour_25 : Dc Q_hour 25 (.aload_n 0) 1 26 := ⟨by decide +kernel, rfl⟩
theorem dQ_hour_26 : Dc Q_hour 26 (.invokevirtual 184) 3 29 := ⟨by decide +kernel, rfl⟩
theorem dQ_hour_29 : Dc Q_hour 29 (.iconst 0) 1 30 := ⟨by decide +kernel, rfl⟩
theorem dQ_hour_30 : Dc Q_hour 30 (.istore_n 1) 1 31 := ⟨by decide +kernel, rfl⟩
theorem dQ_hour_31 : Dc Q_hour 31 (.iload_n 1) 1 32 := ⟨by decide +kernel, rfl⟩
theorem dQ_hour_32 : Dc Q_hour 32 (.aload_n 0) 1 33 := ⟨by decide +kernel, rfl⟩
theorem dQ_hour_33 : Dc Q_hour 33 (.getfield 9) 3 36 := ⟨by decide +kernel, rfl⟩
theorem dQ_hour_36 : Dc Q_hour 36 (.iconst 1) 1 37 := ⟨by decide +kernel, rfl⟩
theorem dQ_hour_37 : Dc Q_hour 37 (.iaload) 1 38 := ⟨by decide +kernel, rfl⟩
theorem dQ_hour_38 : Dc Q_hour 38 (.if_icmp .ge 71) 3 41 := ⟨by decide +kernel, rfl⟩
theorem dQ_hour_41 : Dc Q_hour 41 (.aload_n 0) 1 42 := ⟨by decide +kernel, rfl⟩
theorem dQ_hour_42 : Dc Q_hour 42 (.getfield 9) 3 45 := ⟨by decide +kernel, rfl⟩
theorem dQ_hour_45 : Dc Q_hour 45 (.iload_n 1) 1 46 := ⟨by decide +kernel, rfl⟩
theorem dQ_hour_46 : Dc Q_hour 46 (.iconst 3) 1 47 := ⟨by decide +kernel, rfl⟩
theorem dQ_hour_47 : Dc Q_hour 47 (.invokestatic 83) 3 50 := ⟨by decide +kernel, rfl⟩
theorem dQ_hour_50 : Dc Q_hour 50 (.aload_n 0) 1 51 := ⟨by decide +kernel, rfl⟩
theorem dQ_hour_51 : Dc Q_hour 51 (.iload_n 1) 1 52 := ⟨by decide +kernel, rfl⟩
theorem dQ_hour_52 : Dc Q_hour 52 (.invokevirtual 122) 3 55 := ⟨by decide +kernel, rfl⟩
theorem dQ_hour_55 : Dc Q_hour 55 (.ifCond .ne 7) 3 58 := ⟨by decide +kernel, rfl⟩
theorem dQ_hour_58 : Dc Q_hour 58 (.iconst 0) 1 59 := ⟨by decide +kernel, rfl⟩
theorem dQ_hour_59 : Dc Q_hour 59 (.goto 17) 3 62 := ⟨by decide +kernel, rfl⟩
theorem dQ_hour_62 : Dc Q_hour 62 (.sipush 9999) 3 65 := ⟨by decide +kernel, rfl⟩
theorem dQ_hour_65 : Dc Q_hour 65 (.aload_n 0) 1 66 := ⟨by decide +kernel, rfl⟩
theorem dQ_hour_66 : Dc Q_hour 66 (.iload_n 1) 1 67 := ⟨by decide +kernel, rfl⟩
theorem dQ_hour_67 : Dc Q_hour 67 (.iconst 3) 1 68 := ⟨by decide +kernel, rfl⟩
theorem dQ_hour_68 : Dc Q_hour 68 (.invokevirtual 108) 3 71 := ⟨by decide +kernel, rfl⟩
theorem dQ_hour_71 : Dc Q_hour 71 (.iconst 1) 1 72 := ⟨by decide +kernel, rfl⟩
theorem dQ_hour_72 : Dc Q_hour 72 (.iadd) 1 73 := ⟨by decide +kernel, rfl⟩
theorem dQ_hour_73 : Dc Q_hour 73 (.invokestatic 148) 3 76 := ⟨by decide +kernel, rfl⟩
theorem dQ_hour_76 : Dc Q_hour 76 (.iastore) 1 77 := ⟨by decide +kernel, rfl⟩
theorem dQ_hour_77 : Dc Q_hour 77 (.aload_n 0) 1 78 := ⟨by decide +kernel, rfl⟩
theorem dQ_hour_78 : Dc Q_hour 78 (.getfield 9) 3 81 := ⟨by decide +kernel, rfl⟩
theorem dQ_hour_81 : Dc Q_hour 81 (.iload_n 1) 1 82 := ⟨by decide +kernel, rfl⟩
theorem dQ_hour_82 : Dc Q_hour 82 (.iconst 2) 1 83 := ⟨by decide +kernel, rfl⟩
theorem dQ_hour_83 : Dc Q_hour 83 (.invokestatic 83) 3 86 := ⟨by decide +kernel, rfl⟩
theorem dQ_hour_86 : Dc Q_hour 86 (.iconst 0) 1 87 := ⟨by decide +kernel, rfl⟩
theorem dQ_hour_87 : Dc Q_hour 87 (.aload_n 0) 1 88 := ⟨by decide +kernel, rfl⟩
theorem dQ_hour_88 : Dc Q_hour 88 (.iload_n 1) 1 89 := ⟨by decide +kernel, rfl⟩
theorem dQ_hour_89 : Dc Q_hour 89 (.iconst 2) 1 90 := ⟨by decide +kernel, rfl⟩
theorem dQ_hour_90 : Dc Q_hour 90 (.invokevirtual 108) 3 93 := ⟨by decide +kernel, rfl⟩
theorem dQ_hour_93 : Dc Q_hour 93 (.aload_n 0) 1 94 := ⟨by decide +kernel, rfl⟩
theorem dQ_hour_94 : Dc Q_hour 94 (.iload_n 1) 1 95 := ⟨by decide +kernel, rfl⟩
theorem dQ_hour_95 : Dc Q_hour 95 (.invokevirtual 131) 3 98 := ⟨by decide +kernel, rfl⟩
theorem dQ_hour_98 : Dc Q_hour 98 (.isub) 1 99 := ⟨by decide +kernel, rfl⟩
theorem dQ_hour_99 : Dc Q_hour 99 (.invokestatic 151) 3 102 := ⟨by decide +kernel, rfl⟩
theorem dQ_hour_102 : Dc Q_hour 102 (.iastore) 1 103 := ⟨by decide +kernel, rfl⟩
theorem dQ_hour_103 : Dc Q_hour 103 (.iinc 1 1) 3 106 := ⟨by decide +kernel, rfl⟩
theorem dQ_hour_106 : Dc Q_hour 106 (.goto (-75)) 3 109 := ⟨by decide +kernel, rfl⟩
theorem dQ_hour_109 : Dc Q_hour 109 (.aload_n 0) 1 110 := ⟨by decide +kernel, rfl⟩
theorem dQ_hour_110 : Dc Q_hour 110 (.getfield 9) 3 113 := ⟨by decide +kernel, rfl⟩
theorem dQ_hour_113 : Dc Q_hour 113 (.iconst 0) 1 114 := ⟨by decide +kernel, rfl⟩
theorem dQ_hour_114 : Dc Q_hour 114 (.dup2) 1 115 := ⟨by decide +kernel, rfl⟩
theorem dQ_hour_115 : Dc Q_hour 115 (.iaload) 1 116 := ⟨by decide +kernel, rfl⟩
theorem dQ_hour_116 : Dc Q_hour 116 (.iconst 1) 1 117 := ⟨by decide +kernel, rfl⟩
theorem dQ_hour_117 : Dc Q_hour 117 (.iadd) 1 118 := ⟨by decide +kernel, rfl⟩
theorem dQ_hour_118 : Dc Q_hour 118 (.iastore) 1 119 := ⟨by decide +kernel, rfl⟩
theorem dQ_hour_119 : Dc Q_hour 119 (.return_) 1 120 := ⟨by decide +kernel, rfl⟩
theorem dQ_sheepGo_0 : Dc Q_sheepGo 0 (.iconst 0) 1 1 := ⟨by decide +kernel, rfl⟩
theorem dQ_sheepGo_1 : Dc Q_sheepGo 1 (.istore_n 1) 1 2 := ⟨by decide +kernel, rfl⟩
theorem dQ_sheepGo_2 : Dc Q_sheepGo 2 (.iload_n 1) 1 3 := ⟨by decide +kernel, rfl⟩
theorem dQ_sheepGo_3 : Dc Q_sheepGo 3 (.aload_n 0) 1 4 := ⟨by decide +kernel, rfl⟩
theorem dQ_sheepGo_4 : Dc Q_sheepGo 4 (.getfield 9) 3 7 := ⟨by decide +kernel, rfl⟩
theorem dQ_sheepGo_7 : Dc Q_sheepGo 7 (.iconst 1) 1 8 := ⟨by decide +kernel, rfl⟩
theorem dQ_sheepGo_8 : Dc Q_sheepGo 8 (.iaload) 1 9 := ⟨by decide +kernel, rfl⟩
theorem dQ_sheepGo_9 : Dc Q_sheepGo 9 (.if_icmp .ge 79) 3 12 := ⟨by decide +kernel, rfl⟩
theorem dQ_sheepGo_12 : Dc Q_sheepGo 12 (.aload_n 0) 1 13 := ⟨by decide +kernel, rfl⟩
theorem dQ_sheepGo_13 : Dc Q_sheepGo 13 (.iload_n 1) 1 14 := ⟨by decide +kernel, rfl⟩
theorem dQ_sheepGo_14 : Dc Q_sheepGo 14 (.invokevirtual 125) 3 17 := ⟨by decide +kernel, rfl⟩
theorem dQ_sheepGo_17 : Dc Q_sheepGo 17 (.istore_n 2) 1 18 := ⟨by decide +kernel, rfl⟩
theorem dQ_sheepGo_18 : Dc Q_sheepGo 18 (.aload_n 0) 1 19 := ⟨by decide +kernel, rfl⟩
theorem dQ_sheepGo_19 : Dc Q_sheepGo 19 (.iload_n 1) 1 20 := ⟨by decide +kernel, rfl⟩
theorem dQ_sheepGo_20 : Dc Q_sheepGo 20 (.iconst 1) 1 21 := ⟨by decide +kernel, rfl⟩
theorem dQ_sheepGo_21 : Dc Q_sheepGo 21 (.invokevirtual 108) 3 24 := ⟨by decide +kernel, rfl⟩
theorem dQ_sheepGo_24 : Dc Q_sheepGo 24 (.istore_n 3) 1 25 := ⟨by decide +kernel, rfl⟩
theorem dQ_sheepGo_25 : Dc Q_sheepGo 25 (.iload_n 1) 1 26 := ⟨by decide +kernel, rfl⟩
theorem dQ_sheepGo_26 : Dc Q_sheepGo 26 (.aload_n 0) 1 27 := ⟨by decide +kernel, rfl⟩
theorem dQ_sheepGo_27 : Dc Q_sheepGo 27 (.getfield 9) 3 30 := ⟨by decide +kernel, rfl⟩
theorem dQ_sheepGo_30 : Dc Q_sheepGo 30 (.bipush 7) 2 32 := ⟨by decide +kernel, rfl⟩
theorem dQ_sheepGo_32 : Dc Q_sheepGo 32 (.iaload) 1 33 := ⟨by decide +kernel, rfl⟩
theorem dQ_sheepGo_33 : Dc Q_sheepGo 33 (.if_icmp .eq 49) 3 36 := ⟨by decide +kernel, rfl⟩
theorem dQ_sheepGo_36 : Dc Q_sheepGo 36 (.aload_n 0) 1 37 := ⟨by decide +kernel, rfl⟩
theorem dQ_sheepGo_37 : Dc Q_sheepGo 37 (.getfield 154) 3 40 := ⟨by decide +kernel, rfl⟩
theorem dQ_sheepGo_40 : Dc Q_sheepGo 40 (.iload_n 1) 1 41 := ⟨by decide +kernel, rfl⟩
theorem dQ_sheepGo_41 : Dc Q_sheepGo 41 (.invokestatic 158) 3 44 := ⟨by decide +kernel, rfl⟩
theorem dQ_sheepGo_44 : Dc Q_sheepGo 44 (.ifCond .ne 38) 3 47 := ⟨by decide +kernel, rfl⟩
theorem dQ_sheepGo_47 : Dc Q_sheepGo 47 (.aload_n 0) 1 48 := ⟨by decide +kernel, rfl⟩
theorem dQ_sheepGo_48 : Dc Q_sheepGo 48 (.getfield 9) 3 51 := ⟨by decide +kernel, rfl⟩
theorem dQ_sheepGo_51 : Dc Q_sheepGo 51 (.iload_n 1) 1 52 := ⟨by decide +kernel, rfl⟩
theorem dQ_sheepGo_52 : Dc Q_sheepGo 52 (.iconst 1) 1 53 := ⟨by decide +kernel, rfl⟩
theorem dQ_sheepGo_53 : Dc Q_sheepGo 53 (.invokestatic 83) 3 56 := ⟨by decide +kernel, rfl⟩
theorem dQ_sheepGo_56 : Dc Q_sheepGo 56 (.iload_n 2) 1 57 := ⟨by decide +kernel, rfl⟩
theorem dQ_sheepGo_57 : Dc Q_sheepGo 57 (.ifCond .ge 18) 3 60 := ⟨by decide +kernel, rfl⟩
theorem dQ_sheepGo_60 : Dc Q_sheepGo 60 (.iload_n 3) 1 61 := ⟨by decide +kernel, rfl⟩
theorem dQ_sheepGo_61 : Dc Q_sheepGo 61 (.aload_n 0) 1 62 := ⟨by decide +kernel, rfl⟩
theorem dQ_sheepGo_62 : Dc Q_sheepGo 62 (.getfield 9) 3 65 := ⟨by decide +kernel, rfl⟩
theorem dQ_sheepGo_65 : Dc Q_sheepGo 65 (.iconst 3) 1 66 := ⟨by decide +kernel, rfl⟩
theorem dQ_sheepGo_66 : Dc Q_sheepGo 66 (.iaload) 1 67 := ⟨by decide +kernel, rfl⟩
theorem dQ_sheepGo_67 : Dc Q_sheepGo 67 (.iload_n 2) 1 68 := ⟨by decide +kernel, rfl⟩
theorem dQ_sheepGo_68 : Dc Q_sheepGo 68 (.ineg) 1 69 := ⟨by decide +kernel, rfl⟩
theorem dQ_sheepGo_69 : Dc Q_sheepGo 69 (.invokestatic 161) 3 72 := ⟨by decide +kernel, rfl⟩
theorem dQ_sheepGo_72 : Dc Q_sheepGo 72 (.goto 9) 3 75 := ⟨by decide +kernel, rfl⟩
theorem dQ_sheepGo_75 : Dc Q_sheepGo 75 (.aload_n 0) 1 76 := ⟨by decide +kernel, rfl⟩
theorem dQ_sheepGo_76 : Dc Q_sheepGo 76 (.iload_n 3) 1 77 := ⟨by decide +kernel, rfl⟩
theorem dQ_sheepGo_77 : Dc Q_sheepGo 77 (.iload_n 2) 1 78 := ⟨by decide +kernel, rfl⟩
theorem dQ_sheepGo_78 : Dc Q_sheepGo 78 (.invokevirtual 165) 3 81 := ⟨by decide +kernel, rfl⟩
theorem dQ_sheepGo_81 : Dc Q_sheepGo 81 (.iastore) 1 82 := ⟨by decide +kernel, rfl⟩
theorem dQ_sheepGo_82 : Dc Q_sheepGo 82 (.iinc 1 1) 3 85 := ⟨by decide +kernel, rfl⟩
theorem dQ_sheepGo_85 : Dc Q_sheepGo 85 (.goto (-83)) 3 88 := ⟨by decide +kernel, rfl⟩
theorem dQ_sheepGo_88 : Dc Q_sheepGo 88 (.return_) 1 89 := ⟨by decide +kernel, rfl⟩
theorem dQ_hasBit_0 : Dc Q_hasBit 0 (.iload_n 0) 1 1 := ⟨by decide +kernel, rfl⟩
theorem dQ_hasBit_1 : Dc Q_hasBit 1 (.iload_n 1) 1 2 := ⟨by decide +kernel, rfl⟩
theorem dQ_hasBit_2 : Dc Q_hasBit 2 (.ishr) 1 3 := ⟨by decide +kernel, rfl⟩
theorem dQ_hasBit_3 : Dc Q_hasBit 3 (.iconst 1) 1 4 := ⟨by decide +kernel, rfl⟩
theorem dQ_hasBit_4 : Dc Q_hasBit 4 (.iand) 1 5 := ⟨by decide +kernel, rfl⟩
theorem dQ_hasBit_5 : Dc Q_hasBit 5 (.iconst 1) 1 6 := ⟨by decide +kernel, rfl⟩
theorem dQ_hasBit_6 : Dc Q_hasBit 6 (.if_icmp .ne 7) 3 9 := ⟨by decide +kernel, rfl⟩
theorem dQ_hasBit_9 : Dc Q_hasBit 9 (.iconst 1) 1 10 := ⟨by decide +kernel, rfl⟩
theorem dQ_hasBit_10 : Dc Q_hasBit 10 (.goto 4) 3 13 := ⟨by decide +kernel, rfl⟩
theorem dQ_hasBit_13 : Dc Q_hasBit 13 (.iconst 0) 1 14 := ⟨by decide +kernel, rfl⟩
theorem dQ_hasBit_14 : Dc Q_hasBit 14 (.ireturn) 1 15 := ⟨by decide +kernel, rfl⟩
theorem dQ_towards_0 : Dc Q_towards 0 (.iload_n 0) 1 1 := ⟨by decide +kernel, rfl⟩
theorem dQ_towards_1 : Dc Q_towards 1 (.iload_n 1) 1 2 := ⟨by decide +kernel, rfl⟩
theorem dQ_towards_2 : Dc Q_towards 2 (.if_icmp .ge 13) 3 5 := ⟨by decide +kernel, rfl⟩
theorem dQ_towards_5 : Dc Q_towards 5 (.iload_n 1) 1 6 := ⟨by decide +kernel, rfl⟩
theorem dQ_towards_6 : Dc Q_towards 6 (.iload_n 0) 1 7 := ⟨by decide +kernel, rfl⟩
theorem dQ_towards_7 : Dc Q_towards 7 (.iload_n 2) 1 8 := ⟨by decide +kernel, rfl⟩
theorem dQ_towards_8 : Dc Q_towards 8 (.iadd) 1 9 := ⟨by decide +kernel, rfl⟩
theorem dQ_towards_9 : Dc Q_towards 9 (.invokestatic 148) 3 12 := ⟨by decide +kernel, rfl⟩
theorem dQ_towards_12 : Dc Q_towards 12 (.goto 10) 3 15 := ⟨by decide +kernel, rfl⟩
theorem dQ_towards_15 : Dc Q_towards 15 (.iload_n 1) 1 16 := ⟨by decide +kernel, rfl⟩
theorem dQ_towards_16 : Dc Q_towards 16 (.iload_n 0) 1 17 := ⟨by decide +kernel, rfl⟩
theorem dQ_towards_17 : Dc Q_towards 17 (.iload_n 2) 1 18 := ⟨by decide +kernel, rfl⟩
theorem dQ_towards_18 : Dc Q_towards 18 (.isub) 1 19 := ⟨by decide +kernel, rfl⟩
theorem dQ_towards_19 : Dc Q_towards 19 (.invokestatic 151) 3 22 := ⟨by decide +kernel, rfl⟩
theorem dQ_towards_22 : Dc Q_towards 22 (.ireturn) 1 23 := ⟨by decide +kernel, rfl⟩
theorem dQ_awayFrom_0 : Dc Q_awayFrom 0 (.iload_n 1) 1 1 := ⟨by decide +kernel, rfl⟩
theorem dQ_awayFrom_1 : Dc Q_awayFrom 1 (.aload_n 0) 1 2 := ⟨by decide +kernel, rfl⟩
theorem dQ_awayFrom_2 : Dc Q_awayFrom 2 (.getfield 9) 3 5 := ⟨by decide +kernel, rfl⟩
theorem dQ_awayFrom_5 : Dc Q_awayFrom 5 (.iconst 3) 1 6 := ⟨by decide +kernel, rfl⟩
theorem dQ_awayFrom_6 : Dc Q_awayFrom 6 (.iaload) 1 7 := ⟨by decide +kernel, rfl⟩
theorem dQ_awayFrom_7 : Dc Q_awayFrom 7 (.if_icmp .gt 19) 3 10 := ⟨by decide +kernel, rfl⟩
theorem dQ_awayFrom_10 : Dc Q_awayFrom 10 (.iload_n 1) 1 11 := ⟨by decide +kernel, rfl⟩
theorem dQ_awayFrom_11 : Dc Q_awayFrom 11 (.aload_n 0) 1 12 := ⟨by decide +kernel, rfl⟩
theorem dQ_awayFrom_12 : Dc Q_awayFrom 12 (.getfield 9) 3 15 := ⟨by decide +kernel, rfl⟩
theorem dQ_awayFrom_15 : Dc Q_awayFrom 15 (.iconst 3) 1 16 := ⟨by decide +kernel, rfl⟩
theorem dQ_awayFrom_16 : Dc Q_awayFrom 16 (.iaload) 1 17 := ⟨by decide +kernel, rfl⟩
theorem dQ_awayFrom_17 : Dc Q_awayFrom 17 (.if_icmp .ne 13) 3 20 := ⟨by decide +kernel, rfl⟩
theorem dQ_awayFrom_20 : Dc Q_awayFrom 20 (.iload_n 1) 1 21 := ⟨by decide +kernel, rfl⟩
theorem dQ_awayFrom_21 : Dc Q_awayFrom 21 (.bipush 15) 2 23 := ⟨by decide +kernel, rfl⟩
theorem dQ_awayFrom_23 : Dc Q_awayFrom 23 (.if_icmp .ge 7) 3 26 := ⟨by decide +kernel, rfl⟩
theorem dQ_awayFrom_26 : Dc Q_awayFrom 26 (.iconst 1) 1 27 := ⟨by decide +kernel, rfl⟩
theorem dQ_awayFrom_27 : Dc Q_awayFrom 27 (.goto 4) 3 30 := ⟨by decide +kernel, rfl⟩
theorem dQ_awayFrom_30 : Dc Q_awayFrom 30 (.iconst 0) 1 31 := ⟨by decide +kernel, rfl⟩
theorem dQ_awayFrom_31 : Dc Q_awayFrom 31 (.istore_n 3) 1 32 := ⟨by decide +kernel, rfl⟩
theorem dQ_awayFrom_32 : Dc Q_awayFrom 32 (.iload_n 3) 1 33 := ⟨by decide +kernel, rfl⟩
theorem dQ_awayFrom_33 : Dc Q_awayFrom 33 (.ifCond .eq 14) 3 36 := ⟨by decide +kernel, rfl⟩
theorem dQ_awayFrom_36 : Dc Q_awayFrom 36 (.bipush 15) 2 38 := ⟨by decide +kernel, rfl⟩
theorem dQ_awayFrom_38 : Dc Q_awayFrom 38 (.iload_n 1) 1 39 := ⟨by decide +kernel, rfl⟩
theorem dQ_awayFrom_39 : Dc Q_awayFrom 39 (.iload_n 2) 1 40 := ⟨by decide +kernel, rfl⟩
theorem dQ_awayFrom_40 : Dc Q_awayFrom 40 (.iadd) 1 41 := ⟨by decide +kernel, rfl⟩
theorem dQ_awayFrom_41 : Dc Q_awayFrom 41 (.invokestatic 148) 3 44 := ⟨by decide +kernel, rfl⟩
theorem dQ_awayFrom_44 : Dc Q_awayFrom 44 (.goto 10) 3 47 := ⟨by decide +kernel, rfl⟩
theorem dQ_awayFrom_47 : Dc Q_awayFrom 47 (.iconst 0) 1 48 := ⟨by decide +kernel, rfl⟩
theorem dQ_awayFrom_48 : Dc Q_awayFrom 48 (.iload_n 1) 1 49 := ⟨by decide +kernel, rfl⟩
theorem dQ_awayFrom_49 : Dc Q_awayFrom 49 (.iload_n 2) 1 50 := ⟨by decide +kernel, rfl⟩
theorem dQ_awayFrom_50 : Dc Q_awayFrom 50 (.isub) 1 51 := ⟨by decide +kernel, rfl⟩
theorem dQ_awayFrom_51 : Dc Q_awayFrom 51 (.invokestatic 151) 3 54 := ⟨by decide +kernel, rfl⟩
theorem dQ_awayFrom_54 : Dc Q_awayFrom 54 (.ireturn) 1 55 := ⟨by decide +kernel, rfl⟩
theorem dQ_wolfGoes_0 : Dc Q_wolfGoes 0 (.aload_n 0) 1 1 := ⟨by decide +kernel, rfl⟩
theorem dQ_wolfGoes_1 : Dc Q_wolfGoes 1 (.getfield 9) 3 4 := ⟨by decide +kernel, rfl⟩
theorem dQ_wolfGoes_4 : Dc Q_wolfGoes 4 (.iconst 5) 1 5 := ⟨by decide +kernel, rfl⟩
theorem dQ_wolfGoes_5 : Dc Q_wolfGoes 5 (.iaload) 1 6 := ⟨by decide +kernel, rfl⟩
theorem dQ_wolfGoes_6 : Dc Q_wolfGoes 6 (.ifCond .lt 23) 3 9 := ⟨by decide +kernel, rfl⟩
theorem dQ_wolfGoes_9 : Dc Q_wolfGoes 9 (.aload_n 0) 1 10 := ⟨by decide +kernel, rfl⟩
theorem dQ_wolfGoes_10 : Dc Q_wolfGoes 10 (.getfield 9) 3 13 := ⟨by decide +kernel, rfl⟩
theorem dQ_wolfGoes_13 : Dc Q_wolfGoes 13 (.iconst 5) 1 14 := ⟨by decide +kernel, rfl⟩
theorem dQ_wolfGoes_14 : Dc Q_wolfGoes 14 (.iaload) 1 15 := ⟨by decide +kernel, rfl⟩
theorem dQ_wolfGoes_15 : Dc Q_wolfGoes 15 (.aload_n 0) 1 16 := ⟨by decide +kernel, rfl⟩
theorem dQ_wolfGoes_16 : Dc Q_wolfGoes 16 (.getfield 9) 3 19 := ⟨by decide +kernel, rfl⟩
theorem dQ_wolfGoes_19 : Dc Q_wolfGoes 19 (.iconst 4) 1 20 := ⟨by decide +kernel, rfl⟩
theorem dQ_wolfGoes_20 : Dc Q_wolfGoes 20 (.iaload) 1 21 := ⟨by decide +kernel, rfl⟩
theorem dQ_wolfGoes_21 : Dc Q_wolfGoes 21 (.isub) 1 22 := ⟨by decide +kernel, rfl⟩
theorem dQ_wolfGoes_22 : Dc Q_wolfGoes 22 (.invokestatic 111) 3 25 := ⟨by decide +kernel, rfl⟩
theorem dQ_wolfGoes_25 : Dc Q_wolfGoes 25 (.iconst 1) 1 26 := ⟨by decide +kernel, rfl⟩
theorem dQ_wolfGoes_26 : Dc Q_wolfGoes 26 (.if_icmp .gt 4) 3 29 := ⟨by decide +kernel, rfl⟩
theorem dQ_wolfGoes_29 : Dc Q_wolfGoes 29 (.return_) 1 30 := ⟨by decide +kernel, rfl⟩
theorem dQ_wolfGoes_30 : Dc Q_wolfGoes 30 (.aload_n 0) 1 31 := ⟨by decide +kernel, rfl⟩
theorem dQ_wolfGoes_31 : Dc Q_wolfGoes 31 (.invokevirtual 168) 3 34 := ⟨by decide +kernel, rfl⟩
theorem dQ_wolfGoes_34 : Dc Q_wolfGoes 34 (.istore_n 1) 1 35 := ⟨by decide +kernel, rfl⟩
theorem dQ_wolfGoes_35 : Dc Q_wolfGoes 35 (.iload_n 1) 1 36 := ⟨by decide +kernel, rfl⟩
theorem dQ_wolfGoes_36 : Dc Q_wolfGoes 36 (.ifCond .lt 31) 3 39 := ⟨by decide +kernel, rfl⟩
theorem dQ_wolfGoes_39 : Dc Q_wolfGoes 39 (.aload_n 0) 1 40 := ⟨by decide +kernel, rfl⟩
theorem dQ_wolfGoes_40 : Dc Q_wolfGoes 40 (.getfield 9) 3 43 := ⟨by decide +kernel, rfl⟩
theorem dQ_wolfGoes_43 : Dc Q_wolfGoes 43 (.iconst 5) 1 44 := ⟨by decide +kernel, rfl⟩
theorem dQ_wolfGoes_44 : Dc Q_wolfGoes 44 (.aload_n 0) 1 45 := ⟨by decide +kernel, rfl⟩
theorem dQ_wolfGoes_45 : Dc Q_wolfGoes 45 (.getfield 9) 3 48 := ⟨by decide +kernel, rfl⟩
theorem dQ_wolfGoes_48 : Dc Q_wolfGoes 48 (.iconst 5) 1 49 := ⟨by decide +kernel, rfl⟩
theorem dQ_wolfGoes_49 : Dc Q_wolfGoes 49 (.iaload) 1 50 := ⟨by decide +kernel, rfl⟩
theorem dQ_wolfGoes_50 : Dc Q_wolfGoes 50 (.aload_n 0) 1 51 := ⟨by decide +kernel, rfl⟩
theorem dQ_wolfGoes_51 : Dc Q_wolfGoes 51 (.iload_n 1) 1 52 := ⟨by decide +kernel, rfl⟩
theorem dQ_wolfGoes_52 : Dc Q_wolfGoes 52 (.iconst 1) 1 53 := ⟨by decide +kernel, rfl⟩
theorem dQ_wolfGoes_53 : Dc Q_wolfGoes 53 (.invokevirtual 108) 3 56 := ⟨by decide +kernel, rfl⟩
theorem dQ_wolfGoes_56 : Dc Q_wolfGoes 56 (.aload_n 0) 1 57 := ⟨by decide +kernel, rfl⟩
theorem dQ_wolfGoes_57 : Dc Q_wolfGoes 57 (.getfield 9) 3 60 := ⟨by decide +kernel, rfl⟩
theorem dQ_wolfGoes_60 : Dc Q_wolfGoes 60 (.bipush 6) 2 62 := ⟨by decide +kernel, rfl⟩
theorem dQ_wolfGoes_62 : Dc Q_wolfGoes 62 (.iaload) 1 63 := ⟨by decide +kernel, rfl⟩
theorem dQ_wolfGoes_63 : Dc Q_wolfGoes 63 (.invokestatic 161) 3 66 := ⟨by decide +kernel, rfl⟩
theorem dQ_wolfGoes_66 : Dc Q_wolfGoes 66 (.iastore) 1 67 := ⟨by decide +kernel, rfl⟩
theorem dQ_wolfGoes_67 : Dc Q_wolfGoes 67 (.iconst 0) 1 68 := ⟨by decide +kernel, rfl⟩
theorem dQ_wolfGoes_68 : Dc Q_wolfGoes 68 (.istore_n 2) 1 69 := ⟨by decide +kernel, rfl⟩
theorem dQ_wolfGoes_69 : Dc Q_wolfGoes 69 (.iload_n 2) 1 70 := ⟨by decide +kernel, rfl⟩
theorem dQ_wolfGoes_70 : Dc Q_wolfGoes 70 (.aload_n 0) 1 71 := ⟨by decide +kernel, rfl⟩
theorem dQ_wolfGoes_71 : Dc Q_wolfGoes 71 (.getfield 9) 3 74 := ⟨by decide +kernel, rfl⟩
theorem dQ_wolfGoes_74 : Dc Q_wolfGoes 74 (.iconst 1) 1 75 := ⟨by decide +kernel, rfl⟩
theorem dQ_wolfGoes_75 : Dc Q_wolfGoes 75 (.iaload) 1 76 := ⟨by decide +kernel, rfl⟩
theorem dQ_wolfGoes_76 : Dc Q_wolfGoes 76 (.if_icmp .ge 85) 3 79 := ⟨by decide +kernel, rfl⟩
theorem dQ_wolfGoes_79 : Dc Q_wolfGoes 79 (.iload_n 2) 1 80 := ⟨by decide +kernel, rfl⟩
theorem dQ_wolfGoes_80 : Dc Q_wolfGoes 80 (.aload_n 0) 1 81 := ⟨by decide +kernel, rfl⟩
theorem dQ_wolfGoes_81 : Dc Q_wolfGoes 81 (.getfield 9) 3 84 := ⟨by decide +kernel, rfl⟩
theorem dQ_wolfGoes_84 : Dc Q_wolfGoes 84 (.bipush 7) 2 86 := ⟨by decide +kernel, rfl⟩
theorem dQ_wolfGoes_86 : Dc Q_wolfGoes 86 (.iaload) 1 87 := ⟨by decide +kernel, rfl⟩
theorem dQ_wolfGoes_87 : Dc Q_wolfGoes 87 (.if_icmp .eq 27) 3 90 := ⟨by decide +kernel, rfl⟩
theorem dQ_wolfGoes_90 : Dc Q_wolfGoes 90 (.aload_n 0) 1 91 := ⟨by decide +kernel, rfl⟩
theorem dQ_wolfGoes_91 : Dc Q_wolfGoes 91 (.iload_n 2) 1 92 := ⟨by decide +kernel, rfl⟩
theorem dQ_wolfGoes_92 : Dc Q_wolfGoes 92 (.iconst 1) 1 93 := ⟨by decide +kernel, rfl⟩
theorem dQ_wolfGoes_93 : Dc Q_wolfGoes 93 (.invokevirtual 108) 3 96 := ⟨by decide +kernel, rfl⟩
theorem dQ_wolfGoes_96 : Dc Q_wolfGoes 96 (.aload_n 0) 1 97 := ⟨by decide +kernel, rfl⟩
theorem dQ_wolfGoes_97 : Dc Q_wolfGoes 97 (.getfield 9) 3 100 := ⟨by decide +kernel, rfl⟩
theorem dQ_wolfGoes_100 : Dc Q_wolfGoes 100 (.iconst 5) 1 101 := ⟨by decide +kernel, rfl⟩
theorem dQ_wolfGoes_101 : Dc Q_wolfGoes 101 (.iaload) 1 102 := ⟨by decide +kernel, rfl⟩
theorem dQ_wolfGoes_102 : Dc Q_wolfGoes 102 (.isub) 1 103 := ⟨by decide +kernel, rfl⟩
theorem dQ_wolfGoes_103 : Dc Q_wolfGoes 103 (.invokestatic 111) 3 106 := ⟨by decide +kernel, rfl⟩
theorem dQ_wolfGoes_106 : Dc Q_wolfGoes 106 (.iconst 2) 1 107 := ⟨by decide +kernel, rfl⟩
theorem dQ_wolfGoes_107 : Dc Q_wolfGoes 107 (.if_icmp .gt 7) 3 110 := ⟨by decide +kernel, rfl⟩
theorem dQ_wolfGoes_110 : Dc Q_wolfGoes 110 (.iconst 1) 1 111 := ⟨by decide +kernel, rfl⟩
theorem dQ_wolfGoes_111 : Dc Q_wolfGoes 111 (.goto 4) 3 114 := ⟨by decide +kernel, rfl⟩
theorem dQ_wolfGoes_114 : Dc Q_wolfGoes 114 (.iconst 0) 1 115 := ⟨by decide +kernel, rfl⟩
theorem dQ_wolfGoes_115 : Dc Q_wolfGoes 115 (.istore_n 3) 1 116 := ⟨by decide +kernel, rfl⟩
theorem dQ_wolfGoes_116 : Dc Q_wolfGoes 116 (.iload_n 3) 1 117 := ⟨by decide +kernel, rfl⟩
theorem dQ_wolfGoes_117 : Dc Q_wolfGoes 117 (.ifCond .eq 11) 3 120 := ⟨by decide +kernel, rfl⟩
theorem dQ_wolfGoes_120 : Dc Q_wolfGoes 120 (.aload_n 0) 1 121 := ⟨by decide +kernel, rfl⟩
theorem dQ_wolfGoes_121 : Dc Q_wolfGoes 121 (.iload_n 2) 1 122 := ⟨by decide +kernel, rfl⟩
theorem dQ_wolfGoes_122 : Dc Q_wolfGoes 122 (.invokevirtual 128) 3 125 := ⟨by decide +kernel, rfl⟩
theorem dQ_wolfGoes_125 : Dc Q_wolfGoes 125 (.goto 4) 3 128 := ⟨by decide +kernel, rfl⟩
theorem dQ_wolfGoes_128 : Dc Q_wolfGoes 128 (.iconst 0) 1 129 := ⟨by decide +kernel, rfl⟩
theorem dQ_wolfGoes_129 : Dc Q_wolfGoes 129 (.istore 4) 2 131 := ⟨by decide +kernel, rfl⟩
theorem dQ_wolfGoes_131 : Dc Q_wolfGoes 131 (.aload_n 0) 1 132 := ⟨by decide +kernel, rfl⟩
theorem dQ_wolfGoes_132 : Dc Q_wolfGoes 132 (.getfield 9) 3 135 := ⟨by decide +kernel, rfl⟩
theorem dQ_wolfGoes_135 : Dc Q_wolfGoes 135 (.iload_n 2) 1 136 := ⟨by decide +kernel, rfl⟩
theorem dQ_wolfGoes_136 : Dc Q_wolfGoes 136 (.iconst 2) 1 137 := ⟨by decide +kernel, rfl⟩
theorem dQ_wolfGoes_137 : Dc Q_wolfGoes 137 (.invokestatic 83) 3 140 := ⟨by decide +kernel, rfl⟩
theorem dQ_wolfGoes_140 : Dc Q_wolfGoes 140 (.bipush 99) 2 142 := ⟨by decide +kernel, rfl⟩
theorem dQ_wolfGoes_142 : Dc Q_wolfGoes 142 (.aload_n 0) 1 143 := ⟨by decide +kernel, rfl⟩
theorem dQ_wolfGoes_143 : Dc Q_wolfGoes 143 (.iload_n 2) 1 144 := ⟨by decide +kernel, rfl⟩
theorem dQ_wolfGoes_144 : Dc Q_wolfGoes 144 (.iconst 2) 1 145 := ⟨by decide +kernel, rfl⟩
theorem dQ_wolfGoes_145 : Dc Q_wolfGoes 145 (.invokevirtual 108) 3 148 := ⟨by decide +kernel, rfl⟩
theorem dQ_wolfGoes_148 : Dc Q_wolfGoes 148 (.iload 4) 2 150 := ⟨by decide +kernel, rfl⟩
theorem dQ_wolfGoes_150 : Dc Q_wolfGoes 150 (.iadd) 1 151 := ⟨by decide +kernel, rfl⟩
theorem dQ_wolfGoes_151 : Dc Q_wolfGoes 151 (.invokestatic 148) 3 154 := ⟨by decide +kernel, rfl⟩
theorem dQ_wolfGoes_154 : Dc Q_wolfGoes 154 (.iastore) 1 155 := ⟨by decide +kernel, rfl⟩
theorem dQ_wolfGoes_155 : Dc Q_wolfGoes 155 (.iinc 2 1) 3 158 := ⟨by decide +kernel, rfl⟩
theorem dQ_wolfGoes_158 : Dc Q_wolfGoes 158 (.goto (-89)) 3 161 := ⟨by decide +kernel, rfl⟩
theorem dQ_wolfGoes_161 : Dc Q_wolfGoes 161 (.return_) 1 162 := ⟨by decide +kernel, rfl⟩
theorem dQ_nearest_0 : Dc Q_nearest 0 (.iconst (-1)) 1 1 := ⟨by decide +kernel, rfl⟩
theorem dQ_nearest_1 : Dc Q_nearest 1 (.istore_n 1) 1 2 := ⟨by decide +kernel, rfl⟩
theorem dQ_nearest_2 : Dc Q_nearest 2 (.bipush 16) 2 4 := ⟨by decide +kernel, rfl⟩
theorem dQ_nearest_4 : Dc Q_nearest 4 (.istore_n 2) 1 5 := ⟨by decide +kernel, rfl⟩
theorem dQ_nearest_5 : Dc Q_nearest 5 (.iconst 0) 1 6 := ⟨by decide +kernel, rfl⟩
theorem dQ_nearest_6 : Dc Q_nearest 6 (.istore_n 3) 1 7 := ⟨by decide +kernel, rfl⟩
theorem dQ_nearest_7 : Dc Q_nearest 7 (.iload_n 3) 1 8 := ⟨by decide +kernel, rfl⟩
theorem dQ_nearest_8 : Dc Q_nearest 8 (.aload_n 0) 1 9 := ⟨by decide +kernel, rfl⟩
theorem dQ_nearest_9 : Dc Q_nearest 9 (.getfield 9) 3 12 := ⟨by decide +kernel, rfl⟩
theorem dQ_nearest_12 : Dc Q_nearest 12 (.iconst 1) 1 13 := ⟨by decide +kernel, rfl⟩
theorem dQ_nearest_13 : Dc Q_nearest 13 (.iaload) 1 14 := ⟨by decide +kernel, rfl⟩
theorem dQ_nearest_14 : Dc Q_nearest 14 (.if_icmp .ge 62) 3 17 := ⟨by decide +kernel, rfl⟩
theorem dQ_nearest_17 : Dc Q_nearest 17 (.iload_n 3) 1 18 := ⟨by decide +kernel, rfl⟩
theorem dQ_nearest_18 : Dc Q_nearest 18 (.aload_n 0) 1 19 := ⟨by decide +kernel, rfl⟩
theorem dQ_nearest_19 : Dc Q_nearest 19 (.getfield 9) 3 22 := ⟨by decide +kernel, rfl⟩
theorem dQ_nearest_22 : Dc Q_nearest 22 (.bipush 7) 2 24 := ⟨by decide +kernel, rfl⟩
theorem dQ_nearest_24 : Dc Q_nearest 24 (.iaload) 1 25 := ⟨by decide +kernel, rfl⟩
theorem dQ_nearest_25 : Dc Q_nearest 25 (.if_icmp .ne 8) 3 28 := ⟨by decide +kernel, rfl⟩
theorem dQ_nearest_28 : Dc Q_nearest 28 (.bipush 16) 2 30 := ⟨by decide +kernel, rfl⟩
theorem dQ_nearest_30 : Dc Q_nearest 30 (.goto 19) 3 33 := ⟨by decide +kernel, rfl⟩
theorem dQ_nearest_33 : Dc Q_nearest 33 (.aload_n 0) 1 34 := ⟨by decide +kernel, rfl⟩
theorem dQ_nearest_34 : Dc Q_nearest 34 (.iload_n 3) 1 35 := ⟨by decide +kernel, rfl⟩
theorem dQ_nearest_35 : Dc Q_nearest 35 (.iconst 1) 1 36 := ⟨by decide +kernel, rfl⟩
theorem dQ_nearest_36 : Dc Q_nearest 36 (.invokevirtual 108) 3 39 := ⟨by decide +kernel, rfl⟩
theorem dQ_nearest_39 : Dc Q_nearest 39 (.aload_n 0) 1 40 := ⟨by decide +kernel, rfl⟩
theorem dQ_nearest_40 : Dc Q_nearest 40 (.getfield 9) 3 43 := ⟨by decide +kernel, rfl⟩
theorem dQ_nearest_43 : Dc Q_nearest 43 (.iconst 5) 1 44 := ⟨by decide +kernel, rfl⟩
theorem dQ_nearest_44 : Dc Q_nearest 44 (.iaload) 1 45 := ⟨by decide +kernel, rfl⟩
theorem dQ_nearest_45 : Dc Q_nearest 45 (.isub) 1 46 := ⟨by decide +kernel, rfl⟩
theorem dQ_nearest_46 : Dc Q_nearest 46 (.invokestatic 111) 3 49 := ⟨by decide +kernel, rfl⟩
theorem dQ_nearest_49 : Dc Q_nearest 49 (.istore 4) 2 51 := ⟨by decide +kernel, rfl⟩
theorem dQ_nearest_51 : Dc Q_nearest 51 (.iload 4) 2 53 := ⟨by decide +kernel, rfl⟩
theorem dQ_nearest_53 : Dc Q_nearest 53 (.iload_n 2) 1 54 := ⟨by decide +kernel, rfl⟩
theorem dQ_nearest_54 : Dc Q_nearest 54 (.if_icmp .ge 7) 3 57 := ⟨by decide +kernel, rfl⟩
theorem dQ_nearest_57 : Dc Q_nearest 57 (.iload_n 3) 1 58 := ⟨by decide +kernel, rfl⟩
theorem dQ_nearest_58 : Dc Q_nearest 58 (.goto 4) 3 61 := ⟨by decide +kernel, rfl⟩
theorem dQ_nearest_61 : Dc Q_nearest 61 (.iload_n 1) 1 62 := ⟨by decide +kernel, rfl⟩
theorem dQ_nearest_62 : Dc Q_nearest 62 (.istore_n 1) 1 63 := ⟨by decide +kernel, rfl⟩
theorem dQ_nearest_63 : Dc Q_nearest 63 (.iload_n 2) 1 64 := ⟨by decide +kernel, rfl⟩
theorem dQ_nearest_64 : Dc Q_nearest 64 (.iload 4) 2 66 := ⟨by decide +kernel, rfl⟩
theorem dQ_nearest_66 : Dc Q_nearest 66 (.invokestatic 148) 3 69 := ⟨by decide +kernel, rfl⟩
theorem dQ_nearest_69 : Dc Q_nearest 69 (.istore_n 2) 1 70 := ⟨by decide +kernel, rfl⟩
theorem dQ_nearest_70 : Dc Q_nearest 70 (.iinc 3 1) 3 73 := ⟨by decide +kernel, rfl⟩
theorem dQ_nearest_73 : Dc Q_nearest 73 (.goto (-66)) 3 76 := ⟨by decide +kernel, rfl⟩
theorem dQ_nearest_76 : Dc Q_nearest 76 (.iload_n 1) 1 77 := ⟨by decide +kernel, rfl⟩
theorem dQ_nearest_77 : Dc Q_nearest 77 (.ireturn) 1 78 := ⟨by decide +kernel, rfl⟩
theorem dQ_carries_0 : Dc Q_carries 0 (.aload_n 0) 1 1 := ⟨by decide +kernel, rfl⟩
theorem dQ_carries_1 : Dc Q_carries 1 (.getfield 9) 3 4 := ⟨by decide +kernel, rfl⟩
theorem dQ_carries_4 : Dc Q_carries 4 (.bipush 7) 2 6 := ⟨by decide +kernel, rfl⟩
theorem dQ_carries_6 : Dc Q_carries 6 (.iaload) 1 7 := ⟨by decide +kernel, rfl⟩
theorem dQ_carries_7 : Dc Q_carries 7 (.istore_n 1) 1 8 := ⟨by decide +kernel, rfl⟩
theorem dQ_carries_8 : Dc Q_carries 8 (.aload_n 0) 1 9 := ⟨by decide +kernel, rfl⟩
theorem dQ_carries_9 : Dc Q_carries 9 (.aload_n 0) 1 10 := ⟨by decide +kernel, rfl⟩
theorem dQ_carries_10 : Dc Q_carries 10 (.getfield 9) 3 13 := ⟨by decide +kernel, rfl⟩
theorem dQ_carries_13 : Dc Q_carries 13 (.iconst 4) 1 14 := ⟨by decide +kernel, rfl⟩
theorem dQ_carries_14 : Dc Q_carries 14 (.iaload) 1 15 := ⟨by decide +kernel, rfl⟩
theorem dQ_carries_15 : Dc Q_carries 15 (.aload_n 0) 1 16 := ⟨by decide +kernel, rfl⟩
theorem dQ_carries_16 : Dc Q_carries 16 (.getfield 9) 3 19 := ⟨by decide +kernel, rfl⟩
theorem dQ_carries_19 : Dc Q_carries 19 (.iconst 3) 1 20 := ⟨by decide +kernel, rfl⟩
theorem dQ_carries_20 : Dc Q_carries 20 (.iaload) 1 21 := ⟨by decide +kernel, rfl⟩
theorem dQ_carries_21 : Dc Q_carries 21 (.aload_n 0) 1 22 := ⟨by decide +kernel, rfl⟩
theorem dQ_carries_22 : Dc Q_carries 22 (.iload_n 1) 1 23 := ⟨by decide +kernel, rfl⟩
theorem dQ_carries_23 : Dc Q_carries 23 (.invokevirtual 134) 3 26 := ⟨by decide +kernel, rfl⟩
theorem dQ_carries_26 : Dc Q_carries 26 (.invokestatic 161) 3 29 := ⟨by decide +kernel, rfl⟩
theorem dQ_carries_29 : Dc Q_carries 29 (.invokevirtual 87) 3 32 := ⟨by decide +kernel, rfl⟩
theorem dQ_carries_32 : Dc Q_carries 32 (.aload_n 0) 1 33 := ⟨by decide +kernel, rfl⟩
theorem dQ_carries_33 : Dc Q_carries 33 (.getfield 9) 3 36 := ⟨by decide +kernel, rfl⟩
theorem dQ_carries_36 : Dc Q_carries 36 (.iconst 4) 1 37 := ⟨by decide +kernel, rfl⟩
theorem dQ_carries_37 : Dc Q_carries 37 (.iaload) 1 38 := ⟨by decide +kernel, rfl⟩
theorem dQ_carries_38 : Dc Q_carries 38 (.aload_n 0) 1 39 := ⟨by decide +kernel, rfl⟩
theorem dQ_carries_39 : Dc Q_carries 39 (.getfield 9) 3 42 := ⟨by decide +kernel, rfl⟩
theorem dQ_carries_42 : Dc Q_carries 42 (.iconst 3) 1 43 := ⟨by decide +kernel, rfl⟩
theorem dQ_carries_43 : Dc Q_carries 43 (.iaload) 1 44 := ⟨by decide +kernel, rfl⟩
theorem dQ_carries_44 : Dc Q_carries 44 (.if_icmp .ne 46) 3 47 := ⟨by decide +kernel, rfl⟩
theorem dQ_carries_47 : Dc Q_carries 47 (.aload_n 0) 1 48 := ⟨by decide +kernel, rfl⟩
theorem dQ_carries_48 : Dc Q_carries 48 (.getfield 9) 3 51 := ⟨by decide +kernel, rfl⟩
theorem dQ_carries_51 : Dc Q_carries 51 (.iload_n 1) 1 52 := ⟨by decide +kernel, rfl⟩
theorem dQ_carries_52 : Dc Q_carries 52 (.iconst 4) 1 53 := ⟨by decide +kernel, rfl⟩
theorem dQ_carries_53 : Dc Q_carries 53 (.invokestatic 83) 3 56 := ⟨by decide +kernel, rfl⟩
theorem dQ_carries_56 : Dc Q_carries 56 (.sipush 9999) 3 59 := ⟨by decide +kernel, rfl⟩
theorem dQ_carries_59 : Dc Q_carries 59 (.aload_n 0) 1 60 := ⟨by decide +kernel, rfl⟩
theorem dQ_carries_60 : Dc Q_carries 60 (.iload_n 1) 1 61 := ⟨by decide +kernel, rfl⟩
theorem dQ_carries_61 : Dc Q_carries 61 (.iconst 4) 1 62 := ⟨by decide +kernel, rfl⟩
theorem dQ_carries_62 : Dc Q_carries 62 (.invokevirtual 108) 3 65 := ⟨by decide +kernel, rfl⟩
theorem dQ_carries_65 : Dc Q_carries 65 (.iconst 1) 1 66 := ⟨by decide +kernel, rfl⟩
theorem dQ_carries_66 : Dc Q_carries 66 (.iadd) 1 67 := ⟨by decide +kernel, rfl⟩
theorem dQ_carries_67 : Dc Q_carries 67 (.invokestatic 148) 3 70 := ⟨by decide +kernel, rfl⟩
theorem dQ_carries_70 : Dc Q_carries 70 (.iastore) 1 71 := ⟨by decide +kernel, rfl⟩
theorem dQ_carries_71 : Dc Q_carries 71 (.aload_n 0) 1 72 := ⟨by decide +kernel, rfl⟩
theorem dQ_carries_72 : Dc Q_carries 72 (.getfield 9) 3 75 := ⟨by decide +kernel, rfl⟩
theorem dQ_carries_75 : Dc Q_carries 75 (.iload_n 1) 1 76 := ⟨by decide +kernel, rfl⟩
theorem dQ_carries_76 : Dc Q_carries 76 (.iconst 2) 1 77 := ⟨by decide +kernel, rfl⟩
theorem dQ_carries_77 : Dc Q_carries 77 (.invokestatic 83) 3 80 := ⟨by decide +kernel, rfl⟩
theorem dQ_carries_80 : Dc Q_carries 80 (.iconst 0) 1 81 := ⟨by decide +kernel, rfl⟩
theorem dQ_carries_81 : Dc Q_carries 81 (.iastore) 1 82 := ⟨by decide +kernel, rfl⟩
theorem dQ_carries_82 : Dc Q_carries 82 (.aload_n 0) 1 83 := ⟨by decide +kernel, rfl⟩
theorem dQ_carries_83 : Dc Q_carries 83 (.getfield 9) 3 86 := ⟨by decide +kernel, rfl⟩
theorem dQ_carries_86 : Dc Q_carries 86 (.bipush 7) 2 88 := ⟨by decide +kernel, rfl⟩
theorem dQ_carries_88 : Dc Q_carries 88 (.iconst (-1)) 1 89 := ⟨by decide +kernel, rfl⟩
theorem dQ_carries_89 : Dc Q_carries 89 (.iastore) 1 90 := ⟨by decide +kernel, rfl⟩
theorem dQ_carries_90 : Dc Q_carries 90 (.return_) 1 91 := ⟨by decide +kernel, rfl⟩
theorem dQ_seeks_0 : Dc Q_seeks 0 (.aload_n 0) 1 1 := ⟨by decide +kernel, rfl⟩
theorem dQ_seeks_1 : Dc Q_seeks 1 (.invokevirtual 172) 3 4 := ⟨by decide +kernel, rfl⟩
theorem dQ_seeks_4 : Dc Q_seeks 4 (.istore_n 1) 1 5 := ⟨by decide +kernel, rfl⟩
theorem dQ_seeks_5 : Dc Q_seeks 5 (.aload_n 0) 1 6 := ⟨by decide +kernel, rfl⟩
theorem dQ_seeks_6 : Dc Q_seeks 6 (.getfield 9) 3 9 := ⟨by decide +kernel, rfl⟩
theorem dQ_seeks_9 : Dc Q_seeks 9 (.iconst 4) 1 10 := ⟨by decide +kernel, rfl⟩
theorem dQ_seeks_10 : Dc Q_seeks 10 (.aload_n 0) 1 11 := ⟨by decide +kernel, rfl⟩
theorem dQ_seeks_11 : Dc Q_seeks 11 (.getfield 9) 3 14 := ⟨by decide +kernel, rfl⟩
theorem dQ_seeks_14 : Dc Q_seeks 14 (.iconst 4) 1 15 := ⟨by decide +kernel, rfl⟩
theorem dQ_seeks_15 : Dc Q_seeks 15 (.iaload) 1 16 := ⟨by decide +kernel, rfl⟩
theorem dQ_seeks_16 : Dc Q_seeks 16 (.iload_n 1) 1 17 := ⟨by decide +kernel, rfl⟩
theorem dQ_seeks_17 : Dc Q_seeks 17 (.ifCond .ge 12) 3 20 := ⟨by decide +kernel, rfl⟩
theorem dQ_seeks_20 : Dc Q_seeks 20 (.aload_n 0) 1 21 := ⟨by decide +kernel, rfl⟩
theorem dQ_seeks_21 : Dc Q_seeks 21 (.getfield 9) 3 24 := ⟨by decide +kernel, rfl⟩
theorem dQ_seeks_24 : Dc Q_seeks 24 (.iconst 3) 1 25 := ⟨by decide +kernel, rfl⟩
theorem dQ_seeks_25 : Dc Q_seeks 25 (.iaload) 1 26 := ⟨by decide +kernel, rfl⟩
theorem dQ_seeks_26 : Dc Q_seeks 26 (.goto 9) 3 29 := ⟨by decide +kernel, rfl⟩
theorem dQ_seeks_29 : Dc Q_seeks 29 (.aload_n 0) 1 30 := ⟨by decide +kernel, rfl⟩
theorem dQ_seeks_30 : Dc Q_seeks 30 (.iload_n 1) 1 31 := ⟨by decide +kernel, rfl⟩
theorem dQ_seeks_31 : Dc Q_seeks 31 (.iconst 1) 1 32 := ⟨by decide +kernel, rfl⟩
theorem dQ_seeks_32 : Dc Q_seeks 32 (.invokevirtual 108) 3 35 := ⟨by decide +kernel, rfl⟩
theorem dQ_seeks_35 : Dc Q_seeks 35 (.iconst 2) 1 36 := ⟨by decide +kernel, rfl⟩
theorem dQ_seeks_36 : Dc Q_seeks 36 (.invokestatic 161) 3 39 := ⟨by decide +kernel, rfl⟩
theorem dQ_seeks_39 : Dc Q_seeks 39 (.iastore) 1 40 := ⟨by decide +kernel, rfl⟩
theorem dQ_seeks_40 : Dc Q_seeks 40 (.iload_n 1) 1 41 := ⟨by decide +kernel, rfl⟩
theorem dQ_seeks_41 : Dc Q_seeks 41 (.ifCond .lt 26) 3 44 := ⟨by decide +kernel, rfl⟩
theorem dQ_seeks_44 : Dc Q_seeks 44 (.aload_n 0) 1 45 := ⟨by decide +kernel, rfl⟩
theorem dQ_seeks_45 : Dc Q_seeks 45 (.getfield 9) 3 48 := ⟨by decide +kernel, rfl⟩
theorem dQ_seeks_48 : Dc Q_seeks 48 (.iconst 4) 1 49 := ⟨by decide +kernel, rfl⟩
theorem dQ_seeks_49 : Dc Q_seeks 49 (.iaload) 1 50 := ⟨by decide +kernel, rfl⟩
theorem dQ_seeks_50 : Dc Q_seeks 50 (.aload_n 0) 1 51 := ⟨by decide +kernel, rfl⟩
theorem dQ_seeks_51 : Dc Q_seeks 51 (.iload_n 1) 1 52 := ⟨by decide +kernel, rfl⟩
theorem dQ_seeks_52 : Dc Q_seeks 52 (.iconst 1) 1 53 := ⟨by decide +kernel, rfl⟩
theorem dQ_seeks_53 : Dc Q_seeks 53 (.invokevirtual 108) 3 56 := ⟨by decide +kernel, rfl⟩
theorem dQ_seeks_56 : Dc Q_seeks 56 (.if_icmp .ne 11) 3 59 := ⟨by decide +kernel, rfl⟩
theorem dQ_seeks_59 : Dc Q_seeks 59 (.aload_n 0) 1 60 := ⟨by decide +kernel, rfl⟩
theorem dQ_seeks_60 : Dc Q_seeks 60 (.getfield 9) 3 63 := ⟨by decide +kernel, rfl⟩
theorem dQ_seeks_63 : Dc Q_seeks 63 (.bipush 7) 2 65 := ⟨by decide +kernel, rfl⟩
theorem dQ_seeks_65 : Dc Q_seeks 65 (.iload_n 1) 1 66 := ⟨by decide +kernel, rfl⟩
theorem dQ_seeks_66 : Dc Q_seeks 66 (.iastore) 1 67 := ⟨by decide +kernel, rfl⟩
theorem dQ_seeks_67 : Dc Q_seeks 67 (.return_) 1 68 := ⟨by decide +kernel, rfl⟩
end
section
theorem dQ_sought_0 : Dc Q_sought 0 (.iconst (-1)) 1 1 := ⟨by decide +kernel, rfl⟩
theorem dQ_sought_1 : Dc Q_sought 1 (.istore_n 1) 1 2 := ⟨by decide +kernel, rfl⟩
theorem dQ_sought_2 : Dc Q_sought 2 (.iconst 2) 1 3 := ⟨by decide +kernel, rfl⟩
theorem dQ_sought_3 : Dc Q_sought 3 (.istore_n 2) 1 4 := ⟨by decide +kernel, rfl⟩
theorem dQ_sought_4 : Dc Q_sought 4 (.iconst 0) 1 5 := ⟨by decide +kernel, rfl⟩
theorem dQ_sought_5 : Dc Q_sought 5 (.istore_n 3) 1 6 := ⟨by decide +kernel, rfl⟩
theorem dQ_sought_6 : Dc Q_sought 6 (.iload_n 3) 1 7 := ⟨by decide +kernel, rfl⟩
theorem dQ_sought_7 : Dc Q_sought 7 (.aload_n 0) 1 8 := ⟨by decide +kernel, rfl⟩
theorem dQ_sought_8 : Dc Q_sought 8 (.getfield 9) 3 11 := ⟨by decide +kernel, rfl⟩
theorem dQ_sought_11 : Dc Q_sought 11 (.iconst 1) 1 12 := ⟨by decide +kernel, rfl⟩
theorem dQ_sought_12 : Dc Q_sought 12 (.iaload) 1 13 := ⟨by decide +kernel, rfl⟩
theorem dQ_sought_13 : Dc Q_sought 13 (.if_icmp .ge 34) 3 16 := ⟨by decide +kernel, rfl⟩
theorem dQ_sought_16 : Dc Q_sought 16 (.aload_n 0) 1 17 := ⟨by decide +kernel, rfl⟩
theorem dQ_sought_17 : Dc Q_sought 17 (.iload_n 3) 1 18 := ⟨by decide +kernel, rfl⟩
theorem dQ_sought_18 : Dc Q_sought 18 (.invokevirtual 122) 3 21 := ⟨by decide +kernel, rfl⟩
theorem dQ_sought_21 : Dc Q_sought 21 (.iload_n 2) 1 22 := ⟨by decide +kernel, rfl⟩
theorem dQ_sought_22 : Dc Q_sought 22 (.if_icmp .le 7) 3 25 := ⟨by decide +kernel, rfl⟩
theorem dQ_sought_25 : Dc Q_sought 25 (.iload_n 3) 1 26 := ⟨by decide +kernel, rfl⟩
theorem dQ_sought_26 : Dc Q_sought 26 (.goto 4) 3 29 := ⟨by decide +kernel, rfl⟩
theorem dQ_sought_29 : Dc Q_sought 29 (.iload_n 1) 1 30 := ⟨by decide +kernel, rfl⟩
theorem dQ_sought_30 : Dc Q_sought 30 (.istore_n 1) 1 31 := ⟨by decide +kernel, rfl⟩
theorem dQ_sought_31 : Dc Q_sought 31 (.iload_n 2) 1 32 := ⟨by decide +kernel, rfl⟩
theorem dQ_sought_32 : Dc Q_sought 32 (.aload_n 0) 1 33 := ⟨by decide +kernel, rfl⟩
theorem dQ_sought_33 : Dc Q_sought 33 (.iload_n 3) 1 34 := ⟨by decide +kernel, rfl⟩
theorem dQ_sought_34 : Dc Q_sought 34 (.invokevirtual 122) 3 37 := ⟨by decide +kernel, rfl⟩
theorem dQ_sought_37 : Dc Q_sought 37 (.invokestatic 151) 3 40 := ⟨by decide +kernel, rfl⟩
theorem dQ_sought_40 : Dc Q_sought 40 (.istore_n 2) 1 41 := ⟨by decide +kernel, rfl⟩
theorem dQ_sought_41 : Dc Q_sought 41 (.iinc 3 1) 3 44 := ⟨by decide +kernel, rfl⟩
theorem dQ_sought_44 : Dc Q_sought 44 (.goto (-38)) 3 47 := ⟨by decide +kernel, rfl⟩
theorem dQ_sought_47 : Dc Q_sought 47 (.iload_n 1) 1 48 := ⟨by decide +kernel, rfl⟩
theorem dQ_sought_48 : Dc Q_sought 48 (.ireturn) 1 49 := ⟨by decide +kernel, rfl⟩
theorem dQ_sumOf_0 : Dc Q_sumOf 0 (.iconst 0) 1 1 := ⟨by decide +kernel, rfl⟩
theorem dQ_sumOf_1 : Dc Q_sumOf 1 (.istore_n 2) 1 2 := ⟨by decide +kernel, rfl⟩
theorem dQ_sumOf_2 : Dc Q_sumOf 2 (.iconst 0) 1 3 := ⟨by decide +kernel, rfl⟩
theorem dQ_sumOf_3 : Dc Q_sumOf 3 (.istore_n 3) 1 4 := ⟨by decide +kernel, rfl⟩
theorem dQ_sumOf_4 : Dc Q_sumOf 4 (.iload_n 3) 1 5 := ⟨by decide +kernel, rfl⟩
theorem dQ_sumOf_5 : Dc Q_sumOf 5 (.aload_n 0) 1 6 := ⟨by decide +kernel, rfl⟩
theorem dQ_sumOf_6 : Dc Q_sumOf 6 (.getfield 9) 3 9 := ⟨by decide +kernel, rfl⟩
theorem dQ_sumOf_9 : Dc Q_sumOf 9 (.iconst 1) 1 10 := ⟨by decide +kernel, rfl⟩
theorem dQ_sumOf_10 : Dc Q_sumOf 10 (.iaload) 1 11 := ⟨by decide +kernel, rfl⟩
theorem dQ_sumOf_11 : Dc Q_sumOf 11 (.if_icmp .ge 18) 3 14 := ⟨by decide +kernel, rfl⟩
theorem dQ_sumOf_14 : Dc Q_sumOf 14 (.iload_n 2) 1 15 := ⟨by decide +kernel, rfl⟩
theorem dQ_sumOf_15 : Dc Q_sumOf 15 (.aload_n 0) 1 16 := ⟨by decide +kernel, rfl⟩
theorem dQ_sumOf_16 : Dc Q_sumOf 16 (.iload_n 3) 1 17 := ⟨by decide +kernel, rfl⟩
theorem dQ_sumOf_17 : Dc Q_sumOf 17 (.iload_n 1) 1 18 := ⟨by decide +kernel, rfl⟩
theorem dQ_sumOf_18 : Dc Q_sumOf 18 (.invokevirtual 108) 3 21 := ⟨by decide +kernel, rfl⟩
theorem dQ_sumOf_21 : Dc Q_sumOf 21 (.iadd) 1 22 := ⟨by decide +kernel, rfl⟩
theorem dQ_sumOf_22 : Dc Q_sumOf 22 (.istore_n 2) 1 23 := ⟨by decide +kernel, rfl⟩
theorem dQ_sumOf_23 : Dc Q_sumOf 23 (.iinc 3 1) 3 26 := ⟨by decide +kernel, rfl⟩
theorem dQ_sumOf_26 : Dc Q_sumOf 26 (.goto (-22)) 3 29 := ⟨by decide +kernel, rfl⟩
theorem dQ_sumOf_29 : Dc Q_sumOf 29 (.iload_n 2) 1 30 := ⟨by decide +kernel, rfl⟩
theorem dQ_sumOf_30 : Dc Q_sumOf 30 (.ireturn) 1 31 := ⟨by decide +kernel, rfl⟩
theorem dQ_now_0 : Dc Q_now 0 (.iload_n 1) 1 1 := ⟨by decide +kernel, rfl⟩
theorem dQ_now_1 : Dc Q_now 1 (.tableswitch 98 0 7 #[47, 54, 59, 65, 71, 77, 82, 93]) 47 48 := ⟨by decide +kernel, rfl⟩
theorem dQ_now_48 : Dc Q_now 48 (.aload_n 0) 1 49 := ⟨by decide +kernel, rfl⟩
theorem dQ_now_49 : Dc Q_now 49 (.getfield 9) 3 52 := ⟨by decide +kernel, rfl⟩
theorem dQ_now_52 : Dc Q_now 52 (.iconst 0) 1 53 := ⟨by decide +kernel, rfl⟩
theorem dQ_now_53 : Dc Q_now 53 (.iaload) 1 54 := ⟨by decide +kernel, rfl⟩
theorem dQ_now_54 : Dc Q_now 54 (.ireturn) 1 55 := ⟨by decide +kernel, rfl⟩
theorem dQ_now_55 : Dc Q_now 55 (.aload_n 0) 1 56 := ⟨by decide +kernel, rfl⟩
theorem dQ_now_56 : Dc Q_now 56 (.invokevirtual 197) 3 59 := ⟨by decide +kernel, rfl⟩
theorem dQ_now_59 : Dc Q_now 59 (.ireturn) 1 60 := ⟨by decide +kernel, rfl⟩
theorem dQ_now_60 : Dc Q_now 60 (.aload_n 0) 1 61 := ⟨by decide +kernel, rfl⟩
theorem dQ_now_61 : Dc Q_now 61 (.iconst 2) 1 62 := ⟨by decide +kernel, rfl⟩
theorem dQ_now_62 : Dc Q_now 62 (.invokevirtual 194) 3 65 := ⟨by decide +kernel, rfl⟩
theorem dQ_now_65 : Dc Q_now 65 (.ireturn) 1 66 := ⟨by decide +kernel, rfl⟩
theorem dQ_now_66 : Dc Q_now 66 (.aload_n 0) 1 67 := ⟨by decide +kernel, rfl⟩
theorem dQ_now_67 : Dc Q_now 67 (.iconst 4) 1 68 := ⟨by decide +kernel, rfl⟩
theorem dQ_now_68 : Dc Q_now 68 (.invokevirtual 194) 3 71 := ⟨by decide +kernel, rfl⟩
theorem dQ_now_71 : Dc Q_now 71 (.ireturn) 1 72 := ⟨by decide +kernel, rfl⟩
theorem dQ_now_72 : Dc Q_now 72 (.aload_n 0) 1 73 := ⟨by decide +kernel, rfl⟩
theorem dQ_now_73 : Dc Q_now 73 (.iconst 3) 1 74 := ⟨by decide +kernel, rfl⟩
theorem dQ_now_74 : Dc Q_now 74 (.invokevirtual 194) 3 77 := ⟨by decide +kernel, rfl⟩
theorem dQ_now_77 : Dc Q_now 77 (.ireturn) 1 78 := ⟨by decide +kernel, rfl⟩
theorem dQ_now_78 : Dc Q_now 78 (.aload_n 0) 1 79 := ⟨by decide +kernel, rfl⟩
theorem dQ_now_79 : Dc Q_now 79 (.invokevirtual 172) 3 82 := ⟨by decide +kernel, rfl⟩
theorem dQ_now_82 : Dc Q_now 82 (.ireturn) 1 83 := ⟨by decide +kernel, rfl⟩
theorem dQ_now_83 : Dc Q_now 83 (.aload_n 0) 1 84 := ⟨by decide +kernel, rfl⟩
theorem dQ_now_84 : Dc Q_now 84 (.aload_n 0) 1 85 := ⟨by decide +kernel, rfl⟩
theorem dQ_now_85 : Dc Q_now 85 (.getfield 9) 3 88 := ⟨by decide +kernel, rfl⟩
theorem dQ_now_88 : Dc Q_now 88 (.iconst 3) 1 89 := ⟨by decide +kernel, rfl⟩
theorem dQ_now_89 : Dc Q_now 89 (.iaload) 1 90 := ⟨by decide +kernel, rfl⟩
theorem dQ_now_90 : Dc Q_now 90 (.invokevirtual 145) 3 93 := ⟨by decide +kernel, rfl⟩
theorem dQ_now_93 : Dc Q_now 93 (.ireturn) 1 94 := ⟨by decide +kernel, rfl⟩
theorem dQ_now_94 : Dc Q_now 94 (.aload_n 0) 1 95 := ⟨by decide +kernel, rfl⟩
theorem dQ_now_95 : Dc Q_now 95 (.invokevirtual 200) 3 98 := ⟨by decide +kernel, rfl⟩
theorem dQ_now_98 : Dc Q_now 98 (.ireturn) 1 99 := ⟨by decide +kernel, rfl⟩
theorem dQ_now_99 : Dc Q_now 99 (.aload_n 0) 1 100 := ⟨by decide +kernel, rfl⟩
theorem dQ_now_100 : Dc Q_now 100 (.ldc 69) 2 102 := ⟨by decide +kernel, rfl⟩
theorem dQ_now_102 : Dc Q_now 102 (.invokevirtual 75) 3 105 := ⟨by decide +kernel, rfl⟩
theorem dQ_now_105 : Dc Q_now 105 (.ireturn) 1 106 := ⟨by decide +kernel, rfl⟩
theorem dQ_lostSet_0 : Dc Q_lostSet 0 (.iconst 0) 1 1 := ⟨by decide +kernel, rfl⟩
theorem dQ_lostSet_1 : Dc Q_lostSet 1 (.istore_n 1) 1 2 := ⟨by decide +kernel, rfl⟩
theorem dQ_lostSet_2 : Dc Q_lostSet 2 (.iconst 0) 1 3 := ⟨by decide +kernel, rfl⟩
theorem dQ_lostSet_3 : Dc Q_lostSet 3 (.istore_n 2) 1 4 := ⟨by decide +kernel, rfl⟩
theorem dQ_lostSet_4 : Dc Q_lostSet 4 (.iload_n 2) 1 5 := ⟨by decide +kernel, rfl⟩
theorem dQ_lostSet_5 : Dc Q_lostSet 5 (.aload_n 0) 1 6 := ⟨by decide +kernel, rfl⟩
theorem dQ_lostSet_6 : Dc Q_lostSet 6 (.getfield 9) 3 9 := ⟨by decide +kernel, rfl⟩
theorem dQ_lostSet_9 : Dc Q_lostSet 9 (.iconst 1) 1 10 := ⟨by decide +kernel, rfl⟩
theorem dQ_lostSet_10 : Dc Q_lostSet 10 (.iaload) 1 11 := ⟨by decide +kernel, rfl⟩
theorem dQ_lostSet_11 : Dc Q_lostSet 11 (.if_icmp .ge 28) 3 14 := ⟨by decide +kernel, rfl⟩
theorem dQ_lostSet_14 : Dc Q_lostSet 14 (.iload_n 1) 1 15 := ⟨by decide +kernel, rfl⟩
theorem dQ_lostSet_15 : Dc Q_lostSet 15 (.aload_n 0) 1 16 := ⟨by decide +kernel, rfl⟩
theorem dQ_lostSet_16 : Dc Q_lostSet 16 (.iload_n 2) 1 17 := ⟨by decide +kernel, rfl⟩
theorem dQ_lostSet_17 : Dc Q_lostSet 17 (.invokevirtual 122) 3 20 := ⟨by decide +kernel, rfl⟩
theorem dQ_lostSet_20 : Dc Q_lostSet 20 (.iconst 3) 1 21 := ⟨by decide +kernel, rfl⟩
theorem dQ_lostSet_21 : Dc Q_lostSet 21 (.if_icmp .lt 9) 3 24 := ⟨by decide +kernel, rfl⟩
theorem dQ_lostSet_24 : Dc Q_lostSet 24 (.iconst 1) 1 25 := ⟨by decide +kernel, rfl⟩
theorem dQ_lostSet_25 : Dc Q_lostSet 25 (.iload_n 2) 1 26 := ⟨by decide +kernel, rfl⟩
theorem dQ_lostSet_26 : Dc Q_lostSet 26 (.ishl) 1 27 := ⟨by decide +kernel, rfl⟩
theorem dQ_lostSet_27 : Dc Q_lostSet 27 (.goto 4) 3 30 := ⟨by decide +kernel, rfl⟩
theorem dQ_lostSet_30 : Dc Q_lostSet 30 (.iconst 0) 1 31 := ⟨by decide +kernel, rfl⟩
theorem dQ_lostSet_31 : Dc Q_lostSet 31 (.ior) 1 32 := ⟨by decide +kernel, rfl⟩
theorem dQ_lostSet_32 : Dc Q_lostSet 32 (.istore_n 1) 1 33 := ⟨by decide +kernel, rfl⟩
theorem dQ_lostSet_33 : Dc Q_lostSet 33 (.iinc 2 1) 3 36 := ⟨by decide +kernel, rfl⟩
theorem dQ_lostSet_36 : Dc Q_lostSet 36 (.goto (-32)) 3 39 := ⟨by decide +kernel, rfl⟩
theorem dQ_lostSet_39 : Dc Q_lostSet 39 (.iload_n 1) 1 40 := ⟨by decide +kernel, rfl⟩
theorem dQ_lostSet_40 : Dc Q_lostSet 40 (.ireturn) 1 41 := ⟨by decide +kernel, rfl⟩
theorem dQ_mostAfraid_0 : Dc Q_mostAfraid 0 (.iconst (-1)) 1 1 := ⟨by decide +kernel, rfl⟩
theorem dQ_mostAfraid_1 : Dc Q_mostAfraid 1 (.istore_n 1) 1 2 := ⟨by decide +kernel, rfl⟩
theorem dQ_mostAfraid_2 : Dc Q_mostAfraid 2 (.iconst (-1)) 1 3 := ⟨by decide +kernel, rfl⟩
theorem dQ_mostAfraid_3 : Dc Q_mostAfraid 3 (.istore_n 2) 1 4 := ⟨by decide +kernel, rfl⟩
theorem dQ_mostAfraid_4 : Dc Q_mostAfraid 4 (.iconst 0) 1 5 := ⟨by decide +kernel, rfl⟩
theorem dQ_mostAfraid_5 : Dc Q_mostAfraid 5 (.istore_n 3) 1 6 := ⟨by decide +kernel, rfl⟩
theorem dQ_mostAfraid_6 : Dc Q_mostAfraid 6 (.iload_n 3) 1 7 := ⟨by decide +kernel, rfl⟩
theorem dQ_mostAfraid_7 : Dc Q_mostAfraid 7 (.aload_n 0) 1 8 := ⟨by decide +kernel, rfl⟩
theorem dQ_mostAfraid_8 : Dc Q_mostAfraid 8 (.getfield 9) 3 11 := ⟨by decide +kernel, rfl⟩
theorem dQ_mostAfraid_11 : Dc Q_mostAfraid 11 (.iconst 1) 1 12 := ⟨by decide +kernel, rfl⟩
theorem dQ_mostAfraid_12 : Dc Q_mostAfraid 12 (.iaload) 1 13 := ⟨by decide +kernel, rfl⟩
theorem dQ_mostAfraid_13 : Dc Q_mostAfraid 13 (.if_icmp .ge 36) 3 16 := ⟨by decide +kernel, rfl⟩
theorem dQ_mostAfraid_16 : Dc Q_mostAfraid 16 (.aload_n 0) 1 17 := ⟨by decide +kernel, rfl⟩
theorem dQ_mostAfraid_17 : Dc Q_mostAfraid 17 (.iload_n 3) 1 18 := ⟨by decide +kernel, rfl⟩
theorem dQ_mostAfraid_18 : Dc Q_mostAfraid 18 (.iconst 2) 1 19 := ⟨by decide +kernel, rfl⟩
theorem dQ_mostAfraid_19 : Dc Q_mostAfraid 19 (.invokevirtual 108) 3 22 := ⟨by decide +kernel, rfl⟩
theorem dQ_mostAfraid_22 : Dc Q_mostAfraid 22 (.iload_n 2) 1 23 := ⟨by decide +kernel, rfl⟩
theorem dQ_mostAfraid_23 : Dc Q_mostAfraid 23 (.if_icmp .le 7) 3 26 := ⟨by decide +kernel, rfl⟩
theorem dQ_mostAfraid_26 : Dc Q_mostAfraid 26 (.iload_n 3) 1 27 := ⟨by decide +kernel, rfl⟩
theorem dQ_mostAfraid_27 : Dc Q_mostAfraid 27 (.goto 4) 3 30 := ⟨by decide +kernel, rfl⟩
theorem dQ_mostAfraid_30 : Dc Q_mostAfraid 30 (.iload_n 1) 1 31 := ⟨by decide +kernel, rfl⟩
theorem dQ_mostAfraid_31 : Dc Q_mostAfraid 31 (.istore_n 1) 1 32 := ⟨by decide +kernel, rfl⟩
theorem dQ_mostAfraid_32 : Dc Q_mostAfraid 32 (.iload_n 2) 1 33 := ⟨by decide +kernel, rfl⟩
theorem dQ_mostAfraid_33 : Dc Q_mostAfraid 33 (.aload_n 0) 1 34 := ⟨by decide +kernel, rfl⟩
theorem dQ_mostAfraid_34 : Dc Q_mostAfraid 34 (.iload_n 3) 1 35 := ⟨by decide +kernel, rfl⟩
theorem dQ_mostAfraid_35 : Dc Q_mostAfraid 35 (.iconst 2) 1 36 := ⟨by decide +kernel, rfl⟩
theorem dQ_mostAfraid_36 : Dc Q_mostAfraid 36 (.invokevirtual 108) 3 39 := ⟨by decide +kernel, rfl⟩
theorem dQ_mostAfraid_39 : Dc Q_mostAfraid 39 (.invokestatic 151) 3 42 := ⟨by decide +kernel, rfl⟩
theorem dQ_mostAfraid_42 : Dc Q_mostAfraid 42 (.istore_n 2) 1 43 := ⟨by decide +kernel, rfl⟩
theorem dQ_mostAfraid_43 : Dc Q_mostAfraid 43 (.iinc 3 1) 3 46 := ⟨by decide +kernel, rfl⟩
theorem dQ_mostAfraid_46 : Dc Q_mostAfraid 46 (.goto (-40)) 3 49 := ⟨by decide +kernel, rfl⟩
theorem dQ_mostAfraid_49 : Dc Q_mostAfraid 49 (.iload_n 1) 1 50 := ⟨by decide +kernel, rfl⟩
theorem dQ_mostAfraid_50 : Dc Q_mostAfraid 50 (.ireturn) 1 51 := ⟨by decide +kernel, rfl⟩
theorem dQ_ahead_0 : Dc Q_ahead 0 (.aload_n 0) 1 1 := ⟨by decide +kernel, rfl⟩
theorem dQ_ahead_1 : Dc Q_ahead 1 (.iload_n 1) 1 2 := ⟨by decide +kernel, rfl⟩
theorem dQ_ahead_2 : Dc Q_ahead 2 (.invokevirtual 119) 3 5 := ⟨by decide +kernel, rfl⟩
theorem dQ_ahead_5 : Dc Q_ahead 5 (.ifCond .eq 35) 3 8 := ⟨by decide +kernel, rfl⟩
theorem dQ_ahead_8 : Dc Q_ahead 8 (.iload_n 2) 1 9 := ⟨by decide +kernel, rfl⟩
theorem dQ_ahead_9 : Dc Q_ahead 9 (.iconst 1) 1 10 := ⟨by decide +kernel, rfl⟩
theorem dQ_ahead_10 : Dc Q_ahead 10 (.iconst 4) 1 11 := ⟨by decide +kernel, rfl⟩
theorem dQ_ahead_11 : Dc Q_ahead 11 (.invokestatic 79) 3 14 := ⟨by decide +kernel, rfl⟩
theorem dQ_ahead_14 : Dc Q_ahead 14 (.ifCond .eq 26) 3 17 := ⟨by decide +kernel, rfl⟩
theorem dQ_ahead_17 : Dc Q_ahead 17 (.iload_n 3) 1 18 := ⟨by decide +kernel, rfl⟩
theorem dQ_ahead_18 : Dc Q_ahead 18 (.iconst 0) 1 19 := ⟨by decide +kernel, rfl⟩
theorem dQ_ahead_19 : Dc Q_ahead 19 (.bipush 100) 2 21 := ⟨by decide +kernel, rfl⟩
theorem dQ_ahead_21 : Dc Q_ahead 21 (.invokestatic 79) 3 24 := ⟨by decide +kernel, rfl⟩
theorem dQ_ahead_24 : Dc Q_ahead 24 (.ifCond .eq 16) 3 27 := ⟨by decide +kernel, rfl⟩
theorem dQ_ahead_27 : Dc Q_ahead 27 (.aload_n 0) 1 28 := ⟨by decide +kernel, rfl⟩
theorem dQ_ahead_28 : Dc Q_ahead 28 (.iload_n 1) 1 29 := ⟨by decide +kernel, rfl⟩
theorem dQ_ahead_29 : Dc Q_ahead 29 (.iload_n 2) 1 30 := ⟨by decide +kernel, rfl⟩
theorem dQ_ahead_30 : Dc Q_ahead 30 (.invokestatic 83) 3 33 := ⟨by decide +kernel, rfl⟩
theorem dQ_ahead_33 : Dc Q_ahead 33 (.iload_n 3) 1 34 := ⟨by decide +kernel, rfl⟩
theorem dQ_ahead_34 : Dc Q_ahead 34 (.invokevirtual 206) 3 37 := ⟨by decide +kernel, rfl⟩
theorem dQ_ahead_37 : Dc Q_ahead 37 (.goto 9) 3 40 := ⟨by decide +kernel, rfl⟩
theorem dQ_ahead_40 : Dc Q_ahead 40 (.aload_n 0) 1 41 := ⟨by decide +kernel, rfl⟩
theorem dQ_ahead_41 : Dc Q_ahead 41 (.ldc 69) 2 43 := ⟨by decide +kernel, rfl⟩
theorem dQ_ahead_43 : Dc Q_ahead 43 (.invokevirtual 75) 3 46 := ⟨by decide +kernel, rfl⟩
theorem dQ_ahead_46 : Dc Q_ahead 46 (.ireturn) 1 47 := ⟨by decide +kernel, rfl⟩
theorem dQ_behind_0 : Dc Q_behind 0 (.aload_n 0) 1 1 := ⟨by decide +kernel, rfl⟩
theorem dQ_behind_1 : Dc Q_behind 1 (.getfield 9) 3 4 := ⟨by decide +kernel, rfl⟩
theorem dQ_behind_4 : Dc Q_behind 4 (.aload_n 0) 1 5 := ⟨by decide +kernel, rfl⟩
theorem dQ_behind_5 : Dc Q_behind 5 (.getfield 16) 3 8 := ⟨by decide +kernel, rfl⟩
theorem dQ_behind_8 : Dc Q_behind 8 (.invokestatic 70) 3 11 := ⟨by decide +kernel, rfl⟩
theorem dQ_behind_11 : Dc Q_behind 11 (.aload_n 0) 1 12 := ⟨by decide +kernel, rfl⟩
theorem dQ_behind_12 : Dc Q_behind 12 (.iload_n 2) 1 13 := ⟨by decide +kernel, rfl⟩
theorem dQ_behind_13 : Dc Q_behind 13 (.invokevirtual 191) 3 16 := ⟨by decide +kernel, rfl⟩
theorem dQ_behind_16 : Dc Q_behind 16 (.aload_n 0) 1 17 := ⟨by decide +kernel, rfl⟩
theorem dQ_behind_17 : Dc Q_behind 17 (.aload_n 0) 1 18 := ⟨by decide +kernel, rfl⟩
theorem dQ_behind_18 : Dc Q_behind 18 (.getfield 9) 3 21 := ⟨by decide +kernel, rfl⟩
theorem dQ_behind_21 : Dc Q_behind 21 (.iload_n 1) 1 22 := ⟨by decide +kernel, rfl⟩
theorem dQ_behind_22 : Dc Q_behind 22 (.iaload) 1 23 := ⟨by decide +kernel, rfl⟩
theorem dQ_behind_23 : Dc Q_behind 23 (.invokevirtual 203) 3 26 := ⟨by decide +kernel, rfl⟩
theorem dQ_behind_26 : Dc Q_behind 26 (.ireturn) 1 27 := ⟨by decide +kernel, rfl⟩
theorem dQ_copyRow_0 : Dc Q_copyRow 0 (.iconst 0) 1 1 := ⟨by decide +kernel, rfl⟩
theorem dQ_copyRow_1 : Dc Q_copyRow 1 (.istore_n 2) 1 2 := ⟨by decide +kernel, rfl⟩
theorem dQ_copyRow_2 : Dc Q_copyRow 2 (.iload_n 2) 1 3 := ⟨by decide +kernel, rfl⟩
theorem dQ_copyRow_3 : Dc Q_copyRow 3 (.bipush 58) 2 5 := ⟨by decide +kernel, rfl⟩
theorem dQ_copyRow_5 : Dc Q_copyRow 5 (.if_icmp .ge 15) 3 8 := ⟨by decide +kernel, rfl⟩
theorem dQ_copyRow_8 : Dc Q_copyRow 8 (.aload_n 1) 1 9 := ⟨by decide +kernel, rfl⟩
theorem dQ_copyRow_9 : Dc Q_copyRow 9 (.iload_n 2) 1 10 := ⟨by decide +kernel, rfl⟩
theorem dQ_copyRow_10 : Dc Q_copyRow 10 (.aload_n 0) 1 11 := ⟨by decide +kernel, rfl⟩
theorem dQ_copyRow_11 : Dc Q_copyRow 11 (.iload_n 2) 1 12 := ⟨by decide +kernel, rfl⟩
theorem dQ_copyRow_12 : Dc Q_copyRow 12 (.iaload) 1 13 := ⟨by decide +kernel, rfl⟩
theorem dQ_copyRow_13 : Dc Q_copyRow 13 (.iastore) 1 14 := ⟨by decide +kernel, rfl⟩
theorem dQ_copyRow_14 : Dc Q_copyRow 14 (.iinc 2 1) 3 17 := ⟨by decide +kernel, rfl⟩
theorem dQ_copyRow_17 : Dc Q_copyRow 17 (.goto (-15)) 3 20 := ⟨by decide +kernel, rfl⟩
theorem dQ_copyRow_20 : Dc Q_copyRow 20 (.return_) 1 21 := ⟨by decide +kernel, rfl⟩
theorem dQ_putBack_0 : Dc Q_putBack 0 (.aload_n 0) 1 1 := ⟨by decide +kernel, rfl⟩
theorem dQ_putBack_1 : Dc Q_putBack 1 (.getfield 16) 3 4 := ⟨by decide +kernel, rfl⟩
theorem dQ_putBack_4 : Dc Q_putBack 4 (.aload_n 0) 1 5 := ⟨by decide +kernel, rfl⟩
theorem dQ_putBack_5 : Dc Q_putBack 5 (.getfield 9) 3 8 := ⟨by decide +kernel, rfl⟩
theorem dQ_putBack_8 : Dc Q_putBack 8 (.invokestatic 70) 3 11 := ⟨by decide +kernel, rfl⟩
theorem dQ_putBack_11 : Dc Q_putBack 11 (.iload_n 1) 1 12 := ⟨by decide +kernel, rfl⟩
theorem dQ_putBack_12 : Dc Q_putBack 12 (.ireturn) 1 13 := ⟨by decide +kernel, rfl⟩
theorem dQ_later_0 : Dc Q_later 0 (.iload_n 1) 1 1 := ⟨by decide +kernel, rfl⟩
theorem dQ_later_1 : Dc Q_later 1 (.iconst 1) 1 2 := ⟨by decide +kernel, rfl⟩
theorem dQ_later_2 : Dc Q_later 2 (.if_icmp .eq 13) 3 5 := ⟨by decide +kernel, rfl⟩
theorem dQ_later_5 : Dc Q_later 5 (.iload_n 1) 1 6 := ⟨by decide +kernel, rfl⟩
theorem dQ_later_6 : Dc Q_later 6 (.iconst 2) 1 7 := ⟨by decide +kernel, rfl⟩
theorem dQ_later_7 : Dc Q_later 7 (.if_icmp .eq 8) 3 10 := ⟨by decide +kernel, rfl⟩
theorem dQ_later_10 : Dc Q_later 10 (.iload_n 1) 1 11 := ⟨by decide +kernel, rfl⟩
theorem dQ_later_11 : Dc Q_later 11 (.iconst 4) 1 12 := ⟨by decide +kernel, rfl⟩
theorem dQ_later_12 : Dc Q_later 12 (.if_icmp .ne 17) 3 15 := ⟨by decide +kernel, rfl⟩
theorem dQ_later_15 : Dc Q_later 15 (.iload_n 2) 1 16 := ⟨by decide +kernel, rfl⟩
theorem dQ_later_16 : Dc Q_later 16 (.iconst 0) 1 17 := ⟨by decide +kernel, rfl⟩
theorem dQ_later_17 : Dc Q_later 17 (.bipush 100) 2 19 := ⟨by decide +kernel, rfl⟩
theorem dQ_later_19 : Dc Q_later 19 (.invokestatic 79) 3 22 := ⟨by decide +kernel, rfl⟩
theorem dQ_later_22 : Dc Q_later 22 (.ifCond .eq 7) 3 25 := ⟨by decide +kernel, rfl⟩
theorem dQ_later_25 : Dc Q_later 25 (.iconst 1) 1 26 := ⟨by decide +kernel, rfl⟩
theorem dQ_later_26 : Dc Q_later 26 (.goto 4) 3 29 := ⟨by decide +kernel, rfl⟩
theorem dQ_later_29 : Dc Q_later 29 (.iconst 0) 1 30 := ⟨by decide +kernel, rfl⟩
theorem dQ_later_30 : Dc Q_later 30 (.istore_n 3) 1 31 := ⟨by decide +kernel, rfl⟩
theorem dQ_later_31 : Dc Q_later 31 (.iload_n 3) 1 32 := ⟨by decide +kernel, rfl⟩
theorem dQ_later_32 : Dc Q_later 32 (.ifCond .eq 14) 3 35 := ⟨by decide +kernel, rfl⟩
theorem dQ_later_35 : Dc Q_later 35 (.aload_n 0) 1 36 := ⟨by decide +kernel, rfl⟩
theorem dQ_later_36 : Dc Q_later 36 (.iconst 3) 1 37 := ⟨by decide +kernel, rfl⟩
theorem dQ_later_37 : Dc Q_later 37 (.iload_n 1) 1 38 := ⟨by decide +kernel, rfl⟩
theorem dQ_later_38 : Dc Q_later 38 (.iadd) 1 39 := ⟨by decide +kernel, rfl⟩
theorem dQ_later_39 : Dc Q_later 39 (.iload_n 2) 1 40 := ⟨by decide +kernel, rfl⟩
theorem dQ_later_40 : Dc Q_later 40 (.invokevirtual 206) 3 43 := ⟨by decide +kernel, rfl⟩
theorem dQ_later_43 : Dc Q_later 43 (.goto 9) 3 46 := ⟨by decide +kernel, rfl⟩
theorem dQ_later_46 : Dc Q_later 46 (.aload_n 0) 1 47 := ⟨by decide +kernel, rfl⟩
theorem dQ_later_47 : Dc Q_later 47 (.ldc 69) 2 49 := ⟨by decide +kernel, rfl⟩
theorem dQ_later_49 : Dc Q_later 49 (.invokevirtual 75) 3 52 := ⟨by decide +kernel, rfl⟩
theorem dQ_later_52 : Dc Q_later 52 (.ireturn) 1 53 := ⟨by decide +kernel, rfl⟩
theorem dQ_when_0 : Dc Q_when 0 (.aload_n 0) 1 1 := ⟨by decide +kernel, rfl⟩
theorem dQ_when_1 : Dc Q_when 1 (.iload_n 1) 1 2 := ⟨by decide +kernel, rfl⟩
theorem dQ_when_2 : Dc Q_when 2 (.invokevirtual 119) 3 5 := ⟨by decide +kernel, rfl⟩
theorem dQ_when_5 : Dc Q_when 5 (.ifCond .eq 24) 3 8 := ⟨by decide +kernel, rfl⟩
theorem dQ_when_8 : Dc Q_when 8 (.iload_n 2) 1 9 := ⟨by decide +kernel, rfl⟩
theorem dQ_when_9 : Dc Q_when 9 (.iconst 0) 1 10 := ⟨by decide +kernel, rfl⟩
theorem dQ_when_10 : Dc Q_when 10 (.sipush 9999) 3 13 := ⟨by decide +kernel, rfl⟩
theorem dQ_when_13 : Dc Q_when 13 (.invokestatic 79) 3 16 := ⟨by decide +kernel, rfl⟩
theorem dQ_when_16 : Dc Q_when 16 (.ifCond .eq 13) 3 19 := ⟨by decide +kernel, rfl⟩
theorem dQ_when_19 : Dc Q_when 19 (.aload_n 0) 1 20 := ⟨by decide +kernel, rfl⟩
theorem dQ_when_20 : Dc Q_when 20 (.iload_n 1) 1 21 := ⟨by decide +kernel, rfl⟩
theorem dQ_when_21 : Dc Q_when 21 (.iconst 4) 1 22 := ⟨by decide +kernel, rfl⟩
theorem dQ_when_22 : Dc Q_when 22 (.iload_n 2) 1 23 := ⟨by decide +kernel, rfl⟩
theorem dQ_when_23 : Dc Q_when 23 (.invokevirtual 209) 3 26 := ⟨by decide +kernel, rfl⟩
theorem dQ_when_26 : Dc Q_when 26 (.goto 9) 3 29 := ⟨by decide +kernel, rfl⟩
theorem dQ_when_29 : Dc Q_when 29 (.aload_n 0) 1 30 := ⟨by decide +kernel, rfl⟩
theorem dQ_when_30 : Dc Q_when 30 (.ldc 69) 2 32 := ⟨by decide +kernel, rfl⟩
theorem dQ_when_32 : Dc Q_when 32 (.invokevirtual 75) 3 35 := ⟨by decide +kernel, rfl⟩
theorem dQ_when_35 : Dc Q_when 35 (.ireturn) 1 36 := ⟨by decide +kernel, rfl⟩
theorem dQ_whenIs_0 : Dc Q_whenIs 0 (.aload_n 0) 1 1 := ⟨by decide +kernel, rfl⟩
theorem dQ_whenIs_1 : Dc Q_whenIs 1 (.getfield 9) 3 4 := ⟨by decide +kernel, rfl⟩
theorem dQ_whenIs_4 : Dc Q_whenIs 4 (.aload_n 0) 1 5 := ⟨by decide +kernel, rfl⟩
theorem dQ_whenIs_5 : Dc Q_whenIs 5 (.getfield 16) 3 8 := ⟨by decide +kernel, rfl⟩
theorem dQ_whenIs_8 : Dc Q_whenIs 8 (.invokestatic 70) 3 11 := ⟨by decide +kernel, rfl⟩
theorem dQ_whenIs_11 : Dc Q_whenIs 11 (.iconst 0) 1 12 := ⟨by decide +kernel, rfl⟩
theorem dQ_whenIs_12 : Dc Q_whenIs 12 (.istore 4) 2 14 := ⟨by decide +kernel, rfl⟩
theorem dQ_whenIs_14 : Dc Q_whenIs 14 (.iload 4) 2 16 := ⟨by decide +kernel, rfl⟩
theorem dQ_whenIs_16 : Dc Q_whenIs 16 (.sipush 200) 3 19 := ⟨by decide +kernel, rfl⟩
theorem dQ_whenIs_19 : Dc Q_whenIs 19 (.if_icmp .ge 23) 3 22 := ⟨by decide +kernel, rfl⟩
theorem dQ_whenIs_22 : Dc Q_whenIs 22 (.aload_n 0) 1 23 := ⟨by decide +kernel, rfl⟩
theorem dQ_whenIs_23 : Dc Q_whenIs 23 (.iload_n 1) 1 24 := ⟨by decide +kernel, rfl⟩
theorem dQ_whenIs_24 : Dc Q_whenIs 24 (.iload_n 2) 1 25 := ⟨by decide +kernel, rfl⟩
theorem dQ_whenIs_25 : Dc Q_whenIs 25 (.invokevirtual 108) 3 28 := ⟨by decide +kernel, rfl⟩
theorem dQ_whenIs_28 : Dc Q_whenIs 28 (.iload_n 3) 1 29 := ⟨by decide +kernel, rfl⟩
theorem dQ_whenIs_29 : Dc Q_whenIs 29 (.if_icmp .ge 13) 3 32 := ⟨by decide +kernel, rfl⟩
theorem dQ_whenIs_32 : Dc Q_whenIs 32 (.aload_n 0) 1 33 := ⟨by decide +kernel, rfl⟩
theorem dQ_whenIs_33 : Dc Q_whenIs 33 (.invokevirtual 187) 3 36 := ⟨by decide +kernel, rfl⟩
theorem dQ_whenIs_36 : Dc Q_whenIs 36 (.iinc 4 1) 3 39 := ⟨by decide +kernel, rfl⟩
theorem dQ_whenIs_39 : Dc Q_whenIs 39 (.goto (-25)) 3 42 := ⟨by decide +kernel, rfl⟩
theorem dQ_whenIs_42 : Dc Q_whenIs 42 (.aload_n 0) 1 43 := ⟨by decide +kernel, rfl⟩
theorem dQ_whenIs_43 : Dc Q_whenIs 43 (.aload_n 0) 1 44 := ⟨by decide +kernel, rfl⟩
theorem dQ_whenIs_44 : Dc Q_whenIs 44 (.aload_n 0) 1 45 := ⟨by decide +kernel, rfl⟩
theorem dQ_whenIs_45 : Dc Q_whenIs 45 (.iload_n 1) 1 46 := ⟨by decide +kernel, rfl⟩
theorem dQ_whenIs_46 : Dc Q_whenIs 46 (.iload_n 2) 1 47 := ⟨by decide +kernel, rfl⟩
theorem dQ_whenIs_47 : Dc Q_whenIs 47 (.invokevirtual 108) 3 50 := ⟨by decide +kernel, rfl⟩
theorem dQ_whenIs_50 : Dc Q_whenIs 50 (.iload_n 3) 1 51 := ⟨by decide +kernel, rfl⟩
theorem dQ_whenIs_51 : Dc Q_whenIs 51 (.if_icmp .ge 7) 3 54 := ⟨by decide +kernel, rfl⟩
theorem dQ_whenIs_54 : Dc Q_whenIs 54 (.iconst (-1)) 1 55 := ⟨by decide +kernel, rfl⟩
theorem dQ_whenIs_55 : Dc Q_whenIs 55 (.goto 5) 3 58 := ⟨by decide +kernel, rfl⟩
theorem dQ_whenIs_58 : Dc Q_whenIs 58 (.iload 4) 2 60 := ⟨by decide +kernel, rfl⟩
theorem dQ_whenIs_60 : Dc Q_whenIs 60 (.invokevirtual 203) 3 63 := ⟨by decide +kernel, rfl⟩
theorem dQ_whenIs_63 : Dc Q_whenIs 63 (.invokevirtual 142) 3 66 := ⟨by decide +kernel, rfl⟩
theorem dQ_whenIs_66 : Dc Q_whenIs 66 (.ireturn) 1 67 := ⟨by decide +kernel, rfl⟩
theorem dQ_home_0 : Dc Q_home 0 (.aload_n 0) 1 1 := ⟨by decide +kernel, rfl⟩
theorem dQ_home_1 : Dc Q_home 1 (.getfield 9) 3 4 := ⟨by decide +kernel, rfl⟩
theorem dQ_home_4 : Dc Q_home 4 (.aload_n 0) 1 5 := ⟨by decide +kernel, rfl⟩
theorem dQ_home_5 : Dc Q_home 5 (.getfield 16) 3 8 := ⟨by decide +kernel, rfl⟩
theorem dQ_home_8 : Dc Q_home 8 (.invokestatic 70) 3 11 := ⟨by decide +kernel, rfl⟩
theorem dQ_home_11 : Dc Q_home 11 (.iconst 0) 1 12 := ⟨by decide +kernel, rfl⟩
theorem dQ_home_12 : Dc Q_home 12 (.istore_n 1) 1 13 := ⟨by decide +kernel, rfl⟩
theorem dQ_home_13 : Dc Q_home 13 (.iload_n 1) 1 14 := ⟨by decide +kernel, rfl⟩
theorem dQ_home_14 : Dc Q_home 14 (.sipush 200) 3 17 := ⟨by decide +kernel, rfl⟩
theorem dQ_home_17 : Dc Q_home 17 (.if_icmp .ge 20) 3 20 := ⟨by decide +kernel, rfl⟩
theorem dQ_home_20 : Dc Q_home 20 (.aload_n 0) 1 21 := ⟨by decide +kernel, rfl⟩
theorem dQ_home_21 : Dc Q_home 21 (.invokevirtual 212) 3 24 := ⟨by decide +kernel, rfl⟩
theorem dQ_home_24 : Dc Q_home 24 (.ifCond .ne 13) 3 27 := ⟨by decide +kernel, rfl⟩
theorem dQ_home_27 : Dc Q_home 27 (.aload_n 0) 1 28 := ⟨by decide +kernel, rfl⟩
theorem dQ_home_28 : Dc Q_home 28 (.invokevirtual 187) 3 31 := ⟨by decide +kernel, rfl⟩
theorem dQ_home_31 : Dc Q_home 31 (.iinc 1 1) 3 34 := ⟨by decide +kernel, rfl⟩
theorem dQ_home_34 : Dc Q_home 34 (.goto (-21)) 3 37 := ⟨by decide +kernel, rfl⟩
theorem dQ_home_37 : Dc Q_home 37 (.aload_n 0) 1 38 := ⟨by decide +kernel, rfl⟩
theorem dQ_home_38 : Dc Q_home 38 (.aload_n 0) 1 39 := ⟨by decide +kernel, rfl⟩
theorem dQ_home_39 : Dc Q_home 39 (.aload_n 0) 1 40 := ⟨by decide +kernel, rfl⟩
theorem dQ_home_40 : Dc Q_home 40 (.invokevirtual 212) 3 43 := ⟨by decide +kernel, rfl⟩
theorem dQ_home_43 : Dc Q_home 43 (.ifCond .eq 7) 3 46 := ⟨by decide +kernel, rfl⟩
theorem dQ_home_46 : Dc Q_home 46 (.iload_n 1) 1 47 := ⟨by decide +kernel, rfl⟩
theorem dQ_home_47 : Dc Q_home 47 (.goto 4) 3 50 := ⟨by decide +kernel, rfl⟩
theorem dQ_home_50 : Dc Q_home 50 (.iconst (-1)) 1 51 := ⟨by decide +kernel, rfl⟩
theorem dQ_home_51 : Dc Q_home 51 (.invokevirtual 203) 3 54 := ⟨by decide +kernel, rfl⟩
theorem dQ_home_54 : Dc Q_home 54 (.invokevirtual 142) 3 57 := ⟨by decide +kernel, rfl⟩
theorem dQ_home_57 : Dc Q_home 57 (.ireturn) 1 58 := ⟨by decide +kernel, rfl⟩
theorem dQ_areHome_0 : Dc Q_areHome 0 (.aload_n 0) 1 1 := ⟨by decide +kernel, rfl⟩
theorem dQ_areHome_1 : Dc Q_areHome 1 (.aload_n 0) 1 2 := ⟨by decide +kernel, rfl⟩
theorem dQ_areHome_2 : Dc Q_areHome 2 (.getfield 9) 3 5 := ⟨by decide +kernel, rfl⟩
theorem dQ_areHome_5 : Dc Q_areHome 5 (.iconst 3) 1 6 := ⟨by decide +kernel, rfl⟩
theorem dQ_areHome_6 : Dc Q_areHome 6 (.iaload) 1 7 := ⟨by decide +kernel, rfl⟩
theorem dQ_areHome_7 : Dc Q_areHome 7 (.invokevirtual 145) 3 10 := ⟨by decide +kernel, rfl⟩
theorem dQ_areHome_10 : Dc Q_areHome 10 (.iconst 1) 1 11 := ⟨by decide +kernel, rfl⟩
theorem dQ_areHome_11 : Dc Q_areHome 11 (.aload_n 0) 1 12 := ⟨by decide +kernel, rfl⟩
theorem dQ_areHome_12 : Dc Q_areHome 12 (.getfield 9) 3 15 := ⟨by decide +kernel, rfl⟩
theorem dQ_areHome_15 : Dc Q_areHome 15 (.iconst 1) 1 16 := ⟨by decide +kernel, rfl⟩
theorem dQ_areHome_16 : Dc Q_areHome 16 (.iaload) 1 17 := ⟨by decide +kernel, rfl⟩
theorem dQ_areHome_17 : Dc Q_areHome 17 (.ishl) 1 18 := ⟨by decide +kernel, rfl⟩
theorem dQ_areHome_18 : Dc Q_areHome 18 (.iconst 1) 1 19 := ⟨by decide +kernel, rfl⟩
theorem dQ_areHome_19 : Dc Q_areHome 19 (.isub) 1 20 := ⟨by decide +kernel, rfl⟩
theorem dQ_areHome_20 : Dc Q_areHome 20 (.if_icmp .ne 7) 3 23 := ⟨by decide +kernel, rfl⟩
theorem dQ_areHome_23 : Dc Q_areHome 23 (.iconst 1) 1 24 := ⟨by decide +kernel, rfl⟩
theorem dQ_areHome_24 : Dc Q_areHome 24 (.goto 4) 3 27 := ⟨by decide +kernel, rfl⟩
theorem dQ_areHome_27 : Dc Q_areHome 27 (.iconst 0) 1 28 := ⟨by decide +kernel, rfl⟩
theorem dQ_areHome_28 : Dc Q_areHome 28 (.ireturn) 1 29 := ⟨by decide +kernel, rfl⟩
theorem dQ_panic_0 : Dc Q_panic 0 (.aload_n 0) 1 1 := ⟨by decide +kernel, rfl⟩
theorem dQ_panic_1 : Dc Q_panic 1 (.iload_n 1) 1 2 := ⟨by decide +kernel, rfl⟩
theorem dQ_panic_2 : Dc Q_panic 2 (.invokevirtual 119) 3 5 := ⟨by decide +kernel, rfl⟩
theorem dQ_panic_5 : Dc Q_panic 5 (.ifCond .eq 23) 3 8 := ⟨by decide +kernel, rfl⟩
theorem dQ_panic_8 : Dc Q_panic 8 (.iload_n 2) 1 9 := ⟨by decide +kernel, rfl⟩
theorem dQ_panic_9 : Dc Q_panic 9 (.iconst 0) 1 10 := ⟨by decide +kernel, rfl⟩
theorem dQ_panic_10 : Dc Q_panic 10 (.bipush 99) 2 12 := ⟨by decide +kernel, rfl⟩
theorem dQ_panic_12 : Dc Q_panic 12 (.invokestatic 79) 3 15 := ⟨by decide +kernel, rfl⟩
theorem dQ_panic_15 : Dc Q_panic 15 (.ifCond .eq 13) 3 18 := ⟨by decide +kernel, rfl⟩
theorem dQ_panic_18 : Dc Q_panic 18 (.aload_n 0) 1 19 := ⟨by decide +kernel, rfl⟩
theorem dQ_panic_19 : Dc Q_panic 19 (.iload_n 1) 1 20 := ⟨by decide +kernel, rfl⟩
theorem dQ_panic_20 : Dc Q_panic 20 (.iconst 2) 1 21 := ⟨by decide +kernel, rfl⟩
theorem dQ_panic_21 : Dc Q_panic 21 (.iload_n 2) 1 22 := ⟨by decide +kernel, rfl⟩
theorem dQ_panic_22 : Dc Q_panic 22 (.invokevirtual 209) 3 25 := ⟨by decide +kernel, rfl⟩
theorem dQ_panic_25 : Dc Q_panic 25 (.goto 9) 3 28 := ⟨by decide +kernel, rfl⟩
theorem dQ_panic_28 : Dc Q_panic 28 (.aload_n 0) 1 29 := ⟨by decide +kernel, rfl⟩
theorem dQ_panic_29 : Dc Q_panic 29 (.ldc 69) 2 31 := ⟨by decide +kernel, rfl⟩
theorem dQ_panic_31 : Dc Q_panic 31 (.invokevirtual 75) 3 34 := ⟨by decide +kernel, rfl⟩
theorem dQ_panic_34 : Dc Q_panic 34 (.ireturn) 1 35 := ⟨by decide +kernel, rfl⟩
theorem dQ_standFor_0 : Dc Q_standFor 0 (.iload_n 1) 1 1 := ⟨by decide +kernel, rfl⟩
theorem dQ_standFor_1 : Dc Q_standFor 1 (.invokestatic 219) 3 4 := ⟨by decide +kernel, rfl⟩
theorem dQ_standFor_4 : Dc Q_standFor 4 (.ifCond .ne 10) 3 7 := ⟨by decide +kernel, rfl⟩
theorem dQ_standFor_7 : Dc Q_standFor 7 (.aload_n 0) 1 8 := ⟨by decide +kernel, rfl⟩
theorem dQ_standFor_8 : Dc Q_standFor 8 (.ldc 69) 2 10 := ⟨by decide +kernel, rfl⟩
theorem dQ_standFor_10 : Dc Q_standFor 10 (.invokevirtual 75) 3 13 := ⟨by decide +kernel, rfl⟩
theorem dQ_standFor_13 : Dc Q_standFor 13 (.ireturn) 1 14 := ⟨by decide +kernel, rfl⟩
theorem dQ_standFor_14 : Dc Q_standFor 14 (.aload_n 0) 1 15 := ⟨by decide +kernel, rfl⟩
theorem dQ_standFor_15 : Dc Q_standFor 15 (.getfield 9) 3 18 := ⟨by decide +kernel, rfl⟩
theorem dQ_standFor_18 : Dc Q_standFor 18 (.bipush 7) 2 20 := ⟨by decide +kernel, rfl⟩
theorem dQ_standFor_20 : Dc Q_standFor 20 (.iaload) 1 21 := ⟨by decide +kernel, rfl⟩
theorem dQ_standFor_21 : Dc Q_standFor 21 (.ifCond .lt 12) 3 24 := ⟨by decide +kernel, rfl⟩
theorem dQ_standFor_24 : Dc Q_standFor 24 (.aload_n 0) 1 25 := ⟨by decide +kernel, rfl⟩
theorem dQ_standFor_25 : Dc Q_standFor 25 (.ldc 141) 2 27 := ⟨by decide +kernel, rfl⟩
theorem dQ_standFor_27 : Dc Q_standFor 27 (.invokevirtual 75) 3 30 := ⟨by decide +kernel, rfl⟩
theorem dQ_standFor_30 : Dc Q_standFor 30 (.goto 10) 3 33 := ⟨by decide +kernel, rfl⟩
theorem dQ_standFor_33 : Dc Q_standFor 33 (.aload_n 0) 1 34 := ⟨by decide +kernel, rfl⟩
theorem dQ_standFor_34 : Dc Q_standFor 34 (.iconst 4) 1 35 := ⟨by decide +kernel, rfl⟩
theorem dQ_standFor_35 : Dc Q_standFor 35 (.iconst 2) 1 36 := ⟨by decide +kernel, rfl⟩
theorem dQ_standFor_36 : Dc Q_standFor 36 (.iload_n 1) 1 37 := ⟨by decide +kernel, rfl⟩
theorem dQ_standFor_37 : Dc Q_standFor 37 (.invokevirtual 222) 3 40 := ⟨by decide +kernel, rfl⟩
theorem dQ_standFor_40 : Dc Q_standFor 40 (.ireturn) 1 41 := ⟨by decide +kernel, rfl⟩
theorem dQ_isThought_0 : Dc Q_isThought 0 (.iload_n 0) 1 1 := ⟨by decide +kernel, rfl⟩
theorem dQ_isThought_1 : Dc Q_isThought 1 (.iconst 0) 1 2 := ⟨by decide +kernel, rfl⟩
theorem dQ_isThought_2 : Dc Q_isThought 2 (.bipush 40) 2 4 := ⟨by decide +kernel, rfl⟩
theorem dQ_isThought_4 : Dc Q_isThought 4 (.invokestatic 79) 3 7 := ⟨by decide +kernel, rfl⟩
theorem dQ_isThought_7 : Dc Q_isThought 7 (.ireturn) 1 8 := ⟨by decide +kernel, rfl⟩
theorem dQ_leastFor_0 : Dc Q_leastFor 0 (.aload_n 0) 1 1 := ⟨by decide +kernel, rfl⟩
theorem dQ_leastFor_1 : Dc Q_leastFor 1 (.getfield 9) 3 4 := ⟨by decide +kernel, rfl⟩
theorem dQ_leastFor_4 : Dc Q_leastFor 4 (.iload_n 1) 1 5 := ⟨by decide +kernel, rfl⟩
theorem dQ_leastFor_5 : Dc Q_leastFor 5 (.iaload) 1 6 := ⟨by decide +kernel, rfl⟩
theorem dQ_leastFor_6 : Dc Q_leastFor 6 (.istore 4) 2 8 := ⟨by decide +kernel, rfl⟩
theorem dQ_leastFor_8 : Dc Q_leastFor 8 (.iconst 0) 1 9 := ⟨by decide +kernel, rfl⟩
theorem dQ_leastFor_9 : Dc Q_leastFor 9 (.istore 5) 2 11 := ⟨by decide +kernel, rfl⟩
theorem dQ_leastFor_11 : Dc Q_leastFor 11 (.iconst (-1)) 1 12 := ⟨by decide +kernel, rfl⟩
theorem dQ_leastFor_12 : Dc Q_leastFor 12 (.istore 6) 2 14 := ⟨by decide +kernel, rfl⟩
theorem dQ_leastFor_14 : Dc Q_leastFor 14 (.iconst 0) 1 15 := ⟨by decide +kernel, rfl⟩
theorem dQ_leastFor_15 : Dc Q_leastFor 15 (.istore 7) 2 17 := ⟨by decide +kernel, rfl⟩
theorem dQ_leastFor_17 : Dc Q_leastFor 17 (.iload 7) 2 19 := ⟨by decide +kernel, rfl⟩
theorem dQ_leastFor_19 : Dc Q_leastFor 19 (.bipush 16) 2 21 := ⟨by decide +kernel, rfl⟩
theorem dQ_leastFor_21 : Dc Q_leastFor 21 (.if_icmp .ge 65) 3 24 := ⟨by decide +kernel, rfl⟩
theorem dQ_leastFor_24 : Dc Q_leastFor 24 (.aload_n 0) 1 25 := ⟨by decide +kernel, rfl⟩
theorem dQ_leastFor_25 : Dc Q_leastFor 25 (.getfield 9) 3 28 := ⟨by decide +kernel, rfl⟩
theorem dQ_leastFor_28 : Dc Q_leastFor 28 (.iload_n 1) 1 29 := ⟨by decide +kernel, rfl⟩
theorem dQ_leastFor_29 : Dc Q_leastFor 29 (.iload 7) 2 31 := ⟨by decide +kernel, rfl⟩
theorem dQ_leastFor_31 : Dc Q_leastFor 31 (.iastore) 1 32 := ⟨by decide +kernel, rfl⟩
theorem dQ_leastFor_32 : Dc Q_leastFor 32 (.aload_n 0) 1 33 := ⟨by decide +kernel, rfl⟩
theorem dQ_leastFor_33 : Dc Q_leastFor 33 (.iload_n 2) 1 34 := ⟨by decide +kernel, rfl⟩
theorem dQ_leastFor_34 : Dc Q_leastFor 34 (.iload_n 3) 1 35 := ⟨by decide +kernel, rfl⟩
theorem dQ_leastFor_35 : Dc Q_leastFor 35 (.invokevirtual 216) 3 38 := ⟨by decide +kernel, rfl⟩
theorem dQ_leastFor_38 : Dc Q_leastFor 38 (.istore 8) 2 40 := ⟨by decide +kernel, rfl⟩
theorem dQ_leastFor_40 : Dc Q_leastFor 40 (.iload 6) 2 42 := ⟨by decide +kernel, rfl⟩
theorem dQ_leastFor_42 : Dc Q_leastFor 42 (.ifCond .lt 10) 3 45 := ⟨by decide +kernel, rfl⟩
theorem dQ_leastFor_45 : Dc Q_leastFor 45 (.iload 8) 2 47 := ⟨by decide +kernel, rfl⟩
theorem dQ_leastFor_47 : Dc Q_leastFor 47 (.iload 6) 2 49 := ⟨by decide +kernel, rfl⟩
theorem dQ_leastFor_49 : Dc Q_leastFor 49 (.if_icmp .ge 8) 3 52 := ⟨by decide +kernel, rfl⟩
theorem dQ_leastFor_52 : Dc Q_leastFor 52 (.iload 7) 2 54 := ⟨by decide +kernel, rfl⟩
theorem dQ_leastFor_54 : Dc Q_leastFor 54 (.goto 5) 3 57 := ⟨by decide +kernel, rfl⟩
theorem dQ_leastFor_57 : Dc Q_leastFor 57 (.iload 5) 2 59 := ⟨by decide +kernel, rfl⟩
theorem dQ_leastFor_59 : Dc Q_leastFor 59 (.istore 5) 2 61 := ⟨by decide +kernel, rfl⟩
theorem dQ_leastFor_61 : Dc Q_leastFor 61 (.iload 6) 2 63 := ⟨by decide +kernel, rfl⟩
theorem dQ_leastFor_63 : Dc Q_leastFor 63 (.ifCond .ge 8) 3 66 := ⟨by decide +kernel, rfl⟩
theorem dQ_leastFor_66 : Dc Q_leastFor 66 (.iload 8) 2 68 := ⟨by decide +kernel, rfl⟩
theorem dQ_leastFor_68 : Dc Q_leastFor 68 (.goto 10) 3 71 := ⟨by decide +kernel, rfl⟩
theorem dQ_leastFor_71 : Dc Q_leastFor 71 (.iload 6) 2 73 := ⟨by decide +kernel, rfl⟩
theorem dQ_leastFor_73 : Dc Q_leastFor 73 (.iload 8) 2 75 := ⟨by decide +kernel, rfl⟩
theorem dQ_leastFor_75 : Dc Q_leastFor 75 (.invokestatic 148) 3 78 := ⟨by decide +kernel, rfl⟩
theorem dQ_leastFor_78 : Dc Q_leastFor 78 (.istore 6) 2 80 := ⟨by decide +kernel, rfl⟩
theorem dQ_leastFor_80 : Dc Q_leastFor 80 (.iinc 7 1) 3 83 := ⟨by decide +kernel, rfl⟩
theorem dQ_leastFor_83 : Dc Q_leastFor 83 (.goto (-66)) 3 86 := ⟨by decide +kernel, rfl⟩
theorem dQ_leastFor_86 : Dc Q_leastFor 86 (.aload_n 0) 1 87 := ⟨by decide +kernel, rfl⟩
theorem dQ_leastFor_87 : Dc Q_leastFor 87 (.getfield 9) 3 90 := ⟨by decide +kernel, rfl⟩
theorem dQ_leastFor_90 : Dc Q_leastFor 90 (.iload_n 1) 1 91 := ⟨by decide +kernel, rfl⟩
theorem dQ_leastFor_91 : Dc Q_leastFor 91 (.iload 4) 2 93 := ⟨by decide +kernel, rfl⟩
theorem dQ_leastFor_93 : Dc Q_leastFor 93 (.iastore) 1 94 := ⟨by decide +kernel, rfl⟩
theorem dQ_leastFor_94 : Dc Q_leastFor 94 (.iload 5) 2 96 := ⟨by decide +kernel, rfl⟩
theorem dQ_leastFor_96 : Dc Q_leastFor 96 (.ireturn) 1 97 := ⟨by decide +kernel, rfl⟩
theorem dQ_sumBehind_0 : Dc Q_sumBehind 0 (.aload_n 0) 1 1 := ⟨by decide +kernel, rfl⟩
theorem dQ_sumBehind_1 : Dc Q_sumBehind 1 (.getfield 9) 3 4 := ⟨by decide +kernel, rfl⟩
theorem dQ_sumBehind_4 : Dc Q_sumBehind 4 (.aload_n 0) 1 5 := ⟨by decide +kernel, rfl⟩
theorem dQ_sumBehind_5 : Dc Q_sumBehind 5 (.getfield 16) 3 8 := ⟨by decide +kernel, rfl⟩
theorem dQ_sumBehind_8 : Dc Q_sumBehind 8 (.invokestatic 70) 3 11 := ⟨by decide +kernel, rfl⟩
theorem dQ_sumBehind_11 : Dc Q_sumBehind 11 (.aload_n 0) 1 12 := ⟨by decide +kernel, rfl⟩
theorem dQ_sumBehind_12 : Dc Q_sumBehind 12 (.iload_n 2) 1 13 := ⟨by decide +kernel, rfl⟩
theorem dQ_sumBehind_13 : Dc Q_sumBehind 13 (.invokevirtual 191) 3 16 := ⟨by decide +kernel, rfl⟩
theorem dQ_sumBehind_16 : Dc Q_sumBehind 16 (.aload_n 0) 1 17 := ⟨by decide +kernel, rfl⟩
theorem dQ_sumBehind_17 : Dc Q_sumBehind 17 (.aload_n 0) 1 18 := ⟨by decide +kernel, rfl⟩
theorem dQ_sumBehind_18 : Dc Q_sumBehind 18 (.iload_n 1) 1 19 := ⟨by decide +kernel, rfl⟩
theorem dQ_sumBehind_19 : Dc Q_sumBehind 19 (.invokevirtual 194) 3 22 := ⟨by decide +kernel, rfl⟩
theorem dQ_sumBehind_22 : Dc Q_sumBehind 22 (.invokevirtual 203) 3 25 := ⟨by decide +kernel, rfl⟩
theorem dQ_sumBehind_25 : Dc Q_sumBehind 25 (.ireturn) 1 26 := ⟨by decide +kernel, rfl⟩
theorem dQ_foldFor_0 : Dc Q_foldFor 0 (.iload_n 1) 1 1 := ⟨by decide +kernel, rfl⟩
theorem dQ_foldFor_1 : Dc Q_foldFor 1 (.invokestatic 219) 3 4 := ⟨by decide +kernel, rfl⟩
theorem dQ_foldFor_4 : Dc Q_foldFor 4 (.ifCond .eq 13) 3 7 := ⟨by decide +kernel, rfl⟩
theorem dQ_foldFor_7 : Dc Q_foldFor 7 (.aload_n 0) 1 8 := ⟨by decide +kernel, rfl⟩
theorem dQ_foldFor_8 : Dc Q_foldFor 8 (.iconst 3) 1 9 := ⟨by decide +kernel, rfl⟩
theorem dQ_foldFor_9 : Dc Q_foldFor 9 (.iconst 3) 1 10 := ⟨by decide +kernel, rfl⟩
theorem dQ_foldFor_10 : Dc Q_foldFor 10 (.iload_n 1) 1 11 := ⟨by decide +kernel, rfl⟩
theorem dQ_foldFor_11 : Dc Q_foldFor 11 (.invokevirtual 222) 3 14 := ⟨by decide +kernel, rfl⟩
theorem dQ_foldFor_14 : Dc Q_foldFor 14 (.goto 9) 3 17 := ⟨by decide +kernel, rfl⟩
theorem dQ_foldFor_17 : Dc Q_foldFor 17 (.aload_n 0) 1 18 := ⟨by decide +kernel, rfl⟩
theorem dQ_foldFor_18 : Dc Q_foldFor 18 (.ldc 69) 2 20 := ⟨by decide +kernel, rfl⟩
theorem dQ_foldFor_20 : Dc Q_foldFor 20 (.invokevirtual 75) 3 23 := ⟨by decide +kernel, rfl⟩
theorem dQ_foldFor_23 : Dc Q_foldFor 23 (.ireturn) 1 24 := ⟨by decide +kernel, rfl⟩
theorem dQ_kindFor_0 : Dc Q_kindFor 0 (.aload_n 0) 1 1 := ⟨by decide +kernel, rfl⟩
theorem dQ_kindFor_1 : Dc Q_kindFor 1 (.iload_n 1) 1 2 := ⟨by decide +kernel, rfl⟩
theorem dQ_kindFor_2 : Dc Q_kindFor 2 (.invokevirtual 119) 3 5 := ⟨by decide +kernel, rfl⟩
theorem dQ_kindFor_5 : Dc Q_kindFor 5 (.ifCond .eq 10) 3 8 := ⟨by decide +kernel, rfl⟩
theorem dQ_kindFor_8 : Dc Q_kindFor 8 (.iload_n 2) 1 9 := ⟨by decide +kernel, rfl⟩
theorem dQ_kindFor_9 : Dc Q_kindFor 9 (.invokestatic 219) 3 12 := ⟨by decide +kernel, rfl⟩
theorem dQ_kindFor_12 : Dc Q_kindFor 12 (.ifCond .ne 10) 3 15 := ⟨by decide +kernel, rfl⟩
theorem dQ_kindFor_15 : Dc Q_kindFor 15 (.aload_n 0) 1 16 := ⟨by decide +kernel, rfl⟩
theorem dQ_kindFor_16 : Dc Q_kindFor 16 (.ldc 69) 2 18 := ⟨by decide +kernel, rfl⟩
theorem dQ_kindFor_18 : Dc Q_kindFor 18 (.invokevirtual 75) 3 21 := ⟨by decide +kernel, rfl⟩
theorem dQ_kindFor_21 : Dc Q_kindFor 21 (.ireturn) 1 22 := ⟨by decide +kernel, rfl⟩
theorem dQ_kindFor_22 : Dc Q_kindFor 22 (.iload_n 1) 1 23 := ⟨by decide +kernel, rfl⟩
theorem dQ_kindFor_23 : Dc Q_kindFor 23 (.iconst 0) 1 24 := ⟨by decide +kernel, rfl⟩
theorem dQ_kindFor_24 : Dc Q_kindFor 24 (.invokestatic 83) 3 27 := ⟨by decide +kernel, rfl⟩
theorem dQ_kindFor_27 : Dc Q_kindFor 27 (.istore_n 3) 1 28 := ⟨by decide +kernel, rfl⟩
theorem dQ_kindFor_28 : Dc Q_kindFor 28 (.aload_n 0) 1 29 := ⟨by decide +kernel, rfl⟩
theorem dQ_kindFor_29 : Dc Q_kindFor 29 (.getfield 9) 3 32 := ⟨by decide +kernel, rfl⟩
theorem dQ_kindFor_32 : Dc Q_kindFor 32 (.iload_n 3) 1 33 := ⟨by decide +kernel, rfl⟩
theorem dQ_kindFor_33 : Dc Q_kindFor 33 (.iaload) 1 34 := ⟨by decide +kernel, rfl⟩
theorem dQ_kindFor_34 : Dc Q_kindFor 34 (.istore 4) 2 36 := ⟨by decide +kernel, rfl⟩
theorem dQ_kindFor_36 : Dc Q_kindFor 36 (.iconst 0) 1 37 := ⟨by decide +kernel, rfl⟩
theorem dQ_kindFor_37 : Dc Q_kindFor 37 (.istore 5) 2 39 := ⟨by decide +kernel, rfl⟩
theorem dQ_kindFor_39 : Dc Q_kindFor 39 (.iconst (-1)) 1 40 := ⟨by decide +kernel, rfl⟩
theorem dQ_kindFor_40 : Dc Q_kindFor 40 (.istore 6) 2 42 := ⟨by decide +kernel, rfl⟩
theorem dQ_kindFor_42 : Dc Q_kindFor 42 (.iconst 0) 1 43 := ⟨by decide +kernel, rfl⟩
theorem dQ_kindFor_43 : Dc Q_kindFor 43 (.istore 7) 2 45 := ⟨by decide +kernel, rfl⟩
theorem dQ_kindFor_45 : Dc Q_kindFor 45 (.iload 7) 2 47 := ⟨by decide +kernel, rfl⟩
theorem dQ_kindFor_47 : Dc Q_kindFor 47 (.bipush 6) 2 49 := ⟨by decide +kernel, rfl⟩
theorem dQ_kindFor_49 : Dc Q_kindFor 49 (.if_icmp .gt 54) 3 52 := ⟨by decide +kernel, rfl⟩
theorem dQ_kindFor_52 : Dc Q_kindFor 52 (.aload_n 0) 1 53 := ⟨by decide +kernel, rfl⟩
theorem dQ_kindFor_53 : Dc Q_kindFor 53 (.getfield 9) 3 56 := ⟨by decide +kernel, rfl⟩
theorem dQ_kindFor_56 : Dc Q_kindFor 56 (.iload_n 3) 1 57 := ⟨by decide +kernel, rfl⟩
theorem dQ_kindFor_57 : Dc Q_kindFor 57 (.iload 7) 2 59 := ⟨by decide +kernel, rfl⟩
theorem dQ_kindFor_59 : Dc Q_kindFor 59 (.iastore) 1 60 := ⟨by decide +kernel, rfl⟩
theorem dQ_kindFor_60 : Dc Q_kindFor 60 (.aload_n 0) 1 61 := ⟨by decide +kernel, rfl⟩
theorem dQ_kindFor_61 : Dc Q_kindFor 61 (.iload_n 1) 1 62 := ⟨by decide +kernel, rfl⟩
theorem dQ_kindFor_62 : Dc Q_kindFor 62 (.iconst 4) 1 63 := ⟨by decide +kernel, rfl⟩
theorem dQ_kindFor_63 : Dc Q_kindFor 63 (.invokestatic 83) 3 66 := ⟨by decide +kernel, rfl⟩
theorem dQ_kindFor_66 : Dc Q_kindFor 66 (.iload_n 2) 1 67 := ⟨by decide +kernel, rfl⟩
theorem dQ_kindFor_67 : Dc Q_kindFor 67 (.invokevirtual 206) 3 70 := ⟨by decide +kernel, rfl⟩
theorem dQ_kindFor_70 : Dc Q_kindFor 70 (.istore 8) 2 72 := ⟨by decide +kernel, rfl⟩
theorem dQ_kindFor_72 : Dc Q_kindFor 72 (.iload 8) 2 74 := ⟨by decide +kernel, rfl⟩
theorem dQ_kindFor_74 : Dc Q_kindFor 74 (.iload 6) 2 76 := ⟨by decide +kernel, rfl⟩
theorem dQ_kindFor_76 : Dc Q_kindFor 76 (.if_icmp .le 8) 3 79 := ⟨by decide +kernel, rfl⟩
theorem dQ_kindFor_79 : Dc Q_kindFor 79 (.iload 7) 2 81 := ⟨by decide +kernel, rfl⟩
theorem dQ_kindFor_81 : Dc Q_kindFor 81 (.goto 5) 3 84 := ⟨by decide +kernel, rfl⟩
theorem dQ_kindFor_84 : Dc Q_kindFor 84 (.iload 5) 2 86 := ⟨by decide +kernel, rfl⟩
theorem dQ_kindFor_86 : Dc Q_kindFor 86 (.istore 5) 2 88 := ⟨by decide +kernel, rfl⟩
theorem dQ_kindFor_88 : Dc Q_kindFor 88 (.iload 6) 2 90 := ⟨by decide +kernel, rfl⟩
theorem dQ_kindFor_90 : Dc Q_kindFor 90 (.iload 8) 2 92 := ⟨by decide +kernel, rfl⟩
theorem dQ_kindFor_92 : Dc Q_kindFor 92 (.invokestatic 151) 3 95 := ⟨by decide +kernel, rfl⟩
theorem dQ_kindFor_95 : Dc Q_kindFor 95 (.istore 6) 2 97 := ⟨by decide +kernel, rfl⟩
theorem dQ_kindFor_97 : Dc Q_kindFor 97 (.iinc 7 1) 3 100 := ⟨by decide +kernel, rfl⟩
theorem dQ_kindFor_100 : Dc Q_kindFor 100 (.goto (-55)) 3 103 := ⟨by decide +kernel, rfl⟩
theorem dQ_kindFor_103 : Dc Q_kindFor 103 (.aload_n 0) 1 104 := ⟨by decide +kernel, rfl⟩
theorem dQ_kindFor_104 : Dc Q_kindFor 104 (.getfield 9) 3 107 := ⟨by decide +kernel, rfl⟩
theorem dQ_kindFor_107 : Dc Q_kindFor 107 (.iload_n 3) 1 108 := ⟨by decide +kernel, rfl⟩
theorem dQ_kindFor_108 : Dc Q_kindFor 108 (.iload 4) 2 110 := ⟨by decide +kernel, rfl⟩
theorem dQ_kindFor_110 : Dc Q_kindFor 110 (.iastore) 1 111 := ⟨by decide +kernel, rfl⟩
theorem dQ_kindFor_111 : Dc Q_kindFor 111 (.iload 5) 2 113 := ⟨by decide +kernel, rfl⟩
theorem dQ_kindFor_113 : Dc Q_kindFor 113 (.ireturn) 1 114 := ⟨by decide +kernel, rfl⟩
theorem dQ_paceFor_0 : Dc Q_paceFor 0 (.iload_n 1) 1 1 := ⟨by decide +kernel, rfl⟩
theorem dQ_paceFor_1 : Dc Q_paceFor 1 (.iconst 0) 1 2 := ⟨by decide +kernel, rfl⟩
theorem dQ_paceFor_2 : Dc Q_paceFor 2 (.sipush 999) 3 5 := ⟨by decide +kernel, rfl⟩
theorem dQ_paceFor_5 : Dc Q_paceFor 5 (.invokestatic 79) 3 8 := ⟨by decide +kernel, rfl⟩
theorem dQ_paceFor_8 : Dc Q_paceFor 8 (.ifCond .eq 10) 3 11 := ⟨by decide +kernel, rfl⟩
theorem dQ_paceFor_11 : Dc Q_paceFor 11 (.iload_n 2) 1 12 := ⟨by decide +kernel, rfl⟩
theorem dQ_paceFor_12 : Dc Q_paceFor 12 (.invokestatic 219) 3 15 := ⟨by decide +kernel, rfl⟩
theorem dQ_paceFor_15 : Dc Q_paceFor 15 (.ifCond .ne 10) 3 18 := ⟨by decide +kernel, rfl⟩
theorem dQ_paceFor_18 : Dc Q_paceFor 18 (.aload_n 0) 1 19 := ⟨by decide +kernel, rfl⟩
theorem dQ_paceFor_19 : Dc Q_paceFor 19 (.ldc 69) 2 21 := ⟨by decide +kernel, rfl⟩
theorem dQ_paceFor_21 : Dc Q_paceFor 21 (.invokevirtual 75) 3 24 := ⟨by decide +kernel, rfl⟩
theorem dQ_paceFor_24 : Dc Q_paceFor 24 (.ireturn) 1 25 := ⟨by decide +kernel, rfl⟩
theorem dQ_paceFor_25 : Dc Q_paceFor 25 (.aload_n 0) 1 26 := ⟨by decide +kernel, rfl⟩
theorem dQ_paceFor_26 : Dc Q_paceFor 26 (.getfield 9) 3 29 := ⟨by decide +kernel, rfl⟩
theorem dQ_paceFor_29 : Dc Q_paceFor 29 (.bipush 6) 2 31 := ⟨by decide +kernel, rfl⟩
theorem dQ_paceFor_31 : Dc Q_paceFor 31 (.iaload) 1 32 := ⟨by decide +kernel, rfl⟩
theorem dQ_paceFor_32 : Dc Q_paceFor 32 (.istore_n 3) 1 33 := ⟨by decide +kernel, rfl⟩
theorem dQ_paceFor_33 : Dc Q_paceFor 33 (.iconst (-1)) 1 34 := ⟨by decide +kernel, rfl⟩
theorem dQ_paceFor_34 : Dc Q_paceFor 34 (.istore 4) 2 36 := ⟨by decide +kernel, rfl⟩
theorem dQ_paceFor_36 : Dc Q_paceFor 36 (.iconst 0) 1 37 := ⟨by decide +kernel, rfl⟩
theorem dQ_paceFor_37 : Dc Q_paceFor 37 (.istore 5) 2 39 := ⟨by decide +kernel, rfl⟩
theorem dQ_paceFor_39 : Dc Q_paceFor 39 (.iload 5) 2 41 := ⟨by decide +kernel, rfl⟩
theorem dQ_paceFor_41 : Dc Q_paceFor 41 (.iconst 5) 1 42 := ⟨by decide +kernel, rfl⟩
theorem dQ_paceFor_42 : Dc Q_paceFor 42 (.if_icmp .gt 37) 3 45 := ⟨by decide +kernel, rfl⟩
theorem dQ_paceFor_45 : Dc Q_paceFor 45 (.aload_n 0) 1 46 := ⟨by decide +kernel, rfl⟩
theorem dQ_paceFor_46 : Dc Q_paceFor 46 (.getfield 9) 3 49 := ⟨by decide +kernel, rfl⟩
theorem dQ_paceFor_49 : Dc Q_paceFor 49 (.bipush 6) 2 51 := ⟨by decide +kernel, rfl⟩
theorem dQ_paceFor_51 : Dc Q_paceFor 51 (.iload 5) 2 53 := ⟨by decide +kernel, rfl⟩
theorem dQ_paceFor_53 : Dc Q_paceFor 53 (.iastore) 1 54 := ⟨by decide +kernel, rfl⟩
theorem dQ_paceFor_54 : Dc Q_paceFor 54 (.aload_n 0) 1 55 := ⟨by decide +kernel, rfl⟩
theorem dQ_paceFor_55 : Dc Q_paceFor 55 (.iconst 2) 1 56 := ⟨by decide +kernel, rfl⟩
theorem dQ_paceFor_56 : Dc Q_paceFor 56 (.iload_n 2) 1 57 := ⟨by decide +kernel, rfl⟩
theorem dQ_paceFor_57 : Dc Q_paceFor 57 (.invokevirtual 216) 3 60 := ⟨by decide +kernel, rfl⟩
theorem dQ_paceFor_60 : Dc Q_paceFor 60 (.iload_n 1) 1 61 := ⟨by decide +kernel, rfl⟩
theorem dQ_paceFor_61 : Dc Q_paceFor 61 (.if_icmp .gt 8) 3 64 := ⟨by decide +kernel, rfl⟩
theorem dQ_paceFor_64 : Dc Q_paceFor 64 (.iload 5) 2 66 := ⟨by decide +kernel, rfl⟩
theorem dQ_paceFor_66 : Dc Q_paceFor 66 (.goto 5) 3 69 := ⟨by decide +kernel, rfl⟩
theorem dQ_paceFor_69 : Dc Q_paceFor 69 (.iload 4) 2 71 := ⟨by decide +kernel, rfl⟩
theorem dQ_paceFor_71 : Dc Q_paceFor 71 (.istore 4) 2 73 := ⟨by decide +kernel, rfl⟩
theorem dQ_paceFor_73 : Dc Q_paceFor 73 (.iinc 5 1) 3 76 := ⟨by decide +kernel, rfl⟩
theorem dQ_paceFor_76 : Dc Q_paceFor 76 (.goto (-37)) 3 79 := ⟨by decide +kernel, rfl⟩
theorem dQ_paceFor_79 : Dc Q_paceFor 79 (.aload_n 0) 1 80 := ⟨by decide +kernel, rfl⟩
theorem dQ_paceFor_80 : Dc Q_paceFor 80 (.getfield 9) 3 83 := ⟨by decide +kernel, rfl⟩
theorem dQ_paceFor_83 : Dc Q_paceFor 83 (.bipush 6) 2 85 := ⟨by decide +kernel, rfl⟩
theorem dQ_paceFor_85 : Dc Q_paceFor 85 (.iload_n 3) 1 86 := ⟨by decide +kernel, rfl⟩
theorem dQ_paceFor_86 : Dc Q_paceFor 86 (.iastore) 1 87 := ⟨by decide +kernel, rfl⟩
theorem dQ_paceFor_87 : Dc Q_paceFor 87 (.aload_n 0) 1 88 := ⟨by decide +kernel, rfl⟩
theorem dQ_paceFor_88 : Dc Q_paceFor 88 (.iload 4) 2 90 := ⟨by decide +kernel, rfl⟩
theorem dQ_paceFor_90 : Dc Q_paceFor 90 (.invokevirtual 142) 3 93 := ⟨by decide +kernel, rfl⟩
theorem dQ_paceFor_93 : Dc Q_paceFor 93 (.ireturn) 1 94 := ⟨by decide +kernel, rfl⟩
theorem dQ_tether_0 : Dc Q_tether 0 (.iload_n 1) 1 1 := ⟨by decide +kernel, rfl⟩
theorem dQ_tether_1 : Dc Q_tether 1 (.iconst 0) 1 2 := ⟨by decide +kernel, rfl⟩
theorem dQ_tether_2 : Dc Q_tether 2 (.bipush 20) 2 4 := ⟨by decide +kernel, rfl⟩
theorem dQ_tether_4 : Dc Q_tether 4 (.invokestatic 79) 3 7 := ⟨by decide +kernel, rfl⟩
theorem dQ_tether_7 : Dc Q_tether 7 (.ifCond .ne 10) 3 10 := ⟨by decide +kernel, rfl⟩
theorem dQ_tether_10 : Dc Q_tether 10 (.aload_n 0) 1 11 := ⟨by decide +kernel, rfl⟩
theorem dQ_tether_11 : Dc Q_tether 11 (.ldc 69) 2 13 := ⟨by decide +kernel, rfl⟩
theorem dQ_tether_13 : Dc Q_tether 13 (.invokevirtual 75) 3 16 := ⟨by decide +kernel, rfl⟩
theorem dQ_tether_16 : Dc Q_tether 16 (.ireturn) 1 17 := ⟨by decide +kernel, rfl⟩
theorem dQ_tether_17 : Dc Q_tether 17 (.iconst (-1)) 1 18 := ⟨by decide +kernel, rfl⟩
theorem dQ_tether_18 : Dc Q_tether 18 (.istore_n 2) 1 19 := ⟨by decide +kernel, rfl⟩
theorem dQ_tether_19 : Dc Q_tether 19 (.iconst 1) 1 20 := ⟨by decide +kernel, rfl⟩
theorem dQ_tether_20 : Dc Q_tether 20 (.aload_n 0) 1 21 := ⟨by decide +kernel, rfl⟩
theorem dQ_tether_21 : Dc Q_tether 21 (.getfield 9) 3 24 := ⟨by decide +kernel, rfl⟩
theorem dQ_tether_24 : Dc Q_tether 24 (.iconst 1) 1 25 := ⟨by decide +kernel, rfl⟩
theorem dQ_tether_25 : Dc Q_tether 25 (.iaload) 1 26 := ⟨by decide +kernel, rfl⟩
theorem dQ_tether_26 : Dc Q_tether 26 (.ishl) 1 27 := ⟨by decide +kernel, rfl⟩
theorem dQ_tether_27 : Dc Q_tether 27 (.iconst 1) 1 28 := ⟨by decide +kernel, rfl⟩
theorem dQ_tether_28 : Dc Q_tether 28 (.isub) 1 29 := ⟨by decide +kernel, rfl⟩
theorem dQ_tether_29 : Dc Q_tether 29 (.istore_n 3) 1 30 := ⟨by decide +kernel, rfl⟩
theorem dQ_tether_30 : Dc Q_tether 30 (.iload_n 3) 1 31 := ⟨by decide +kernel, rfl⟩
theorem dQ_tether_31 : Dc Q_tether 31 (.ifCond .lt 39) 3 34 := ⟨by decide +kernel, rfl⟩
theorem dQ_tether_34 : Dc Q_tether 34 (.aload_n 0) 1 35 := ⟨by decide +kernel, rfl⟩
theorem dQ_tether_35 : Dc Q_tether 35 (.iload_n 3) 1 36 := ⟨by decide +kernel, rfl⟩
theorem dQ_tether_36 : Dc Q_tether 36 (.iload_n 1) 1 37 := ⟨by decide +kernel, rfl⟩
theorem dQ_tether_37 : Dc Q_tether 37 (.invokevirtual 225) 3 40 := ⟨by decide +kernel, rfl⟩
theorem dQ_tether_40 : Dc Q_tether 40 (.ifCond .eq 22) 3 43 := ⟨by decide +kernel, rfl⟩
theorem dQ_tether_43 : Dc Q_tether 43 (.iload_n 2) 1 44 := ⟨by decide +kernel, rfl⟩
theorem dQ_tether_44 : Dc Q_tether 44 (.ifCond .lt 14) 3 47 := ⟨by decide +kernel, rfl⟩
theorem dQ_tether_47 : Dc Q_tether 47 (.iload_n 3) 1 48 := ⟨by decide +kernel, rfl⟩
theorem dQ_tether_48 : Dc Q_tether 48 (.invokestatic 228) 3 51 := ⟨by decide +kernel, rfl⟩
theorem dQ_tether_51 : Dc Q_tether 51 (.iload_n 2) 1 52 := ⟨by decide +kernel, rfl⟩
theorem dQ_tether_52 : Dc Q_tether 52 (.invokestatic 228) 3 55 := ⟨by decide +kernel, rfl⟩
theorem dQ_tether_55 : Dc Q_tether 55 (.if_icmp .gt 7) 3 58 := ⟨by decide +kernel, rfl⟩
theorem dQ_tether_58 : Dc Q_tether 58 (.iload_n 3) 1 59 := ⟨by decide +kernel, rfl⟩
theorem dQ_tether_59 : Dc Q_tether 59 (.goto 4) 3 62 := ⟨by decide +kernel, rfl⟩
theorem dQ_tether_62 : Dc Q_tether 62 (.iload_n 2) 1 63 := ⟨by decide +kernel, rfl⟩
theorem dQ_tether_63 : Dc Q_tether 63 (.istore_n 2) 1 64 := ⟨by decide +kernel, rfl⟩
theorem dQ_tether_64 : Dc Q_tether 64 (.iinc 3 (-1)) 3 67 := ⟨by decide +kernel, rfl⟩
theorem dQ_tether_67 : Dc Q_tether 67 (.goto (-37)) 3 70 := ⟨by decide +kernel, rfl⟩
theorem dQ_tether_70 : Dc Q_tether 70 (.aload_n 0) 1 71 := ⟨by decide +kernel, rfl⟩
theorem dQ_tether_71 : Dc Q_tether 71 (.iload_n 2) 1 72 := ⟨by decide +kernel, rfl⟩
theorem dQ_tether_72 : Dc Q_tether 72 (.invokevirtual 142) 3 75 := ⟨by decide +kernel, rfl⟩
theorem dQ_tether_75 : Dc Q_tether 75 (.ireturn) 1 76 := ⟨by decide +kernel, rfl⟩
theorem dQ_areNear_0 : Dc Q_areNear 0 (.aload_n 0) 1 1 := ⟨by decide +kernel, rfl⟩
theorem dQ_areNear_1 : Dc Q_areNear 1 (.getfield 9) 3 4 := ⟨by decide +kernel, rfl⟩
theorem dQ_areNear_4 : Dc Q_areNear 4 (.aload_n 0) 1 5 := ⟨by decide +kernel, rfl⟩
theorem dQ_areNear_5 : Dc Q_areNear 5 (.getfield 16) 3 8 := ⟨by decide +kernel, rfl⟩
theorem dQ_areNear_8 : Dc Q_areNear 8 (.invokestatic 70) 3 11 := ⟨by decide +kernel, rfl⟩
theorem dQ_areNear_11 : Dc Q_areNear 11 (.aload_n 0) 1 12 := ⟨by decide +kernel, rfl⟩
theorem dQ_areNear_12 : Dc Q_areNear 12 (.iload_n 1) 1 13 := ⟨by decide +kernel, rfl⟩
theorem dQ_areNear_13 : Dc Q_areNear 13 (.putfield 154) 3 16 := ⟨by decide +kernel, rfl⟩
theorem dQ_areNear_16 : Dc Q_areNear 16 (.aload_n 0) 1 17 := ⟨by decide +kernel, rfl⟩
theorem dQ_areNear_17 : Dc Q_areNear 17 (.iload_n 2) 1 18 := ⟨by decide +kernel, rfl⟩
theorem dQ_areNear_18 : Dc Q_areNear 18 (.invokevirtual 191) 3 21 := ⟨by decide +kernel, rfl⟩
theorem dQ_areNear_21 : Dc Q_areNear 21 (.aload_n 0) 1 22 := ⟨by decide +kernel, rfl⟩
theorem dQ_areNear_22 : Dc Q_areNear 22 (.iconst 0) 1 23 := ⟨by decide +kernel, rfl⟩
theorem dQ_areNear_23 : Dc Q_areNear 23 (.putfield 154) 3 26 := ⟨by decide +kernel, rfl⟩
theorem dQ_areNear_26 : Dc Q_areNear 26 (.aload_n 0) 1 27 := ⟨by decide +kernel, rfl⟩
theorem dQ_areNear_27 : Dc Q_areNear 27 (.invokevirtual 197) 3 30 := ⟨by decide +kernel, rfl⟩
theorem dQ_areNear_30 : Dc Q_areNear 30 (.ifCond .ne 7) 3 33 := ⟨by decide +kernel, rfl⟩
theorem dQ_areNear_33 : Dc Q_areNear 33 (.iconst 1) 1 34 := ⟨by decide +kernel, rfl⟩
theorem dQ_areNear_34 : Dc Q_areNear 34 (.goto 4) 3 37 := ⟨by decide +kernel, rfl⟩
theorem dQ_areNear_37 : Dc Q_areNear 37 (.iconst 0) 1 38 := ⟨by decide +kernel, rfl⟩
theorem dQ_areNear_38 : Dc Q_areNear 38 (.istore_n 3) 1 39 := ⟨by decide +kernel, rfl⟩
theorem dQ_areNear_39 : Dc Q_areNear 39 (.aload_n 0) 1 40 := ⟨by decide +kernel, rfl⟩
theorem dQ_areNear_40 : Dc Q_areNear 40 (.getfield 16) 3 43 := ⟨by decide +kernel, rfl⟩
theorem dQ_areNear_43 : Dc Q_areNear 43 (.aload_n 0) 1 44 := ⟨by decide +kernel, rfl⟩
theorem dQ_areNear_44 : Dc Q_areNear 44 (.getfield 9) 3 47 := ⟨by decide +kernel, rfl⟩
theorem dQ_areNear_47 : Dc Q_areNear 47 (.invokestatic 70) 3 50 := ⟨by decide +kernel, rfl⟩
theorem dQ_areNear_50 : Dc Q_areNear 50 (.iload_n 3) 1 51 := ⟨by decide +kernel, rfl⟩
theorem dQ_areNear_51 : Dc Q_areNear 51 (.ireturn) 1 52 := ⟨by decide +kernel, rfl⟩
theorem dQ_bits_0 : Dc Q_bits 0 (.iconst 0) 1 1 := ⟨by decide +kernel, rfl⟩
theorem dQ_bits_1 : Dc Q_bits 1 (.istore_n 1) 1 2 := ⟨by decide +kernel, rfl⟩
theorem dQ_bits_2 : Dc Q_bits 2 (.iload_n 0) 1 3 := ⟨by decide +kernel, rfl⟩
theorem dQ_bits_3 : Dc Q_bits 3 (.istore_n 2) 1 4 := ⟨by decide +kernel, rfl⟩
theorem dQ_bits_4 : Dc Q_bits 4 (.iload_n 2) 1 5 := ⟨by decide +kernel, rfl⟩
theorem dQ_bits_5 : Dc Q_bits 5 (.ifCond .eq 15) 3 8 := ⟨by decide +kernel, rfl⟩
theorem dQ_bits_8 : Dc Q_bits 8 (.iinc 1 1) 3 11 := ⟨by decide +kernel, rfl⟩
theorem dQ_bits_11 : Dc Q_bits 11 (.iload_n 2) 1 12 := ⟨by decide +kernel, rfl⟩
theorem dQ_bits_12 : Dc Q_bits 12 (.iload_n 2) 1 13 := ⟨by decide +kernel, rfl⟩
theorem dQ_bits_13 : Dc Q_bits 13 (.iconst 1) 1 14 := ⟨by decide +kernel, rfl⟩
theorem dQ_bits_14 : Dc Q_bits 14 (.isub) 1 15 := ⟨by decide +kernel, rfl⟩
theorem dQ_bits_15 : Dc Q_bits 15 (.iand) 1 16 := ⟨by decide +kernel, rfl⟩
theorem dQ_bits_16 : Dc Q_bits 16 (.istore_n 2) 1 17 := ⟨by decide +kernel, rfl⟩
theorem dQ_bits_17 : Dc Q_bits 17 (.goto (-13)) 3 20 := ⟨by decide +kernel, rfl⟩
theorem dQ_bits_20 : Dc Q_bits 20 (.iload_n 1) 1 21 := ⟨by decide +kernel, rfl⟩
theorem dQ_bits_21 : Dc Q_bits 21 (.ireturn) 1 22 := ⟨by decide +kernel, rfl⟩
theorem dQ_fits_0 : Dc Q_fits 0 (.aload_n 0) 1 1 := ⟨by decide +kernel, rfl⟩
theorem dQ_fits_1 : Dc Q_fits 1 (.iload_n 1) 1 2 := ⟨by decide +kernel, rfl⟩
theorem dQ_fits_2 : Dc Q_fits 2 (.aload_n 0) 1 3 := ⟨by decide +kernel, rfl⟩
theorem dQ_fits_3 : Dc Q_fits 3 (.iload_n 2) 1 4 := ⟨by decide +kernel, rfl⟩
theorem dQ_fits_4 : Dc Q_fits 4 (.invokevirtual 119) 3 7 := ⟨by decide +kernel, rfl⟩
theorem dQ_fits_7 : Dc Q_fits 7 (.invokevirtual 238) 3 10 := ⟨by decide +kernel, rfl⟩
theorem dQ_fits_10 : Dc Q_fits 10 (.istore_n 3) 1 11 := ⟨by decide +kernel, rfl⟩
theorem dQ_fits_11 : Dc Q_fits 11 (.iload_n 3) 1 12 := ⟨by decide +kernel, rfl⟩
theorem dQ_fits_12 : Dc Q_fits 12 (.ifCond .eq 9) 3 15 := ⟨by decide +kernel, rfl⟩
theorem dQ_fits_15 : Dc Q_fits 15 (.aload_n 0) 1 16 := ⟨by decide +kernel, rfl⟩
theorem dQ_fits_16 : Dc Q_fits 16 (.iload_n 3) 1 17 := ⟨by decide +kernel, rfl⟩
theorem dQ_fits_17 : Dc Q_fits 17 (.invokevirtual 75) 3 20 := ⟨by decide +kernel, rfl⟩
theorem dQ_fits_20 : Dc Q_fits 20 (.ireturn) 1 21 := ⟨by decide +kernel, rfl⟩
theorem dQ_fits_21 : Dc Q_fits 21 (.aload_n 0) 1 22 := ⟨by decide +kernel, rfl⟩
theorem dQ_fits_22 : Dc Q_fits 22 (.getfield 9) 3 25 := ⟨by decide +kernel, rfl⟩
theorem dQ_fits_25 : Dc Q_fits 25 (.bipush 7) 2 27 := ⟨by decide +kernel, rfl⟩
theorem dQ_fits_27 : Dc Q_fits 27 (.iaload) 1 28 := ⟨by decide +kernel, rfl⟩
theorem dQ_fits_28 : Dc Q_fits 28 (.iload_n 2) 1 29 := ⟨by decide +kernel, rfl⟩
theorem dQ_fits_29 : Dc Q_fits 29 (.if_icmp .ne 12) 3 32 := ⟨by decide +kernel, rfl⟩
theorem dQ_fits_32 : Dc Q_fits 32 (.aload_n 0) 1 33 := ⟨by decide +kernel, rfl⟩
theorem dQ_fits_33 : Dc Q_fits 33 (.ldc 141) 2 35 := ⟨by decide +kernel, rfl⟩
theorem dQ_fits_35 : Dc Q_fits 35 (.invokevirtual 75) 3 38 := ⟨by decide +kernel, rfl⟩
theorem dQ_fits_38 : Dc Q_fits 38 (.goto 16) 3 41 := ⟨by decide +kernel, rfl⟩
theorem dQ_fits_41 : Dc Q_fits 41 (.aload_n 0) 1 42 := ⟨by decide +kernel, rfl⟩
theorem dQ_fits_42 : Dc Q_fits 42 (.iload_n 2) 1 43 := ⟨by decide +kernel, rfl⟩
theorem dQ_fits_43 : Dc Q_fits 43 (.iconst 1) 1 44 := ⟨by decide +kernel, rfl⟩
theorem dQ_fits_44 : Dc Q_fits 44 (.invokestatic 83) 3 47 := ⟨by decide +kernel, rfl⟩
theorem dQ_fits_47 : Dc Q_fits 47 (.bipush 15) 2 49 := ⟨by decide +kernel, rfl⟩
theorem dQ_fits_49 : Dc Q_fits 49 (.iload_n 1) 1 50 := ⟨by decide +kernel, rfl⟩
theorem dQ_fits_50 : Dc Q_fits 50 (.iconst 4) 1 51 := ⟨by decide +kernel, rfl⟩
theorem dQ_fits_51 : Dc Q_fits 51 (.invokevirtual 242) 3 54 := ⟨by decide +kernel, rfl⟩
theorem dQ_fits_54 : Dc Q_fits 54 (.ireturn) 1 55 := ⟨by decide +kernel, rfl⟩
theorem dQ_lacks_0 : Dc Q_lacks 0 (.iload_n 1) 1 1 := ⟨by decide +kernel, rfl⟩
theorem dQ_lacks_1 : Dc Q_lacks 1 (.invokestatic 231) 3 4 := ⟨by decide +kernel, rfl⟩
theorem dQ_lacks_4 : Dc Q_lacks 4 (.ifCond .ne 8) 3 7 := ⟨by decide +kernel, rfl⟩
theorem dQ_lacks_7 : Dc Q_lacks 7 (.ldc 69) 2 9 := ⟨by decide +kernel, rfl⟩
theorem dQ_lacks_9 : Dc Q_lacks 9 (.goto 27) 3 12 := ⟨by decide +kernel, rfl⟩
theorem dQ_lacks_12 : Dc Q_lacks 12 (.aload_n 0) 1 13 := ⟨by decide +kernel, rfl⟩
theorem dQ_lacks_13 : Dc Q_lacks 13 (.getfield 57) 3 16 := ⟨by decide +kernel, rfl⟩
theorem dQ_lacks_16 : Dc Q_lacks 16 (.iload_n 1) 1 17 := ⟨by decide +kernel, rfl⟩
theorem dQ_lacks_17 : Dc Q_lacks 17 (.iaload) 1 18 := ⟨by decide +kernel, rfl⟩
theorem dQ_lacks_18 : Dc Q_lacks 18 (.ifCond .ne 8) 3 21 := ⟨by decide +kernel, rfl⟩
theorem dQ_lacks_21 : Dc Q_lacks 21 (.ldc 234) 2 23 := ⟨by decide +kernel, rfl⟩
theorem dQ_lacks_23 : Dc Q_lacks 23 (.goto 13) 3 26 := ⟨by decide +kernel, rfl⟩
theorem dQ_lacks_26 : Dc Q_lacks 26 (.iload_n 2) 1 27 := ⟨by decide +kernel, rfl⟩
theorem dQ_lacks_27 : Dc Q_lacks 27 (.ifCond .eq 7) 3 30 := ⟨by decide +kernel, rfl⟩
theorem dQ_lacks_30 : Dc Q_lacks 30 (.iconst 0) 1 31 := ⟨by decide +kernel, rfl⟩
theorem dQ_lacks_31 : Dc Q_lacks 31 (.goto 5) 3 34 := ⟨by decide +kernel, rfl⟩
theorem dQ_lacks_34 : Dc Q_lacks 34 (.ldc 69) 2 36 := ⟨by decide +kernel, rfl⟩
theorem dQ_lacks_36 : Dc Q_lacks 36 (.ireturn) 1 37 := ⟨by decide +kernel, rfl⟩
theorem dQ_isSheet_0 : Dc Q_isSheet 0 (.iload_n 0) 1 1 := ⟨by decide +kernel, rfl⟩
theorem dQ_isSheet_1 : Dc Q_isSheet 1 (.iconst 0) 1 2 := ⟨by decide +kernel, rfl⟩
theorem dQ_isSheet_2 : Dc Q_isSheet 2 (.iconst 3) 1 3 := ⟨by decide +kernel, rfl⟩
theorem dQ_isSheet_3 : Dc Q_isSheet 3 (.invokestatic 79) 3 6 := ⟨by decide +kernel, rfl⟩
theorem dQ_isSheet_6 : Dc Q_isSheet 6 (.ireturn) 1 7 := ⟨by decide +kernel, rfl⟩
theorem dQ_valuesFor_0 : Dc Q_valuesFor 0 (.aload_n 0) 1 1 := ⟨by decide +kernel, rfl⟩
theorem dQ_valuesFor_1 : Dc Q_valuesFor 1 (.getfield 9) 3 4 := ⟨by decide +kernel, rfl⟩
theorem dQ_valuesFor_4 : Dc Q_valuesFor 4 (.iload_n 1) 1 5 := ⟨by decide +kernel, rfl⟩
theorem dQ_valuesFor_5 : Dc Q_valuesFor 5 (.iaload) 1 6 := ⟨by decide +kernel, rfl⟩
theorem dQ_valuesFor_6 : Dc Q_valuesFor 6 (.istore 5) 2 8 := ⟨by decide +kernel, rfl⟩
theorem dQ_valuesFor_8 : Dc Q_valuesFor 8 (.iconst 0) 1 9 := ⟨by decide +kernel, rfl⟩
theorem dQ_valuesFor_9 : Dc Q_valuesFor 9 (.istore 6) 2 11 := ⟨by decide +kernel, rfl⟩
theorem dQ_valuesFor_11 : Dc Q_valuesFor 11 (.iconst 0) 1 12 := ⟨by decide +kernel, rfl⟩
theorem dQ_valuesFor_12 : Dc Q_valuesFor 12 (.istore 7) 2 14 := ⟨by decide +kernel, rfl⟩
theorem dQ_valuesFor_14 : Dc Q_valuesFor 14 (.iload 7) 2 16 := ⟨by decide +kernel, rfl⟩
theorem dQ_valuesFor_16 : Dc Q_valuesFor 16 (.iload_n 2) 1 17 := ⟨by decide +kernel, rfl⟩
theorem dQ_valuesFor_17 : Dc Q_valuesFor 17 (.if_icmp .gt 40) 3 20 := ⟨by decide +kernel, rfl⟩
theorem dQ_valuesFor_20 : Dc Q_valuesFor 20 (.aload_n 0) 1 21 := ⟨by decide +kernel, rfl⟩
theorem dQ_valuesFor_21 : Dc Q_valuesFor 21 (.getfield 9) 3 24 := ⟨by decide +kernel, rfl⟩
theorem dQ_valuesFor_24 : Dc Q_valuesFor 24 (.iload_n 1) 1 25 := ⟨by decide +kernel, rfl⟩
theorem dQ_valuesFor_25 : Dc Q_valuesFor 25 (.iload 7) 2 27 := ⟨by decide +kernel, rfl⟩
theorem dQ_valuesFor_27 : Dc Q_valuesFor 27 (.iastore) 1 28 := ⟨by decide +kernel, rfl⟩
theorem dQ_valuesFor_28 : Dc Q_valuesFor 28 (.iload 6) 2 30 := ⟨by decide +kernel, rfl⟩
theorem dQ_valuesFor_30 : Dc Q_valuesFor 30 (.aload_n 0) 1 31 := ⟨by decide +kernel, rfl⟩
theorem dQ_valuesFor_31 : Dc Q_valuesFor 31 (.iload_n 3) 1 32 := ⟨by decide +kernel, rfl⟩
theorem dQ_valuesFor_32 : Dc Q_valuesFor 32 (.iload 4) 2 34 := ⟨by decide +kernel, rfl⟩
theorem dQ_valuesFor_34 : Dc Q_valuesFor 34 (.invokevirtual 235) 3 37 := ⟨by decide +kernel, rfl⟩
theorem dQ_valuesFor_37 : Dc Q_valuesFor 37 (.ifCond .eq 10) 3 40 := ⟨by decide +kernel, rfl⟩
theorem dQ_valuesFor_40 : Dc Q_valuesFor 40 (.iconst 1) 1 41 := ⟨by decide +kernel, rfl⟩
theorem dQ_valuesFor_41 : Dc Q_valuesFor 41 (.iload 7) 2 43 := ⟨by decide +kernel, rfl⟩
theorem dQ_valuesFor_43 : Dc Q_valuesFor 43 (.ishl) 1 44 := ⟨by decide +kernel, rfl⟩
theorem dQ_valuesFor_44 : Dc Q_valuesFor 44 (.goto 4) 3 47 := ⟨by decide +kernel, rfl⟩
theorem dQ_valuesFor_47 : Dc Q_valuesFor 47 (.iconst 0) 1 48 := ⟨by decide +kernel, rfl⟩
theorem dQ_valuesFor_48 : Dc Q_valuesFor 48 (.ior) 1 49 := ⟨by decide +kernel, rfl⟩
theorem dQ_valuesFor_49 : Dc Q_valuesFor 49 (.istore 6) 2 51 := ⟨by decide +kernel, rfl⟩
theorem dQ_valuesFor_51 : Dc Q_valuesFor 51 (.iinc 7 1) 3 54 := ⟨by decide +kernel, rfl⟩
theorem dQ_valuesFor_54 : Dc Q_valuesFor 54 (.goto (-40)) 3 57 := ⟨by decide +kernel, rfl⟩
theorem dQ_valuesFor_57 : Dc Q_valuesFor 57 (.aload_n 0) 1 58 := ⟨by decide +kernel, rfl⟩
theorem dQ_valuesFor_58 : Dc Q_valuesFor 58 (.getfield 9) 3 61 := ⟨by decide +kernel, rfl⟩
theorem dQ_valuesFor_61 : Dc Q_valuesFor 61 (.iload_n 1) 1 62 := ⟨by decide +kernel, rfl⟩
theorem dQ_valuesFor_62 : Dc Q_valuesFor 62 (.iload 5) 2 64 := ⟨by decide +kernel, rfl⟩
theorem dQ_valuesFor_64 : Dc Q_valuesFor 64 (.iastore) 1 65 := ⟨by decide +kernel, rfl⟩
theorem dQ_valuesFor_65 : Dc Q_valuesFor 65 (.iload 6) 2 67 := ⟨by decide +kernel, rfl⟩
theorem dQ_valuesFor_67 : Dc Q_valuesFor 67 (.ireturn) 1 68 := ⟨by decide +kernel, rfl⟩
theorem dQ_isToldWay_0 : Dc Q_isToldWay 0 (.aload_n 0) 1 1 := ⟨by decide +kernel, rfl⟩
theorem dQ_isToldWay_1 : Dc Q_isToldWay 1 (.getfield 9) 3 4 := ⟨by decide +kernel, rfl⟩
theorem dQ_isToldWay_4 : Dc Q_isToldWay 4 (.aload_n 0) 1 5 := ⟨by decide +kernel, rfl⟩
theorem dQ_isToldWay_5 : Dc Q_isToldWay 5 (.getfield 16) 3 8 := ⟨by decide +kernel, rfl⟩
theorem dQ_isToldWay_8 : Dc Q_isToldWay 8 (.invokestatic 70) 3 11 := ⟨by decide +kernel, rfl⟩
theorem dQ_isToldWay_11 : Dc Q_isToldWay 11 (.iconst 1) 1 12 := ⟨by decide +kernel, rfl⟩
theorem dQ_isToldWay_12 : Dc Q_isToldWay 12 (.istore_n 3) 1 13 := ⟨by decide +kernel, rfl⟩
theorem dQ_isToldWay_13 : Dc Q_isToldWay 13 (.iconst 0) 1 14 := ⟨by decide +kernel, rfl⟩
theorem dQ_isToldWay_14 : Dc Q_isToldWay 14 (.istore 4) 2 16 := ⟨by decide +kernel, rfl⟩
theorem dQ_isToldWay_16 : Dc Q_isToldWay 16 (.iload 4) 2 18 := ⟨by decide +kernel, rfl⟩
theorem dQ_isToldWay_18 : Dc Q_isToldWay 18 (.aload_n 0) 1 19 := ⟨by decide +kernel, rfl⟩
theorem dQ_isToldWay_19 : Dc Q_isToldWay 19 (.getfield 60) 3 22 := ⟨by decide +kernel, rfl⟩
theorem dQ_isToldWay_22 : Dc Q_isToldWay 22 (.iload_n 1) 1 23 := ⟨by decide +kernel, rfl⟩
theorem dQ_isToldWay_23 : Dc Q_isToldWay 23 (.iaload) 1 24 := ⟨by decide +kernel, rfl⟩
theorem dQ_isToldWay_24 : Dc Q_isToldWay 24 (.if_icmp .ge 54) 3 27 := ⟨by decide +kernel, rfl⟩
theorem dQ_isToldWay_27 : Dc Q_isToldWay 27 (.iload_n 3) 1 28 := ⟨by decide +kernel, rfl⟩
theorem dQ_isToldWay_28 : Dc Q_isToldWay 28 (.ifCond .eq 50) 3 31 := ⟨by decide +kernel, rfl⟩
theorem dQ_isToldWay_31 : Dc Q_isToldWay 31 (.aload_n 0) 1 32 := ⟨by decide +kernel, rfl⟩
theorem dQ_isToldWay_32 : Dc Q_isToldWay 32 (.getfield 63) 3 35 := ⟨by decide +kernel, rfl⟩
theorem dQ_isToldWay_35 : Dc Q_isToldWay 35 (.bipush 40) 2 37 := ⟨by decide +kernel, rfl⟩
theorem dQ_isToldWay_37 : Dc Q_isToldWay 37 (.iload_n 1) 1 38 := ⟨by decide +kernel, rfl⟩
theorem dQ_isToldWay_38 : Dc Q_isToldWay 38 (.imul) 1 39 := ⟨by decide +kernel, rfl⟩
theorem dQ_isToldWay_39 : Dc Q_isToldWay 39 (.iload 4) 2 41 := ⟨by decide +kernel, rfl⟩
theorem dQ_isToldWay_41 : Dc Q_isToldWay 41 (.iadd) 1 42 := ⟨by decide +kernel, rfl⟩
theorem dQ_isToldWay_42 : Dc Q_isToldWay 42 (.iaload) 1 43 := ⟨by decide +kernel, rfl⟩
theorem dQ_isToldWay_43 : Dc Q_isToldWay 43 (.istore 5) 2 45 := ⟨by decide +kernel, rfl⟩
theorem dQ_isToldWay_45 : Dc Q_isToldWay 45 (.iload 5) 2 47 := ⟨by decide +kernel, rfl⟩
theorem dQ_isToldWay_47 : Dc Q_isToldWay 47 (.iconst (-1)) 1 48 := ⟨by decide +kernel, rfl⟩
theorem dQ_isToldWay_48 : Dc Q_isToldWay 48 (.if_icmp .eq 14) 3 51 := ⟨by decide +kernel, rfl⟩
theorem dQ_isToldWay_51 : Dc Q_isToldWay 51 (.iload 5) 2 53 := ⟨by decide +kernel, rfl⟩
theorem dQ_isToldWay_53 : Dc Q_isToldWay 53 (.aload_n 0) 1 54 := ⟨by decide +kernel, rfl⟩
theorem dQ_isToldWay_54 : Dc Q_isToldWay 54 (.getfield 9) 3 57 := ⟨by decide +kernel, rfl⟩
theorem dQ_isToldWay_57 : Dc Q_isToldWay 57 (.iload_n 2) 1 58 := ⟨by decide +kernel, rfl⟩
theorem dQ_isToldWay_58 : Dc Q_isToldWay 58 (.iaload) 1 59 := ⟨by decide +kernel, rfl⟩
theorem dQ_isToldWay_59 : Dc Q_isToldWay 59 (.if_icmp .ne 7) 3 62 := ⟨by decide +kernel, rfl⟩
theorem dQ_isToldWay_62 : Dc Q_isToldWay 62 (.iconst 1) 1 63 := ⟨by decide +kernel, rfl⟩
theorem dQ_isToldWay_63 : Dc Q_isToldWay 63 (.goto 4) 3 66 := ⟨by decide +kernel, rfl⟩
theorem dQ_isToldWay_66 : Dc Q_isToldWay 66 (.iconst 0) 1 67 := ⟨by decide +kernel, rfl⟩
theorem dQ_isToldWay_67 : Dc Q_isToldWay 67 (.istore_n 3) 1 68 := ⟨by decide +kernel, rfl⟩
theorem dQ_isToldWay_68 : Dc Q_isToldWay 68 (.aload_n 0) 1 69 := ⟨by decide +kernel, rfl⟩
theorem dQ_isToldWay_69 : Dc Q_isToldWay 69 (.invokevirtual 187) 3 72 := ⟨by decide +kernel, rfl⟩
theorem dQ_isToldWay_72 : Dc Q_isToldWay 72 (.iinc 4 1) 3 75 := ⟨by decide +kernel, rfl⟩
theorem dQ_isToldWay_75 : Dc Q_isToldWay 75 (.goto (-59)) 3 78 := ⟨by decide +kernel, rfl⟩
theorem dQ_isToldWay_78 : Dc Q_isToldWay 78 (.aload_n 0) 1 79 := ⟨by decide +kernel, rfl⟩
theorem dQ_isToldWay_79 : Dc Q_isToldWay 79 (.getfield 16) 3 82 := ⟨by decide +kernel, rfl⟩
theorem dQ_isToldWay_82 : Dc Q_isToldWay 82 (.aload_n 0) 1 83 := ⟨by decide +kernel, rfl⟩
theorem dQ_isToldWay_83 : Dc Q_isToldWay 83 (.getfield 9) 3 86 := ⟨by decide +kernel, rfl⟩
theorem dQ_isToldWay_86 : Dc Q_isToldWay 86 (.invokestatic 70) 3 89 := ⟨by decide +kernel, rfl⟩
theorem dQ_isToldWay_89 : Dc Q_isToldWay 89 (.iload_n 3) 1 90 := ⟨by decide +kernel, rfl⟩
theorem dQ_isToldWay_90 : Dc Q_isToldWay 90 (.ireturn) 1 91 := ⟨by decide +kernel, rfl⟩
theorem dQ_kinds_0 : Dc Q_kinds 0 (.aload_n 0) 1 1 := ⟨by decide +kernel, rfl⟩
theorem dQ_kinds_1 : Dc Q_kinds 1 (.iload_n 1) 1 2 := ⟨by decide +kernel, rfl⟩
theorem dQ_kinds_2 : Dc Q_kinds 2 (.aload_n 0) 1 3 := ⟨by decide +kernel, rfl⟩
theorem dQ_kinds_3 : Dc Q_kinds 3 (.iload_n 2) 1 4 := ⟨by decide +kernel, rfl⟩
theorem dQ_kinds_4 : Dc Q_kinds 4 (.invokevirtual 119) 3 7 := ⟨by decide +kernel, rfl⟩
theorem dQ_kinds_7 : Dc Q_kinds 7 (.invokevirtual 238) 3 10 := ⟨by decide +kernel, rfl⟩
theorem dQ_kinds_10 : Dc Q_kinds 10 (.istore_n 3) 1 11 := ⟨by decide +kernel, rfl⟩
theorem dQ_kinds_11 : Dc Q_kinds 11 (.iload_n 3) 1 12 := ⟨by decide +kernel, rfl⟩
theorem dQ_kinds_12 : Dc Q_kinds 12 (.ifCond .eq 11) 3 15 := ⟨by decide +kernel, rfl⟩
theorem dQ_kinds_15 : Dc Q_kinds 15 (.aload_n 0) 1 16 := ⟨by decide +kernel, rfl⟩
theorem dQ_kinds_16 : Dc Q_kinds 16 (.iload_n 3) 1 17 := ⟨by decide +kernel, rfl⟩
theorem dQ_kinds_17 : Dc Q_kinds 17 (.invokevirtual 75) 3 20 := ⟨by decide +kernel, rfl⟩
theorem dQ_kinds_20 : Dc Q_kinds 20 (.goto 20) 3 23 := ⟨by decide +kernel, rfl⟩
theorem dQ_kinds_23 : Dc Q_kinds 23 (.aload_n 0) 1 24 := ⟨by decide +kernel, rfl⟩
theorem dQ_kinds_24 : Dc Q_kinds 24 (.iload_n 2) 1 25 := ⟨by decide +kernel, rfl⟩
theorem dQ_kinds_25 : Dc Q_kinds 25 (.iconst 0) 1 26 := ⟨by decide +kernel, rfl⟩
theorem dQ_kinds_26 : Dc Q_kinds 26 (.invokestatic 83) 3 29 := ⟨by decide +kernel, rfl⟩
theorem dQ_kinds_29 : Dc Q_kinds 29 (.bipush 6) 2 31 := ⟨by decide +kernel, rfl⟩
theorem dQ_kinds_31 : Dc Q_kinds 31 (.iload_n 1) 1 32 := ⟨by decide +kernel, rfl⟩
theorem dQ_kinds_32 : Dc Q_kinds 32 (.iload_n 2) 1 33 := ⟨by decide +kernel, rfl⟩
theorem dQ_kinds_33 : Dc Q_kinds 33 (.iconst 1) 1 34 := ⟨by decide +kernel, rfl⟩
theorem dQ_kinds_34 : Dc Q_kinds 34 (.invokestatic 83) 3 37 := ⟨by decide +kernel, rfl⟩
theorem dQ_kinds_37 : Dc Q_kinds 37 (.invokevirtual 242) 3 40 := ⟨by decide +kernel, rfl⟩
theorem dQ_kinds_40 : Dc Q_kinds 40 (.ireturn) 1 41 := ⟨by decide +kernel, rfl⟩
theorem dQ_nights_0 : Dc Q_nights 0 (.iload_n 1) 1 1 := ⟨by decide +kernel, rfl⟩
theorem dQ_nights_1 : Dc Q_nights 1 (.iconst 1) 1 2 := ⟨by decide +kernel, rfl⟩
theorem dQ_nights_2 : Dc Q_nights 2 (.bipush 20) 2 4 := ⟨by decide +kernel, rfl⟩
theorem dQ_nights_4 : Dc Q_nights 4 (.invokestatic 79) 3 7 := ⟨by decide +kernel, rfl⟩
theorem dQ_nights_7 : Dc Q_nights 7 (.ifCond .ne 10) 3 10 := ⟨by decide +kernel, rfl⟩
theorem dQ_nights_10 : Dc Q_nights 10 (.aload_n 0) 1 11 := ⟨by decide +kernel, rfl⟩
theorem dQ_nights_11 : Dc Q_nights 11 (.ldc 69) 2 13 := ⟨by decide +kernel, rfl⟩
theorem dQ_nights_13 : Dc Q_nights 13 (.invokevirtual 75) 3 16 := ⟨by decide +kernel, rfl⟩
theorem dQ_nights_16 : Dc Q_nights 16 (.ireturn) 1 17 := ⟨by decide +kernel, rfl⟩
theorem dQ_nights_17 : Dc Q_nights 17 (.aload_n 0) 1 18 := ⟨by decide +kernel, rfl⟩
theorem dQ_nights_18 : Dc Q_nights 18 (.getfield 9) 3 21 := ⟨by decide +kernel, rfl⟩
theorem dQ_nights_21 : Dc Q_nights 21 (.iconst 0) 1 22 := ⟨by decide +kernel, rfl⟩
theorem dQ_nights_22 : Dc Q_nights 22 (.iaload) 1 23 := ⟨by decide +kernel, rfl⟩
theorem dQ_nights_23 : Dc Q_nights 23 (.iload_n 1) 1 24 := ⟨by decide +kernel, rfl⟩
theorem dQ_nights_24 : Dc Q_nights 24 (.iadd) 1 25 := ⟨by decide +kernel, rfl⟩
theorem dQ_nights_25 : Dc Q_nights 25 (.ldc 190) 2 27 := ⟨by decide +kernel, rfl⟩
theorem dQ_nights_27 : Dc Q_nights 27 (.if_icmp .le 10) 3 30 := ⟨by decide +kernel, rfl⟩
theorem dQ_nights_30 : Dc Q_nights 30 (.aload_n 0) 1 31 := ⟨by decide +kernel, rfl⟩
theorem dQ_nights_31 : Dc Q_nights 31 (.ldc 141) 2 33 := ⟨by decide +kernel, rfl⟩
theorem dQ_nights_33 : Dc Q_nights 33 (.invokevirtual 75) 3 36 := ⟨by decide +kernel, rfl⟩
theorem dQ_nights_36 : Dc Q_nights 36 (.ireturn) 1 37 := ⟨by decide +kernel, rfl⟩
theorem dQ_nights_37 : Dc Q_nights 37 (.iconst 0) 1 38 := ⟨by decide +kernel, rfl⟩
theorem dQ_nights_38 : Dc Q_nights 38 (.istore_n 2) 1 39 := ⟨by decide +kernel, rfl⟩
theorem dQ_nights_39 : Dc Q_nights 39 (.iload_n 2) 1 40 := ⟨by decide +kernel, rfl⟩
theorem dQ_nights_40 : Dc Q_nights 40 (.iload_n 1) 1 41 := ⟨by decide +kernel, rfl⟩
theorem dQ_nights_41 : Dc Q_nights 41 (.if_icmp .ge 40) 3 44 := ⟨by decide +kernel, rfl⟩
theorem dQ_nights_44 : Dc Q_nights 44 (.aload_n 0) 1 45 := ⟨by decide +kernel, rfl⟩
theorem dQ_nights_45 : Dc Q_nights 45 (.getfield 9) 3 48 := ⟨by decide +kernel, rfl⟩
theorem dQ_nights_48 : Dc Q_nights 48 (.iconst 5) 1 49 := ⟨by decide +kernel, rfl⟩
theorem dQ_nights_49 : Dc Q_nights 49 (.aload_n 0) 1 50 := ⟨by decide +kernel, rfl⟩
theorem dQ_nights_50 : Dc Q_nights 50 (.invokevirtual 247) 3 53 := ⟨by decide +kernel, rfl⟩
theorem dQ_nights_53 : Dc Q_nights 53 (.bipush 16) 2 55 := ⟨by decide +kernel, rfl⟩
theorem dQ_nights_55 : Dc Q_nights 55 (.irem) 1 56 := ⟨by decide +kernel, rfl⟩
theorem dQ_nights_56 : Dc Q_nights 56 (.iastore) 1 57 := ⟨by decide +kernel, rfl⟩
theorem dQ_nights_57 : Dc Q_nights 57 (.aload_n 0) 1 58 := ⟨by decide +kernel, rfl⟩
theorem dQ_nights_58 : Dc Q_nights 58 (.getfield 9) 3 61 := ⟨by decide +kernel, rfl⟩
theorem dQ_nights_61 : Dc Q_nights 61 (.bipush 6) 2 63 := ⟨by decide +kernel, rfl⟩
theorem dQ_nights_63 : Dc Q_nights 63 (.aload_n 0) 1 64 := ⟨by decide +kernel, rfl⟩
theorem dQ_nights_64 : Dc Q_nights 64 (.invokevirtual 247) 3 67 := ⟨by decide +kernel, rfl⟩
theorem dQ_nights_67 : Dc Q_nights 67 (.bipush 6) 2 69 := ⟨by decide +kernel, rfl⟩
theorem dQ_nights_69 : Dc Q_nights 69 (.irem) 1 70 := ⟨by decide +kernel, rfl⟩
theorem dQ_nights_70 : Dc Q_nights 70 (.iastore) 1 71 := ⟨by decide +kernel, rfl⟩
theorem dQ_nights_71 : Dc Q_nights 71 (.aload_n 0) 1 72 := ⟨by decide +kernel, rfl⟩
theorem dQ_nights_72 : Dc Q_nights 72 (.invokevirtual 187) 3 75 := ⟨by decide +kernel, rfl⟩
theorem dQ_nights_75 : Dc Q_nights 75 (.iinc 2 1) 3 78 := ⟨by decide +kernel, rfl⟩
theorem dQ_nights_78 : Dc Q_nights 78 (.goto (-39)) 3 81 := ⟨by decide +kernel, rfl⟩
theorem dQ_nights_81 : Dc Q_nights 81 (.aload_n 0) 1 82 := ⟨by decide +kernel, rfl⟩
theorem dQ_nights_82 : Dc Q_nights 82 (.iconst 2) 1 83 := ⟨by decide +kernel, rfl⟩
theorem dQ_nights_83 : Dc Q_nights 83 (.invokevirtual 194) 3 86 := ⟨by decide +kernel, rfl⟩
theorem dQ_nights_86 : Dc Q_nights 86 (.ireturn) 1 87 := ⟨by decide +kernel, rfl⟩
theorem dQ_drawn_0 : Dc Q_drawn 0 (.aload_n 0) 1 1 := ⟨by decide +kernel, rfl⟩
theorem dQ_drawn_1 : Dc Q_drawn 1 (.getfield 9) 3 4 := ⟨by decide +kernel, rfl⟩
theorem dQ_drawn_4 : Dc Q_drawn 4 (.iconst 2) 1 5 := ⟨by decide +kernel, rfl⟩
theorem dQ_drawn_5 : Dc Q_drawn 5 (.aload_n 0) 1 6 := ⟨by decide +kernel, rfl⟩
theorem dQ_drawn_6 : Dc Q_drawn 6 (.getfield 9) 3 9 := ⟨by decide +kernel, rfl⟩
theorem dQ_drawn_9 : Dc Q_drawn 9 (.iconst 2) 1 10 := ⟨by decide +kernel, rfl⟩
theorem dQ_drawn_10 : Dc Q_drawn 10 (.iaload) 1 11 := ⟨by decide +kernel, rfl⟩
theorem dQ_drawn_11 : Dc Q_drawn 11 (.ldc 246) 2 13 := ⟨by decide +kernel, rfl⟩
theorem dQ_drawn_13 : Dc Q_drawn 13 (.imul) 1 14 := ⟨by decide +kernel, rfl⟩
theorem dQ_drawn_14 : Dc Q_drawn 14 (.sipush 12345) 3 17 := ⟨by decide +kernel, rfl⟩
theorem dQ_drawn_17 : Dc Q_drawn 17 (.iadd) 1 18 := ⟨by decide +kernel, rfl⟩
theorem dQ_drawn_18 : Dc Q_drawn 18 (.iastore) 1 19 := ⟨by decide +kernel, rfl⟩
theorem dQ_drawn_19 : Dc Q_drawn 19 (.aload_n 0) 1 20 := ⟨by decide +kernel, rfl⟩
theorem dQ_drawn_20 : Dc Q_drawn 20 (.getfield 9) 3 23 := ⟨by decide +kernel, rfl⟩
theorem dQ_drawn_23 : Dc Q_drawn 23 (.iconst 2) 1 24 := ⟨by decide +kernel, rfl⟩
theorem dQ_drawn_24 : Dc Q_drawn 24 (.iaload) 1 25 := ⟨by decide +kernel, rfl⟩
theorem dQ_drawn_25 : Dc Q_drawn 25 (.bipush 8) 2 27 := ⟨by decide +kernel, rfl⟩
theorem dQ_drawn_27 : Dc Q_drawn 27 (.iushr) 1 28 := ⟨by decide +kernel, rfl⟩
theorem dQ_drawn_28 : Dc Q_drawn 28 (.ireturn) 1 29 := ⟨by decide +kernel, rfl⟩
theorem dQ_odds_0 : Dc Q_odds 0 (.aload_n 0) 1 1 := ⟨by decide +kernel, rfl⟩
theorem dQ_odds_1 : Dc Q_odds 1 (.iload_n 1) 1 2 := ⟨by decide +kernel, rfl⟩
theorem dQ_odds_2 : Dc Q_odds 2 (.invokevirtual 119) 3 5 := ⟨by decide +kernel, rfl⟩
theorem dQ_odds_5 : Dc Q_odds 5 (.ifCond .eq 22) 3 8 := ⟨by decide +kernel, rfl⟩
theorem dQ_odds_8 : Dc Q_odds 8 (.iload_n 2) 1 9 := ⟨by decide +kernel, rfl⟩
theorem dQ_odds_9 : Dc Q_odds 9 (.iconst 0) 1 10 := ⟨by decide +kernel, rfl⟩
theorem dQ_odds_10 : Dc Q_odds 10 (.bipush 15) 2 12 := ⟨by decide +kernel, rfl⟩
theorem dQ_odds_12 : Dc Q_odds 12 (.invokestatic 79) 3 15 := ⟨by decide +kernel, rfl⟩
theorem dQ_odds_15 : Dc Q_odds 15 (.ifCond .eq 12) 3 18 := ⟨by decide +kernel, rfl⟩
theorem dQ_odds_18 : Dc Q_odds 18 (.iload_n 3) 1 19 := ⟨by decide +kernel, rfl⟩
theorem dQ_odds_19 : Dc Q_odds 19 (.iconst 0) 1 20 := ⟨by decide +kernel, rfl⟩
theorem dQ_odds_20 : Dc Q_odds 20 (.iconst 1) 1 21 := ⟨by decide +kernel, rfl⟩
theorem dQ_odds_21 : Dc Q_odds 21 (.invokestatic 79) 3 24 := ⟨by decide +kernel, rfl⟩
theorem dQ_odds_24 : Dc Q_odds 24 (.ifCond .ne 11) 3 27 := ⟨by decide +kernel, rfl⟩
theorem dQ_odds_27 : Dc Q_odds 27 (.aload_n 0) 1 28 := ⟨by decide +kernel, rfl⟩
theorem dQ_odds_28 : Dc Q_odds 28 (.ldc 69) 2 30 := ⟨by decide +kernel, rfl⟩
theorem dQ_odds_30 : Dc Q_odds 30 (.invokevirtual 75) 3 33 := ⟨by decide +kernel, rfl⟩
theorem dQ_odds_33 : Dc Q_odds 33 (.i2l) 1 34 := ⟨by decide +kernel, rfl⟩
theorem dQ_odds_34 : Dc Q_odds 34 (.lreturn) 1 35 := ⟨by decide +kernel, rfl⟩
theorem dQ_odds_35 : Dc Q_odds 35 (.iconst 0) 1 36 := ⟨by decide +kernel, rfl⟩
theorem dQ_odds_36 : Dc Q_odds 36 (.istore 4) 2 38 := ⟨by decide +kernel, rfl⟩
theorem dQ_odds_38 : Dc Q_odds 38 (.iconst 0) 1 39 := ⟨by decide +kernel, rfl⟩
theorem dQ_odds_39 : Dc Q_odds 39 (.istore 5) 2 41 := ⟨by decide +kernel, rfl⟩
theorem dQ_odds_41 : Dc Q_odds 41 (.iload 5) 2 43 := ⟨by decide +kernel, rfl⟩
theorem dQ_odds_43 : Dc Q_odds 43 (.bipush 16) 2 45 := ⟨by decide +kernel, rfl⟩
theorem dQ_odds_45 : Dc Q_odds 45 (.if_icmp .ge 35) 3 48 := ⟨by decide +kernel, rfl⟩
theorem dQ_odds_48 : Dc Q_odds 48 (.iload 4) 2 50 := ⟨by decide +kernel, rfl⟩
theorem dQ_odds_50 : Dc Q_odds 50 (.iload 5) 2 52 := ⟨by decide +kernel, rfl⟩
theorem dQ_odds_52 : Dc Q_odds 52 (.aload_n 0) 1 53 := ⟨by decide +kernel, rfl⟩
theorem dQ_odds_53 : Dc Q_odds 53 (.iload_n 1) 1 54 := ⟨by decide +kernel, rfl⟩
theorem dQ_odds_54 : Dc Q_odds 54 (.iconst 1) 1 55 := ⟨by decide +kernel, rfl⟩
theorem dQ_odds_55 : Dc Q_odds 55 (.invokevirtual 108) 3 58 := ⟨by decide +kernel, rfl⟩
theorem dQ_odds_58 : Dc Q_odds 58 (.isub) 1 59 := ⟨by decide +kernel, rfl⟩
theorem dQ_odds_59 : Dc Q_odds 59 (.invokestatic 111) 3 62 := ⟨by decide +kernel, rfl⟩
theorem dQ_odds_62 : Dc Q_odds 62 (.iconst 2) 1 63 := ⟨by decide +kernel, rfl⟩
theorem dQ_odds_63 : Dc Q_odds 63 (.if_icmp .le 7) 3 66 := ⟨by decide +kernel, rfl⟩
theorem dQ_odds_66 : Dc Q_odds 66 (.iconst 1) 1 67 := ⟨by decide +kernel, rfl⟩
theorem dQ_odds_67 : Dc Q_odds 67 (.goto 4) 3 70 := ⟨by decide +kernel, rfl⟩
theorem dQ_odds_70 : Dc Q_odds 70 (.iconst 0) 1 71 := ⟨by decide +kernel, rfl⟩
theorem dQ_odds_71 : Dc Q_odds 71 (.iadd) 1 72 := ⟨by decide +kernel, rfl⟩
theorem dQ_odds_72 : Dc Q_odds 72 (.istore 4) 2 74 := ⟨by decide +kernel, rfl⟩
theorem dQ_odds_74 : Dc Q_odds 74 (.iinc 5 1) 3 77 := ⟨by decide +kernel, rfl⟩
theorem dQ_odds_77 : Dc Q_odds 77 (.goto (-36)) 3 80 := ⟨by decide +kernel, rfl⟩
theorem dQ_odds_80 : Dc Q_odds 80 (.bipush 16) 2 82 := ⟨by decide +kernel, rfl⟩
theorem dQ_odds_82 : Dc Q_odds 82 (.istore 5) 2 84 := ⟨by decide +kernel, rfl⟩
theorem dQ_odds_84 : Dc Q_odds 84 (.iload 4) 2 86 := ⟨by decide +kernel, rfl⟩
theorem dQ_odds_86 : Dc Q_odds 86 (.istore 6) 2 88 := ⟨by decide +kernel, rfl⟩
theorem dQ_odds_88 : Dc Q_odds 88 (.iload 6) 2 90 := ⟨by decide +kernel, rfl⟩
theorem dQ_odds_90 : Dc Q_odds 90 (.ifCond .eq 21) 3 93 := ⟨by decide +kernel, rfl⟩
theorem dQ_odds_93 : Dc Q_odds 93 (.iload 5) 2 95 := ⟨by decide +kernel, rfl⟩
theorem dQ_odds_95 : Dc Q_odds 95 (.iload 6) 2 97 := ⟨by decide +kernel, rfl⟩
theorem dQ_odds_97 : Dc Q_odds 97 (.irem) 1 98 := ⟨by decide +kernel, rfl⟩
theorem dQ_odds_98 : Dc Q_odds 98 (.istore 7) 2 100 := ⟨by decide +kernel, rfl⟩
theorem dQ_odds_100 : Dc Q_odds 100 (.iload 6) 2 102 := ⟨by decide +kernel, rfl⟩
theorem dQ_odds_102 : Dc Q_odds 102 (.istore 5) 2 104 := ⟨by decide +kernel, rfl⟩
theorem dQ_odds_104 : Dc Q_odds 104 (.iload 7) 2 106 := ⟨by decide +kernel, rfl⟩
theorem dQ_odds_106 : Dc Q_odds 106 (.istore 6) 2 108 := ⟨by decide +kernel, rfl⟩
theorem dQ_odds_108 : Dc Q_odds 108 (.goto (-20)) 3 111 := ⟨by decide +kernel, rfl⟩
theorem dQ_odds_111 : Dc Q_odds 111 (.lconst 1) 1 112 := ⟨by decide +kernel, rfl⟩
theorem dQ_odds_112 : Dc Q_odds 112 (.lstore 7) 2 114 := ⟨by decide +kernel, rfl⟩
theorem dQ_odds_114 : Dc Q_odds 114 (.iconst 0) 1 115 := ⟨by decide +kernel, rfl⟩
theorem dQ_odds_115 : Dc Q_odds 115 (.istore 9) 2 117 := ⟨by decide +kernel, rfl⟩
theorem dQ_odds_117 : Dc Q_odds 117 (.iload 9) 2 119 := ⟨by decide +kernel, rfl⟩
theorem dQ_odds_119 : Dc Q_odds 119 (.iload_n 2) 1 120 := ⟨by decide +kernel, rfl⟩
theorem dQ_odds_120 : Dc Q_odds 120 (.if_icmp .ge 29) 3 123 := ⟨by decide +kernel, rfl⟩
theorem dQ_odds_123 : Dc Q_odds 123 (.lload 7) 2 125 := ⟨by decide +kernel, rfl⟩
theorem dQ_odds_125 : Dc Q_odds 125 (.iload_n 3) 1 126 := ⟨by decide +kernel, rfl⟩
theorem dQ_odds_126 : Dc Q_odds 126 (.ifCond .ne 8) 3 129 := ⟨by decide +kernel, rfl⟩
theorem dQ_odds_129 : Dc Q_odds 129 (.iload 4) 2 131 := ⟨by decide +kernel, rfl⟩
theorem dQ_odds_131 : Dc Q_odds 131 (.goto 5) 3 134 := ⟨by decide +kernel, rfl⟩
theorem dQ_odds_134 : Dc Q_odds 134 (.bipush 16) 2 136 := ⟨by decide +kernel, rfl⟩
theorem dQ_odds_136 : Dc Q_odds 136 (.iload 5) 2 138 := ⟨by decide +kernel, rfl⟩
theorem dQ_odds_138 : Dc Q_odds 138 (.idiv) 1 139 := ⟨by decide +kernel, rfl⟩
theorem dQ_odds_139 : Dc Q_odds 139 (.i2l) 1 140 := ⟨by decide +kernel, rfl⟩
theorem dQ_odds_140 : Dc Q_odds 140 (.lmul) 1 141 := ⟨by decide +kernel, rfl⟩
theorem dQ_odds_141 : Dc Q_odds 141 (.lstore 7) 2 143 := ⟨by decide +kernel, rfl⟩
theorem dQ_odds_143 : Dc Q_odds 143 (.iinc 9 1) 3 146 := ⟨by decide +kernel, rfl⟩
theorem dQ_odds_146 : Dc Q_odds 146 (.goto (-29)) 3 149 := ⟨by decide +kernel, rfl⟩
theorem dQ_odds_149 : Dc Q_odds 149 (.lload 7) 2 151 := ⟨by decide +kernel, rfl⟩
theorem dQ_odds_151 : Dc Q_odds 151 (.lreturn) 1 152 := ⟨by decide +kernel, rfl⟩
theorem dQ_seed_0 : Dc Q_seed 0 (.aload_n 0) 1 1 := ⟨by decide +kernel, rfl⟩
theorem dQ_seed_1 : Dc Q_seed 1 (.iconst 2) 1 2 := ⟨by decide +kernel, rfl⟩
theorem dQ_seed_2 : Dc Q_seed 2 (.iload_n 1) 1 3 := ⟨by decide +kernel, rfl⟩
theorem dQ_seed_3 : Dc Q_seed 3 (.invokevirtual 98) 3 6 := ⟨by decide +kernel, rfl⟩
theorem dQ_seed_6 : Dc Q_seed 6 (.ireturn) 1 7 := ⟨by decide +kernel, rfl⟩
theorem dQ_feed_0 : Dc Q_feed 0 (.iload_n 2) 1 1 := ⟨by decide +kernel, rfl⟩
theorem dQ_feed_1 : Dc Q_feed 1 (.iconst 1) 1 2 := ⟨by decide +kernel, rfl⟩
theorem dQ_feed_2 : Dc Q_feed 2 (.iconst 4) 1 3 := ⟨by decide +kernel, rfl⟩
theorem dQ_feed_3 : Dc Q_feed 3 (.invokestatic 79) 3 6 := ⟨by decide +kernel, rfl⟩
theorem dQ_feed_6 : Dc Q_feed 6 (.ifCond .ne 10) 3 9 := ⟨by decide +kernel, rfl⟩
theorem dQ_feed_9 : Dc Q_feed 9 (.aload_n 0) 1 10 := ⟨by decide +kernel, rfl⟩
theorem dQ_feed_10 : Dc Q_feed 10 (.ldc 69) 2 12 := ⟨by decide +kernel, rfl⟩
theorem dQ_feed_12 : Dc Q_feed 12 (.invokevirtual 75) 3 15 := ⟨by decide +kernel, rfl⟩
theorem dQ_feed_15 : Dc Q_feed 15 (.ireturn) 1 16 := ⟨by decide +kernel, rfl⟩
theorem dQ_feed_16 : Dc Q_feed 16 (.aload_n 0) 1 17 := ⟨by decide +kernel, rfl⟩
theorem dQ_feed_17 : Dc Q_feed 17 (.getfield 250) 3 20 := ⟨by decide +kernel, rfl⟩
theorem dQ_feed_20 : Dc Q_feed 20 (.iload_n 2) 1 21 := ⟨by decide +kernel, rfl⟩
theorem dQ_feed_21 : Dc Q_feed 21 (.iadd) 1 22 := ⟨by decide +kernel, rfl⟩
theorem dQ_feed_22 : Dc Q_feed 22 (.bipush 120) 2 24 := ⟨by decide +kernel, rfl⟩
theorem dQ_feed_24 : Dc Q_feed 24 (.if_icmp .le 10) 3 27 := ⟨by decide +kernel, rfl⟩
theorem dQ_feed_27 : Dc Q_feed 27 (.aload_n 0) 1 28 := ⟨by decide +kernel, rfl⟩
theorem dQ_feed_28 : Dc Q_feed 28 (.ldc 104) 2 30 := ⟨by decide +kernel, rfl⟩
theorem dQ_feed_30 : Dc Q_feed 30 (.invokevirtual 75) 3 33 := ⟨by decide +kernel, rfl⟩
theorem dQ_feed_33 : Dc Q_feed 33 (.ireturn) 1 34 := ⟨by decide +kernel, rfl⟩
theorem dQ_feed_34 : Dc Q_feed 34 (.iload_n 2) 1 35 := ⟨by decide +kernel, rfl⟩
theorem dQ_feed_35 : Dc Q_feed 35 (.iconst 1) 1 36 := ⟨by decide +kernel, rfl⟩
theorem dQ_feed_36 : Dc Q_feed 36 (.isub) 1 37 := ⟨by decide +kernel, rfl⟩
theorem dQ_feed_37 : Dc Q_feed 37 (.istore_n 3) 1 38 := ⟨by decide +kernel, rfl⟩
theorem dQ_feed_38 : Dc Q_feed 38 (.iload_n 3) 1 39 := ⟨by decide +kernel, rfl⟩
theorem dQ_feed_39 : Dc Q_feed 39 (.ifCond .lt 38) 3 42 := ⟨by decide +kernel, rfl⟩
theorem dQ_feed_42 : Dc Q_feed 42 (.aload_n 0) 1 43 := ⟨by decide +kernel, rfl⟩
theorem dQ_feed_43 : Dc Q_feed 43 (.getfield 22) 3 46 := ⟨by decide +kernel, rfl⟩
theorem dQ_feed_46 : Dc Q_feed 46 (.aload_n 0) 1 47 := ⟨by decide +kernel, rfl⟩
theorem dQ_feed_47 : Dc Q_feed 47 (.getfield 250) 3 50 := ⟨by decide +kernel, rfl⟩
theorem dQ_feed_50 : Dc Q_feed 50 (.iload_n 1) 1 51 := ⟨by decide +kernel, rfl⟩
theorem dQ_feed_51 : Dc Q_feed 51 (.bipush 8) 2 53 := ⟨by decide +kernel, rfl⟩
theorem dQ_feed_53 : Dc Q_feed 53 (.iload_n 3) 1 54 := ⟨by decide +kernel, rfl⟩
theorem dQ_feed_54 : Dc Q_feed 54 (.imul) 1 55 := ⟨by decide +kernel, rfl⟩
theorem dQ_feed_55 : Dc Q_feed 55 (.ishr) 1 56 := ⟨by decide +kernel, rfl⟩
theorem dQ_feed_56 : Dc Q_feed 56 (.sipush 255) 3 59 := ⟨by decide +kernel, rfl⟩
theorem dQ_feed_59 : Dc Q_feed 59 (.iand) 1 60 := ⟨by decide +kernel, rfl⟩
theorem dQ_feed_60 : Dc Q_feed 60 (.iastore) 1 61 := ⟨by decide +kernel, rfl⟩
theorem dQ_feed_61 : Dc Q_feed 61 (.aload_n 0) 1 62 := ⟨by decide +kernel, rfl⟩
theorem dQ_feed_62 : Dc Q_feed 62 (.dup) 1 63 := ⟨by decide +kernel, rfl⟩
theorem dQ_feed_63 : Dc Q_feed 63 (.getfield 250) 3 66 := ⟨by decide +kernel, rfl⟩
theorem dQ_feed_66 : Dc Q_feed 66 (.iconst 1) 1 67 := ⟨by decide +kernel, rfl⟩
theorem dQ_feed_67 : Dc Q_feed 67 (.iadd) 1 68 := ⟨by decide +kernel, rfl⟩
theorem dQ_feed_68 : Dc Q_feed 68 (.putfield 250) 3 71 := ⟨by decide +kernel, rfl⟩
theorem dQ_feed_71 : Dc Q_feed 71 (.iinc 3 (-1)) 3 74 := ⟨by decide +kernel, rfl⟩
theorem dQ_feed_74 : Dc Q_feed 74 (.goto (-36)) 3 77 := ⟨by decide +kernel, rfl⟩
theorem dQ_feed_77 : Dc Q_feed 77 (.aload_n 0) 1 78 := ⟨by decide +kernel, rfl⟩
theorem dQ_feed_78 : Dc Q_feed 78 (.getfield 250) 3 81 := ⟨by decide +kernel, rfl⟩
theorem dQ_feed_81 : Dc Q_feed 81 (.ireturn) 1 82 := ⟨by decide +kernel, rfl⟩
theorem dQ_wipe_0 : Dc Q_wipe 0 (.aload_n 0) 1 1 := ⟨by decide +kernel, rfl⟩
theorem dQ_wipe_1 : Dc Q_wipe 1 (.getfield 250) 3 4 := ⟨by decide +kernel, rfl⟩
theorem dQ_wipe_4 : Dc Q_wipe 4 (.istore_n 1) 1 5 := ⟨by decide +kernel, rfl⟩
theorem dQ_wipe_5 : Dc Q_wipe 5 (.aload_n 0) 1 6 := ⟨by decide +kernel, rfl⟩
theorem dQ_wipe_6 : Dc Q_wipe 6 (.iconst 0) 1 7 := ⟨by decide +kernel, rfl⟩
theorem dQ_wipe_7 : Dc Q_wipe 7 (.putfield 250) 3 10 := ⟨by decide +kernel, rfl⟩
theorem dQ_wipe_10 : Dc Q_wipe 10 (.iload_n 1) 1 11 := ⟨by decide +kernel, rfl⟩
theorem dQ_wipe_11 : Dc Q_wipe 11 (.ireturn) 1 12 := ⟨by decide +kernel, rfl⟩
theorem dQ_text_0 : Dc Q_text 0 (.aload_n 0) 1 1 := ⟨by decide +kernel, rfl⟩
theorem dQ_text_1 : Dc Q_text 1 (.iconst 0) 1 2 := ⟨by decide +kernel, rfl⟩
theorem dQ_text_2 : Dc Q_text 2 (.putfield 253) 3 5 := ⟨by decide +kernel, rfl⟩
theorem dQ_text_5 : Dc Q_text 5 (.aload_n 0) 1 6 := ⟨by decide +kernel, rfl⟩
theorem dQ_text_6 : Dc Q_text 6 (.iconst 0) 1 7 := ⟨by decide +kernel, rfl⟩
theorem dQ_text_7 : Dc Q_text 7 (.putfield 275) 3 10 := ⟨by decide +kernel, rfl⟩
theorem dQ_text_10 : Dc Q_text 10 (.aload_n 0) 1 11 := ⟨by decide +kernel, rfl⟩
theorem dQ_text_11 : Dc Q_text 11 (.iconst 0) 1 12 := ⟨by decide +kernel, rfl⟩
theorem dQ_text_12 : Dc Q_text 12 (.putfield 286) 3 15 := ⟨by decide +kernel, rfl⟩
theorem dQ_text_15 : Dc Q_text 15 (.aload_n 0) 1 16 := ⟨by decide +kernel, rfl⟩
theorem dQ_text_16 : Dc Q_text 16 (.aload_n 0) 1 17 := ⟨by decide +kernel, rfl⟩
theorem dQ_text_17 : Dc Q_text 17 (.getfield 9) 3 20 := ⟨by decide +kernel, rfl⟩
theorem dQ_text_20 : Dc Q_text 20 (.iconst 1) 1 21 := ⟨by decide +kernel, rfl⟩
theorem dQ_text_21 : Dc Q_text 21 (.iaload) 1 22 := ⟨by decide +kernel, rfl⟩
theorem dQ_text_22 : Dc Q_text 22 (.putfield 299) 3 25 := ⟨by decide +kernel, rfl⟩
theorem dQ_text_25 : Dc Q_text 25 (.aload_n 0) 1 26 := ⟨by decide +kernel, rfl⟩
theorem dQ_text_26 : Dc Q_text 26 (.invokevirtual 279) 3 29 := ⟨by decide +kernel, rfl⟩
theorem dQ_text_29 : Dc Q_text 29 (.aload_n 0) 1 30 := ⟨by decide +kernel, rfl⟩
theorem dQ_text_30 : Dc Q_text 30 (.invokevirtual 327) 3 33 := ⟨by decide +kernel, rfl⟩
theorem dQ_text_33 : Dc Q_text 33 (.aload_n 0) 1 34 := ⟨by decide +kernel, rfl⟩
theorem dQ_text_34 : Dc Q_text 34 (.getfield 275) 3 37 := ⟨by decide +kernel, rfl⟩
theorem dQ_text_37 : Dc Q_text 37 (.ifCond .ne 37) 3 40 := ⟨by decide +kernel, rfl⟩
theorem dQ_text_40 : Dc Q_text 40 (.aload_n 0) 1 41 := ⟨by decide +kernel, rfl⟩
theorem dQ_text_41 : Dc Q_text 41 (.getfield 265) 3 44 := ⟨by decide +kernel, rfl⟩
theorem dQ_text_44 : Dc Q_text 44 (.iconst 3) 1 45 := ⟨by decide +kernel, rfl⟩
theorem dQ_text_45 : Dc Q_text 45 (.if_icmp .ne 29) 3 48 := ⟨by decide +kernel, rfl⟩
theorem dQ_text_48 : Dc Q_text 48 (.aload_n 0) 1 49 := ⟨by decide +kernel, rfl⟩
theorem dQ_text_49 : Dc Q_text 49 (.getfield 22) 3 52 := ⟨by decide +kernel, rfl⟩
theorem dQ_text_52 : Dc Q_text 52 (.aload_n 0) 1 53 := ⟨by decide +kernel, rfl⟩
theorem dQ_text_53 : Dc Q_text 53 (.getfield 256) 3 56 := ⟨by decide +kernel, rfl⟩
theorem dQ_text_56 : Dc Q_text 56 (.iaload) 1 57 := ⟨by decide +kernel, rfl⟩
theorem dQ_text_57 : Dc Q_text 57 (.bipush 59) 2 59 := ⟨by decide +kernel, rfl⟩
theorem dQ_text_59 : Dc Q_text 59 (.if_icmp .ne 15) 3 62 := ⟨by decide +kernel, rfl⟩
theorem dQ_text_62 : Dc Q_text 62 (.aload_n 0) 1 63 := ⟨by decide +kernel, rfl⟩
theorem dQ_text_63 : Dc Q_text 63 (.iconst 1) 1 64 := ⟨by decide +kernel, rfl⟩
theorem dQ_text_64 : Dc Q_text 64 (.invokevirtual 282) 3 67 := ⟨by decide +kernel, rfl⟩
theorem dQ_text_67 : Dc Q_text 67 (.aload_n 0) 1 68 := ⟨by decide +kernel, rfl⟩
theorem dQ_text_68 : Dc Q_text 68 (.invokevirtual 327) 3 71 := ⟨by decide +kernel, rfl⟩
theorem dQ_text_71 : Dc Q_text 71 (.goto (-38)) 3 74 := ⟨by decide +kernel, rfl⟩
theorem dQ_text_74 : Dc Q_text 74 (.aload_n 0) 1 75 := ⟨by decide +kernel, rfl⟩
theorem dQ_text_75 : Dc Q_text 75 (.aload_n 0) 1 76 := ⟨by decide +kernel, rfl⟩
theorem dQ_text_76 : Dc Q_text 76 (.getfield 265) 3 79 := ⟨by decide +kernel, rfl⟩
theorem dQ_text_79 : Dc Q_text 79 (.ifCond .ne 7) 3 82 := ⟨by decide +kernel, rfl⟩
theorem dQ_text_82 : Dc Q_text 82 (.iconst 1) 1 83 := ⟨by decide +kernel, rfl⟩
theorem dQ_text_83 : Dc Q_text 83 (.goto 4) 3 86 := ⟨by decide +kernel, rfl⟩
theorem dQ_text_86 : Dc Q_text 86 (.iconst 0) 1 87 := ⟨by decide +kernel, rfl⟩
theorem dQ_text_87 : Dc Q_text 87 (.invokevirtual 282) 3 90 := ⟨by decide +kernel, rfl⟩
theorem dQ_text_90 : Dc Q_text 90 (.aload_n 0) 1 91 := ⟨by decide +kernel, rfl⟩
theorem dQ_text_91 : Dc Q_text 91 (.iconst 0) 1 92 := ⟨by decide +kernel, rfl⟩
theorem dQ_text_92 : Dc Q_text 92 (.putfield 250) 3 95 := ⟨by decide +kernel, rfl⟩
theorem dQ_text_95 : Dc Q_text 95 (.aload_n 0) 1 96 := ⟨by decide +kernel, rfl⟩
theorem dQ_text_96 : Dc Q_text 96 (.getfield 275) 3 99 := ⟨by decide +kernel, rfl⟩
theorem dQ_text_99 : Dc Q_text 99 (.ifCond .eq 10) 3 102 := ⟨by decide +kernel, rfl⟩
theorem dQ_text_102 : Dc Q_text 102 (.iconst (-1)) 1 103 := ⟨by decide +kernel, rfl⟩
theorem dQ_text_103 : Dc Q_text 103 (.aload_n 0) 1 104 := ⟨by decide +kernel, rfl⟩
theorem dQ_text_104 : Dc Q_text 104 (.getfield 256) 3 107 := ⟨by decide +kernel, rfl⟩
theorem dQ_text_107 : Dc Q_text 107 (.isub) 1 108 := ⟨by decide +kernel, rfl⟩
theorem dQ_text_108 : Dc Q_text 108 (.ireturn) 1 109 := ⟨by decide +kernel, rfl⟩
theorem dQ_text_109 : Dc Q_text 109 (.iconst 0) 1 110 := ⟨by decide +kernel, rfl⟩
theorem dQ_text_110 : Dc Q_text 110 (.istore_n 1) 1 111 := ⟨by decide +kernel, rfl⟩
theorem dQ_text_111 : Dc Q_text 111 (.iload_n 1) 1 112 := ⟨by decide +kernel, rfl⟩
theorem dQ_text_112 : Dc Q_text 112 (.aload_n 0) 1 113 := ⟨by decide +kernel, rfl⟩
theorem dQ_text_113 : Dc Q_text 113 (.getfield 286) 3 116 := ⟨by decide +kernel, rfl⟩
theorem dQ_text_116 : Dc Q_text 116 (.if_icmp .ge 14) 3 119 := ⟨by decide +kernel, rfl⟩
theorem dQ_text_119 : Dc Q_text 119 (.aload_n 0) 1 120 := ⟨by decide +kernel, rfl⟩
theorem dQ_text_120 : Dc Q_text 120 (.iload_n 1) 1 121 := ⟨by decide +kernel, rfl⟩
theorem dQ_text_121 : Dc Q_text 121 (.invokevirtual 330) 3 124 := ⟨by decide +kernel, rfl⟩
theorem dQ_text_124 : Dc Q_text 124 (.iinc 1 1) 3 127 := ⟨by decide +kernel, rfl⟩
theorem dQ_text_127 : Dc Q_text 127 (.goto (-16)) 3 130 := ⟨by decide +kernel, rfl⟩
theorem dQ_text_130 : Dc Q_text 130 (.aload_n 0) 1 131 := ⟨by decide +kernel, rfl⟩
theorem dQ_text_131 : Dc Q_text 131 (.getfield 286) 3 134 := ⟨by decide +kernel, rfl⟩
theorem dQ_text_134 : Dc Q_text 134 (.ireturn) 1 135 := ⟨by decide +kernel, rfl⟩
theorem dQ_token_0 : Dc Q_token 0 (.aload_n 0) 1 1 := ⟨by decide +kernel, rfl⟩
theorem dQ_token_1 : Dc Q_token 1 (.aload_n 0) 1 2 := ⟨by decide +kernel, rfl⟩
theorem dQ_token_2 : Dc Q_token 2 (.getfield 253) 3 5 := ⟨by decide +kernel, rfl⟩
theorem dQ_token_5 : Dc Q_token 5 (.putfield 256) 3 8 := ⟨by decide +kernel, rfl⟩
theorem dQ_token_8 : Dc Q_token 8 (.aload_n 0) 1 9 := ⟨by decide +kernel, rfl⟩
theorem dQ_token_9 : Dc Q_token 9 (.aload_n 0) 1 10 := ⟨by decide +kernel, rfl⟩
theorem dQ_token_10 : Dc Q_token 10 (.getfield 256) 3 13 := ⟨by decide +kernel, rfl⟩
theorem dQ_token_13 : Dc Q_token 13 (.invokevirtual 259) 3 16 := ⟨by decide +kernel, rfl⟩
theorem dQ_token_16 : Dc Q_token 16 (.bipush 32) 2 18 := ⟨by decide +kernel, rfl⟩
theorem dQ_token_18 : Dc Q_token 18 (.if_icmp .ne 16) 3 21 := ⟨by decide +kernel, rfl⟩
theorem dQ_token_21 : Dc Q_token 21 (.aload_n 0) 1 22 := ⟨by decide +kernel, rfl⟩
theorem dQ_token_22 : Dc Q_token 22 (.dup) 1 23 := ⟨by decide +kernel, rfl⟩
theorem dQ_token_23 : Dc Q_token 23 (.getfield 256) 3 26 := ⟨by decide +kernel, rfl⟩
theorem dQ_token_26 : Dc Q_token 26 (.iconst 1) 1 27 := ⟨by decide +kernel, rfl⟩
theorem dQ_token_27 : Dc Q_token 27 (.iadd) 1 28 := ⟨by decide +kernel, rfl⟩
theorem dQ_token_28 : Dc Q_token 28 (.putfield 256) 3 31 := ⟨by decide +kernel, rfl⟩
theorem dQ_token_31 : Dc Q_token 31 (.goto (-23)) 3 34 := ⟨by decide +kernel, rfl⟩
theorem dQ_token_34 : Dc Q_token 34 (.aload_n 0) 1 35 := ⟨by decide +kernel, rfl⟩
theorem dQ_token_35 : Dc Q_token 35 (.aload_n 0) 1 36 := ⟨by decide +kernel, rfl⟩
theorem dQ_token_36 : Dc Q_token 36 (.getfield 256) 3 39 := ⟨by decide +kernel, rfl⟩
theorem dQ_token_39 : Dc Q_token 39 (.invokevirtual 259) 3 42 := ⟨by decide +kernel, rfl⟩
theorem dQ_token_42 : Dc Q_token 42 (.istore_n 1) 1 43 := ⟨by decide +kernel, rfl⟩
theorem dQ_token_43 : Dc Q_token 43 (.aload_n 0) 1 44 := ⟨by decide +kernel, rfl⟩
theorem dQ_token_44 : Dc Q_token 44 (.aload_n 0) 1 45 := ⟨by decide +kernel, rfl⟩
theorem dQ_token_45 : Dc Q_token 45 (.getfield 256) 3 48 := ⟨by decide +kernel, rfl⟩
theorem dQ_token_48 : Dc Q_token 48 (.putfield 253) 3 51 := ⟨by decide +kernel, rfl⟩
theorem dQ_token_51 : Dc Q_token 51 (.aload_n 0) 1 52 := ⟨by decide +kernel, rfl⟩
theorem dQ_token_52 : Dc Q_token 52 (.iconst 0) 1 53 := ⟨by decide +kernel, rfl⟩
theorem dQ_token_53 : Dc Q_token 53 (.putfield 262) 3 56 := ⟨by decide +kernel, rfl⟩
theorem dQ_token_56 : Dc Q_token 56 (.iload_n 1) 1 57 := ⟨by decide +kernel, rfl⟩
theorem dQ_token_57 : Dc Q_token 57 (.ifCond .ge 11) 3 60 := ⟨by decide +kernel, rfl⟩
theorem dQ_token_60 : Dc Q_token 60 (.aload_n 0) 1 61 := ⟨by decide +kernel, rfl⟩
theorem dQ_token_61 : Dc Q_token 61 (.iconst 0) 1 62 := ⟨by decide +kernel, rfl⟩
theorem dQ_token_62 : Dc Q_token 62 (.putfield 265) 3 65 := ⟨by decide +kernel, rfl⟩
theorem dQ_token_65 : Dc Q_token 65 (.goto 141) 3 68 := ⟨by decide +kernel, rfl⟩
theorem dQ_token_68 : Dc Q_token 68 (.iload_n 1) 1 69 := ⟨by decide +kernel, rfl⟩
theorem dQ_token_69 : Dc Q_token 69 (.bipush 97) 2 71 := ⟨by decide +kernel, rfl⟩
theorem dQ_token_71 : Dc Q_token 71 (.bipush 122) 2 73 := ⟨by decide +kernel, rfl⟩
theorem dQ_token_73 : Dc Q_token 73 (.invokestatic 79) 3 76 := ⟨by decide +kernel, rfl⟩
theorem dQ_token_76 : Dc Q_token 76 (.ifCond .eq 39) 3 79 := ⟨by decide +kernel, rfl⟩
theorem dQ_token_79 : Dc Q_token 79 (.aload_n 0) 1 80 := ⟨by decide +kernel, rfl⟩
theorem dQ_token_80 : Dc Q_token 80 (.iconst 1) 1 81 := ⟨by decide +kernel, rfl⟩
theorem dQ_token_81 : Dc Q_token 81 (.putfield 265) 3 84 := ⟨by decide +kernel, rfl⟩
theorem dQ_token_84 : Dc Q_token 84 (.aload_n 0) 1 85 := ⟨by decide +kernel, rfl⟩
theorem dQ_token_85 : Dc Q_token 85 (.aload_n 0) 1 86 := ⟨by decide +kernel, rfl⟩
theorem dQ_token_86 : Dc Q_token 86 (.getfield 253) 3 89 := ⟨by decide +kernel, rfl⟩
theorem dQ_token_89 : Dc Q_token 89 (.invokevirtual 259) 3 92 := ⟨by decide +kernel, rfl⟩
theorem dQ_token_92 : Dc Q_token 92 (.bipush 97) 2 94 := ⟨by decide +kernel, rfl⟩
theorem dQ_token_94 : Dc Q_token 94 (.bipush 122) 2 96 := ⟨by decide +kernel, rfl⟩
theorem dQ_token_96 : Dc Q_token 96 (.invokestatic 79) 3 99 := ⟨by decide +kernel, rfl⟩
theorem dQ_token_99 : Dc Q_token 99 (.ifCond .eq 107) 3 102 := ⟨by decide +kernel, rfl⟩
theorem dQ_token_102 : Dc Q_token 102 (.aload_n 0) 1 103 := ⟨by decide +kernel, rfl⟩
theorem dQ_token_103 : Dc Q_token 103 (.dup) 1 104 := ⟨by decide +kernel, rfl⟩
theorem dQ_token_104 : Dc Q_token 104 (.getfield 253) 3 107 := ⟨by decide +kernel, rfl⟩
theorem dQ_token_107 : Dc Q_token 107 (.iconst 1) 1 108 := ⟨by decide +kernel, rfl⟩
theorem dQ_token_108 : Dc Q_token 108 (.iadd) 1 109 := ⟨by decide +kernel, rfl⟩
theorem dQ_token_109 : Dc Q_token 109 (.putfield 253) 3 112 := ⟨by decide +kernel, rfl⟩
theorem dQ_token_112 : Dc Q_token 112 (.goto (-28)) 3 115 := ⟨by decide +kernel, rfl⟩
theorem dQ_token_115 : Dc Q_token 115 (.iload_n 1) 1 116 := ⟨by decide +kernel, rfl⟩
theorem dQ_token_116 : Dc Q_token 116 (.bipush 48) 2 118 := ⟨by decide +kernel, rfl⟩
theorem dQ_token_118 : Dc Q_token 118 (.bipush 57) 2 120 := ⟨by decide +kernel, rfl⟩
theorem dQ_token_120 : Dc Q_token 120 (.invokestatic 79) 3 123 := ⟨by decide +kernel, rfl⟩
theorem dQ_token_123 : Dc Q_token 123 (.ifCond .eq 68) 3 126 := ⟨by decide +kernel, rfl⟩
theorem dQ_token_126 : Dc Q_token 126 (.aload_n 0) 1 127 := ⟨by decide +kernel, rfl⟩
theorem dQ_token_127 : Dc Q_token 127 (.iconst 2) 1 128 := ⟨by decide +kernel, rfl⟩
theorem dQ_token_128 : Dc Q_token 128 (.putfield 265) 3 131 := ⟨by decide +kernel, rfl⟩
theorem dQ_token_131 : Dc Q_token 131 (.aload_n 0) 1 132 := ⟨by decide +kernel, rfl⟩
theorem dQ_token_132 : Dc Q_token 132 (.aload_n 0) 1 133 := ⟨by decide +kernel, rfl⟩
theorem dQ_token_133 : Dc Q_token 133 (.getfield 253) 3 136 := ⟨by decide +kernel, rfl⟩
theorem dQ_token_136 : Dc Q_token 136 (.invokevirtual 259) 3 139 := ⟨by decide +kernel, rfl⟩
theorem dQ_token_139 : Dc Q_token 139 (.bipush 48) 2 141 := ⟨by decide +kernel, rfl⟩
theorem dQ_token_141 : Dc Q_token 141 (.bipush 57) 2 143 := ⟨by decide +kernel, rfl⟩
theorem dQ_token_143 : Dc Q_token 143 (.invokestatic 79) 3 146 := ⟨by decide +kernel, rfl⟩
theorem dQ_token_146 : Dc Q_token 146 (.ifCond .eq 60) 3 149 := ⟨by decide +kernel, rfl⟩
theorem dQ_token_149 : Dc Q_token 149 (.aload_n 0) 1 150 := ⟨by decide +kernel, rfl⟩
theorem dQ_token_150 : Dc Q_token 150 (.sipush 10000) 3 153 := ⟨by decide +kernel, rfl⟩
theorem dQ_token_153 : Dc Q_token 153 (.bipush 10) 2 155 := ⟨by decide +kernel, rfl⟩
theorem dQ_token_155 : Dc Q_token 155 (.aload_n 0) 1 156 := ⟨by decide +kernel, rfl⟩
theorem dQ_token_156 : Dc Q_token 156 (.getfield 262) 3 159 := ⟨by decide +kernel, rfl⟩
theorem dQ_token_159 : Dc Q_token 159 (.imul) 1 160 := ⟨by decide +kernel, rfl⟩
theorem dQ_token_160 : Dc Q_token 160 (.aload_n 0) 1 161 := ⟨by decide +kernel, rfl⟩
theorem dQ_token_161 : Dc Q_token 161 (.aload_n 0) 1 162 := ⟨by decide +kernel, rfl⟩
theorem dQ_token_162 : Dc Q_token 162 (.getfield 253) 3 165 := ⟨by decide +kernel, rfl⟩
theorem dQ_token_165 : Dc Q_token 165 (.invokevirtual 259) 3 168 := ⟨by decide +kernel, rfl⟩
theorem dQ_token_168 : Dc Q_token 168 (.iadd) 1 169 := ⟨by decide +kernel, rfl⟩
theorem dQ_token_169 : Dc Q_token 169 (.bipush 48) 2 171 := ⟨by decide +kernel, rfl⟩
theorem dQ_token_171 : Dc Q_token 171 (.isub) 1 172 := ⟨by decide +kernel, rfl⟩
theorem dQ_token_172 : Dc Q_token 172 (.invokestatic 148) 3 175 := ⟨by decide +kernel, rfl⟩
theorem dQ_token_175 : Dc Q_token 175 (.putfield 262) 3 178 := ⟨by decide +kernel, rfl⟩
theorem dQ_token_178 : Dc Q_token 178 (.aload_n 0) 1 179 := ⟨by decide +kernel, rfl⟩
theorem dQ_token_179 : Dc Q_token 179 (.dup) 1 180 := ⟨by decide +kernel, rfl⟩
theorem dQ_token_180 : Dc Q_token 180 (.getfield 253) 3 183 := ⟨by decide +kernel, rfl⟩
theorem dQ_token_183 : Dc Q_token 183 (.iconst 1) 1 184 := ⟨by decide +kernel, rfl⟩
theorem dQ_token_184 : Dc Q_token 184 (.iadd) 1 185 := ⟨by decide +kernel, rfl⟩
theorem dQ_token_185 : Dc Q_token 185 (.putfield 253) 3 188 := ⟨by decide +kernel, rfl⟩
theorem dQ_token_188 : Dc Q_token 188 (.goto (-57)) 3 191 := ⟨by decide +kernel, rfl⟩
theorem dQ_token_191 : Dc Q_token 191 (.aload_n 0) 1 192 := ⟨by decide +kernel, rfl⟩
theorem dQ_token_192 : Dc Q_token 192 (.iconst 3) 1 193 := ⟨by decide +kernel, rfl⟩
theorem dQ_token_193 : Dc Q_token 193 (.putfield 265) 3 196 := ⟨by decide +kernel, rfl⟩
theorem dQ_token_196 : Dc Q_token 196 (.aload_n 0) 1 197 := ⟨by decide +kernel, rfl⟩
theorem dQ_token_197 : Dc Q_token 197 (.dup) 1 198 := ⟨by decide +kernel, rfl⟩
theorem dQ_token_198 : Dc Q_token 198 (.getfield 253) 3 201 := ⟨by decide +kernel, rfl⟩
theorem dQ_token_201 : Dc Q_token 201 (.iconst 1) 1 202 := ⟨by decide +kernel, rfl⟩
theorem dQ_token_202 : Dc Q_token 202 (.iadd) 1 203 := ⟨by decide +kernel, rfl⟩
theorem dQ_token_203 : Dc Q_token 203 (.putfield 253) 3 206 := ⟨by decide +kernel, rfl⟩
theorem dQ_token_206 : Dc Q_token 206 (.return_) 1 207 := ⟨by decide +kernel, rfl⟩
theorem dQ_byteAt_0 : Dc Q_byteAt 0 (.iload_n 1) 1 1 := ⟨by decide +kernel, rfl⟩
theorem dQ_byteAt_1 : Dc Q_byteAt 1 (.aload_n 0) 1 2 := ⟨by decide +kernel, rfl⟩
theorem dQ_byteAt_2 : Dc Q_byteAt 2 (.getfield 250) 3 5 := ⟨by decide +kernel, rfl⟩
theorem dQ_byteAt_5 : Dc Q_byteAt 5 (.if_icmp .ge 12) 3 8 := ⟨by decide +kernel, rfl⟩
theorem dQ_byteAt_8 : Dc Q_byteAt 8 (.aload_n 0) 1 9 := ⟨by decide +kernel, rfl⟩
theorem dQ_byteAt_9 : Dc Q_byteAt 9 (.getfield 22) 3 12 := ⟨by decide +kernel, rfl⟩
theorem dQ_byteAt_12 : Dc Q_byteAt 12 (.iload_n 1) 1 13 := ⟨by decide +kernel, rfl⟩
theorem dQ_byteAt_13 : Dc Q_byteAt 13 (.iaload) 1 14 := ⟨by decide +kernel, rfl⟩
theorem dQ_byteAt_14 : Dc Q_byteAt 14 (.goto 4) 3 17 := ⟨by decide +kernel, rfl⟩
theorem dQ_byteAt_17 : Dc Q_byteAt 17 (.iconst (-1)) 1 18 := ⟨by decide +kernel, rfl⟩
theorem dQ_byteAt_18 : Dc Q_byteAt 18 (.ireturn) 1 19 := ⟨by decide +kernel, rfl⟩
theorem dQ_readItem_0 : Dc Q_readItem 0 (.iconst (-1)) 1 1 := ⟨by decide +kernel, rfl⟩
theorem dQ_readItem_1 : Dc Q_readItem 1 (.istore_n 1) 1 2 := ⟨by decide +kernel, rfl⟩
theorem dQ_readItem_2 : Dc Q_readItem 2 (.iconst 0) 1 3 := ⟨by decide +kernel, rfl⟩
theorem dQ_readItem_3 : Dc Q_readItem 3 (.istore_n 2) 1 4 := ⟨by decide +kernel, rfl⟩
theorem dQ_readItem_4 : Dc Q_readItem 4 (.iload_n 2) 1 5 := ⟨by decide +kernel, rfl⟩
theorem dQ_readItem_5 : Dc Q_readItem 5 (.aload_n 0) 1 6 := ⟨by decide +kernel, rfl⟩
theorem dQ_readItem_6 : Dc Q_readItem 6 (.getfield 41) 3 9 := ⟨by decide +kernel, rfl⟩
theorem dQ_readItem_9 : Dc Q_readItem 9 (.arraylength) 1 10 := ⟨by decide +kernel, rfl⟩
theorem dQ_readItem_10 : Dc Q_readItem 10 (.if_icmp .ge 28) 3 13 := ⟨by decide +kernel, rfl⟩
theorem dQ_readItem_13 : Dc Q_readItem 13 (.aload_n 0) 1 14 := ⟨by decide +kernel, rfl⟩
theorem dQ_readItem_14 : Dc Q_readItem 14 (.aload_n 0) 1 15 := ⟨by decide +kernel, rfl⟩
theorem dQ_readItem_15 : Dc Q_readItem 15 (.getfield 41) 3 18 := ⟨by decide +kernel, rfl⟩
theorem dQ_readItem_18 : Dc Q_readItem 18 (.iload_n 2) 1 19 := ⟨by decide +kernel, rfl⟩
theorem dQ_readItem_19 : Dc Q_readItem 19 (.aaload) 1 20 := ⟨by decide +kernel, rfl⟩
theorem dQ_readItem_20 : Dc Q_readItem 20 (.invokevirtual 289) 3 23 := ⟨by decide +kernel, rfl⟩
theorem dQ_readItem_23 : Dc Q_readItem 23 (.ifCond .eq 7) 3 26 := ⟨by decide +kernel, rfl⟩
theorem dQ_readItem_26 : Dc Q_readItem 26 (.iload_n 2) 1 27 := ⟨by decide +kernel, rfl⟩
theorem dQ_readItem_27 : Dc Q_readItem 27 (.goto 4) 3 30 := ⟨by decide +kernel, rfl⟩
theorem dQ_readItem_30 : Dc Q_readItem 30 (.iload_n 1) 1 31 := ⟨by decide +kernel, rfl⟩
theorem dQ_readItem_31 : Dc Q_readItem 31 (.istore_n 1) 1 32 := ⟨by decide +kernel, rfl⟩
theorem dQ_readItem_32 : Dc Q_readItem 32 (.iinc 2 1) 3 35 := ⟨by decide +kernel, rfl⟩
theorem dQ_readItem_35 : Dc Q_readItem 35 (.goto (-31)) 3 38 := ⟨by decide +kernel, rfl⟩
theorem dQ_readItem_38 : Dc Q_readItem 38 (.iload_n 1) 1 39 := ⟨by decide +kernel, rfl⟩
theorem dQ_readItem_39 : Dc Q_readItem 39 (.ifCond .lt 11) 3 42 := ⟨by decide +kernel, rfl⟩
theorem dQ_readItem_42 : Dc Q_readItem 42 (.aload_n 0) 1 43 := ⟨by decide +kernel, rfl⟩
theorem dQ_readItem_43 : Dc Q_readItem 43 (.iload_n 1) 1 44 := ⟨by decide +kernel, rfl⟩
theorem dQ_readItem_44 : Dc Q_readItem 44 (.invokevirtual 316) 3 47 := ⟨by decide +kernel, rfl⟩
theorem dQ_readItem_47 : Dc Q_readItem 47 (.goto 102) 3 50 := ⟨by decide +kernel, rfl⟩
theorem dQ_readItem_50 : Dc Q_readItem 50 (.aload_n 0) 1 51 := ⟨by decide +kernel, rfl⟩
theorem dQ_readItem_51 : Dc Q_readItem 51 (.ldc_w 319) 3 54 := ⟨by decide +kernel, rfl⟩
theorem dQ_readItem_54 : Dc Q_readItem 54 (.invokevirtual 293) 3 57 := ⟨by decide +kernel, rfl⟩
theorem dQ_readItem_57 : Dc Q_readItem 57 (.ifCond .eq 21) 3 60 := ⟨by decide +kernel, rfl⟩
theorem dQ_readItem_60 : Dc Q_readItem 60 (.aload_n 0) 1 61 := ⟨by decide +kernel, rfl⟩
theorem dQ_readItem_61 : Dc Q_readItem 61 (.bipush 10) 2 63 := ⟨by decide +kernel, rfl⟩
theorem dQ_readItem_63 : Dc Q_readItem 63 (.aload_n 0) 1 64 := ⟨by decide +kernel, rfl⟩
theorem dQ_readItem_64 : Dc Q_readItem 64 (.iconst 0) 1 65 := ⟨by decide +kernel, rfl⟩
theorem dQ_readItem_65 : Dc Q_readItem 65 (.bipush 15) 2 67 := ⟨by decide +kernel, rfl⟩
theorem dQ_readItem_67 : Dc Q_readItem 67 (.invokevirtual 296) 3 70 := ⟨by decide +kernel, rfl⟩
theorem dQ_readItem_70 : Dc Q_readItem 70 (.iconst 0) 1 71 := ⟨by decide +kernel, rfl⟩
theorem dQ_readItem_71 : Dc Q_readItem 71 (.iconst 0) 1 72 := ⟨by decide +kernel, rfl⟩
theorem dQ_readItem_72 : Dc Q_readItem 72 (.invokevirtual 312) 3 75 := ⟨by decide +kernel, rfl⟩
theorem dQ_readItem_75 : Dc Q_readItem 75 (.goto 74) 3 78 := ⟨by decide +kernel, rfl⟩
theorem dQ_readItem_78 : Dc Q_readItem 78 (.aload_n 0) 1 79 := ⟨by decide +kernel, rfl⟩
theorem dQ_readItem_79 : Dc Q_readItem 79 (.ldc_w 321) 3 82 := ⟨by decide +kernel, rfl⟩
theorem dQ_readItem_82 : Dc Q_readItem 82 (.invokevirtual 293) 3 85 := ⟨by decide +kernel, rfl⟩
theorem dQ_readItem_85 : Dc Q_readItem 85 (.ifCond .eq 21) 3 88 := ⟨by decide +kernel, rfl⟩
theorem dQ_readItem_88 : Dc Q_readItem 88 (.aload_n 0) 1 89 := ⟨by decide +kernel, rfl⟩
theorem dQ_readItem_89 : Dc Q_readItem 89 (.bipush 11) 2 91 := ⟨by decide +kernel, rfl⟩
theorem dQ_readItem_91 : Dc Q_readItem 91 (.aload_n 0) 1 92 := ⟨by decide +kernel, rfl⟩
theorem dQ_readItem_92 : Dc Q_readItem 92 (.iconst 0) 1 93 := ⟨by decide +kernel, rfl⟩
theorem dQ_readItem_93 : Dc Q_readItem 93 (.bipush 15) 2 95 := ⟨by decide +kernel, rfl⟩
theorem dQ_readItem_95 : Dc Q_readItem 95 (.invokevirtual 296) 3 98 := ⟨by decide +kernel, rfl⟩
theorem dQ_readItem_98 : Dc Q_readItem 98 (.iconst 0) 1 99 := ⟨by decide +kernel, rfl⟩
theorem dQ_readItem_99 : Dc Q_readItem 99 (.iconst 0) 1 100 := ⟨by decide +kernel, rfl⟩
theorem dQ_readItem_100 : Dc Q_readItem 100 (.invokevirtual 312) 3 103 := ⟨by decide +kernel, rfl⟩
theorem dQ_readItem_103 : Dc Q_readItem 103 (.goto 46) 3 106 := ⟨by decide +kernel, rfl⟩
theorem dQ_readItem_106 : Dc Q_readItem 106 (.aload_n 0) 1 107 := ⟨by decide +kernel, rfl⟩
theorem dQ_readItem_107 : Dc Q_readItem 107 (.ldc_w 323) 3 110 := ⟨by decide +kernel, rfl⟩
theorem dQ_readItem_110 : Dc Q_readItem 110 (.invokevirtual 293) 3 113 := ⟨by decide +kernel, rfl⟩
theorem dQ_readItem_113 : Dc Q_readItem 113 (.ifCond .eq 31) 3 116 := ⟨by decide +kernel, rfl⟩
theorem dQ_readItem_116 : Dc Q_readItem 116 (.aload_n 0) 1 117 := ⟨by decide +kernel, rfl⟩
theorem dQ_readItem_117 : Dc Q_readItem 117 (.iconst 0) 1 118 := ⟨by decide +kernel, rfl⟩
theorem dQ_readItem_118 : Dc Q_readItem 118 (.bipush 15) 2 120 := ⟨by decide +kernel, rfl⟩
theorem dQ_readItem_120 : Dc Q_readItem 120 (.invokevirtual 296) 3 123 := ⟨by decide +kernel, rfl⟩
theorem dQ_readItem_123 : Dc Q_readItem 123 (.istore_n 2) 1 124 := ⟨by decide +kernel, rfl⟩
theorem dQ_readItem_124 : Dc Q_readItem 124 (.aload_n 0) 1 125 := ⟨by decide +kernel, rfl⟩
theorem dQ_readItem_125 : Dc Q_readItem 125 (.bipush 12) 2 127 := ⟨by decide +kernel, rfl⟩
theorem dQ_readItem_127 : Dc Q_readItem 127 (.iload_n 2) 1 128 := ⟨by decide +kernel, rfl⟩
theorem dQ_readItem_128 : Dc Q_readItem 128 (.aload_n 0) 1 129 := ⟨by decide +kernel, rfl⟩
theorem dQ_readItem_129 : Dc Q_readItem 129 (.ldc_w 325) 3 132 := ⟨by decide +kernel, rfl⟩
theorem dQ_readItem_132 : Dc Q_readItem 132 (.iconst 5) 1 133 := ⟨by decide +kernel, rfl⟩
theorem dQ_readItem_133 : Dc Q_readItem 133 (.iconst (-1)) 1 134 := ⟨by decide +kernel, rfl⟩
theorem dQ_readItem_134 : Dc Q_readItem 134 (.invokevirtual 304) 3 137 := ⟨by decide +kernel, rfl⟩
theorem dQ_readItem_137 : Dc Q_readItem 137 (.iconst 0) 1 138 := ⟨by decide +kernel, rfl⟩
theorem dQ_readItem_138 : Dc Q_readItem 138 (.invokevirtual 312) 3 141 := ⟨by decide +kernel, rfl⟩
theorem dQ_readItem_141 : Dc Q_readItem 141 (.goto 8) 3 144 := ⟨by decide +kernel, rfl⟩
theorem dQ_readItem_144 : Dc Q_readItem 144 (.aload_n 0) 1 145 := ⟨by decide +kernel, rfl⟩
theorem dQ_readItem_145 : Dc Q_readItem 145 (.iconst 0) 1 146 := ⟨by decide +kernel, rfl⟩
theorem dQ_readItem_146 : Dc Q_readItem 146 (.invokevirtual 282) 3 149 := ⟨by decide +kernel, rfl⟩
theorem dQ_readItem_149 : Dc Q_readItem 149 (.return_) 1 150 := ⟨by decide +kernel, rfl⟩
theorem dQ_isWord_0 : Dc Q_isWord 0 (.aload_n 0) 1 1 := ⟨by decide +kernel, rfl⟩
theorem dQ_isWord_1 : Dc Q_isWord 1 (.getfield 265) 3 4 := ⟨by decide +kernel, rfl⟩
theorem dQ_isWord_4 : Dc Q_isWord 4 (.iconst 1) 1 5 := ⟨by decide +kernel, rfl⟩
theorem dQ_isWord_5 : Dc Q_isWord 5 (.if_icmp .ne 23) 3 8 := ⟨by decide +kernel, rfl⟩
theorem dQ_isWord_8 : Dc Q_isWord 8 (.aload_n 0) 1 9 := ⟨by decide +kernel, rfl⟩
theorem dQ_isWord_9 : Dc Q_isWord 9 (.getfield 253) 3 12 := ⟨by decide +kernel, rfl⟩
theorem dQ_isWord_12 : Dc Q_isWord 12 (.aload_n 0) 1 13 := ⟨by decide +kernel, rfl⟩
theorem dQ_isWord_13 : Dc Q_isWord 13 (.getfield 256) 3 16 := ⟨by decide +kernel, rfl⟩
theorem dQ_isWord_16 : Dc Q_isWord 16 (.isub) 1 17 := ⟨by decide +kernel, rfl⟩
theorem dQ_isWord_17 : Dc Q_isWord 17 (.aload_n 1) 1 18 := ⟨by decide +kernel, rfl⟩
theorem dQ_isWord_18 : Dc Q_isWord 18 (.invokevirtual 268) 3 21 := ⟨by decide +kernel, rfl⟩
theorem dQ_isWord_21 : Dc Q_isWord 21 (.if_icmp .ne 7) 3 24 := ⟨by decide +kernel, rfl⟩
theorem dQ_isWord_24 : Dc Q_isWord 24 (.iconst 1) 1 25 := ⟨by decide +kernel, rfl⟩
theorem dQ_isWord_25 : Dc Q_isWord 25 (.goto 4) 3 28 := ⟨by decide +kernel, rfl⟩
theorem dQ_isWord_28 : Dc Q_isWord 28 (.iconst 0) 1 29 := ⟨by decide +kernel, rfl⟩
theorem dQ_isWord_29 : Dc Q_isWord 29 (.istore_n 2) 1 30 := ⟨by decide +kernel, rfl⟩
theorem dQ_isWord_30 : Dc Q_isWord 30 (.iconst 0) 1 31 := ⟨by decide +kernel, rfl⟩
theorem dQ_isWord_31 : Dc Q_isWord 31 (.istore_n 3) 1 32 := ⟨by decide +kernel, rfl⟩
theorem dQ_isWord_32 : Dc Q_isWord 32 (.iload_n 3) 1 33 := ⟨by decide +kernel, rfl⟩
theorem dQ_isWord_33 : Dc Q_isWord 33 (.aload_n 1) 1 34 := ⟨by decide +kernel, rfl⟩
theorem dQ_isWord_34 : Dc Q_isWord 34 (.invokevirtual 268) 3 37 := ⟨by decide +kernel, rfl⟩
theorem dQ_isWord_37 : Dc Q_isWord 37 (.if_icmp .ge 38) 3 40 := ⟨by decide +kernel, rfl⟩
theorem dQ_isWord_40 : Dc Q_isWord 40 (.iload_n 2) 1 41 := ⟨by decide +kernel, rfl⟩
theorem dQ_isWord_41 : Dc Q_isWord 41 (.ifCond .eq 34) 3 44 := ⟨by decide +kernel, rfl⟩
theorem dQ_isWord_44 : Dc Q_isWord 44 (.aload_n 0) 1 45 := ⟨by decide +kernel, rfl⟩
theorem dQ_isWord_45 : Dc Q_isWord 45 (.getfield 22) 3 48 := ⟨by decide +kernel, rfl⟩
theorem dQ_isWord_48 : Dc Q_isWord 48 (.aload_n 0) 1 49 := ⟨by decide +kernel, rfl⟩
theorem dQ_isWord_49 : Dc Q_isWord 49 (.getfield 256) 3 52 := ⟨by decide +kernel, rfl⟩
theorem dQ_isWord_52 : Dc Q_isWord 52 (.iload_n 3) 1 53 := ⟨by decide +kernel, rfl⟩
theorem dQ_isWord_53 : Dc Q_isWord 53 (.iadd) 1 54 := ⟨by decide +kernel, rfl⟩
theorem dQ_isWord_54 : Dc Q_isWord 54 (.iaload) 1 55 := ⟨by decide +kernel, rfl⟩
theorem dQ_isWord_55 : Dc Q_isWord 55 (.aload_n 1) 1 56 := ⟨by decide +kernel, rfl⟩
theorem dQ_isWord_56 : Dc Q_isWord 56 (.iload_n 3) 1 57 := ⟨by decide +kernel, rfl⟩
theorem dQ_isWord_57 : Dc Q_isWord 57 (.invokevirtual 271) 3 60 := ⟨by decide +kernel, rfl⟩
theorem dQ_isWord_60 : Dc Q_isWord 60 (.if_icmp .ne 7) 3 63 := ⟨by decide +kernel, rfl⟩
theorem dQ_isWord_63 : Dc Q_isWord 63 (.iconst 1) 1 64 := ⟨by decide +kernel, rfl⟩
theorem dQ_isWord_64 : Dc Q_isWord 64 (.goto 4) 3 67 := ⟨by decide +kernel, rfl⟩
theorem dQ_isWord_67 : Dc Q_isWord 67 (.iconst 0) 1 68 := ⟨by decide +kernel, rfl⟩
theorem dQ_isWord_68 : Dc Q_isWord 68 (.istore_n 2) 1 69 := ⟨by decide +kernel, rfl⟩
theorem dQ_isWord_69 : Dc Q_isWord 69 (.iinc 3 1) 3 72 := ⟨by decide +kernel, rfl⟩
theorem dQ_isWord_72 : Dc Q_isWord 72 (.goto (-40)) 3 75 := ⟨by decide +kernel, rfl⟩
theorem dQ_isWord_75 : Dc Q_isWord 75 (.iload_n 2) 1 76 := ⟨by decide +kernel, rfl⟩
theorem dQ_isWord_76 : Dc Q_isWord 76 (.ireturn) 1 77 := ⟨by decide +kernel, rfl⟩
theorem dQ_readSheep_0 : Dc Q_readSheep 0 (.aload_n 0) 1 1 := ⟨by decide +kernel, rfl⟩
theorem dQ_readSheep_1 : Dc Q_readSheep 1 (.aload_n 0) 1 2 := ⟨by decide +kernel, rfl⟩
theorem dQ_readSheep_2 : Dc Q_readSheep 2 (.getfield 299) 3 5 := ⟨by decide +kernel, rfl⟩
theorem dQ_readSheep_5 : Dc Q_readSheep 5 (.bipush 8) 2 7 := ⟨by decide +kernel, rfl⟩
theorem dQ_readSheep_7 : Dc Q_readSheep 7 (.if_icmp .ge 7) 3 10 := ⟨by decide +kernel, rfl⟩
theorem dQ_readSheep_10 : Dc Q_readSheep 10 (.iconst 1) 1 11 := ⟨by decide +kernel, rfl⟩
theorem dQ_readSheep_11 : Dc Q_readSheep 11 (.goto 4) 3 14 := ⟨by decide +kernel, rfl⟩
theorem dQ_readSheep_14 : Dc Q_readSheep 14 (.iconst 0) 1 15 := ⟨by decide +kernel, rfl⟩
theorem dQ_readSheep_15 : Dc Q_readSheep 15 (.invokevirtual 282) 3 18 := ⟨by decide +kernel, rfl⟩
theorem dQ_readSheep_18 : Dc Q_readSheep 18 (.aload_n 0) 1 19 := ⟨by decide +kernel, rfl⟩
theorem dQ_readSheep_19 : Dc Q_readSheep 19 (.ldc_w 302) 3 22 := ⟨by decide +kernel, rfl⟩
theorem dQ_readSheep_22 : Dc Q_readSheep 22 (.bipush 15) 2 24 := ⟨by decide +kernel, rfl⟩
theorem dQ_readSheep_24 : Dc Q_readSheep 24 (.iconst 0) 1 25 := ⟨by decide +kernel, rfl⟩
theorem dQ_readSheep_25 : Dc Q_readSheep 25 (.invokevirtual 304) 3 28 := ⟨by decide +kernel, rfl⟩
theorem dQ_readSheep_28 : Dc Q_readSheep 28 (.istore_n 2) 1 29 := ⟨by decide +kernel, rfl⟩
theorem dQ_readSheep_29 : Dc Q_readSheep 29 (.aload_n 0) 1 30 := ⟨by decide +kernel, rfl⟩
theorem dQ_readSheep_30 : Dc Q_readSheep 30 (.ldc_w 308) 3 33 := ⟨by decide +kernel, rfl⟩
theorem dQ_readSheep_33 : Dc Q_readSheep 33 (.bipush 99) 2 35 := ⟨by decide +kernel, rfl⟩
theorem dQ_readSheep_35 : Dc Q_readSheep 35 (.iconst 0) 1 36 := ⟨by decide +kernel, rfl⟩
theorem dQ_readSheep_36 : Dc Q_readSheep 36 (.invokevirtual 304) 3 39 := ⟨by decide +kernel, rfl⟩
theorem dQ_readSheep_39 : Dc Q_readSheep 39 (.istore_n 3) 1 40 := ⟨by decide +kernel, rfl⟩
theorem dQ_readSheep_40 : Dc Q_readSheep 40 (.aload_n 0) 1 41 := ⟨by decide +kernel, rfl⟩
theorem dQ_readSheep_41 : Dc Q_readSheep 41 (.iload_n 1) 1 42 := ⟨by decide +kernel, rfl⟩
theorem dQ_readSheep_42 : Dc Q_readSheep 42 (.iload_n 2) 1 43 := ⟨by decide +kernel, rfl⟩
theorem dQ_readSheep_43 : Dc Q_readSheep 43 (.iload_n 3) 1 44 := ⟨by decide +kernel, rfl⟩
theorem dQ_readSheep_44 : Dc Q_readSheep 44 (.aload_n 0) 1 45 := ⟨by decide +kernel, rfl⟩
theorem dQ_readSheep_45 : Dc Q_readSheep 45 (.ldc_w 310) 3 48 := ⟨by decide +kernel, rfl⟩
theorem dQ_readSheep_48 : Dc Q_readSheep 48 (.sipush 9999) 3 51 := ⟨by decide +kernel, rfl⟩
theorem dQ_readSheep_51 : Dc Q_readSheep 51 (.iconst 0) 1 52 := ⟨by decide +kernel, rfl⟩
theorem dQ_readSheep_52 : Dc Q_readSheep 52 (.invokevirtual 304) 3 55 := ⟨by decide +kernel, rfl⟩
theorem dQ_readSheep_55 : Dc Q_readSheep 55 (.invokevirtual 312) 3 58 := ⟨by decide +kernel, rfl⟩
theorem dQ_readSheep_58 : Dc Q_readSheep 58 (.aload_n 0) 1 59 := ⟨by decide +kernel, rfl⟩
theorem dQ_readSheep_59 : Dc Q_readSheep 59 (.dup) 1 60 := ⟨by decide +kernel, rfl⟩
theorem dQ_readSheep_60 : Dc Q_readSheep 60 (.getfield 299) 3 63 := ⟨by decide +kernel, rfl⟩
theorem dQ_readSheep_63 : Dc Q_readSheep 63 (.iconst 1) 1 64 := ⟨by decide +kernel, rfl⟩
theorem dQ_readSheep_64 : Dc Q_readSheep 64 (.iadd) 1 65 := ⟨by decide +kernel, rfl⟩
theorem dQ_readSheep_65 : Dc Q_readSheep 65 (.putfield 299) 3 68 := ⟨by decide +kernel, rfl⟩
theorem dQ_readSheep_68 : Dc Q_readSheep 68 (.return_) 1 69 := ⟨by decide +kernel, rfl⟩
theorem dQ_must_0 : Dc Q_must 0 (.aload_n 0) 1 1 := ⟨by decide +kernel, rfl⟩
theorem dQ_must_1 : Dc Q_must 1 (.aload_n 0) 1 2 := ⟨by decide +kernel, rfl⟩
theorem dQ_must_2 : Dc Q_must 2 (.getfield 275) 3 5 := ⟨by decide +kernel, rfl⟩
theorem dQ_must_5 : Dc Q_must 5 (.ifCond .ne 7) 3 8 := ⟨by decide +kernel, rfl⟩
theorem dQ_must_8 : Dc Q_must 8 (.iload_n 1) 1 9 := ⟨by decide +kernel, rfl⟩
theorem dQ_must_9 : Dc Q_must 9 (.ifCond .ne 7) 3 12 := ⟨by decide +kernel, rfl⟩
theorem dQ_must_12 : Dc Q_must 12 (.iconst 1) 1 13 := ⟨by decide +kernel, rfl⟩
theorem dQ_must_13 : Dc Q_must 13 (.goto 4) 3 16 := ⟨by decide +kernel, rfl⟩
theorem dQ_must_16 : Dc Q_must 16 (.iconst 0) 1 17 := ⟨by decide +kernel, rfl⟩
theorem dQ_must_17 : Dc Q_must 17 (.putfield 275) 3 20 := ⟨by decide +kernel, rfl⟩
theorem dQ_must_20 : Dc Q_must 20 (.aload_n 0) 1 21 := ⟨by decide +kernel, rfl⟩
theorem dQ_must_21 : Dc Q_must 21 (.getfield 275) 3 24 := ⟨by decide +kernel, rfl⟩
theorem dQ_must_24 : Dc Q_must 24 (.ifCond .ne 7) 3 27 := ⟨by decide +kernel, rfl⟩
theorem dQ_must_27 : Dc Q_must 27 (.aload_n 0) 1 28 := ⟨by decide +kernel, rfl⟩
theorem dQ_must_28 : Dc Q_must 28 (.invokevirtual 279) 3 31 := ⟨by decide +kernel, rfl⟩
theorem dQ_must_31 : Dc Q_must 31 (.return_) 1 32 := ⟨by decide +kernel, rfl⟩
theorem dQ_mayTell_0 : Dc Q_mayTell 0 (.aload_n 0) 1 1 := ⟨by decide +kernel, rfl⟩
theorem dQ_mayTell_1 : Dc Q_mayTell 1 (.aload_n 1) 1 2 := ⟨by decide +kernel, rfl⟩
theorem dQ_mayTell_2 : Dc Q_mayTell 2 (.invokevirtual 293) 3 5 := ⟨by decide +kernel, rfl⟩
theorem dQ_mayTell_5 : Dc Q_mayTell 5 (.ifCond .eq 12) 3 8 := ⟨by decide +kernel, rfl⟩
theorem dQ_mayTell_8 : Dc Q_mayTell 8 (.aload_n 0) 1 9 := ⟨by decide +kernel, rfl⟩
theorem dQ_mayTell_9 : Dc Q_mayTell 9 (.iconst 0) 1 10 := ⟨by decide +kernel, rfl⟩
theorem dQ_mayTell_10 : Dc Q_mayTell 10 (.iload_n 2) 1 11 := ⟨by decide +kernel, rfl⟩
theorem dQ_mayTell_11 : Dc Q_mayTell 11 (.invokevirtual 296) 3 14 := ⟨by decide +kernel, rfl⟩
theorem dQ_mayTell_14 : Dc Q_mayTell 14 (.goto 4) 3 17 := ⟨by decide +kernel, rfl⟩
theorem dQ_mayTell_17 : Dc Q_mayTell 17 (.iload_n 3) 1 18 := ⟨by decide +kernel, rfl⟩
theorem dQ_mayTell_18 : Dc Q_mayTell 18 (.ireturn) 1 19 := ⟨by decide +kernel, rfl⟩
theorem dQ_takesWord_0 : Dc Q_takesWord 0 (.aload_n 0) 1 1 := ⟨by decide +kernel, rfl⟩
theorem dQ_takesWord_1 : Dc Q_takesWord 1 (.getfield 275) 3 4 := ⟨by decide +kernel, rfl⟩
theorem dQ_takesWord_4 : Dc Q_takesWord 4 (.ifCond .ne 15) 3 7 := ⟨by decide +kernel, rfl⟩
theorem dQ_takesWord_7 : Dc Q_takesWord 7 (.aload_n 0) 1 8 := ⟨by decide +kernel, rfl⟩
theorem dQ_takesWord_8 : Dc Q_takesWord 8 (.aload_n 1) 1 9 := ⟨by decide +kernel, rfl⟩
theorem dQ_takesWord_9 : Dc Q_takesWord 9 (.invokevirtual 289) 3 12 := ⟨by decide +kernel, rfl⟩
theorem dQ_takesWord_12 : Dc Q_takesWord 12 (.ifCond .eq 7) 3 15 := ⟨by decide +kernel, rfl⟩
theorem dQ_takesWord_15 : Dc Q_takesWord 15 (.iconst 1) 1 16 := ⟨by decide +kernel, rfl⟩
theorem dQ_takesWord_16 : Dc Q_takesWord 16 (.goto 4) 3 19 := ⟨by decide +kernel, rfl⟩
theorem dQ_takesWord_19 : Dc Q_takesWord 19 (.iconst 0) 1 20 := ⟨by decide +kernel, rfl⟩
theorem dQ_takesWord_20 : Dc Q_takesWord 20 (.istore_n 2) 1 21 := ⟨by decide +kernel, rfl⟩
theorem dQ_takesWord_21 : Dc Q_takesWord 21 (.iload_n 2) 1 22 := ⟨by decide +kernel, rfl⟩
theorem dQ_takesWord_22 : Dc Q_takesWord 22 (.ifCond .eq 8) 3 25 := ⟨by decide +kernel, rfl⟩
theorem dQ_takesWord_25 : Dc Q_takesWord 25 (.aload_n 0) 1 26 := ⟨by decide +kernel, rfl⟩
theorem dQ_takesWord_26 : Dc Q_takesWord 26 (.iconst 1) 1 27 := ⟨by decide +kernel, rfl⟩
theorem dQ_takesWord_27 : Dc Q_takesWord 27 (.invokevirtual 282) 3 30 := ⟨by decide +kernel, rfl⟩
theorem dQ_takesWord_30 : Dc Q_takesWord 30 (.iload_n 2) 1 31 := ⟨by decide +kernel, rfl⟩
theorem dQ_takesWord_31 : Dc Q_takesWord 31 (.ireturn) 1 32 := ⟨by decide +kernel, rfl⟩
theorem dQ_number_0 : Dc Q_number 0 (.aload_n 0) 1 1 := ⟨by decide +kernel, rfl⟩
theorem dQ_number_1 : Dc Q_number 1 (.getfield 262) 3 4 := ⟨by decide +kernel, rfl⟩
theorem dQ_number_4 : Dc Q_number 4 (.istore_n 3) 1 5 := ⟨by decide +kernel, rfl⟩
theorem dQ_number_5 : Dc Q_number 5 (.aload_n 0) 1 6 := ⟨by decide +kernel, rfl⟩
theorem dQ_number_6 : Dc Q_number 6 (.aload_n 0) 1 7 := ⟨by decide +kernel, rfl⟩
theorem dQ_number_7 : Dc Q_number 7 (.getfield 265) 3 10 := ⟨by decide +kernel, rfl⟩
theorem dQ_number_10 : Dc Q_number 10 (.iconst 2) 1 11 := ⟨by decide +kernel, rfl⟩
theorem dQ_number_11 : Dc Q_number 11 (.if_icmp .ne 16) 3 14 := ⟨by decide +kernel, rfl⟩
theorem dQ_number_14 : Dc Q_number 14 (.iload_n 3) 1 15 := ⟨by decide +kernel, rfl⟩
theorem dQ_number_15 : Dc Q_number 15 (.iload_n 1) 1 16 := ⟨by decide +kernel, rfl⟩
theorem dQ_number_16 : Dc Q_number 16 (.iload_n 2) 1 17 := ⟨by decide +kernel, rfl⟩
theorem dQ_number_17 : Dc Q_number 17 (.invokestatic 79) 3 20 := ⟨by decide +kernel, rfl⟩
theorem dQ_number_20 : Dc Q_number 20 (.ifCond .eq 7) 3 23 := ⟨by decide +kernel, rfl⟩
theorem dQ_number_23 : Dc Q_number 23 (.iconst 1) 1 24 := ⟨by decide +kernel, rfl⟩
theorem dQ_number_24 : Dc Q_number 24 (.goto 4) 3 27 := ⟨by decide +kernel, rfl⟩
theorem dQ_number_27 : Dc Q_number 27 (.iconst 0) 1 28 := ⟨by decide +kernel, rfl⟩
theorem dQ_number_28 : Dc Q_number 28 (.invokevirtual 282) 3 31 := ⟨by decide +kernel, rfl⟩
theorem dQ_number_31 : Dc Q_number 31 (.iload_n 3) 1 32 := ⟨by decide +kernel, rfl⟩
theorem dQ_number_32 : Dc Q_number 32 (.ireturn) 1 33 := ⟨by decide +kernel, rfl⟩
theorem dQ_addItem_0 : Dc Q_addItem 0 (.aload_n 0) 1 1 := ⟨by decide +kernel, rfl⟩
theorem dQ_addItem_1 : Dc Q_addItem 1 (.getfield 45) 3 4 := ⟨by decide +kernel, rfl⟩
theorem dQ_addItem_4 : Dc Q_addItem 4 (.aload_n 0) 1 5 := ⟨by decide +kernel, rfl⟩
theorem dQ_addItem_5 : Dc Q_addItem 5 (.getfield 286) 3 8 := ⟨by decide +kernel, rfl⟩
theorem dQ_addItem_8 : Dc Q_addItem 8 (.iload_n 1) 1 9 := ⟨by decide +kernel, rfl⟩
theorem dQ_addItem_9 : Dc Q_addItem 9 (.iastore) 1 10 := ⟨by decide +kernel, rfl⟩
theorem dQ_addItem_10 : Dc Q_addItem 10 (.aload_n 0) 1 11 := ⟨by decide +kernel, rfl⟩
theorem dQ_addItem_11 : Dc Q_addItem 11 (.getfield 48) 3 14 := ⟨by decide +kernel, rfl⟩
theorem dQ_addItem_14 : Dc Q_addItem 14 (.aload_n 0) 1 15 := ⟨by decide +kernel, rfl⟩
theorem dQ_addItem_15 : Dc Q_addItem 15 (.getfield 286) 3 18 := ⟨by decide +kernel, rfl⟩
theorem dQ_addItem_18 : Dc Q_addItem 18 (.iload_n 2) 1 19 := ⟨by decide +kernel, rfl⟩
theorem dQ_addItem_19 : Dc Q_addItem 19 (.iastore) 1 20 := ⟨by decide +kernel, rfl⟩
theorem dQ_addItem_20 : Dc Q_addItem 20 (.aload_n 0) 1 21 := ⟨by decide +kernel, rfl⟩
theorem dQ_addItem_21 : Dc Q_addItem 21 (.getfield 51) 3 24 := ⟨by decide +kernel, rfl⟩
theorem dQ_addItem_24 : Dc Q_addItem 24 (.aload_n 0) 1 25 := ⟨by decide +kernel, rfl⟩
theorem dQ_addItem_25 : Dc Q_addItem 25 (.getfield 286) 3 28 := ⟨by decide +kernel, rfl⟩
theorem dQ_addItem_28 : Dc Q_addItem 28 (.iload_n 3) 1 29 := ⟨by decide +kernel, rfl⟩
theorem dQ_addItem_29 : Dc Q_addItem 29 (.iastore) 1 30 := ⟨by decide +kernel, rfl⟩
theorem dQ_addItem_30 : Dc Q_addItem 30 (.aload_n 0) 1 31 := ⟨by decide +kernel, rfl⟩
theorem dQ_addItem_31 : Dc Q_addItem 31 (.getfield 54) 3 34 := ⟨by decide +kernel, rfl⟩
theorem dQ_addItem_34 : Dc Q_addItem 34 (.aload_n 0) 1 35 := ⟨by decide +kernel, rfl⟩
theorem dQ_addItem_35 : Dc Q_addItem 35 (.getfield 286) 3 38 := ⟨by decide +kernel, rfl⟩
theorem dQ_addItem_38 : Dc Q_addItem 38 (.iload 4) 2 40 := ⟨by decide +kernel, rfl⟩
theorem dQ_addItem_40 : Dc Q_addItem 40 (.iastore) 1 41 := ⟨by decide +kernel, rfl⟩
theorem dQ_addItem_41 : Dc Q_addItem 41 (.aload_n 0) 1 42 := ⟨by decide +kernel, rfl⟩
theorem dQ_addItem_42 : Dc Q_addItem 42 (.dup) 1 43 := ⟨by decide +kernel, rfl⟩
theorem dQ_addItem_43 : Dc Q_addItem 43 (.getfield 286) 3 46 := ⟨by decide +kernel, rfl⟩
theorem dQ_addItem_46 : Dc Q_addItem 46 (.iconst 1) 1 47 := ⟨by decide +kernel, rfl⟩
theorem dQ_addItem_47 : Dc Q_addItem 47 (.iadd) 1 48 := ⟨by decide +kernel, rfl⟩
theorem dQ_addItem_48 : Dc Q_addItem 48 (.putfield 286) 3 51 := ⟨by decide +kernel, rfl⟩
theorem dQ_addItem_51 : Dc Q_addItem 51 (.return_) 1 52 := ⟨by decide +kernel, rfl⟩
theorem dQ_isToldSo_0 : Dc Q_isToldSo 0 (.aload_n 0) 1 1 := ⟨by decide +kernel, rfl⟩
theorem dQ_isToldSo_1 : Dc Q_isToldSo 1 (.getfield 48) 3 4 := ⟨by decide +kernel, rfl⟩
theorem dQ_isToldSo_4 : Dc Q_isToldSo 4 (.iload_n 1) 1 5 := ⟨by decide +kernel, rfl⟩
theorem dQ_isToldSo_5 : Dc Q_isToldSo 5 (.iaload) 1 6 := ⟨by decide +kernel, rfl⟩
theorem dQ_isToldSo_6 : Dc Q_isToldSo 6 (.istore_n 2) 1 7 := ⟨by decide +kernel, rfl⟩
theorem dQ_isToldSo_7 : Dc Q_isToldSo 7 (.aload_n 0) 1 8 := ⟨by decide +kernel, rfl⟩
theorem dQ_isToldSo_8 : Dc Q_isToldSo 8 (.getfield 51) 3 11 := ⟨by decide +kernel, rfl⟩
theorem dQ_isToldSo_11 : Dc Q_isToldSo 11 (.iload_n 1) 1 12 := ⟨by decide +kernel, rfl⟩
theorem dQ_isToldSo_12 : Dc Q_isToldSo 12 (.iaload) 1 13 := ⟨by decide +kernel, rfl⟩
theorem dQ_isToldSo_13 : Dc Q_isToldSo 13 (.istore_n 3) 1 14 := ⟨by decide +kernel, rfl⟩
theorem dQ_isToldSo_14 : Dc Q_isToldSo 14 (.aload_n 0) 1 15 := ⟨by decide +kernel, rfl⟩
theorem dQ_isToldSo_15 : Dc Q_isToldSo 15 (.getfield 45) 3 18 := ⟨by decide +kernel, rfl⟩
theorem dQ_isToldSo_18 : Dc Q_isToldSo 18 (.iload_n 1) 1 19 := ⟨by decide +kernel, rfl⟩
theorem dQ_isToldSo_19 : Dc Q_isToldSo 19 (.iaload) 1 20 := ⟨by decide +kernel, rfl⟩
theorem dQ_isToldSo_20 : Dc Q_isToldSo 20 (.tableswitch 78 10 12 #[28, 38, 46]) 28 48 := ⟨by decide +kernel, rfl⟩
theorem dQ_isToldSo_48 : Dc Q_isToldSo 48 (.aload_n 0) 1 49 := ⟨by decide +kernel, rfl⟩
theorem dQ_isToldSo_49 : Dc Q_isToldSo 49 (.getfield 9) 3 52 := ⟨by decide +kernel, rfl⟩
theorem dQ_isToldSo_52 : Dc Q_isToldSo 52 (.iconst 3) 1 53 := ⟨by decide +kernel, rfl⟩
theorem dQ_isToldSo_53 : Dc Q_isToldSo 53 (.iload_n 2) 1 54 := ⟨by decide +kernel, rfl⟩
theorem dQ_isToldSo_54 : Dc Q_isToldSo 54 (.iastore) 1 55 := ⟨by decide +kernel, rfl⟩
theorem dQ_isToldSo_55 : Dc Q_isToldSo 55 (.goto 85) 3 58 := ⟨by decide +kernel, rfl⟩
theorem dQ_isToldSo_58 : Dc Q_isToldSo 58 (.aload_n 0) 1 59 := ⟨by decide +kernel, rfl⟩
theorem dQ_isToldSo_59 : Dc Q_isToldSo 59 (.iload_n 2) 1 60 := ⟨by decide +kernel, rfl⟩
theorem dQ_isToldSo_60 : Dc Q_isToldSo 60 (.invokevirtual 87) 3 63 := ⟨by decide +kernel, rfl⟩
theorem dQ_isToldSo_63 : Dc Q_isToldSo 63 (.goto 77) 3 66 := ⟨by decide +kernel, rfl⟩
theorem dQ_isToldSo_66 : Dc Q_isToldSo 66 (.aload_n 0) 1 67 := ⟨by decide +kernel, rfl⟩
theorem dQ_isToldSo_67 : Dc Q_isToldSo 67 (.getfield 9) 3 70 := ⟨by decide +kernel, rfl⟩
theorem dQ_isToldSo_70 : Dc Q_isToldSo 70 (.iconst 5) 1 71 := ⟨by decide +kernel, rfl⟩
theorem dQ_isToldSo_71 : Dc Q_isToldSo 71 (.iload_n 2) 1 72 := ⟨by decide +kernel, rfl⟩
theorem dQ_isToldSo_72 : Dc Q_isToldSo 72 (.iastore) 1 73 := ⟨by decide +kernel, rfl⟩
theorem dQ_isToldSo_73 : Dc Q_isToldSo 73 (.aload_n 0) 1 74 := ⟨by decide +kernel, rfl⟩
theorem dQ_isToldSo_74 : Dc Q_isToldSo 74 (.getfield 9) 3 77 := ⟨by decide +kernel, rfl⟩
theorem dQ_isToldSo_77 : Dc Q_isToldSo 77 (.bipush 6) 2 79 := ⟨by decide +kernel, rfl⟩
theorem dQ_isToldSo_79 : Dc Q_isToldSo 79 (.iload_n 3) 1 80 := ⟨by decide +kernel, rfl⟩
theorem dQ_isToldSo_80 : Dc Q_isToldSo 80 (.ifCond .ge 13) 3 83 := ⟨by decide +kernel, rfl⟩
theorem dQ_isToldSo_83 : Dc Q_isToldSo 83 (.aload_n 0) 1 84 := ⟨by decide +kernel, rfl⟩
theorem dQ_isToldSo_84 : Dc Q_isToldSo 84 (.getfield 9) 3 87 := ⟨by decide +kernel, rfl⟩
theorem dQ_isToldSo_87 : Dc Q_isToldSo 87 (.bipush 6) 2 89 := ⟨by decide +kernel, rfl⟩
theorem dQ_isToldSo_89 : Dc Q_isToldSo 89 (.iaload) 1 90 := ⟨by decide +kernel, rfl⟩
theorem dQ_isToldSo_90 : Dc Q_isToldSo 90 (.goto 4) 3 93 := ⟨by decide +kernel, rfl⟩
theorem dQ_isToldSo_93 : Dc Q_isToldSo 93 (.iload_n 3) 1 94 := ⟨by decide +kernel, rfl⟩
theorem dQ_isToldSo_94 : Dc Q_isToldSo 94 (.iastore) 1 95 := ⟨by decide +kernel, rfl⟩
theorem dQ_isToldSo_95 : Dc Q_isToldSo 95 (.goto 45) 3 98 := ⟨by decide +kernel, rfl⟩
theorem dQ_isToldSo_98 : Dc Q_isToldSo 98 (.aload_n 0) 1 99 := ⟨by decide +kernel, rfl⟩
theorem dQ_isToldSo_99 : Dc Q_isToldSo 99 (.aload_n 0) 1 100 := ⟨by decide +kernel, rfl⟩
theorem dQ_isToldSo_100 : Dc Q_isToldSo 100 (.getfield 45) 3 103 := ⟨by decide +kernel, rfl⟩
theorem dQ_isToldSo_103 : Dc Q_isToldSo 103 (.iload_n 1) 1 104 := ⟨by decide +kernel, rfl⟩
theorem dQ_isToldSo_104 : Dc Q_isToldSo 104 (.iaload) 1 105 := ⟨by decide +kernel, rfl⟩
theorem dQ_isToldSo_105 : Dc Q_isToldSo 105 (.iload_n 2) 1 106 := ⟨by decide +kernel, rfl⟩
theorem dQ_isToldSo_106 : Dc Q_isToldSo 106 (.invokevirtual 105) 3 109 := ⟨by decide +kernel, rfl⟩
theorem dQ_isToldSo_109 : Dc Q_isToldSo 109 (.istore 4) 2 111 := ⟨by decide +kernel, rfl⟩
theorem dQ_isToldSo_111 : Dc Q_isToldSo 111 (.aload_n 0) 1 112 := ⟨by decide +kernel, rfl⟩
theorem dQ_isToldSo_112 : Dc Q_isToldSo 112 (.getfield 9) 3 115 := ⟨by decide +kernel, rfl⟩
theorem dQ_isToldSo_115 : Dc Q_isToldSo 115 (.iload 4) 2 117 := ⟨by decide +kernel, rfl⟩
theorem dQ_isToldSo_117 : Dc Q_isToldSo 117 (.iconst 2) 1 118 := ⟨by decide +kernel, rfl⟩
theorem dQ_isToldSo_118 : Dc Q_isToldSo 118 (.invokestatic 83) 3 121 := ⟨by decide +kernel, rfl⟩
theorem dQ_isToldSo_121 : Dc Q_isToldSo 121 (.iload_n 3) 1 122 := ⟨by decide +kernel, rfl⟩
theorem dQ_isToldSo_122 : Dc Q_isToldSo 122 (.iastore) 1 123 := ⟨by decide +kernel, rfl⟩
theorem dQ_isToldSo_123 : Dc Q_isToldSo 123 (.aload_n 0) 1 124 := ⟨by decide +kernel, rfl⟩
theorem dQ_isToldSo_124 : Dc Q_isToldSo 124 (.getfield 9) 3 127 := ⟨by decide +kernel, rfl⟩
theorem dQ_isToldSo_127 : Dc Q_isToldSo 127 (.iload 4) 2 129 := ⟨by decide +kernel, rfl⟩
theorem dQ_isToldSo_129 : Dc Q_isToldSo 129 (.iconst 3) 1 130 := ⟨by decide +kernel, rfl⟩
theorem dQ_isToldSo_130 : Dc Q_isToldSo 130 (.invokestatic 83) 3 133 := ⟨by decide +kernel, rfl⟩
theorem dQ_isToldSo_133 : Dc Q_isToldSo 133 (.aload_n 0) 1 134 := ⟨by decide +kernel, rfl⟩
theorem dQ_isToldSo_134 : Dc Q_isToldSo 134 (.getfield 54) 3 137 := ⟨by decide +kernel, rfl⟩
theorem dQ_isToldSo_137 : Dc Q_isToldSo 137 (.iload_n 1) 1 138 := ⟨by decide +kernel, rfl⟩
theorem dQ_isToldSo_138 : Dc Q_isToldSo 138 (.iaload) 1 139 := ⟨by decide +kernel, rfl⟩
theorem dQ_isToldSo_139 : Dc Q_isToldSo 139 (.iastore) 1 140 := ⟨by decide +kernel, rfl⟩
theorem dQ_isToldSo_140 : Dc Q_isToldSo 140 (.return_) 1 141 := ⟨by decide +kernel, rfl⟩
end
section
theorem dQ_hold_0 : Dc Q_hold 0 (.iload_n 1) 1 1 := ⟨by decide +kernel, rfl⟩
theorem dQ_hold_1 : Dc Q_hold 1 (.invokestatic 333) 3 4 := ⟨by decide +kernel, rfl⟩
theorem dQ_hold_4 : Dc Q_hold 4 (.ifCond .eq 16) 3 7 := ⟨by decide +kernel, rfl⟩
theorem dQ_hold_7 : Dc Q_hold 7 (.iload_n 2) 1 8 := ⟨by decide +kernel, rfl⟩
theorem dQ_hold_8 : Dc Q_hold 8 (.iconst (-1)) 1 9 := ⟨by decide +kernel, rfl⟩
theorem dQ_hold_9 : Dc Q_hold 9 (.if_icmp .eq 18) 3 12 := ⟨by decide +kernel, rfl⟩
theorem dQ_hold_12 : Dc Q_hold 12 (.aload_n 0) 1 13 := ⟨by decide +kernel, rfl⟩
theorem dQ_hold_13 : Dc Q_hold 13 (.iload_n 2) 1 14 := ⟨by decide +kernel, rfl⟩
theorem dQ_hold_14 : Dc Q_hold 14 (.invokevirtual 119) 3 17 := ⟨by decide +kernel, rfl⟩
theorem dQ_hold_17 : Dc Q_hold 17 (.ifCond .ne 10) 3 20 := ⟨by decide +kernel, rfl⟩
theorem dQ_hold_20 : Dc Q_hold 20 (.aload_n 0) 1 21 := ⟨by decide +kernel, rfl⟩
theorem dQ_hold_21 : Dc Q_hold 21 (.ldc 69) 2 23 := ⟨by decide +kernel, rfl⟩
theorem dQ_hold_23 : Dc Q_hold 23 (.invokevirtual 75) 3 26 := ⟨by decide +kernel, rfl⟩
theorem dQ_hold_26 : Dc Q_hold 26 (.ireturn) 1 27 := ⟨by decide +kernel, rfl⟩
theorem dQ_hold_27 : Dc Q_hold 27 (.aload_n 0) 1 28 := ⟨by decide +kernel, rfl⟩
theorem dQ_hold_28 : Dc Q_hold 28 (.getfield 9) 3 31 := ⟨by decide +kernel, rfl⟩
theorem dQ_hold_31 : Dc Q_hold 31 (.bipush 8) 2 33 := ⟨by decide +kernel, rfl⟩
theorem dQ_hold_33 : Dc Q_hold 33 (.iload_n 1) 1 34 := ⟨by decide +kernel, rfl⟩
theorem dQ_hold_34 : Dc Q_hold 34 (.iadd) 1 35 := ⟨by decide +kernel, rfl⟩
theorem dQ_hold_35 : Dc Q_hold 35 (.iload_n 2) 1 36 := ⟨by decide +kernel, rfl⟩
theorem dQ_hold_36 : Dc Q_hold 36 (.iastore) 1 37 := ⟨by decide +kernel, rfl⟩
theorem dQ_hold_37 : Dc Q_hold 37 (.iconst 1) 1 38 := ⟨by decide +kernel, rfl⟩
theorem dQ_hold_38 : Dc Q_hold 38 (.ireturn) 1 39 := ⟨by decide +kernel, rfl⟩
theorem dQ_isSpot_0 : Dc Q_isSpot 0 (.iload_n 0) 1 1 := ⟨by decide +kernel, rfl⟩
theorem dQ_isSpot_1 : Dc Q_isSpot 1 (.iconst 0) 1 2 := ⟨by decide +kernel, rfl⟩
theorem dQ_isSpot_2 : Dc Q_isSpot 2 (.bipush 9) 2 4 := ⟨by decide +kernel, rfl⟩
theorem dQ_isSpot_4 : Dc Q_isSpot 4 (.invokestatic 79) 3 7 := ⟨by decide +kernel, rfl⟩
theorem dQ_isSpot_7 : Dc Q_isSpot 7 (.ireturn) 1 8 := ⟨by decide +kernel, rfl⟩
theorem dQ_as_0 : Dc Q_as 0 (.iload_n 1) 1 1 := ⟨by decide +kernel, rfl⟩
theorem dQ_as_1 : Dc Q_as 1 (.invokestatic 333) 3 4 := ⟨by decide +kernel, rfl⟩
theorem dQ_as_4 : Dc Q_as 4 (.ifCond .eq 10) 3 7 := ⟨by decide +kernel, rfl⟩
theorem dQ_as_7 : Dc Q_as 7 (.iload_n 2) 1 8 := ⟨by decide +kernel, rfl⟩
theorem dQ_as_8 : Dc Q_as 8 (.invokestatic 101) 3 11 := ⟨by decide +kernel, rfl⟩
theorem dQ_as_11 : Dc Q_as 11 (.ifCond .ne 10) 3 14 := ⟨by decide +kernel, rfl⟩
theorem dQ_as_14 : Dc Q_as 14 (.aload_n 0) 1 15 := ⟨by decide +kernel, rfl⟩
theorem dQ_as_15 : Dc Q_as 15 (.ldc 69) 2 17 := ⟨by decide +kernel, rfl⟩
theorem dQ_as_17 : Dc Q_as 17 (.invokevirtual 75) 3 20 := ⟨by decide +kernel, rfl⟩
theorem dQ_as_20 : Dc Q_as 20 (.ireturn) 1 21 := ⟨by decide +kernel, rfl⟩
theorem dQ_as_21 : Dc Q_as 21 (.aload_n 0) 1 22 := ⟨by decide +kernel, rfl⟩
theorem dQ_as_22 : Dc Q_as 22 (.getfield 9) 3 25 := ⟨by decide +kernel, rfl⟩
theorem dQ_as_25 : Dc Q_as 25 (.bipush 8) 2 27 := ⟨by decide +kernel, rfl⟩
theorem dQ_as_27 : Dc Q_as 27 (.iload_n 1) 1 28 := ⟨by decide +kernel, rfl⟩
theorem dQ_as_28 : Dc Q_as 28 (.iadd) 1 29 := ⟨by decide +kernel, rfl⟩
theorem dQ_as_29 : Dc Q_as 29 (.iaload) 1 30 := ⟨by decide +kernel, rfl⟩
theorem dQ_as_30 : Dc Q_as 30 (.istore_n 3) 1 31 := ⟨by decide +kernel, rfl⟩
theorem dQ_as_31 : Dc Q_as 31 (.iload_n 3) 1 32 := ⟨by decide +kernel, rfl⟩
theorem dQ_as_32 : Dc Q_as 32 (.ifCond .ge 10) 3 35 := ⟨by decide +kernel, rfl⟩
theorem dQ_as_35 : Dc Q_as 35 (.aload_n 0) 1 36 := ⟨by decide +kernel, rfl⟩
theorem dQ_as_36 : Dc Q_as 36 (.ldc 234) 2 38 := ⟨by decide +kernel, rfl⟩
theorem dQ_as_38 : Dc Q_as 38 (.invokevirtual 75) 3 41 := ⟨by decide +kernel, rfl⟩
theorem dQ_as_41 : Dc Q_as 41 (.ireturn) 1 42 := ⟨by decide +kernel, rfl⟩
theorem dQ_as_42 : Dc Q_as 42 (.aload_n 0) 1 43 := ⟨by decide +kernel, rfl⟩
theorem dQ_as_43 : Dc Q_as 43 (.iload_n 3) 1 44 := ⟨by decide +kernel, rfl⟩
theorem dQ_as_44 : Dc Q_as 44 (.iconst 0) 1 45 := ⟨by decide +kernel, rfl⟩
theorem dQ_as_45 : Dc Q_as 45 (.invokevirtual 108) 3 48 := ⟨by decide +kernel, rfl⟩
theorem dQ_as_48 : Dc Q_as 48 (.iload_n 2) 1 49 := ⟨by decide +kernel, rfl⟩
theorem dQ_as_49 : Dc Q_as 49 (.invokestatic 336) 3 52 := ⟨by decide +kernel, rfl⟩
theorem dQ_as_52 : Dc Q_as 52 (.ifCond .eq 7) 3 55 := ⟨by decide +kernel, rfl⟩
theorem dQ_as_55 : Dc Q_as 55 (.iload_n 3) 1 56 := ⟨by decide +kernel, rfl⟩
theorem dQ_as_56 : Dc Q_as 56 (.goto 10) 3 59 := ⟨by decide +kernel, rfl⟩
theorem dQ_as_59 : Dc Q_as 59 (.aload_n 0) 1 60 := ⟨by decide +kernel, rfl⟩
theorem dQ_as_60 : Dc Q_as 60 (.ldc_w 339) 3 63 := ⟨by decide +kernel, rfl⟩
theorem dQ_as_63 : Dc Q_as 63 (.invokevirtual 75) 3 66 := ⟨by decide +kernel, rfl⟩
theorem dQ_as_66 : Dc Q_as 66 (.ireturn) 1 67 := ⟨by decide +kernel, rfl⟩
theorem dQ_isUnder_0 : Dc Q_isUnder 0 (.iload_n 0) 1 1 := ⟨by decide +kernel, rfl⟩
theorem dQ_isUnder_1 : Dc Q_isUnder 1 (.istore_n 2) 1 2 := ⟨by decide +kernel, rfl⟩
theorem dQ_isUnder_2 : Dc Q_isUnder 2 (.iload_n 2) 1 3 := ⟨by decide +kernel, rfl⟩
theorem dQ_isUnder_3 : Dc Q_isUnder 3 (.ifCond .lt 16) 3 6 := ⟨by decide +kernel, rfl⟩
theorem dQ_isUnder_6 : Dc Q_isUnder 6 (.iload_n 2) 1 7 := ⟨by decide +kernel, rfl⟩
theorem dQ_isUnder_7 : Dc Q_isUnder 7 (.iload_n 1) 1 8 := ⟨by decide +kernel, rfl⟩
theorem dQ_isUnder_8 : Dc Q_isUnder 8 (.if_icmp .eq 11) 3 11 := ⟨by decide +kernel, rfl⟩
theorem dQ_isUnder_11 : Dc Q_isUnder 11 (.iload_n 2) 1 12 := ⟨by decide +kernel, rfl⟩
theorem dQ_isUnder_12 : Dc Q_isUnder 12 (.invokestatic 344) 3 15 := ⟨by decide +kernel, rfl⟩
theorem dQ_isUnder_15 : Dc Q_isUnder 15 (.istore_n 2) 1 16 := ⟨by decide +kernel, rfl⟩
theorem dQ_isUnder_16 : Dc Q_isUnder 16 (.goto (-14)) 3 19 := ⟨by decide +kernel, rfl⟩
theorem dQ_isUnder_19 : Dc Q_isUnder 19 (.iload_n 2) 1 20 := ⟨by decide +kernel, rfl⟩
theorem dQ_isUnder_20 : Dc Q_isUnder 20 (.ifCond .lt 7) 3 23 := ⟨by decide +kernel, rfl⟩
theorem dQ_isUnder_23 : Dc Q_isUnder 23 (.iconst 1) 1 24 := ⟨by decide +kernel, rfl⟩
theorem dQ_isUnder_24 : Dc Q_isUnder 24 (.goto 4) 3 27 := ⟨by decide +kernel, rfl⟩
theorem dQ_isUnder_27 : Dc Q_isUnder 27 (.iconst 0) 1 28 := ⟨by decide +kernel, rfl⟩
theorem dQ_isUnder_28 : Dc Q_isUnder 28 (.ireturn) 1 29 := ⟨by decide +kernel, rfl⟩
theorem dQ_above_0 : Dc Q_above 0 (.iload_n 0) 1 1 := ⟨by decide +kernel, rfl⟩
theorem dQ_above_1 : Dc Q_above 1 (.ifCond .ne 7) 3 4 := ⟨by decide +kernel, rfl⟩
theorem dQ_above_4 : Dc Q_above 4 (.iconst (-1)) 1 5 := ⟨by decide +kernel, rfl⟩
theorem dQ_above_5 : Dc Q_above 5 (.goto 32) 3 8 := ⟨by decide +kernel, rfl⟩
theorem dQ_above_8 : Dc Q_above 8 (.iload_n 0) 1 9 := ⟨by decide +kernel, rfl⟩
theorem dQ_above_9 : Dc Q_above 9 (.iconst 3) 1 10 := ⟨by decide +kernel, rfl⟩
theorem dQ_above_10 : Dc Q_above 10 (.if_icmp .ne 7) 3 13 := ⟨by decide +kernel, rfl⟩
theorem dQ_above_13 : Dc Q_above 13 (.iconst 2) 1 14 := ⟨by decide +kernel, rfl⟩
theorem dQ_above_14 : Dc Q_above 14 (.goto 23) 3 17 := ⟨by decide +kernel, rfl⟩
theorem dQ_above_17 : Dc Q_above 17 (.iload_n 0) 1 18 := ⟨by decide +kernel, rfl⟩
theorem dQ_above_18 : Dc Q_above 18 (.iconst 4) 1 19 := ⟨by decide +kernel, rfl⟩
theorem dQ_above_19 : Dc Q_above 19 (.if_icmp .ne 7) 3 22 := ⟨by decide +kernel, rfl⟩
theorem dQ_above_22 : Dc Q_above 22 (.iconst 3) 1 23 := ⟨by decide +kernel, rfl⟩
theorem dQ_above_23 : Dc Q_above 23 (.goto 14) 3 26 := ⟨by decide +kernel, rfl⟩
theorem dQ_above_26 : Dc Q_above 26 (.iload_n 0) 1 27 := ⟨by decide +kernel, rfl⟩
theorem dQ_above_27 : Dc Q_above 27 (.bipush 6) 2 29 := ⟨by decide +kernel, rfl⟩
theorem dQ_above_29 : Dc Q_above 29 (.if_icmp .ne 7) 3 32 := ⟨by decide +kernel, rfl⟩
theorem dQ_above_32 : Dc Q_above 32 (.iconst 1) 1 33 := ⟨by decide +kernel, rfl⟩
theorem dQ_above_33 : Dc Q_above 33 (.goto 4) 3 36 := ⟨by decide +kernel, rfl⟩
theorem dQ_above_36 : Dc Q_above 36 (.iconst 0) 1 37 := ⟨by decide +kernel, rfl⟩
theorem dQ_above_37 : Dc Q_above 37 (.ireturn) 1 38 := ⟨by decide +kernel, rfl⟩
theorem dQ_sheet_0 : Dc Q_sheet 0 (.iload_n 1) 1 1 := ⟨by decide +kernel, rfl⟩
theorem dQ_sheet_1 : Dc Q_sheet 1 (.invokestatic 231) 3 4 := ⟨by decide +kernel, rfl⟩
theorem dQ_sheet_4 : Dc Q_sheet 4 (.ifCond .eq 25) 3 7 := ⟨by decide +kernel, rfl⟩
theorem dQ_sheet_7 : Dc Q_sheet 7 (.iload_n 2) 1 8 := ⟨by decide +kernel, rfl⟩
theorem dQ_sheet_8 : Dc Q_sheet 8 (.ifCond .eq 28) 3 11 := ⟨by decide +kernel, rfl⟩
theorem dQ_sheet_11 : Dc Q_sheet 11 (.iload_n 2) 1 12 := ⟨by decide +kernel, rfl⟩
theorem dQ_sheet_12 : Dc Q_sheet 12 (.bipush 8) 2 14 := ⟨by decide +kernel, rfl⟩
theorem dQ_sheet_14 : Dc Q_sheet 14 (.if_icmp .eq 22) 3 17 := ⟨by decide +kernel, rfl⟩
theorem dQ_sheet_17 : Dc Q_sheet 17 (.iload_n 2) 1 18 := ⟨by decide +kernel, rfl⟩
theorem dQ_sheet_18 : Dc Q_sheet 18 (.bipush 16) 2 20 := ⟨by decide +kernel, rfl⟩
theorem dQ_sheet_20 : Dc Q_sheet 20 (.if_icmp .eq 16) 3 23 := ⟨by decide +kernel, rfl⟩
theorem dQ_sheet_23 : Dc Q_sheet 23 (.iload_n 2) 1 24 := ⟨by decide +kernel, rfl⟩
theorem dQ_sheet_24 : Dc Q_sheet 24 (.bipush 32) 2 26 := ⟨by decide +kernel, rfl⟩
theorem dQ_sheet_26 : Dc Q_sheet 26 (.if_icmp .eq 10) 3 29 := ⟨by decide +kernel, rfl⟩
theorem dQ_sheet_29 : Dc Q_sheet 29 (.aload_n 0) 1 30 := ⟨by decide +kernel, rfl⟩
theorem dQ_sheet_30 : Dc Q_sheet 30 (.ldc 69) 2 32 := ⟨by decide +kernel, rfl⟩
theorem dQ_sheet_32 : Dc Q_sheet 32 (.invokevirtual 75) 3 35 := ⟨by decide +kernel, rfl⟩
theorem dQ_sheet_35 : Dc Q_sheet 35 (.ireturn) 1 36 := ⟨by decide +kernel, rfl⟩
theorem dQ_sheet_36 : Dc Q_sheet 36 (.iload_n 3) 1 37 := ⟨by decide +kernel, rfl⟩
theorem dQ_sheet_37 : Dc Q_sheet 37 (.ifCond .ge 11) 3 40 := ⟨by decide +kernel, rfl⟩
theorem dQ_sheet_40 : Dc Q_sheet 40 (.aload_n 0) 1 41 := ⟨by decide +kernel, rfl⟩
theorem dQ_sheet_41 : Dc Q_sheet 41 (.ldc_w 340) 3 44 := ⟨by decide +kernel, rfl⟩
theorem dQ_sheet_44 : Dc Q_sheet 44 (.invokevirtual 75) 3 47 := ⟨by decide +kernel, rfl⟩
theorem dQ_sheet_47 : Dc Q_sheet 47 (.ireturn) 1 48 := ⟨by decide +kernel, rfl⟩
theorem dQ_sheet_48 : Dc Q_sheet 48 (.iload_n 3) 1 49 := ⟨by decide +kernel, rfl⟩
theorem dQ_sheet_49 : Dc Q_sheet 49 (.bipush 40) 2 51 := ⟨by decide +kernel, rfl⟩
theorem dQ_sheet_51 : Dc Q_sheet 51 (.if_icmp .le 10) 3 54 := ⟨by decide +kernel, rfl⟩
theorem dQ_sheet_54 : Dc Q_sheet 54 (.aload_n 0) 1 55 := ⟨by decide +kernel, rfl⟩
theorem dQ_sheet_55 : Dc Q_sheet 55 (.ldc 69) 2 57 := ⟨by decide +kernel, rfl⟩
theorem dQ_sheet_57 : Dc Q_sheet 57 (.invokevirtual 75) 3 60 := ⟨by decide +kernel, rfl⟩
theorem dQ_sheet_60 : Dc Q_sheet 60 (.ireturn) 1 61 := ⟨by decide +kernel, rfl⟩
theorem dQ_sheet_61 : Dc Q_sheet 61 (.aload_n 0) 1 62 := ⟨by decide +kernel, rfl⟩
theorem dQ_sheet_62 : Dc Q_sheet 62 (.getfield 57) 3 65 := ⟨by decide +kernel, rfl⟩
theorem dQ_sheet_65 : Dc Q_sheet 65 (.iload_n 1) 1 66 := ⟨by decide +kernel, rfl⟩
theorem dQ_sheet_66 : Dc Q_sheet 66 (.iload_n 2) 1 67 := ⟨by decide +kernel, rfl⟩
theorem dQ_sheet_67 : Dc Q_sheet 67 (.iastore) 1 68 := ⟨by decide +kernel, rfl⟩
theorem dQ_sheet_68 : Dc Q_sheet 68 (.aload_n 0) 1 69 := ⟨by decide +kernel, rfl⟩
theorem dQ_sheet_69 : Dc Q_sheet 69 (.getfield 60) 3 72 := ⟨by decide +kernel, rfl⟩
theorem dQ_sheet_72 : Dc Q_sheet 72 (.iload_n 1) 1 73 := ⟨by decide +kernel, rfl⟩
theorem dQ_sheet_73 : Dc Q_sheet 73 (.iload_n 2) 1 74 := ⟨by decide +kernel, rfl⟩
theorem dQ_sheet_74 : Dc Q_sheet 74 (.ifCond .ne 7) 3 77 := ⟨by decide +kernel, rfl⟩
theorem dQ_sheet_77 : Dc Q_sheet 77 (.iconst 0) 1 78 := ⟨by decide +kernel, rfl⟩
theorem dQ_sheet_78 : Dc Q_sheet 78 (.goto 4) 3 81 := ⟨by decide +kernel, rfl⟩
theorem dQ_sheet_81 : Dc Q_sheet 81 (.iload_n 3) 1 82 := ⟨by decide +kernel, rfl⟩
theorem dQ_sheet_82 : Dc Q_sheet 82 (.iastore) 1 83 := ⟨by decide +kernel, rfl⟩
theorem dQ_sheet_83 : Dc Q_sheet 83 (.iconst 0) 1 84 := ⟨by decide +kernel, rfl⟩
theorem dQ_sheet_84 : Dc Q_sheet 84 (.istore 4) 2 86 := ⟨by decide +kernel, rfl⟩
theorem dQ_sheet_86 : Dc Q_sheet 86 (.iload 4) 2 88 := ⟨by decide +kernel, rfl⟩
theorem dQ_sheet_88 : Dc Q_sheet 88 (.bipush 40) 2 90 := ⟨by decide +kernel, rfl⟩
theorem dQ_sheet_90 : Dc Q_sheet 90 (.if_icmp .ge 22) 3 93 := ⟨by decide +kernel, rfl⟩
theorem dQ_sheet_93 : Dc Q_sheet 93 (.aload_n 0) 1 94 := ⟨by decide +kernel, rfl⟩
theorem dQ_sheet_94 : Dc Q_sheet 94 (.getfield 63) 3 97 := ⟨by decide +kernel, rfl⟩
theorem dQ_sheet_97 : Dc Q_sheet 97 (.bipush 40) 2 99 := ⟨by decide +kernel, rfl⟩
theorem dQ_sheet_99 : Dc Q_sheet 99 (.iload_n 1) 1 100 := ⟨by decide +kernel, rfl⟩
theorem dQ_sheet_100 : Dc Q_sheet 100 (.imul) 1 101 := ⟨by decide +kernel, rfl⟩
theorem dQ_sheet_101 : Dc Q_sheet 101 (.iload 4) 2 103 := ⟨by decide +kernel, rfl⟩
theorem dQ_sheet_103 : Dc Q_sheet 103 (.iadd) 1 104 := ⟨by decide +kernel, rfl⟩
theorem dQ_sheet_104 : Dc Q_sheet 104 (.iconst 0) 1 105 := ⟨by decide +kernel, rfl⟩
theorem dQ_sheet_105 : Dc Q_sheet 105 (.iastore) 1 106 := ⟨by decide +kernel, rfl⟩
theorem dQ_sheet_106 : Dc Q_sheet 106 (.iinc 4 1) 3 109 := ⟨by decide +kernel, rfl⟩
theorem dQ_sheet_109 : Dc Q_sheet 109 (.goto (-23)) 3 112 := ⟨by decide +kernel, rfl⟩
theorem dQ_sheet_112 : Dc Q_sheet 112 (.aload_n 0) 1 113 := ⟨by decide +kernel, rfl⟩
theorem dQ_sheet_113 : Dc Q_sheet 113 (.getfield 60) 3 116 := ⟨by decide +kernel, rfl⟩
theorem dQ_sheet_116 : Dc Q_sheet 116 (.iload_n 1) 1 117 := ⟨by decide +kernel, rfl⟩
theorem dQ_sheet_117 : Dc Q_sheet 117 (.iaload) 1 118 := ⟨by decide +kernel, rfl⟩
theorem dQ_sheet_118 : Dc Q_sheet 118 (.ireturn) 1 119 := ⟨by decide +kernel, rfl⟩
theorem dQ_write_0 : Dc Q_write 0 (.iload_n 1) 1 1 := ⟨by decide +kernel, rfl⟩
theorem dQ_write_1 : Dc Q_write 1 (.invokestatic 231) 3 4 := ⟨by decide +kernel, rfl⟩
theorem dQ_write_4 : Dc Q_write 4 (.ifCond .ne 10) 3 7 := ⟨by decide +kernel, rfl⟩
theorem dQ_write_7 : Dc Q_write 7 (.aload_n 0) 1 8 := ⟨by decide +kernel, rfl⟩
theorem dQ_write_8 : Dc Q_write 8 (.ldc 69) 2 10 := ⟨by decide +kernel, rfl⟩
theorem dQ_write_10 : Dc Q_write 10 (.invokevirtual 75) 3 13 := ⟨by decide +kernel, rfl⟩
theorem dQ_write_13 : Dc Q_write 13 (.ireturn) 1 14 := ⟨by decide +kernel, rfl⟩
theorem dQ_write_14 : Dc Q_write 14 (.aload_n 0) 1 15 := ⟨by decide +kernel, rfl⟩
theorem dQ_write_15 : Dc Q_write 15 (.getfield 57) 3 18 := ⟨by decide +kernel, rfl⟩
theorem dQ_write_18 : Dc Q_write 18 (.iload_n 1) 1 19 := ⟨by decide +kernel, rfl⟩
theorem dQ_write_19 : Dc Q_write 19 (.iaload) 1 20 := ⟨by decide +kernel, rfl⟩
theorem dQ_write_20 : Dc Q_write 20 (.ifCond .ne 10) 3 23 := ⟨by decide +kernel, rfl⟩
theorem dQ_write_23 : Dc Q_write 23 (.aload_n 0) 1 24 := ⟨by decide +kernel, rfl⟩
theorem dQ_write_24 : Dc Q_write 24 (.ldc 234) 2 26 := ⟨by decide +kernel, rfl⟩
theorem dQ_write_26 : Dc Q_write 26 (.invokevirtual 75) 3 29 := ⟨by decide +kernel, rfl⟩
theorem dQ_write_29 : Dc Q_write 29 (.ireturn) 1 30 := ⟨by decide +kernel, rfl⟩
theorem dQ_write_30 : Dc Q_write 30 (.iload_n 2) 1 31 := ⟨by decide +kernel, rfl⟩
theorem dQ_write_31 : Dc Q_write 31 (.iconst 0) 1 32 := ⟨by decide +kernel, rfl⟩
theorem dQ_write_32 : Dc Q_write 32 (.aload_n 0) 1 33 := ⟨by decide +kernel, rfl⟩
theorem dQ_write_33 : Dc Q_write 33 (.getfield 60) 3 36 := ⟨by decide +kernel, rfl⟩
theorem dQ_write_36 : Dc Q_write 36 (.iload_n 1) 1 37 := ⟨by decide +kernel, rfl⟩
theorem dQ_write_37 : Dc Q_write 37 (.iaload) 1 38 := ⟨by decide +kernel, rfl⟩
theorem dQ_write_38 : Dc Q_write 38 (.iconst 1) 1 39 := ⟨by decide +kernel, rfl⟩
theorem dQ_write_39 : Dc Q_write 39 (.isub) 1 40 := ⟨by decide +kernel, rfl⟩
theorem dQ_write_40 : Dc Q_write 40 (.invokestatic 79) 3 43 := ⟨by decide +kernel, rfl⟩
theorem dQ_write_43 : Dc Q_write 43 (.ifCond .ne 10) 3 46 := ⟨by decide +kernel, rfl⟩
theorem dQ_write_46 : Dc Q_write 46 (.aload_n 0) 1 47 := ⟨by decide +kernel, rfl⟩
theorem dQ_write_47 : Dc Q_write 47 (.ldc 69) 2 49 := ⟨by decide +kernel, rfl⟩
theorem dQ_write_49 : Dc Q_write 49 (.invokevirtual 75) 3 52 := ⟨by decide +kernel, rfl⟩
theorem dQ_write_52 : Dc Q_write 52 (.ireturn) 1 53 := ⟨by decide +kernel, rfl⟩
theorem dQ_write_53 : Dc Q_write 53 (.aload_n 0) 1 54 := ⟨by decide +kernel, rfl⟩
theorem dQ_write_54 : Dc Q_write 54 (.getfield 63) 3 57 := ⟨by decide +kernel, rfl⟩
theorem dQ_write_57 : Dc Q_write 57 (.bipush 40) 2 59 := ⟨by decide +kernel, rfl⟩
theorem dQ_write_59 : Dc Q_write 59 (.iload_n 1) 1 60 := ⟨by decide +kernel, rfl⟩
theorem dQ_write_60 : Dc Q_write 60 (.imul) 1 61 := ⟨by decide +kernel, rfl⟩
theorem dQ_write_61 : Dc Q_write 61 (.iload_n 2) 1 62 := ⟨by decide +kernel, rfl⟩
theorem dQ_write_62 : Dc Q_write 62 (.iadd) 1 63 := ⟨by decide +kernel, rfl⟩
theorem dQ_write_63 : Dc Q_write 63 (.iload_n 3) 1 64 := ⟨by decide +kernel, rfl⟩
theorem dQ_write_64 : Dc Q_write 64 (.aload_n 0) 1 65 := ⟨by decide +kernel, rfl⟩
theorem dQ_write_65 : Dc Q_write 65 (.getfield 57) 3 68 := ⟨by decide +kernel, rfl⟩
theorem dQ_write_68 : Dc Q_write 68 (.iload_n 1) 1 69 := ⟨by decide +kernel, rfl⟩
theorem dQ_write_69 : Dc Q_write 69 (.iaload) 1 70 := ⟨by decide +kernel, rfl⟩
theorem dQ_write_70 : Dc Q_write 70 (.invokestatic 341) 3 73 := ⟨by decide +kernel, rfl⟩
theorem dQ_write_73 : Dc Q_write 73 (.iastore) 1 74 := ⟨by decide +kernel, rfl⟩
theorem dQ_write_74 : Dc Q_write 74 (.iconst 1) 1 75 := ⟨by decide +kernel, rfl⟩
theorem dQ_write_75 : Dc Q_write 75 (.ireturn) 1 76 := ⟨by decide +kernel, rfl⟩
theorem dQ_cutTo_0 : Dc Q_cutTo 0 (.iload_n 1) 1 1 := ⟨by decide +kernel, rfl⟩
theorem dQ_cutTo_1 : Dc Q_cutTo 1 (.bipush 8) 2 3 := ⟨by decide +kernel, rfl⟩
theorem dQ_cutTo_3 : Dc Q_cutTo 3 (.if_icmp .ne 8) 3 6 := ⟨by decide +kernel, rfl⟩
theorem dQ_cutTo_6 : Dc Q_cutTo 6 (.iload_n 0) 1 7 := ⟨by decide +kernel, rfl⟩
theorem dQ_cutTo_7 : Dc Q_cutTo 7 (.i2b) 1 8 := ⟨by decide +kernel, rfl⟩
theorem dQ_cutTo_8 : Dc Q_cutTo 8 (.goto 15) 3 11 := ⟨by decide +kernel, rfl⟩
theorem dQ_cutTo_11 : Dc Q_cutTo 11 (.iload_n 1) 1 12 := ⟨by decide +kernel, rfl⟩
theorem dQ_cutTo_12 : Dc Q_cutTo 12 (.bipush 16) 2 14 := ⟨by decide +kernel, rfl⟩
theorem dQ_cutTo_14 : Dc Q_cutTo 14 (.if_icmp .ne 8) 3 17 := ⟨by decide +kernel, rfl⟩
theorem dQ_cutTo_17 : Dc Q_cutTo 17 (.iload_n 0) 1 18 := ⟨by decide +kernel, rfl⟩
theorem dQ_cutTo_18 : Dc Q_cutTo 18 (.i2s) 1 19 := ⟨by decide +kernel, rfl⟩
theorem dQ_cutTo_19 : Dc Q_cutTo 19 (.goto 4) 3 22 := ⟨by decide +kernel, rfl⟩
theorem dQ_cutTo_22 : Dc Q_cutTo 22 (.iload_n 0) 1 23 := ⟨by decide +kernel, rfl⟩
theorem dQ_cutTo_23 : Dc Q_cutTo 23 (.ireturn) 1 24 := ⟨by decide +kernel, rfl⟩
theorem dQ_copy_0 : Dc Q_copy 0 (.iload_n 1) 1 1 := ⟨by decide +kernel, rfl⟩
theorem dQ_copy_1 : Dc Q_copy 1 (.invokestatic 231) 3 4 := ⟨by decide +kernel, rfl⟩
theorem dQ_copy_4 : Dc Q_copy 4 (.ifCond .eq 10) 3 7 := ⟨by decide +kernel, rfl⟩
theorem dQ_copy_7 : Dc Q_copy 7 (.iload_n 3) 1 8 := ⟨by decide +kernel, rfl⟩
theorem dQ_copy_8 : Dc Q_copy 8 (.invokestatic 231) 3 11 := ⟨by decide +kernel, rfl⟩
theorem dQ_copy_11 : Dc Q_copy 11 (.ifCond .ne 10) 3 14 := ⟨by decide +kernel, rfl⟩
theorem dQ_copy_14 : Dc Q_copy 14 (.aload_n 0) 1 15 := ⟨by decide +kernel, rfl⟩
theorem dQ_copy_15 : Dc Q_copy 15 (.ldc 69) 2 17 := ⟨by decide +kernel, rfl⟩
theorem dQ_copy_17 : Dc Q_copy 17 (.invokevirtual 75) 3 20 := ⟨by decide +kernel, rfl⟩
theorem dQ_copy_20 : Dc Q_copy 20 (.ireturn) 1 21 := ⟨by decide +kernel, rfl⟩
theorem dQ_copy_21 : Dc Q_copy 21 (.aload_n 0) 1 22 := ⟨by decide +kernel, rfl⟩
theorem dQ_copy_22 : Dc Q_copy 22 (.getfield 57) 3 25 := ⟨by decide +kernel, rfl⟩
theorem dQ_copy_25 : Dc Q_copy 25 (.iload_n 1) 1 26 := ⟨by decide +kernel, rfl⟩
theorem dQ_copy_26 : Dc Q_copy 26 (.iaload) 1 27 := ⟨by decide +kernel, rfl⟩
theorem dQ_copy_27 : Dc Q_copy 27 (.ifCond .eq 12) 3 30 := ⟨by decide +kernel, rfl⟩
theorem dQ_copy_30 : Dc Q_copy 30 (.aload_n 0) 1 31 := ⟨by decide +kernel, rfl⟩
theorem dQ_copy_31 : Dc Q_copy 31 (.getfield 57) 3 34 := ⟨by decide +kernel, rfl⟩
theorem dQ_copy_34 : Dc Q_copy 34 (.iload_n 3) 1 35 := ⟨by decide +kernel, rfl⟩
theorem dQ_copy_35 : Dc Q_copy 35 (.iaload) 1 36 := ⟨by decide +kernel, rfl⟩
theorem dQ_copy_36 : Dc Q_copy 36 (.ifCond .ne 10) 3 39 := ⟨by decide +kernel, rfl⟩
theorem dQ_copy_39 : Dc Q_copy 39 (.aload_n 0) 1 40 := ⟨by decide +kernel, rfl⟩
theorem dQ_copy_40 : Dc Q_copy 40 (.ldc 234) 2 42 := ⟨by decide +kernel, rfl⟩
theorem dQ_copy_42 : Dc Q_copy 42 (.invokevirtual 75) 3 45 := ⟨by decide +kernel, rfl⟩
theorem dQ_copy_45 : Dc Q_copy 45 (.ireturn) 1 46 := ⟨by decide +kernel, rfl⟩
theorem dQ_copy_46 : Dc Q_copy 46 (.aload_n 0) 1 47 := ⟨by decide +kernel, rfl⟩
theorem dQ_copy_47 : Dc Q_copy 47 (.getfield 57) 3 50 := ⟨by decide +kernel, rfl⟩
theorem dQ_copy_50 : Dc Q_copy 50 (.iload_n 1) 1 51 := ⟨by decide +kernel, rfl⟩
theorem dQ_copy_51 : Dc Q_copy 51 (.iaload) 1 52 := ⟨by decide +kernel, rfl⟩
theorem dQ_copy_52 : Dc Q_copy 52 (.aload_n 0) 1 53 := ⟨by decide +kernel, rfl⟩
theorem dQ_copy_53 : Dc Q_copy 53 (.getfield 57) 3 56 := ⟨by decide +kernel, rfl⟩
theorem dQ_copy_56 : Dc Q_copy 56 (.iload_n 3) 1 57 := ⟨by decide +kernel, rfl⟩
theorem dQ_copy_57 : Dc Q_copy 57 (.iaload) 1 58 := ⟨by decide +kernel, rfl⟩
theorem dQ_copy_58 : Dc Q_copy 58 (.if_icmp .eq 11) 3 61 := ⟨by decide +kernel, rfl⟩
theorem dQ_copy_61 : Dc Q_copy 61 (.aload_n 0) 1 62 := ⟨by decide +kernel, rfl⟩
theorem dQ_copy_62 : Dc Q_copy 62 (.ldc_w 339) 3 65 := ⟨by decide +kernel, rfl⟩
theorem dQ_copy_65 : Dc Q_copy 65 (.invokevirtual 75) 3 68 := ⟨by decide +kernel, rfl⟩
theorem dQ_copy_68 : Dc Q_copy 68 (.ireturn) 1 69 := ⟨by decide +kernel, rfl⟩
theorem dQ_copy_69 : Dc Q_copy 69 (.iload_n 2) 1 70 := ⟨by decide +kernel, rfl⟩
theorem dQ_copy_70 : Dc Q_copy 70 (.ifCond .lt 48) 3 73 := ⟨by decide +kernel, rfl⟩
theorem dQ_copy_73 : Dc Q_copy 73 (.iload 4) 2 75 := ⟨by decide +kernel, rfl⟩
theorem dQ_copy_75 : Dc Q_copy 75 (.ifCond .lt 43) 3 78 := ⟨by decide +kernel, rfl⟩
theorem dQ_copy_78 : Dc Q_copy 78 (.iload 5) 2 80 := ⟨by decide +kernel, rfl⟩
theorem dQ_copy_80 : Dc Q_copy 80 (.ifCond .lt 38) 3 83 := ⟨by decide +kernel, rfl⟩
theorem dQ_copy_83 : Dc Q_copy 83 (.iload_n 2) 1 84 := ⟨by decide +kernel, rfl⟩
theorem dQ_copy_84 : Dc Q_copy 84 (.i2l) 1 85 := ⟨by decide +kernel, rfl⟩
theorem dQ_copy_85 : Dc Q_copy 85 (.iload 5) 2 87 := ⟨by decide +kernel, rfl⟩
theorem dQ_copy_87 : Dc Q_copy 87 (.i2l) 1 88 := ⟨by decide +kernel, rfl⟩
theorem dQ_copy_88 : Dc Q_copy 88 (.ladd) 1 89 := ⟨by decide +kernel, rfl⟩
theorem dQ_copy_89 : Dc Q_copy 89 (.aload_n 0) 1 90 := ⟨by decide +kernel, rfl⟩
theorem dQ_copy_90 : Dc Q_copy 90 (.getfield 60) 3 93 := ⟨by decide +kernel, rfl⟩
theorem dQ_copy_93 : Dc Q_copy 93 (.iload_n 1) 1 94 := ⟨by decide +kernel, rfl⟩
theorem dQ_copy_94 : Dc Q_copy 94 (.iaload) 1 95 := ⟨by decide +kernel, rfl⟩
theorem dQ_copy_95 : Dc Q_copy 95 (.i2l) 1 96 := ⟨by decide +kernel, rfl⟩
theorem dQ_copy_96 : Dc Q_copy 96 (.lcmp) 1 97 := ⟨by decide +kernel, rfl⟩
theorem dQ_copy_97 : Dc Q_copy 97 (.ifCond .gt 21) 3 100 := ⟨by decide +kernel, rfl⟩
theorem dQ_copy_100 : Dc Q_copy 100 (.iload 4) 2 102 := ⟨by decide +kernel, rfl⟩
theorem dQ_copy_102 : Dc Q_copy 102 (.i2l) 1 103 := ⟨by decide +kernel, rfl⟩
theorem dQ_copy_103 : Dc Q_copy 103 (.iload 5) 2 105 := ⟨by decide +kernel, rfl⟩
theorem dQ_copy_105 : Dc Q_copy 105 (.i2l) 1 106 := ⟨by decide +kernel, rfl⟩
theorem dQ_copy_106 : Dc Q_copy 106 (.ladd) 1 107 := ⟨by decide +kernel, rfl⟩
theorem dQ_copy_107 : Dc Q_copy 107 (.aload_n 0) 1 108 := ⟨by decide +kernel, rfl⟩
theorem dQ_copy_108 : Dc Q_copy 108 (.getfield 60) 3 111 := ⟨by decide +kernel, rfl⟩
theorem dQ_copy_111 : Dc Q_copy 111 (.iload_n 3) 1 112 := ⟨by decide +kernel, rfl⟩
theorem dQ_copy_112 : Dc Q_copy 112 (.iaload) 1 113 := ⟨by decide +kernel, rfl⟩
theorem dQ_copy_113 : Dc Q_copy 113 (.i2l) 1 114 := ⟨by decide +kernel, rfl⟩
theorem dQ_copy_114 : Dc Q_copy 114 (.lcmp) 1 115 := ⟨by decide +kernel, rfl⟩
theorem dQ_copy_115 : Dc Q_copy 115 (.ifCond .le 10) 3 118 := ⟨by decide +kernel, rfl⟩
theorem dQ_copy_118 : Dc Q_copy 118 (.aload_n 0) 1 119 := ⟨by decide +kernel, rfl⟩
theorem dQ_copy_119 : Dc Q_copy 119 (.ldc 69) 2 121 := ⟨by decide +kernel, rfl⟩
theorem dQ_copy_121 : Dc Q_copy 121 (.invokevirtual 75) 3 124 := ⟨by decide +kernel, rfl⟩
theorem dQ_copy_124 : Dc Q_copy 124 (.ireturn) 1 125 := ⟨by decide +kernel, rfl⟩
theorem dQ_copy_125 : Dc Q_copy 125 (.iconst 0) 1 126 := ⟨by decide +kernel, rfl⟩
theorem dQ_copy_126 : Dc Q_copy 126 (.istore 6) 2 128 := ⟨by decide +kernel, rfl⟩
theorem dQ_copy_128 : Dc Q_copy 128 (.iload 6) 2 130 := ⟨by decide +kernel, rfl⟩
theorem dQ_copy_130 : Dc Q_copy 130 (.iload 5) 2 132 := ⟨by decide +kernel, rfl⟩
theorem dQ_copy_132 : Dc Q_copy 132 (.if_icmp .ge 30) 3 135 := ⟨by decide +kernel, rfl⟩
theorem dQ_copy_135 : Dc Q_copy 135 (.aload_n 0) 1 136 := ⟨by decide +kernel, rfl⟩
theorem dQ_copy_136 : Dc Q_copy 136 (.getfield 66) 3 139 := ⟨by decide +kernel, rfl⟩
theorem dQ_copy_139 : Dc Q_copy 139 (.iload 6) 2 141 := ⟨by decide +kernel, rfl⟩
theorem dQ_copy_141 : Dc Q_copy 141 (.aload_n 0) 1 142 := ⟨by decide +kernel, rfl⟩
theorem dQ_copy_142 : Dc Q_copy 142 (.getfield 63) 3 145 := ⟨by decide +kernel, rfl⟩
theorem dQ_copy_145 : Dc Q_copy 145 (.bipush 40) 2 147 := ⟨by decide +kernel, rfl⟩
theorem dQ_copy_147 : Dc Q_copy 147 (.iload_n 1) 1 148 := ⟨by decide +kernel, rfl⟩
theorem dQ_copy_148 : Dc Q_copy 148 (.imul) 1 149 := ⟨by decide +kernel, rfl⟩
theorem dQ_copy_149 : Dc Q_copy 149 (.iload_n 2) 1 150 := ⟨by decide +kernel, rfl⟩
theorem dQ_copy_150 : Dc Q_copy 150 (.iadd) 1 151 := ⟨by decide +kernel, rfl⟩
theorem dQ_copy_151 : Dc Q_copy 151 (.iload 6) 2 153 := ⟨by decide +kernel, rfl⟩
theorem dQ_copy_153 : Dc Q_copy 153 (.iadd) 1 154 := ⟨by decide +kernel, rfl⟩
theorem dQ_copy_154 : Dc Q_copy 154 (.iaload) 1 155 := ⟨by decide +kernel, rfl⟩
theorem dQ_copy_155 : Dc Q_copy 155 (.iastore) 1 156 := ⟨by decide +kernel, rfl⟩
theorem dQ_copy_156 : Dc Q_copy 156 (.iinc 6 1) 3 159 := ⟨by decide +kernel, rfl⟩
theorem dQ_copy_159 : Dc Q_copy 159 (.goto (-31)) 3 162 := ⟨by decide +kernel, rfl⟩
theorem dQ_copy_162 : Dc Q_copy 162 (.iconst 0) 1 163 := ⟨by decide +kernel, rfl⟩
theorem dQ_copy_163 : Dc Q_copy 163 (.istore 6) 2 165 := ⟨by decide +kernel, rfl⟩
theorem dQ_copy_165 : Dc Q_copy 165 (.iload 6) 2 167 := ⟨by decide +kernel, rfl⟩
theorem dQ_copy_167 : Dc Q_copy 167 (.iload 5) 2 169 := ⟨by decide +kernel, rfl⟩
theorem dQ_copy_169 : Dc Q_copy 169 (.if_icmp .ge 31) 3 172 := ⟨by decide +kernel, rfl⟩
theorem dQ_copy_172 : Dc Q_copy 172 (.aload_n 0) 1 173 := ⟨by decide +kernel, rfl⟩
theorem dQ_copy_173 : Dc Q_copy 173 (.getfield 63) 3 176 := ⟨by decide +kernel, rfl⟩
theorem dQ_copy_176 : Dc Q_copy 176 (.bipush 40) 2 178 := ⟨by decide +kernel, rfl⟩
theorem dQ_copy_178 : Dc Q_copy 178 (.iload_n 3) 1 179 := ⟨by decide +kernel, rfl⟩
theorem dQ_copy_179 : Dc Q_copy 179 (.imul) 1 180 := ⟨by decide +kernel, rfl⟩
theorem dQ_copy_180 : Dc Q_copy 180 (.iload 4) 2 182 := ⟨by decide +kernel, rfl⟩
theorem dQ_copy_182 : Dc Q_copy 182 (.iadd) 1 183 := ⟨by decide +kernel, rfl⟩
theorem dQ_copy_183 : Dc Q_copy 183 (.iload 6) 2 185 := ⟨by decide +kernel, rfl⟩
theorem dQ_copy_185 : Dc Q_copy 185 (.iadd) 1 186 := ⟨by decide +kernel, rfl⟩
theorem dQ_copy_186 : Dc Q_copy 186 (.aload_n 0) 1 187 := ⟨by decide +kernel, rfl⟩
theorem dQ_copy_187 : Dc Q_copy 187 (.getfield 66) 3 190 := ⟨by decide +kernel, rfl⟩
theorem dQ_copy_190 : Dc Q_copy 190 (.iload 6) 2 192 := ⟨by decide +kernel, rfl⟩
theorem dQ_copy_192 : Dc Q_copy 192 (.iaload) 1 193 := ⟨by decide +kernel, rfl⟩
theorem dQ_copy_193 : Dc Q_copy 193 (.iastore) 1 194 := ⟨by decide +kernel, rfl⟩
theorem dQ_copy_194 : Dc Q_copy 194 (.iinc 6 1) 3 197 := ⟨by decide +kernel, rfl⟩
theorem dQ_copy_197 : Dc Q_copy 197 (.goto (-32)) 3 200 := ⟨by decide +kernel, rfl⟩
theorem dQ_copy_200 : Dc Q_copy 200 (.iload 5) 2 202 := ⟨by decide +kernel, rfl⟩
theorem dQ_copy_202 : Dc Q_copy 202 (.ireturn) 1 203 := ⟨by decide +kernel, rfl⟩
theorem dQ_load_0 : Dc Q_load 0 (.aload_n 0) 1 1 := ⟨by decide +kernel, rfl⟩
theorem dQ_load_1 : Dc Q_load 1 (.iload_n 1) 1 2 := ⟨by decide +kernel, rfl⟩
theorem dQ_load_2 : Dc Q_load 2 (.iconst 1) 1 3 := ⟨by decide +kernel, rfl⟩
theorem dQ_load_3 : Dc Q_load 3 (.invokevirtual 238) 3 6 := ⟨by decide +kernel, rfl⟩
theorem dQ_load_6 : Dc Q_load 6 (.ifCond .eq 14) 3 9 := ⟨by decide +kernel, rfl⟩
theorem dQ_load_9 : Dc Q_load 9 (.aload_n 0) 1 10 := ⟨by decide +kernel, rfl⟩
theorem dQ_load_10 : Dc Q_load 10 (.aload_n 0) 1 11 := ⟨by decide +kernel, rfl⟩
theorem dQ_load_11 : Dc Q_load 11 (.iload_n 1) 1 12 := ⟨by decide +kernel, rfl⟩
theorem dQ_load_12 : Dc Q_load 12 (.iconst 1) 1 13 := ⟨by decide +kernel, rfl⟩
theorem dQ_load_13 : Dc Q_load 13 (.invokevirtual 238) 3 16 := ⟨by decide +kernel, rfl⟩
theorem dQ_load_16 : Dc Q_load 16 (.invokevirtual 75) 3 19 := ⟨by decide +kernel, rfl⟩
theorem dQ_load_19 : Dc Q_load 19 (.ireturn) 1 20 := ⟨by decide +kernel, rfl⟩
theorem dQ_load_20 : Dc Q_load 20 (.iconst 0) 1 21 := ⟨by decide +kernel, rfl⟩
theorem dQ_load_21 : Dc Q_load 21 (.istore_n 2) 1 22 := ⟨by decide +kernel, rfl⟩
theorem dQ_load_22 : Dc Q_load 22 (.iload_n 2) 1 23 := ⟨by decide +kernel, rfl⟩
theorem dQ_load_23 : Dc Q_load 23 (.aload_n 0) 1 24 := ⟨by decide +kernel, rfl⟩
theorem dQ_load_24 : Dc Q_load 24 (.getfield 60) 3 27 := ⟨by decide +kernel, rfl⟩
theorem dQ_load_27 : Dc Q_load 27 (.iload_n 1) 1 28 := ⟨by decide +kernel, rfl⟩
theorem dQ_load_28 : Dc Q_load 28 (.iaload) 1 29 := ⟨by decide +kernel, rfl⟩
theorem dQ_load_29 : Dc Q_load 29 (.if_icmp .ge 58) 3 32 := ⟨by decide +kernel, rfl⟩
theorem dQ_load_32 : Dc Q_load 32 (.aload_n 0) 1 33 := ⟨by decide +kernel, rfl⟩
theorem dQ_load_33 : Dc Q_load 33 (.iload_n 2) 1 34 := ⟨by decide +kernel, rfl⟩
theorem dQ_load_34 : Dc Q_load 34 (.invokevirtual 119) 3 37 := ⟨by decide +kernel, rfl⟩
theorem dQ_load_37 : Dc Q_load 37 (.ifCond .eq 50) 3 40 := ⟨by decide +kernel, rfl⟩
theorem dQ_load_40 : Dc Q_load 40 (.aload_n 0) 1 41 := ⟨by decide +kernel, rfl⟩
theorem dQ_load_41 : Dc Q_load 41 (.getfield 63) 3 44 := ⟨by decide +kernel, rfl⟩
theorem dQ_load_44 : Dc Q_load 44 (.bipush 40) 2 46 := ⟨by decide +kernel, rfl⟩
theorem dQ_load_46 : Dc Q_load 46 (.iload_n 1) 1 47 := ⟨by decide +kernel, rfl⟩
theorem dQ_load_47 : Dc Q_load 47 (.imul) 1 48 := ⟨by decide +kernel, rfl⟩
theorem dQ_load_48 : Dc Q_load 48 (.iload_n 2) 1 49 := ⟨by decide +kernel, rfl⟩
theorem dQ_load_49 : Dc Q_load 49 (.iadd) 1 50 := ⟨by decide +kernel, rfl⟩
theorem dQ_load_50 : Dc Q_load 50 (.iaload) 1 51 := ⟨by decide +kernel, rfl⟩
theorem dQ_load_51 : Dc Q_load 51 (.iconst 0) 1 52 := ⟨by decide +kernel, rfl⟩
theorem dQ_load_52 : Dc Q_load 52 (.bipush 99) 2 54 := ⟨by decide +kernel, rfl⟩
theorem dQ_load_54 : Dc Q_load 54 (.invokestatic 79) 3 57 := ⟨by decide +kernel, rfl⟩
theorem dQ_load_57 : Dc Q_load 57 (.ifCond .eq 30) 3 60 := ⟨by decide +kernel, rfl⟩
theorem dQ_load_60 : Dc Q_load 60 (.aload_n 0) 1 61 := ⟨by decide +kernel, rfl⟩
theorem dQ_load_61 : Dc Q_load 61 (.getfield 9) 3 64 := ⟨by decide +kernel, rfl⟩
theorem dQ_load_64 : Dc Q_load 64 (.iload_n 2) 1 65 := ⟨by decide +kernel, rfl⟩
theorem dQ_load_65 : Dc Q_load 65 (.iconst 2) 1 66 := ⟨by decide +kernel, rfl⟩
theorem dQ_load_66 : Dc Q_load 66 (.invokestatic 83) 3 69 := ⟨by decide +kernel, rfl⟩
theorem dQ_load_69 : Dc Q_load 69 (.aload_n 0) 1 70 := ⟨by decide +kernel, rfl⟩
theorem dQ_load_70 : Dc Q_load 70 (.getfield 63) 3 73 := ⟨by decide +kernel, rfl⟩
theorem dQ_load_73 : Dc Q_load 73 (.bipush 40) 2 75 := ⟨by decide +kernel, rfl⟩
theorem dQ_load_75 : Dc Q_load 75 (.iload_n 1) 1 76 := ⟨by decide +kernel, rfl⟩
theorem dQ_load_76 : Dc Q_load 76 (.imul) 1 77 := ⟨by decide +kernel, rfl⟩
theorem dQ_load_77 : Dc Q_load 77 (.iload_n 2) 1 78 := ⟨by decide +kernel, rfl⟩
theorem dQ_load_78 : Dc Q_load 78 (.iadd) 1 79 := ⟨by decide +kernel, rfl⟩
theorem dQ_load_79 : Dc Q_load 79 (.iaload) 1 80 := ⟨by decide +kernel, rfl⟩
theorem dQ_load_80 : Dc Q_load 80 (.iastore) 1 81 := ⟨by decide +kernel, rfl⟩
theorem dQ_load_81 : Dc Q_load 81 (.iinc 2 1) 3 84 := ⟨by decide +kernel, rfl⟩
theorem dQ_load_84 : Dc Q_load 84 (.goto (-62)) 3 87 := ⟨by decide +kernel, rfl⟩
theorem dQ_load_87 : Dc Q_load 87 (.iload_n 2) 1 88 := ⟨by decide +kernel, rfl⟩
theorem dQ_load_88 : Dc Q_load 88 (.ireturn) 1 89 := ⟨by decide +kernel, rfl⟩
theorem dQ_judge_0 : Dc Q_judge 0 (.aload_n 0) 1 1 := ⟨by decide +kernel, rfl⟩
theorem dQ_judge_1 : Dc Q_judge 1 (.iload_n 1) 1 2 := ⟨by decide +kernel, rfl⟩
theorem dQ_judge_2 : Dc Q_judge 2 (.iconst 1) 1 3 := ⟨by decide +kernel, rfl⟩
theorem dQ_judge_3 : Dc Q_judge 3 (.invokevirtual 238) 3 6 := ⟨by decide +kernel, rfl⟩
theorem dQ_judge_6 : Dc Q_judge 6 (.ifCond .eq 14) 3 9 := ⟨by decide +kernel, rfl⟩
theorem dQ_judge_9 : Dc Q_judge 9 (.aload_n 0) 1 10 := ⟨by decide +kernel, rfl⟩
theorem dQ_judge_10 : Dc Q_judge 10 (.aload_n 0) 1 11 := ⟨by decide +kernel, rfl⟩
theorem dQ_judge_11 : Dc Q_judge 11 (.iload_n 1) 1 12 := ⟨by decide +kernel, rfl⟩
theorem dQ_judge_12 : Dc Q_judge 12 (.iconst 1) 1 13 := ⟨by decide +kernel, rfl⟩
theorem dQ_judge_13 : Dc Q_judge 13 (.invokevirtual 238) 3 16 := ⟨by decide +kernel, rfl⟩
theorem dQ_judge_16 : Dc Q_judge 16 (.invokevirtual 75) 3 19 := ⟨by decide +kernel, rfl⟩
theorem dQ_judge_19 : Dc Q_judge 19 (.ireturn) 1 20 := ⟨by decide +kernel, rfl⟩
theorem dQ_judge_20 : Dc Q_judge 20 (.iconst 0) 1 21 := ⟨by decide +kernel, rfl⟩
theorem dQ_judge_21 : Dc Q_judge 21 (.istore_n 2) 1 22 := ⟨by decide +kernel, rfl⟩
theorem dQ_judge_22 : Dc Q_judge 22 (.iload_n 2) 1 23 := ⟨by decide +kernel, rfl⟩
theorem dQ_judge_23 : Dc Q_judge 23 (.aload_n 0) 1 24 := ⟨by decide +kernel, rfl⟩
theorem dQ_judge_24 : Dc Q_judge 24 (.getfield 60) 3 27 := ⟨by decide +kernel, rfl⟩
theorem dQ_judge_27 : Dc Q_judge 27 (.iload_n 1) 1 28 := ⟨by decide +kernel, rfl⟩
theorem dQ_judge_28 : Dc Q_judge 28 (.iaload) 1 29 := ⟨by decide +kernel, rfl⟩
theorem dQ_judge_29 : Dc Q_judge 29 (.if_icmp .ge 37) 3 32 := ⟨by decide +kernel, rfl⟩
theorem dQ_judge_32 : Dc Q_judge 32 (.aload_n 0) 1 33 := ⟨by decide +kernel, rfl⟩
theorem dQ_judge_33 : Dc Q_judge 33 (.iload_n 2) 1 34 := ⟨by decide +kernel, rfl⟩
theorem dQ_judge_34 : Dc Q_judge 34 (.invokevirtual 119) 3 37 := ⟨by decide +kernel, rfl⟩
theorem dQ_judge_37 : Dc Q_judge 37 (.ifCond .eq 29) 3 40 := ⟨by decide +kernel, rfl⟩
theorem dQ_judge_40 : Dc Q_judge 40 (.aload_n 0) 1 41 := ⟨by decide +kernel, rfl⟩
theorem dQ_judge_41 : Dc Q_judge 41 (.getfield 63) 3 44 := ⟨by decide +kernel, rfl⟩
theorem dQ_judge_44 : Dc Q_judge 44 (.bipush 40) 2 46 := ⟨by decide +kernel, rfl⟩
theorem dQ_judge_46 : Dc Q_judge 46 (.iload_n 1) 1 47 := ⟨by decide +kernel, rfl⟩
theorem dQ_judge_47 : Dc Q_judge 47 (.imul) 1 48 := ⟨by decide +kernel, rfl⟩
theorem dQ_judge_48 : Dc Q_judge 48 (.iload_n 2) 1 49 := ⟨by decide +kernel, rfl⟩
theorem dQ_judge_49 : Dc Q_judge 49 (.iadd) 1 50 := ⟨by decide +kernel, rfl⟩
theorem dQ_judge_50 : Dc Q_judge 50 (.iaload) 1 51 := ⟨by decide +kernel, rfl⟩
theorem dQ_judge_51 : Dc Q_judge 51 (.aload_n 0) 1 52 := ⟨by decide +kernel, rfl⟩
theorem dQ_judge_52 : Dc Q_judge 52 (.iload_n 2) 1 53 := ⟨by decide +kernel, rfl⟩
theorem dQ_judge_53 : Dc Q_judge 53 (.iconst 1) 1 54 := ⟨by decide +kernel, rfl⟩
theorem dQ_judge_54 : Dc Q_judge 54 (.invokevirtual 108) 3 57 := ⟨by decide +kernel, rfl⟩
theorem dQ_judge_57 : Dc Q_judge 57 (.if_icmp .ne 9) 3 60 := ⟨by decide +kernel, rfl⟩
theorem dQ_judge_60 : Dc Q_judge 60 (.iinc 2 1) 3 63 := ⟨by decide +kernel, rfl⟩
theorem dQ_judge_63 : Dc Q_judge 63 (.goto (-41)) 3 66 := ⟨by decide +kernel, rfl⟩
theorem dQ_judge_66 : Dc Q_judge 66 (.iload_n 2) 1 67 := ⟨by decide +kernel, rfl⟩
theorem dQ_judge_67 : Dc Q_judge 67 (.aload_n 0) 1 68 := ⟨by decide +kernel, rfl⟩
theorem dQ_judge_68 : Dc Q_judge 68 (.getfield 60) 3 71 := ⟨by decide +kernel, rfl⟩
theorem dQ_judge_71 : Dc Q_judge 71 (.iload_n 1) 1 72 := ⟨by decide +kernel, rfl⟩
theorem dQ_judge_72 : Dc Q_judge 72 (.iaload) 1 73 := ⟨by decide +kernel, rfl⟩
theorem dQ_judge_73 : Dc Q_judge 73 (.if_icmp .ne 7) 3 76 := ⟨by decide +kernel, rfl⟩
theorem dQ_judge_76 : Dc Q_judge 76 (.iconst 0) 1 77 := ⟨by decide +kernel, rfl⟩
theorem dQ_judge_77 : Dc Q_judge 77 (.goto 6) 3 80 := ⟨by decide +kernel, rfl⟩
theorem dQ_judge_80 : Dc Q_judge 80 (.iconst 1) 1 81 := ⟨by decide +kernel, rfl⟩
theorem dQ_judge_81 : Dc Q_judge 81 (.iload_n 2) 1 82 := ⟨by decide +kernel, rfl⟩
theorem dQ_judge_82 : Dc Q_judge 82 (.iadd) 1 83 := ⟨by decide +kernel, rfl⟩
theorem dQ_judge_83 : Dc Q_judge 83 (.ireturn) 1 84 := ⟨by decide +kernel, rfl⟩
theorem dQ_image_0 : Dc Q_image 0 (.aload_n 0) 1 1 := ⟨by decide +kernel, rfl⟩
theorem dQ_image_1 : Dc Q_image 1 (.getfield 9) 3 4 := ⟨by decide +kernel, rfl⟩
theorem dQ_image_4 : Dc Q_image 4 (.aload_n 0) 1 5 := ⟨by decide +kernel, rfl⟩
theorem dQ_image_5 : Dc Q_image 5 (.getfield 13) 3 8 := ⟨by decide +kernel, rfl⟩
theorem dQ_image_8 : Dc Q_image 8 (.invokestatic 70) 3 11 := ⟨by decide +kernel, rfl⟩
theorem dQ_image_11 : Dc Q_image 11 (.aload_n 0) 1 12 := ⟨by decide +kernel, rfl⟩
theorem dQ_image_12 : Dc Q_image 12 (.iconst 1) 1 13 := ⟨by decide +kernel, rfl⟩
theorem dQ_image_13 : Dc Q_image 13 (.putfield 347) 3 16 := ⟨by decide +kernel, rfl⟩
theorem dQ_image_16 : Dc Q_image 16 (.iconst 1) 1 17 := ⟨by decide +kernel, rfl⟩
theorem dQ_image_17 : Dc Q_image 17 (.ireturn) 1 18 := ⟨by decide +kernel, rfl⟩
theorem dQ_undo_0 : Dc Q_undo 0 (.aload_n 0) 1 1 := ⟨by decide +kernel, rfl⟩
theorem dQ_undo_1 : Dc Q_undo 1 (.getfield 347) 3 4 := ⟨by decide +kernel, rfl⟩
theorem dQ_undo_4 : Dc Q_undo 4 (.ifCond .ne 10) 3 7 := ⟨by decide +kernel, rfl⟩
theorem dQ_undo_7 : Dc Q_undo 7 (.aload_n 0) 1 8 := ⟨by decide +kernel, rfl⟩
theorem dQ_undo_8 : Dc Q_undo 8 (.ldc 74) 2 10 := ⟨by decide +kernel, rfl⟩
theorem dQ_undo_10 : Dc Q_undo 10 (.invokevirtual 75) 3 13 := ⟨by decide +kernel, rfl⟩
theorem dQ_undo_13 : Dc Q_undo 13 (.ireturn) 1 14 := ⟨by decide +kernel, rfl⟩
theorem dQ_undo_14 : Dc Q_undo 14 (.aload_n 0) 1 15 := ⟨by decide +kernel, rfl⟩
theorem dQ_undo_15 : Dc Q_undo 15 (.getfield 13) 3 18 := ⟨by decide +kernel, rfl⟩
theorem dQ_undo_18 : Dc Q_undo 18 (.aload_n 0) 1 19 := ⟨by decide +kernel, rfl⟩
theorem dQ_undo_19 : Dc Q_undo 19 (.getfield 9) 3 22 := ⟨by decide +kernel, rfl⟩
theorem dQ_undo_22 : Dc Q_undo 22 (.invokestatic 70) 3 25 := ⟨by decide +kernel, rfl⟩
theorem dQ_undo_25 : Dc Q_undo 25 (.aload_n 0) 1 26 := ⟨by decide +kernel, rfl⟩
theorem dQ_undo_26 : Dc Q_undo 26 (.getfield 9) 3 29 := ⟨by decide +kernel, rfl⟩
theorem dQ_undo_29 : Dc Q_undo 29 (.iconst 0) 1 30 := ⟨by decide +kernel, rfl⟩
theorem dQ_undo_30 : Dc Q_undo 30 (.iaload) 1 31 := ⟨by decide +kernel, rfl⟩
theorem dQ_undo_31 : Dc Q_undo 31 (.ireturn) 1 32 := ⟨by decide +kernel, rfl⟩
theorem dQ_tear_0 : Dc Q_tear 0 (.aload_n 0) 1 1 := ⟨by decide +kernel, rfl⟩
theorem dQ_tear_1 : Dc Q_tear 1 (.getfield 347) 3 4 := ⟨by decide +kernel, rfl⟩
theorem dQ_tear_4 : Dc Q_tear 4 (.ifCond .eq 7) 3 7 := ⟨by decide +kernel, rfl⟩
theorem dQ_tear_7 : Dc Q_tear 7 (.iconst 1) 1 8 := ⟨by decide +kernel, rfl⟩
theorem dQ_tear_8 : Dc Q_tear 8 (.goto 4) 3 11 := ⟨by decide +kernel, rfl⟩
theorem dQ_tear_11 : Dc Q_tear 11 (.iconst 0) 1 12 := ⟨by decide +kernel, rfl⟩
theorem dQ_tear_12 : Dc Q_tear 12 (.istore_n 1) 1 13 := ⟨by decide +kernel, rfl⟩
theorem dQ_tear_13 : Dc Q_tear 13 (.aload_n 0) 1 14 := ⟨by decide +kernel, rfl⟩
theorem dQ_tear_14 : Dc Q_tear 14 (.iconst 0) 1 15 := ⟨by decide +kernel, rfl⟩
theorem dQ_tear_15 : Dc Q_tear 15 (.putfield 347) 3 18 := ⟨by decide +kernel, rfl⟩
theorem dQ_tear_18 : Dc Q_tear 18 (.iload_n 1) 1 19 := ⟨by decide +kernel, rfl⟩
theorem dQ_tear_19 : Dc Q_tear 19 (.ireturn) 1 20 := ⟨by decide +kernel, rfl⟩
theorem dQ_count_0 : Dc Q_count 0 (.iconst 0) 1 1 := ⟨by decide +kernel, rfl⟩
theorem dQ_count_1 : Dc Q_count 1 (.istore_n 2) 1 2 := ⟨by decide +kernel, rfl⟩
theorem dQ_count_2 : Dc Q_count 2 (.iload_n 1) 1 3 := ⟨by decide +kernel, rfl⟩
theorem dQ_count_3 : Dc Q_count 3 (.tableswitch 125 0 7 #[45, 52, 59, 65, 71, 77, 82, 89]) 45 48 := ⟨by decide +kernel, rfl⟩
theorem dQ_count_48 : Dc Q_count 48 (.aload_n 0) 1 49 := ⟨by decide +kernel, rfl⟩
theorem dQ_count_49 : Dc Q_count 49 (.getfield 9) 3 52 := ⟨by decide +kernel, rfl⟩
theorem dQ_count_52 : Dc Q_count 52 (.iconst 0) 1 53 := ⟨by decide +kernel, rfl⟩
theorem dQ_count_53 : Dc Q_count 53 (.iaload) 1 54 := ⟨by decide +kernel, rfl⟩
theorem dQ_count_54 : Dc Q_count 54 (.ireturn) 1 55 := ⟨by decide +kernel, rfl⟩
theorem dQ_count_55 : Dc Q_count 55 (.aload_n 0) 1 56 := ⟨by decide +kernel, rfl⟩
theorem dQ_count_56 : Dc Q_count 56 (.getfield 9) 3 59 := ⟨by decide +kernel, rfl⟩
theorem dQ_count_59 : Dc Q_count 59 (.iconst 1) 1 60 := ⟨by decide +kernel, rfl⟩
theorem dQ_count_60 : Dc Q_count 60 (.iaload) 1 61 := ⟨by decide +kernel, rfl⟩
theorem dQ_count_61 : Dc Q_count 61 (.ireturn) 1 62 := ⟨by decide +kernel, rfl⟩
theorem dQ_count_62 : Dc Q_count 62 (.aload_n 0) 1 63 := ⟨by decide +kernel, rfl⟩
theorem dQ_count_63 : Dc Q_count 63 (.iconst 2) 1 64 := ⟨by decide +kernel, rfl⟩
theorem dQ_count_64 : Dc Q_count 64 (.invokevirtual 194) 3 67 := ⟨by decide +kernel, rfl⟩
theorem dQ_count_67 : Dc Q_count 67 (.ireturn) 1 68 := ⟨by decide +kernel, rfl⟩
theorem dQ_count_68 : Dc Q_count 68 (.aload_n 0) 1 69 := ⟨by decide +kernel, rfl⟩
theorem dQ_count_69 : Dc Q_count 69 (.iconst 4) 1 70 := ⟨by decide +kernel, rfl⟩
theorem dQ_count_70 : Dc Q_count 70 (.invokevirtual 194) 3 73 := ⟨by decide +kernel, rfl⟩
theorem dQ_count_73 : Dc Q_count 73 (.ireturn) 1 74 := ⟨by decide +kernel, rfl⟩
theorem dQ_count_74 : Dc Q_count 74 (.aload_n 0) 1 75 := ⟨by decide +kernel, rfl⟩
theorem dQ_count_75 : Dc Q_count 75 (.iconst 3) 1 76 := ⟨by decide +kernel, rfl⟩
theorem dQ_count_76 : Dc Q_count 76 (.invokevirtual 194) 3 79 := ⟨by decide +kernel, rfl⟩
theorem dQ_count_79 : Dc Q_count 79 (.ireturn) 1 80 := ⟨by decide +kernel, rfl⟩
theorem dQ_count_80 : Dc Q_count 80 (.aload_n 0) 1 81 := ⟨by decide +kernel, rfl⟩
theorem dQ_count_81 : Dc Q_count 81 (.getfield 250) 3 84 := ⟨by decide +kernel, rfl⟩
theorem dQ_count_84 : Dc Q_count 84 (.ireturn) 1 85 := ⟨by decide +kernel, rfl⟩
theorem dQ_count_85 : Dc Q_count 85 (.aload_n 0) 1 86 := ⟨by decide +kernel, rfl⟩
theorem dQ_count_86 : Dc Q_count 86 (.getfield 9) 3 89 := ⟨by decide +kernel, rfl⟩
theorem dQ_count_89 : Dc Q_count 89 (.iconst 2) 1 90 := ⟨by decide +kernel, rfl⟩
theorem dQ_count_90 : Dc Q_count 90 (.iaload) 1 91 := ⟨by decide +kernel, rfl⟩
theorem dQ_count_91 : Dc Q_count 91 (.ireturn) 1 92 := ⟨by decide +kernel, rfl⟩
theorem dQ_count_92 : Dc Q_count 92 (.iconst 0) 1 93 := ⟨by decide +kernel, rfl⟩
theorem dQ_count_93 : Dc Q_count 93 (.istore_n 3) 1 94 := ⟨by decide +kernel, rfl⟩
theorem dQ_count_94 : Dc Q_count 94 (.iload_n 3) 1 95 := ⟨by decide +kernel, rfl⟩
theorem dQ_count_95 : Dc Q_count 95 (.bipush 10) 2 97 := ⟨by decide +kernel, rfl⟩
theorem dQ_count_97 : Dc Q_count 97 (.if_icmp .ge 29) 3 100 := ⟨by decide +kernel, rfl⟩
theorem dQ_count_100 : Dc Q_count 100 (.iload_n 2) 1 101 := ⟨by decide +kernel, rfl⟩
theorem dQ_count_101 : Dc Q_count 101 (.aload_n 0) 1 102 := ⟨by decide +kernel, rfl⟩
theorem dQ_count_102 : Dc Q_count 102 (.getfield 9) 3 105 := ⟨by decide +kernel, rfl⟩
theorem dQ_count_105 : Dc Q_count 105 (.bipush 8) 2 107 := ⟨by decide +kernel, rfl⟩
theorem dQ_count_107 : Dc Q_count 107 (.iload_n 3) 1 108 := ⟨by decide +kernel, rfl⟩
theorem dQ_count_108 : Dc Q_count 108 (.iadd) 1 109 := ⟨by decide +kernel, rfl⟩
theorem dQ_count_109 : Dc Q_count 109 (.iaload) 1 110 := ⟨by decide +kernel, rfl⟩
theorem dQ_count_110 : Dc Q_count 110 (.ifCond .ge 7) 3 113 := ⟨by decide +kernel, rfl⟩
theorem dQ_count_113 : Dc Q_count 113 (.iconst 0) 1 114 := ⟨by decide +kernel, rfl⟩
theorem dQ_count_114 : Dc Q_count 114 (.goto 4) 3 117 := ⟨by decide +kernel, rfl⟩
theorem dQ_count_117 : Dc Q_count 117 (.iconst 1) 1 118 := ⟨by decide +kernel, rfl⟩
theorem dQ_count_118 : Dc Q_count 118 (.iadd) 1 119 := ⟨by decide +kernel, rfl⟩
theorem dQ_count_119 : Dc Q_count 119 (.istore_n 2) 1 120 := ⟨by decide +kernel, rfl⟩
theorem dQ_count_120 : Dc Q_count 120 (.iinc 3 1) 3 123 := ⟨by decide +kernel, rfl⟩
theorem dQ_count_123 : Dc Q_count 123 (.goto (-29)) 3 126 := ⟨by decide +kernel, rfl⟩
theorem dQ_count_126 : Dc Q_count 126 (.iload_n 2) 1 127 := ⟨by decide +kernel, rfl⟩
theorem dQ_count_127 : Dc Q_count 127 (.ireturn) 1 128 := ⟨by decide +kernel, rfl⟩
theorem dQ_count_128 : Dc Q_count 128 (.aload_n 0) 1 129 := ⟨by decide +kernel, rfl⟩
theorem dQ_count_129 : Dc Q_count 129 (.ldc 69) 2 131 := ⟨by decide +kernel, rfl⟩
theorem dQ_count_131 : Dc Q_count 131 (.invokevirtual 75) 3 134 := ⟨by decide +kernel, rfl⟩
theorem dQ_count_134 : Dc Q_count 134 (.ireturn) 1 135 := ⟨by decide +kernel, rfl⟩
theorem dQ_status_0 : Dc Q_status 0 (.iload_n 1) 1 1 := ⟨by decide +kernel, rfl⟩
theorem dQ_status_1 : Dc Q_status 1 (.iconst (-1)) 1 2 := ⟨by decide +kernel, rfl⟩
theorem dQ_status_2 : Dc Q_status 2 (.bipush 6) 2 4 := ⟨by decide +kernel, rfl⟩
theorem dQ_status_4 : Dc Q_status 4 (.invokestatic 79) 3 7 := ⟨by decide +kernel, rfl⟩
theorem dQ_status_7 : Dc Q_status 7 (.ifCond .eq 14) 3 10 := ⟨by decide +kernel, rfl⟩
theorem dQ_status_10 : Dc Q_status 10 (.aload_n 0) 1 11 := ⟨by decide +kernel, rfl⟩
theorem dQ_status_11 : Dc Q_status 11 (.getfield 19) 3 14 := ⟨by decide +kernel, rfl⟩
theorem dQ_status_14 : Dc Q_status 14 (.iload_n 1) 1 15 := ⟨by decide +kernel, rfl⟩
theorem dQ_status_15 : Dc Q_status 15 (.iconst 1) 1 16 := ⟨by decide +kernel, rfl⟩
theorem dQ_status_16 : Dc Q_status 16 (.iadd) 1 17 := ⟨by decide +kernel, rfl⟩
theorem dQ_status_17 : Dc Q_status 17 (.iaload) 1 18 := ⟨by decide +kernel, rfl⟩
theorem dQ_status_18 : Dc Q_status 18 (.goto 9) 3 21 := ⟨by decide +kernel, rfl⟩
theorem dQ_status_21 : Dc Q_status 21 (.aload_n 0) 1 22 := ⟨by decide +kernel, rfl⟩
theorem dQ_status_22 : Dc Q_status 22 (.ldc 69) 2 24 := ⟨by decide +kernel, rfl⟩
theorem dQ_status_24 : Dc Q_status 24 (.invokevirtual 75) 3 27 := ⟨by decide +kernel, rfl⟩
theorem dQ_status_27 : Dc Q_status 27 (.ireturn) 1 28 := ⟨by decide +kernel, rfl⟩
end
section
section BROWS
variable {l : Launch} {g : GG} {M : MM} {pc n : Nat} {lv : List (Option Value)} {st : List Value} {w : Wd} {Q : Option Value → Wd → Prop}
theorem g_getR2 {k ci j o k2 idx : Nat} {ty : FieldType} {fin : Bool} (hd : Dc M pc (.getfield idx) 3 n) (hf : Fk M.1.cls idx ci j ty fin) (ho : objC k = some ci) (hj : (fdef ci)[j]? = some o) (ho1 : o ≠ 0) (hk2 : k + o = k2) (kk : Go l g M n lv (.ref (g.1 k2) :: st) w Q) : Go l g M pc lv (.ref (g.1 k) :: st) w Q := by
  subst hk2
  cases o with
  | zero => exact absurd rfl ho1
  | succ o => exact g_getR hd hf ho hj kk
theorem g_split {x : Int32} (c : Int32) (k1 : x = c → Go l g M pc lv (.int c :: st) w Q) (k2 : ¬ x = c → Go l g M pc lv (.int x :: st) w Q) : Go l g M pc lv (.int x :: st) w Q := by
  by_cases h : x = c
  · subst h; exact k1 rfl
  · exact k2 h
theorem g_top {x y : Int32} (h : x = y) (k : Go l g M pc lv (.int y :: st) w Q) : Go l g M pc lv (.int x :: st) w Q := by subst h; exact k
theorem g_w {w1 : Wd} (h : w = w1) (k : Go l g M pc lv st w1 Q) : Go l g M pc lv st w Q := by subst h; exact k
theorem g_lv {lv1 : List (Option Value)} (h : lv = lv1) (k : Go l g M pc lv1 st w Q) : Go l g M pc lv st w Q := by subst h; exact k
theorem g_mono {Q' : Option Value → Wd → Prop} (h : ∀ r w', Q' r w' → Q r w') (k : Go l g M pc lv st w Q') : Go l g M pc lv st w Q := by
  intro p e s m args below meth c H locs ls F hP hS hl T hT X
  obtain ⟨t, a1, o, b1, b2, ⟨⟨r, w', h1, h2, h3⟩, b4⟩, b5⟩ := k p e s m args below meth c H locs ls F hP hS hl T hT X
  exact ⟨t, a1, o, b1, b2, ⟨⟨r, w', h1, h r w' h2, h3⟩, b4⟩, b5⟩
end BROWS
theorem Res.mono {l : Launch} {g : GG} {M : MM} {as : List Value} {w : Wd} {Q Q' : Option Value → Wd → Prop} (h : ∀ r w', Q' r w' → Q r w') (hr : Res l g M as w Q') : Res l g M as w Q := by
  intro p e ha hc hk s m args below hf h1 h2 h3
  obtain ⟨k, o, a1, a2, a3, ⟨⟨r, w', b1, b2, b3⟩, b4⟩, b5⟩ := hr p e ha hc hk s m args below hf h1 h2 h3
  exact ⟨k, o, a1, a2, a3, ⟨⟨r, w', b1, h r w' b2, b3⟩, b4⟩, b5⟩
def isH (h : Nat) : Prop := h = 1 ∨ h = 7 ∨ h = 13
theorem isH.o {h : Nat} (hh : isH h) : objC h = some 1 := by rcases hh with rfl | rfl | rfl <;> rfl
theorem isH.a {h c : Nat} (hh : isH h) (h1 : 1 ≤ c) (h2 : c ≤ 5) : arrN (h + c) = some 8 := by
  have : c = 1 ∨ c = 2 ∨ c = 3 ∨ c = 4 ∨ c = 5 := by omega
  rcases hh with rfl | rfl | rfl <;> rcases this with rfl | rfl | rfl | rfl | rfl <;> rfl
theorem shO {q : Nat} (hq : q < 4) : objC (24 + 2 * q) = some 2 := by
  have : q = 0 ∨ q = 1 ∨ q = 2 ∨ q = 3 := by omega
  rcases this with rfl | rfl | rfl | rfl <;> rfl
theorem shA {q : Nat} (hq : q < 4) : arrN (24 + 2 * q + 1) = some 40 := by
  have : q = 0 ∨ q = 1 ∨ q = 2 ∨ q = 3 := by omega
  rcases this with rfl | rfl | rfl | rfl <;> rfl
/-! numbers -/
def dist (a b : Int32) : Int32 := if a < b then b - a else a - b
def bI (c : Prop) [Decidable c] : Int32 := if c then 1 else 0
theorem bI_t {c : Prop} [Decidable c] (h : c) : bI c = 1 := if_pos h
theorem bI_f {c : Prop} [Decidable c] (h : ¬ c) : bI c = 0 := if_neg h
theorem bI_0 {c : Prop} [Decidable c] : bI c = 0 ↔ ¬ c := by unfold bI; split <;> simp_all
theorem bI_1 {c : Prop} [Decidable c] : bI c = 1 ↔ c := by unfold bI; split <;> simp_all
theorem bI_n {c : Prop} [Decidable c] : narrow .boolean (.int (bI c)) = .int (bI c) := by unfold bI; split <;> rfl
def mnI (a b : Int32) : Int32 := if b < a then b else a
def mxI (a b : Int32) : Int32 := if a < b then b else a
def abI (a : Int32) : Int32 := if 0 ≤ a then a else 0 - a
def tow (a b s : Int32) : Int32 := if a < b then mnI (a + s) b else mxI (a - s) b
def fearsK (k : Int32) : Int32 := if k = 1 then 5 else if k = 2 then 20 else if k = 3 then 25 else if k = 4 then 25 else if k = 5 then 0 else if k = 6 then 0 else 10
def calmsK (k : Int32) : Int32 := if k = 1 then 2 else if k = 4 then 0 else if k = 6 then 4 else 1
def lightK (k : Int32) : Int32 := if k = 1 then 1 else if k = 3 then 3 else if k = 4 then 4 else if k = 5 then 1 else if k = 6 then 1 else 2
def aboveK (k : Int32) : Int32 := if k = 1 then 0 else if k = 2 then 0 else if k = 3 then 2 else if k = 4 then 3 else if k = 5 then 0 else if k = 6 then 1 else -1
def isW (v a b : Int32) : Prop := a ≤ v ∧ v ≤ b
/-! Math -/
theorem mm_min_s : Cond.static Lib.Math.min.name ∈ LT := LTm 367 (by decide +kernel) rfl
set_option maxRecDepth 20000 in
theorem mm_min_c : Cond.code Lib.Math.min.name Lib.Math.min.code 2 (some .int) ∈ LT := LTm 368 rfl rfl
theorem g_min {l : Launch} {g : GG} {M : MM} {pc n idx : Nat} {lv : List (Option Value)} {st : List Value} {w : Wd} {Q : Option Value → Wd → Prop} {x y : Int32} (hd : Dc M pc (.invokestatic idx) 3 n) (hl : Cond.methodLink M.1.cls idx Lib.Math.min.name ∈ LT) (hfr : 1 ≤ (rmM M).frames) (hlo : (st.map fun v => v.category).sum + 13 ≤ (rmM M).locals) (kk : Go l g M n lv (.int (mnI x y) :: st) w Q) : Go l g M pc lv (.int y :: .int x :: st) w Q := by
  obtain ⟨hd, rfl⟩ := hd
  exact fun p e s m args below meth c H locs ls F hP hS hlv => va_mmin F.1 F.2.1 (by rw [F.2.2.1]; exact hlv.1.symm) F.2.2.2.2.2.1 (F.2.2.2.2.2.2.1 _ hl) (F.2.2.2.2.2.2.1 _ mm_min_s) (F.2.2.2.2.2.2.1 _ ini_JM) (F.2.2.2.2.2.2.1 _ mm_min_c) hfr hlo (Nat.le_refl _) (Nat.le_refl _) hd (kk p e s m args below meth c H locs ls F hP hS hlv)
theorem mm_max_s : Cond.static Lib.Math.max.name ∈ LT := LTm 370 (by decide +kernel) rfl
set_option maxRecDepth 20000 in
theorem mm_max_c : Cond.code Lib.Math.max.name Lib.Math.max.code 2 (some .int) ∈ LT := LTm 371 rfl rfl
theorem g_max {l : Launch} {g : GG} {M : MM} {pc n idx : Nat} {lv : List (Option Value)} {st : List Value} {w : Wd} {Q : Option Value → Wd → Prop} {x y : Int32} (hd : Dc M pc (.invokestatic idx) 3 n) (hl : Cond.methodLink M.1.cls idx Lib.Math.max.name ∈ LT) (hfr : 1 ≤ (rmM M).frames) (hlo : (st.map fun v => v.category).sum + 13 ≤ (rmM M).locals) (kk : Go l g M n lv (.int (mxI x y) :: st) w Q) : Go l g M pc lv (.int y :: .int x :: st) w Q := by
  obtain ⟨hd, rfl⟩ := hd
  exact fun p e s m args below meth c H locs ls F hP hS hlv => va_mmax F.1 F.2.1 (by rw [F.2.2.1]; exact hlv.1.symm) F.2.2.2.2.2.1 (F.2.2.2.2.2.2.1 _ hl) (F.2.2.2.2.2.2.1 _ mm_max_s) (F.2.2.2.2.2.2.1 _ ini_JM) (F.2.2.2.2.2.2.1 _ mm_max_c) hfr hlo (Nat.le_refl _) (Nat.le_refl _) hd (kk p e s m args below meth c H locs ls F hP hS hlv)
theorem mm_abs_s : Cond.static Lib.Math.abs.name ∈ LT := LTm 909 (by decide +kernel) rfl
set_option maxRecDepth 20000 in
theorem mm_abs_c : Cond.code Lib.Math.abs.name Lib.Math.abs.code 1 (some .int) ∈ LT := LTm 910 rfl rfl
theorem g_abs {l : Launch} {g : GG} {M : MM} {pc n idx : Nat} {lv : List (Option Value)} {st : List Value} {w : Wd} {Q : Option Value → Wd → Prop} {x : Int32} (hd : Dc M pc (.invokestatic idx) 3 n) (hl : Cond.methodLink M.1.cls idx Lib.Math.abs.name ∈ LT) (hfr : 1 ≤ (rmM M).frames) (hlo : (st.map fun v => v.category).sum + 13 ≤ (rmM M).locals) (kk : Go l g M n lv (.int (abI x) :: st) w Q) : Go l g M pc lv (.int x :: st) w Q := by
  obtain ⟨hd, rfl⟩ := hd
  exact fun p e s m args below meth c H locs ls F hP hS hlv => va_mabs F.1 F.2.1 (by rw [F.2.2.1]; exact hlv.1.symm) F.2.2.2.2.2.1 (F.2.2.2.2.2.2.1 _ hl) (F.2.2.2.2.2.2.1 _ mm_abs_s) (F.2.2.2.2.2.2.1 _ ini_JM) (F.2.2.2.2.2.2.1 _ mm_abs_c) hfr hlo (Nat.le_refl _) (Nat.le_refl _) hd (kk p e s m args below meth c H locs ls F hP hS hlv)
end
section
set_option maxRecDepth 4000 in
theorem cS_isWithin {l : Launch} {g : GG} {v a b : Int32} {w : Wd} : Res l g S_isWithin [.int v, .int a, .int b] w (Is (some (.int (bI (a ≤ v ∧ v ≤ b)))) w) := by
  refine Res.of (by decide) (by simp [Value.category]) (Nat.le_of_ble_eq_true rfl) rfl ?_
  show Go l g S_isWithin 0 [some (.int v), some (.int a), some (.int b)] [] w _
  refine g_iload_n dS_isWithin_0 rfl ?_
  refine g_iload_n dS_isWithin_1 rfl ?_
  refine g_icmp_lt dS_isWithin_2 rfl (fun h2 => ?_) (fun h2 => ?_)
  · refine g_iconst (v := 0) dS_isWithin_14 (by decide) ?_
    refine g_iret dS_isWithin_15 rfl (by first | rfl | exact bI_n) ?_
    exact ⟨by grind [bI], rfl⟩
  · refine g_iload_n dS_isWithin_5 rfl ?_
    refine g_iload_n dS_isWithin_6 rfl ?_
    refine g_icmp_gt dS_isWithin_7 rfl (fun h7 => ?_) (fun h7 => ?_)
    · refine g_iconst (v := 0) dS_isWithin_14 (by decide) ?_
      refine g_iret dS_isWithin_15 rfl (by first | rfl | exact bI_n) ?_
      exact ⟨by grind [bI], rfl⟩
    · refine g_iconst (v := 1) dS_isWithin_10 (by decide) ?_
      refine g_goto dS_isWithin_11 rfl ?_
      refine g_iret dS_isWithin_15 rfl (by first | rfl | exact bI_n) ?_
      exact ⟨by grind [bI], rfl⟩

set_option maxRecDepth 4000 in
theorem cS_isCell {l : Launch} {g : GG} {v : Int32} {w : Wd} : Res l g S_isCell [.int v] w (Is (some (.int (bI (0 ≤ v ∧ v ≤ 15)))) w) := by
  refine Res.of (by decide) (by simp [Value.category]) (Nat.le_of_ble_eq_true rfl) rfl ?_
  show Go l g S_isCell 0 [some (.int v)] [] w _
  refine g_iload_n dS_isCell_0 rfl ?_
  refine g_iconst (v := 0) dS_isCell_1 (by decide) ?_
  refine g_bipush (v := 15) dS_isCell_2 (by decide) ?_
  refine gS3 dS_isCell_4 kS_isCell_81 cS_isWithin (Nat.le_of_ble_eq_true rfl) ?_
  refine g_iret dS_isCell_7 rfl (by first | rfl | exact bI_n) ?_
  exact ⟨rfl, rfl⟩

set_option maxRecDepth 4000 in
theorem cS_isKind {l : Launch} {g : GG} {v : Int32} {w : Wd} : Res l g S_isKind [.int v] w (Is (some (.int (bI (0 ≤ v ∧ v ≤ 6)))) w) := by
  refine Res.of (by decide) (by simp [Value.category]) (Nat.le_of_ble_eq_true rfl) rfl ?_
  show Go l g S_isKind 0 [some (.int v)] [] w _
  refine g_iload_n dS_isKind_0 rfl ?_
  refine g_iconst (v := 0) dS_isKind_1 (by decide) ?_
  refine g_bipush (v := 6) dS_isKind_2 (by decide) ?_
  refine gS3 dS_isKind_4 kS_isKind_81 cS_isWithin (Nat.le_of_ble_eq_true rfl) ?_
  refine g_iret dS_isKind_7 rfl (by first | rfl | exact bI_n) ?_
  exact ⟨rfl, rfl⟩

set_option maxRecDepth 4000 in
theorem cS_isSpot {l : Launch} {g : GG} {v : Int32} {w : Wd} : Res l g S_isSpot [.int v] w (Is (some (.int (bI (0 ≤ v ∧ v ≤ 9)))) w) := by
  refine Res.of (by decide) (by simp [Value.category]) (Nat.le_of_ble_eq_true rfl) rfl ?_
  show Go l g S_isSpot 0 [some (.int v)] [] w _
  refine g_iload_n dS_isSpot_0 rfl ?_
  refine g_iconst (v := 0) dS_isSpot_1 (by decide) ?_
  refine g_bipush (v := 9) dS_isSpot_2 (by decide) ?_
  refine gS3 dS_isSpot_4 kS_isSpot_81 cS_isWithin (Nat.le_of_ble_eq_true rfl) ?_
  refine g_iret dS_isSpot_7 rfl (by first | rfl | exact bI_n) ?_
  exact ⟨rfl, rfl⟩

set_option maxRecDepth 4000 in
theorem cS_isSheet {l : Launch} {g : GG} {v : Int32} {w : Wd} : Res l g S_isSheet [.int v] w (Is (some (.int (bI (0 ≤ v ∧ v ≤ 3)))) w) := by
  refine Res.of (by decide) (by simp [Value.category]) (Nat.le_of_ble_eq_true rfl) rfl ?_
  show Go l g S_isSheet 0 [some (.int v)] [] w _
  refine g_iload_n dS_isSheet_0 rfl ?_
  refine g_iconst (v := 0) dS_isSheet_1 (by decide) ?_
  refine g_iconst (v := 3) dS_isSheet_2 (by decide) ?_
  refine gS3 dS_isSheet_3 kS_isSheet_81 cS_isWithin (Nat.le_of_ble_eq_true rfl) ?_
  refine g_iret dS_isSheet_6 rfl (by first | rfl | exact bI_n) ?_
  exact ⟨rfl, rfl⟩

set_option maxRecDepth 4000 in
theorem cS_distance {l : Launch} {g : GG} {a b : Int32} {w : Wd} : Res l g S_distance [.int a, .int b] w (Is (some (.int (dist a b))) w) := by
  refine Res.of (by decide) (by simp [Value.category]) (Nat.le_of_ble_eq_true rfl) rfl ?_
  show Go l g S_distance 0 [some (.int a), some (.int b)] [] w _
  refine g_iload_n dS_distance_0 rfl ?_
  refine g_iload_n dS_distance_1 rfl ?_
  refine g_icmp_ge dS_distance_2 rfl (fun h2 => ?_) (fun h2 => ?_)
  · refine g_iload_n dS_distance_11 rfl ?_
    refine g_iload_n dS_distance_12 rfl ?_
    refine g_isub dS_distance_13 ?_
    refine g_iret dS_distance_14 rfl rfl ?_
    exact ⟨by grind [dist], rfl⟩
  · refine g_iload_n dS_distance_5 rfl ?_
    refine g_iload_n dS_distance_6 rfl ?_
    refine g_isub dS_distance_7 ?_
    refine g_goto dS_distance_8 rfl ?_
    refine g_iret dS_distance_14 rfl rfl ?_
    exact ⟨by grind [dist], rfl⟩

set_option maxRecDepth 4000 in
theorem cS_towards {l : Launch} {g : GG} {a b s : Int32} {w : Wd} : Res l g S_towards [.int a, .int b, .int s] w (Is (some (.int (tow a b s))) w) := by
  refine Res.of (by decide) (by simp [Value.category]) (Nat.le_of_ble_eq_true rfl) rfl ?_
  show Go l g S_towards 0 [some (.int a), some (.int b), some (.int s)] [] w _
  refine g_iload_n dS_towards_0 rfl ?_
  refine g_iload_n dS_towards_1 rfl ?_
  refine g_icmp_ge dS_towards_2 rfl (fun h2 => ?_) (fun h2 => ?_)
  · refine g_iload_n dS_towards_15 rfl ?_
    refine g_iload_n dS_towards_16 rfl ?_
    refine g_isub dS_towards_17 ?_
    refine g_iload_n dS_towards_18 rfl ?_
    refine g_max dS_towards_19 lS_262 (by decide) (Nat.le_of_ble_eq_true rfl) ?_
    refine g_iret dS_towards_22 rfl rfl ?_
    exact ⟨by grind [tow], rfl⟩
  · refine g_iload_n dS_towards_5 rfl ?_
    refine g_iload_n dS_towards_6 rfl ?_
    refine g_iadd dS_towards_7 ?_
    refine g_iload_n dS_towards_8 rfl ?_
    refine g_min dS_towards_9 lS_257 (by decide) (Nat.le_of_ble_eq_true rfl) ?_
    refine g_goto dS_towards_12 rfl ?_
    refine g_iret dS_towards_22 rfl rfl ?_
    exact ⟨by grind [tow], rfl⟩

set_option maxRecDepth 4000 in
theorem cS_fearsOf {l : Launch} {g : GG} {k : Int32} {w : Wd} : Res l g S_fearsOf [.int k] w (Is (some (.int (fearsK k))) w) := by
  refine Res.of (by decide) (by simp [Value.category]) (Nat.le_of_ble_eq_true rfl) rfl ?_
  show Go l g S_fearsOf 0 [some (.int k)] [] w _
  refine g_iload_n dS_fearsOf_0 rfl ?_
  refine g_split (1) (fun z1 => ?_) (fun z1 => ?_)
  · refine g_tabIn dS_fearsOf_1 (by decide) (by decide) rfl rfl ?_
    refine g_iconst (v := 5) dS_fearsOf_40 (by decide) ?_
    refine g_iret dS_fearsOf_41 rfl rfl ?_
    exact ⟨by simp_all [fearsK], rfl⟩
  refine g_split (2) (fun z2 => ?_) (fun z2 => ?_)
  · refine g_tabIn dS_fearsOf_1 (by decide) (by decide) rfl rfl ?_
    refine g_bipush (v := 20) dS_fearsOf_42 (by decide) ?_
    refine g_iret dS_fearsOf_44 rfl rfl ?_
    exact ⟨by simp_all [fearsK], rfl⟩
  refine g_split (3) (fun z3 => ?_) (fun z3 => ?_)
  · refine g_tabIn dS_fearsOf_1 (by decide) (by decide) rfl rfl ?_
    refine g_bipush (v := 25) dS_fearsOf_45 (by decide) ?_
    refine g_iret dS_fearsOf_47 rfl rfl ?_
    exact ⟨by simp_all [fearsK], rfl⟩
  refine g_split (4) (fun z4 => ?_) (fun z4 => ?_)
  · refine g_tabIn dS_fearsOf_1 (by decide) (by decide) rfl rfl ?_
    refine g_bipush (v := 25) dS_fearsOf_45 (by decide) ?_
    refine g_iret dS_fearsOf_47 rfl rfl ?_
    exact ⟨by simp_all [fearsK], rfl⟩
  refine g_split (5) (fun z5 => ?_) (fun z5 => ?_)
  · refine g_tabIn dS_fearsOf_1 (by decide) (by decide) rfl rfl ?_
    refine g_iconst (v := 0) dS_fearsOf_48 (by decide) ?_
    refine g_iret dS_fearsOf_49 rfl rfl ?_
    exact ⟨by simp_all [fearsK], rfl⟩
  refine g_split (6) (fun z6 => ?_) (fun z6 => ?_)
  · refine g_tabIn dS_fearsOf_1 (by decide) (by decide) rfl rfl ?_
    refine g_iconst (v := 0) dS_fearsOf_48 (by decide) ?_
    refine g_iret dS_fearsOf_49 rfl rfl ?_
    exact ⟨by simp_all [fearsK], rfl⟩
  refine g_tabOut dS_fearsOf_1 (by have q0 := lv_neT z1 (a := 1) rfl; have q1 := lv_neT z2 (a := 2) rfl; have q2 := lv_neT z3 (a := 3) rfl; have q3 := lv_neT z4 (a := 4) rfl; have q4 := lv_neT z5 (a := 5) rfl; have q5 := lv_neT z6 (a := 6) rfl; omega) rfl ?_
  refine g_bipush (v := 10) dS_fearsOf_50 (by decide) ?_
  refine g_iret dS_fearsOf_52 rfl rfl ?_
  exact ⟨by simp_all [fearsK], rfl⟩

set_option maxRecDepth 4000 in
theorem cS_calmsOf {l : Launch} {g : GG} {k : Int32} {w : Wd} : Res l g S_calmsOf [.int k] w (Is (some (.int (calmsK k))) w) := by
  refine Res.of (by decide) (by simp [Value.category]) (Nat.le_of_ble_eq_true rfl) rfl ?_
  show Go l g S_calmsOf 0 [some (.int k)] [] w _
  refine g_iload_n dS_calmsOf_0 rfl ?_
  refine g_split (1) (fun z1 => ?_) (fun z1 => ?_)
  · refine g_lookup dS_calmsOf_1 rfl rfl rfl ?_
    refine g_iconst (v := 2) dS_calmsOf_36 (by decide) ?_
    refine g_iret dS_calmsOf_37 rfl rfl ?_
    exact ⟨by simp_all [calmsK], rfl⟩
  refine g_split (4) (fun z4 => ?_) (fun z4 => ?_)
  · refine g_lookup dS_calmsOf_1 rfl rfl rfl ?_
    refine g_iconst (v := 0) dS_calmsOf_40 (by decide) ?_
    refine g_iret dS_calmsOf_41 rfl rfl ?_
    exact ⟨by simp_all [calmsK], rfl⟩
  refine g_split (6) (fun z6 => ?_) (fun z6 => ?_)
  · refine g_lookup dS_calmsOf_1 rfl rfl rfl ?_
    refine g_iconst (v := 4) dS_calmsOf_38 (by decide) ?_
    refine g_iret dS_calmsOf_39 rfl rfl ?_
    exact ⟨by simp_all [calmsK], rfl⟩
  refine g_lookup (off := 41) dS_calmsOf_1 rfl (by show Op.lookupswitch.offset [(1, 35), (4, 39), (6, 37)] _ _ = _; rw [lv_osw (a := 1) z1 rfl, lv_osw (a := 4) z4 rfl, lv_osw (a := 6) z6 rfl]; rfl) rfl ?_
  refine g_iconst (v := 1) dS_calmsOf_42 (by decide) ?_
  refine g_iret dS_calmsOf_43 rfl rfl ?_
  exact ⟨by simp_all [calmsK], rfl⟩

set_option maxRecDepth 4000 in
theorem cS_lightOf {l : Launch} {g : GG} {k : Int32} {w : Wd} : Res l g S_lightOf [.int k] w (Is (some (.int (lightK k))) w) := by
  refine Res.of (by decide) (by simp [Value.category]) (Nat.le_of_ble_eq_true rfl) rfl ?_
  show Go l g S_lightOf 0 [some (.int k)] [] w _
  refine g_iload_n dS_lightOf_0 rfl ?_
  refine g_split (1) (fun z1 => ?_) (fun z1 => ?_)
  · refine g_tabIn dS_lightOf_1 (by decide) (by decide) rfl rfl ?_
    refine g_iconst (v := 1) dS_lightOf_40 (by decide) ?_
    refine g_iret dS_lightOf_41 rfl rfl ?_
    exact ⟨by simp_all [lightK], rfl⟩
  refine g_split (2) (fun z2 => ?_) (fun z2 => ?_)
  · refine g_tabIn dS_lightOf_1 (by decide) (by decide) rfl rfl ?_
    refine g_iconst (v := 2) dS_lightOf_46 (by decide) ?_
    refine g_iret dS_lightOf_47 rfl rfl ?_
    exact ⟨by simp_all [lightK], rfl⟩
  refine g_split (3) (fun z3 => ?_) (fun z3 => ?_)
  · refine g_tabIn dS_lightOf_1 (by decide) (by decide) rfl rfl ?_
    refine g_iconst (v := 3) dS_lightOf_42 (by decide) ?_
    refine g_iret dS_lightOf_43 rfl rfl ?_
    exact ⟨by simp_all [lightK], rfl⟩
  refine g_split (4) (fun z4 => ?_) (fun z4 => ?_)
  · refine g_tabIn dS_lightOf_1 (by decide) (by decide) rfl rfl ?_
    refine g_iconst (v := 4) dS_lightOf_44 (by decide) ?_
    refine g_iret dS_lightOf_45 rfl rfl ?_
    exact ⟨by simp_all [lightK], rfl⟩
  refine g_split (5) (fun z5 => ?_) (fun z5 => ?_)
  · refine g_tabIn dS_lightOf_1 (by decide) (by decide) rfl rfl ?_
    refine g_iconst (v := 1) dS_lightOf_40 (by decide) ?_
    refine g_iret dS_lightOf_41 rfl rfl ?_
    exact ⟨by simp_all [lightK], rfl⟩
  refine g_split (6) (fun z6 => ?_) (fun z6 => ?_)
  · refine g_tabIn dS_lightOf_1 (by decide) (by decide) rfl rfl ?_
    refine g_iconst (v := 1) dS_lightOf_40 (by decide) ?_
    refine g_iret dS_lightOf_41 rfl rfl ?_
    exact ⟨by simp_all [lightK], rfl⟩
  refine g_tabOut dS_lightOf_1 (by have q0 := lv_neT z1 (a := 1) rfl; have q1 := lv_neT z2 (a := 2) rfl; have q2 := lv_neT z3 (a := 3) rfl; have q3 := lv_neT z4 (a := 4) rfl; have q4 := lv_neT z5 (a := 5) rfl; have q5 := lv_neT z6 (a := 6) rfl; omega) rfl ?_
  refine g_iconst (v := 2) dS_lightOf_46 (by decide) ?_
  refine g_iret dS_lightOf_47 rfl rfl ?_
  exact ⟨by simp_all [lightK], rfl⟩

set_option maxRecDepth 4000 in
theorem cS_kindAbove {l : Launch} {g : GG} {k : Int32} {w : Wd} : Res l g S_kindAbove [.int k] w (Is (some (.int (aboveK k))) w) := by
  refine Res.of (by decide) (by simp [Value.category]) (Nat.le_of_ble_eq_true rfl) rfl ?_
  show Go l g S_kindAbove 0 [some (.int k)] [] w _
  refine g_iload_n dS_kindAbove_0 rfl ?_
  refine g_split (1) (fun z1 => ?_) (fun z1 => ?_)
  · refine g_tabIn dS_kindAbove_1 (by decide) (by decide) rfl rfl ?_
    refine g_iconst (v := 0) dS_kindAbove_40 (by decide) ?_
    refine g_iret dS_kindAbove_41 rfl rfl ?_
    exact ⟨by simp_all [aboveK], rfl⟩
  refine g_split (2) (fun z2 => ?_) (fun z2 => ?_)
  · refine g_tabIn dS_kindAbove_1 (by decide) (by decide) rfl rfl ?_
    refine g_iconst (v := 0) dS_kindAbove_40 (by decide) ?_
    refine g_iret dS_kindAbove_41 rfl rfl ?_
    exact ⟨by simp_all [aboveK], rfl⟩
  refine g_split (3) (fun z3 => ?_) (fun z3 => ?_)
  · refine g_tabIn dS_kindAbove_1 (by decide) (by decide) rfl rfl ?_
    refine g_iconst (v := 2) dS_kindAbove_42 (by decide) ?_
    refine g_iret dS_kindAbove_43 rfl rfl ?_
    exact ⟨by simp_all [aboveK], rfl⟩
  refine g_split (4) (fun z4 => ?_) (fun z4 => ?_)
  · refine g_tabIn dS_kindAbove_1 (by decide) (by decide) rfl rfl ?_
    refine g_iconst (v := 3) dS_kindAbove_44 (by decide) ?_
    refine g_iret dS_kindAbove_45 rfl rfl ?_
    exact ⟨by simp_all [aboveK], rfl⟩
  refine g_split (5) (fun z5 => ?_) (fun z5 => ?_)
  · refine g_tabIn dS_kindAbove_1 (by decide) (by decide) rfl rfl ?_
    refine g_iconst (v := 0) dS_kindAbove_40 (by decide) ?_
    refine g_iret dS_kindAbove_41 rfl rfl ?_
    exact ⟨by simp_all [aboveK], rfl⟩
  refine g_split (6) (fun z6 => ?_) (fun z6 => ?_)
  · refine g_tabIn dS_kindAbove_1 (by decide) (by decide) rfl rfl ?_
    refine g_iconst (v := 1) dS_kindAbove_46 (by decide) ?_
    refine g_iret dS_kindAbove_47 rfl rfl ?_
    exact ⟨by simp_all [aboveK], rfl⟩
  refine g_tabOut dS_kindAbove_1 (by have q0 := lv_neT z1 (a := 1) rfl; have q1 := lv_neT z2 (a := 2) rfl; have q2 := lv_neT z3 (a := 3) rfl; have q3 := lv_neT z4 (a := 4) rfl; have q4 := lv_neT z5 (a := 5) rfl; have q5 := lv_neT z6 (a := 6) rfl; omega) rfl ?_
  refine g_iconst (v := (-1)) dS_kindAbove_48 (by decide) ?_
  refine g_iret dS_kindAbove_49 rfl rfl ?_
  exact ⟨by simp_all [aboveK], rfl⟩

set_option maxRecDepth 4000 in
theorem cH_far {l : Launch} {g : GG} {h j : Nat} {w : Wd} (hh : isH h) (hj : j < 8) : Res l g H_far [.ref (g.1 h), .int (nI j)] w (Is (some (.int (dist (w (h + 2) j) (w h 0)))) w) := by
  refine Res.of (by decide) (by simp [Value.category]) (Nat.le_of_ble_eq_true rfl) rfl ?_
  show Go l g H_far 0 [some (.ref (g.1 h)), some (.int (nI j))] [] w _
  refine g_aload_n dH_far_0 rfl ?_
  refine g_getR2 (k2 := (h + 2)) dH_far_1 fH_37 hh.o rfl (by decide) rfl ?_
  refine g_iload_n dH_far_4 rfl ?_
  refine g_ialdN dH_far_5 (hh.a (by decide) (by decide)) (by omega) (by decide) ?_
  refine g_aload_n dH_far_6 rfl ?_
  refine g_getI dH_far_7 fH_9 hh.o rfl ?_
  refine gN2 dH_far_10 kH_far_79 cS_distance (Nat.le_of_ble_eq_true rfl) ?_
  refine g_iret dH_far_13 rfl rfl ?_
  exact ⟨rfl, rfl⟩
end
