section
-- ===== PART A: goes FIRST, ahead of the names: the tables' words, and 'selects' of the private methods out of them =====
/-- a private method of a class that the tables say can be made, by its rows of tables_1 -/
def lw_okq (q : MethodName × Nat) : Prop := (q.1.cls ≠ "java/lang/invoke/MethodHandle" ∧ q.1.cls ≠ "java/lang/invoke/VarHandle") ∧ Cond.instantiable q.1.cls q.2 ∈ tables_1 ∧ Cond.privateMethod q.1 ∈ tables_1 ∧ Cond.instanceMethod q.1 ∈ tables_1
theorem lw_p0 : lw_okq (⟨"StraySheep", "finding", "(I)I"⟩, 11) := ⟨⟨by decide +kernel, by decide +kernel⟩, List.mem_of_getElem? (i := 14) (by decide +kernel), List.mem_of_getElem? (i := 174) (by decide +kernel), List.mem_of_getElem? (i := 175) (by decide +kernel)⟩
theorem lw_p1 : lw_okq (⟨"StraySheep", "firstHourOfAtLeast", "([III)I"⟩, 11) := ⟨⟨by decide +kernel, by decide +kernel⟩, List.mem_of_getElem? (i := 14) (by decide +kernel), List.mem_of_getElem? (i := 378) (by decide +kernel), List.mem_of_getElem? (i := 379) (by decide +kernel)⟩
theorem lw_p2 : lw_okq (⟨"StraySheep", "keepsNear", "(II)Z"⟩, 11) := ⟨⟨by decide +kernel, by decide +kernel⟩, List.mem_of_getElem? (i := 14) (by decide +kernel), List.mem_of_getElem? (i := 421) (by decide +kernel), List.mem_of_getElem? (i := 422) (by decide +kernel)⟩
theorem lw_p3 : lw_okq (⟨"StraySheep", "keeperGoesAsTold", "(LStraySheep$Sheet;)Z"⟩, 11) := ⟨⟨by decide +kernel, by decide +kernel⟩, List.mem_of_getElem? (i := 14) (by decide +kernel), List.mem_of_getElem? (i := 437) (by decide +kernel), List.mem_of_getElem? (i := 438) (by decide +kernel)⟩
theorem lw_p4 : lw_okq (⟨"StraySheep", "sheepGoesAsTold", "(LStraySheep$Sheet;I)Z"⟩, 11) := ⟨⟨by decide +kernel, by decide +kernel⟩, List.mem_of_getElem? (i := 14) (by decide +kernel), List.mem_of_getElem? (i := 449) (by decide +kernel), List.mem_of_getElem? (i := 450) (by decide +kernel)⟩
theorem lw_p5 : lw_okq (⟨"StraySheep", "draw", "()I"⟩, 11) := ⟨⟨by decide +kernel, by decide +kernel⟩, List.mem_of_getElem? (i := 14) (by decide +kernel), List.mem_of_getElem? (i := 457) (by decide +kernel), List.mem_of_getElem? (i := 458) (by decide +kernel)⟩
theorem lw_p6 : lw_okq (⟨"StraySheep$Tape", "nextToken", "()V"⟩, 5) := ⟨⟨by decide +kernel, by decide +kernel⟩, List.mem_of_getElem? (i := 84) (by decide +kernel), List.mem_of_getElem? (i := 502) (by decide +kernel), List.mem_of_getElem? (i := 503) (by decide +kernel)⟩
theorem lw_p7 : lw_okq (⟨"StraySheep$Tape", "tokenAt", "(I)I"⟩, 5) := ⟨⟨by decide +kernel, by decide +kernel⟩, List.mem_of_getElem? (i := 84) (by decide +kernel), List.mem_of_getElem? (i := 506) (by decide +kernel), List.mem_of_getElem? (i := 507) (by decide +kernel)⟩
theorem lw_p8 : lw_okq (⟨"StraySheep$Tape", "readItem", "(LStraySheep$Hill;)Z"⟩, 5) := ⟨⟨by decide +kernel, by decide +kernel⟩, List.mem_of_getElem? (i := 84) (by decide +kernel), List.mem_of_getElem? (i := 513) (by decide +kernel), List.mem_of_getElem? (i := 514) (by decide +kernel)⟩
theorem lw_p9 : lw_okq (⟨"StraySheep$Tape", "kindOfWord", "()I"⟩, 5) := ⟨⟨by decide +kernel, by decide +kernel⟩, List.mem_of_getElem? (i := 84) (by decide +kernel), List.mem_of_getElem? (i := 517) (by decide +kernel), List.mem_of_getElem? (i := 518) (by decide +kernel)⟩
theorem lw_p10 : lw_okq (⟨"StraySheep$Tape", "isWord", "(Ljava/lang/String;)Z"⟩, 5) := ⟨⟨by decide +kernel, by decide +kernel⟩, List.mem_of_getElem? (i := 84) (by decide +kernel), List.mem_of_getElem? (i := 531) (by decide +kernel), List.mem_of_getElem? (i := 532) (by decide +kernel)⟩
theorem lw_p11 : lw_okq (⟨"StraySheep$Tape", "readSheep", "(LStraySheep$Hill;I)Z"⟩, 5) := ⟨⟨by decide +kernel, by decide +kernel⟩, List.mem_of_getElem? (i := 84) (by decide +kernel), List.mem_of_getElem? (i := 583) (by decide +kernel), List.mem_of_getElem? (i := 584) (by decide +kernel)⟩
theorem lw_p12 : lw_okq (⟨"StraySheep$Tape", "skipWord", "(Ljava/lang/String;)Z"⟩, 5) := ⟨⟨by decide +kernel, by decide +kernel⟩, List.mem_of_getElem? (i := 84) (by decide +kernel), List.mem_of_getElem? (i := 589) (by decide +kernel), List.mem_of_getElem? (i := 590) (by decide +kernel)⟩
theorem lw_p13 : lw_okq (⟨"StraySheep$Tape", "takeNumber", "(I)I"⟩, 5) := ⟨⟨by decide +kernel, by decide +kernel⟩, List.mem_of_getElem? (i := 84) (by decide +kernel), List.mem_of_getElem? (i := 593) (by decide +kernel), List.mem_of_getElem? (i := 594) (by decide +kernel)⟩
theorem lw_p14 : lw_okq (⟨"StraySheep$Tape", "readFold", "(LStraySheep$Hill;)Z"⟩, 5) := ⟨⟨by decide +kernel, by decide +kernel⟩, List.mem_of_getElem? (i := 84) (by decide +kernel), List.mem_of_getElem? (i := 601) (by decide +kernel), List.mem_of_getElem? (i := 602) (by decide +kernel)⟩
theorem lw_p15 : lw_okq (⟨"StraySheep$Tape", "readKeeper", "(LStraySheep$Hill;)Z"⟩, 5) := ⟨⟨by decide +kernel, by decide +kernel⟩, List.mem_of_getElem? (i := 84) (by decide +kernel), List.mem_of_getElem? (i := 606) (by decide +kernel), List.mem_of_getElem? (i := 607) (by decide +kernel)⟩
def lw_privs_1 : List (MethodName × Nat) := [(⟨"StraySheep", "finding", "(I)I"⟩, 11), (⟨"StraySheep", "firstHourOfAtLeast", "([III)I"⟩, 11), (⟨"StraySheep", "keepsNear", "(II)Z"⟩, 11), (⟨"StraySheep", "keeperGoesAsTold", "(LStraySheep$Sheet;)Z"⟩, 11), (⟨"StraySheep", "sheepGoesAsTold", "(LStraySheep$Sheet;I)Z"⟩, 11), (⟨"StraySheep", "draw", "()I"⟩, 11), (⟨"StraySheep$Tape", "nextToken", "()V"⟩, 5), (⟨"StraySheep$Tape", "tokenAt", "(I)I"⟩, 5), (⟨"StraySheep$Tape", "readItem", "(LStraySheep$Hill;)Z"⟩, 5), (⟨"StraySheep$Tape", "kindOfWord", "()I"⟩, 5), (⟨"StraySheep$Tape", "isWord", "(Ljava/lang/String;)Z"⟩, 5), (⟨"StraySheep$Tape", "readSheep", "(LStraySheep$Hill;I)Z"⟩, 5), (⟨"StraySheep$Tape", "skipWord", "(Ljava/lang/String;)Z"⟩, 5), (⟨"StraySheep$Tape", "takeNumber", "(I)I"⟩, 5), (⟨"StraySheep$Tape", "readFold", "(LStraySheep$Hill;)Z"⟩, 5), (⟨"StraySheep$Tape", "readKeeper", "(LStraySheep$Hill;)Z"⟩, 5)]
theorem lw_r1 : ∀ q ∈ lw_privs_1, lw_okq q := List.forall_mem_cons.mpr ⟨lw_p0, List.forall_mem_cons.mpr ⟨lw_p1, List.forall_mem_cons.mpr ⟨lw_p2, List.forall_mem_cons.mpr ⟨lw_p3, List.forall_mem_cons.mpr ⟨lw_p4, List.forall_mem_cons.mpr ⟨lw_p5, List.forall_mem_cons.mpr ⟨lw_p6, List.forall_mem_cons.mpr ⟨lw_p7, List.forall_mem_cons.mpr ⟨lw_p8, List.forall_mem_cons.mpr ⟨lw_p9, List.forall_mem_cons.mpr ⟨lw_p10, List.forall_mem_cons.mpr ⟨lw_p11, List.forall_mem_cons.mpr ⟨lw_p12, List.forall_mem_cons.mpr ⟨lw_p13, List.forall_mem_cons.mpr ⟨lw_p14, List.forall_mem_cons.mpr ⟨lw_p15, fun _ h => absurd h List.not_mem_nil⟩⟩⟩⟩⟩⟩⟩⟩⟩⟩⟩⟩⟩⟩⟩⟩
theorem lw_p16 : lw_okq (⟨"StraySheep$Tape", "readWolf", "(LStraySheep$Hill;)Z"⟩, 5) := ⟨⟨by decide +kernel, by decide +kernel⟩, List.mem_of_getElem? (i := 84) (by decide +kernel), List.mem_of_getElem? (i := 612) (by decide +kernel), List.mem_of_getElem? (i := 613) (by decide +kernel)⟩
theorem lw_p17 : lw_okq (⟨"StraySheep", "spotsInUse", "()I"⟩, 11) := ⟨⟨by decide +kernel, by decide +kernel⟩, List.mem_of_getElem? (i := 14) (by decide +kernel), List.mem_of_getElem? (i := 684) (by decide +kernel), List.mem_of_getElem? (i := 685) (by decide +kernel)⟩
theorem lw_p18 : lw_okq (⟨"StraySheepModel", "finding", "(I)I"⟩, 24) := ⟨⟨by decide +kernel, by decide +kernel⟩, List.mem_of_getElem? (i := 692) (by decide +kernel), List.mem_of_getElem? (i := 791) (by decide +kernel), List.mem_of_getElem? (i := 792) (by decide +kernel)⟩
theorem lw_p19 : lw_okq (⟨"StraySheepModel", "keeperTo", "(I)I"⟩, 24) := ⟨⟨by decide +kernel, by decide +kernel⟩, List.mem_of_getElem? (i := 692) (by decide +kernel), List.mem_of_getElem? (i := 795) (by decide +kernel), List.mem_of_getElem? (i := 796) (by decide +kernel)⟩
theorem lw_p20 : lw_okq (⟨"StraySheepModel", "keeperAt", "(I)V"⟩, 24) := ⟨⟨by decide +kernel, by decide +kernel⟩, List.mem_of_getElem? (i := 692) (by decide +kernel), List.mem_of_getElem? (i := 799) (by decide +kernel), List.mem_of_getElem? (i := 800) (by decide +kernel)⟩
theorem lw_p21 : lw_okq (⟨"StraySheepModel", "become", "(II)I"⟩, 24) := ⟨⟨by decide +kernel, by decide +kernel⟩, List.mem_of_getElem? (i := 692) (by decide +kernel), List.mem_of_getElem? (i := 806) (by decide +kernel), List.mem_of_getElem? (i := 807) (by decide +kernel)⟩
theorem lw_p22 : lw_okq (⟨"StraySheepModel", "comes", "(II)I"⟩, 24) := ⟨⟨by decide +kernel, by decide +kernel⟩, List.mem_of_getElem? (i := 692) (by decide +kernel), List.mem_of_getElem? (i := 822) (by decide +kernel), List.mem_of_getElem? (i := 823) (by decide +kernel)⟩
theorem lw_p23 : lw_okq (⟨"StraySheepModel", "isSheep", "(I)Z"⟩, 24) := ⟨⟨by decide +kernel, by decide +kernel⟩, List.mem_of_getElem? (i := 692) (by decide +kernel), List.mem_of_getElem? (i := 830) (by decide +kernel), List.mem_of_getElem? (i := 831) (by decide +kernel)⟩
theorem lw_p24 : lw_okq (⟨"StraySheepModel", "far", "(I)I"⟩, 24) := ⟨⟨by decide +kernel, by decide +kernel⟩, List.mem_of_getElem? (i := 692) (by decide +kernel), List.mem_of_getElem? (i := 834) (by decide +kernel), List.mem_of_getElem? (i := 835) (by decide +kernel)⟩
theorem lw_p25 : lw_okq (⟨"StraySheepModel", "sheepIs", "(II)I"⟩, 24) := ⟨⟨by decide +kernel, by decide +kernel⟩, List.mem_of_getElem? (i := 692) (by decide +kernel), List.mem_of_getElem? (i := 838) (by decide +kernel), List.mem_of_getElem? (i := 839) (by decide +kernel)⟩
theorem lw_p26 : lw_okq (⟨"StraySheepModel", "strays", "(I)I"⟩, 24) := ⟨⟨by decide +kernel, by decide +kernel⟩, List.mem_of_getElem? (i := 692) (by decide +kernel), List.mem_of_getElem? (i := 845) (by decide +kernel), List.mem_of_getElem? (i := 846) (by decide +kernel)⟩
theorem lw_p27 : lw_okq (⟨"StraySheepModel", "isAlone", "(I)Z"⟩, 24) := ⟨⟨by decide +kernel, by decide +kernel⟩, List.mem_of_getElem? (i := 692) (by decide +kernel), List.mem_of_getElem? (i := 849) (by decide +kernel), List.mem_of_getElem? (i := 850) (by decide +kernel)⟩
theorem lw_p28 : lw_okq (⟨"StraySheepModel", "fears", "(I)I"⟩, 24) := ⟨⟨by decide +kernel, by decide +kernel⟩, List.mem_of_getElem? (i := 692) (by decide +kernel), List.mem_of_getElem? (i := 853) (by decide +kernel), List.mem_of_getElem? (i := 854) (by decide +kernel)⟩
theorem lw_p29 : lw_okq (⟨"StraySheepModel", "calms", "(I)I"⟩, 24) := ⟨⟨by decide +kernel, by decide +kernel⟩, List.mem_of_getElem? (i := 692) (by decide +kernel), List.mem_of_getElem? (i := 857) (by decide +kernel), List.mem_of_getElem? (i := 858) (by decide +kernel)⟩
theorem lw_p30 : lw_okq (⟨"StraySheepModel", "light", "(I)I"⟩, 24) := ⟨⟨by decide +kernel, by decide +kernel⟩, List.mem_of_getElem? (i := 692) (by decide +kernel), List.mem_of_getElem? (i := 861) (by decide +kernel), List.mem_of_getElem? (i := 862) (by decide +kernel)⟩
theorem lw_p31 : lw_okq (⟨"StraySheepModel", "orNone", "(I)I"⟩, 24) := ⟨⟨by decide +kernel, by decide +kernel⟩, List.mem_of_getElem? (i := 692) (by decide +kernel), List.mem_of_getElem? (i := 877) (by decide +kernel), List.mem_of_getElem? (i := 878) (by decide +kernel)⟩
def lw_privs_2 : List (MethodName × Nat) := [(⟨"StraySheep$Tape", "readWolf", "(LStraySheep$Hill;)Z"⟩, 5), (⟨"StraySheep", "spotsInUse", "()I"⟩, 11), (⟨"StraySheepModel", "finding", "(I)I"⟩, 24), (⟨"StraySheepModel", "keeperTo", "(I)I"⟩, 24), (⟨"StraySheepModel", "keeperAt", "(I)V"⟩, 24), (⟨"StraySheepModel", "become", "(II)I"⟩, 24), (⟨"StraySheepModel", "comes", "(II)I"⟩, 24), (⟨"StraySheepModel", "isSheep", "(I)Z"⟩, 24), (⟨"StraySheepModel", "far", "(I)I"⟩, 24), (⟨"StraySheepModel", "sheepIs", "(II)I"⟩, 24), (⟨"StraySheepModel", "strays", "(I)I"⟩, 24), (⟨"StraySheepModel", "isAlone", "(I)Z"⟩, 24), (⟨"StraySheepModel", "fears", "(I)I"⟩, 24), (⟨"StraySheepModel", "calms", "(I)I"⟩, 24), (⟨"StraySheepModel", "light", "(I)I"⟩, 24), (⟨"StraySheepModel", "orNone", "(I)I"⟩, 24)]
theorem lw_r2 : ∀ q ∈ lw_privs_2, lw_okq q := List.forall_mem_cons.mpr ⟨lw_p16, List.forall_mem_cons.mpr ⟨lw_p17, List.forall_mem_cons.mpr ⟨lw_p18, List.forall_mem_cons.mpr ⟨lw_p19, List.forall_mem_cons.mpr ⟨lw_p20, List.forall_mem_cons.mpr ⟨lw_p21, List.forall_mem_cons.mpr ⟨lw_p22, List.forall_mem_cons.mpr ⟨lw_p23, List.forall_mem_cons.mpr ⟨lw_p24, List.forall_mem_cons.mpr ⟨lw_p25, List.forall_mem_cons.mpr ⟨lw_p26, List.forall_mem_cons.mpr ⟨lw_p27, List.forall_mem_cons.mpr ⟨lw_p28, List.forall_mem_cons.mpr ⟨lw_p29, List.forall_mem_cons.mpr ⟨lw_p30, List.forall_mem_cons.mpr ⟨lw_p31, fun _ h => absurd h List.not_mem_nil⟩⟩⟩⟩⟩⟩⟩⟩⟩⟩⟩⟩⟩⟩⟩⟩
theorem lw_p32 : lw_okq (⟨"StraySheepModel", "setAt", "(I)I"⟩, 24) := ⟨⟨by decide +kernel, by decide +kernel⟩, List.mem_of_getElem? (i := 692) (by decide +kernel), List.mem_of_getElem? (i := 886) (by decide +kernel), List.mem_of_getElem? (i := 887) (by decide +kernel)⟩
theorem lw_p33 : lw_okq (⟨"StraySheepModel", "hoursGo", "(I)V"⟩, 24) := ⟨⟨by decide +kernel, by decide +kernel⟩, List.mem_of_getElem? (i := 692) (by decide +kernel), List.mem_of_getElem? (i := 895) (by decide +kernel), List.mem_of_getElem? (i := 896) (by decide +kernel)⟩
theorem lw_p34 : lw_okq (⟨"StraySheepModel", "hour", "()V"⟩, 24) := ⟨⟨by decide +kernel, by decide +kernel⟩, List.mem_of_getElem? (i := 692) (by decide +kernel), List.mem_of_getElem? (i := 899) (by decide +kernel), List.mem_of_getElem? (i := 900) (by decide +kernel)⟩
theorem lw_p35 : lw_okq (⟨"StraySheepModel", "sheepGo", "()V"⟩, 24) := ⟨⟨by decide +kernel, by decide +kernel⟩, List.mem_of_getElem? (i := 692) (by decide +kernel), List.mem_of_getElem? (i := 903) (by decide +kernel), List.mem_of_getElem? (i := 904) (by decide +kernel)⟩
theorem lw_p36 : lw_okq (⟨"StraySheepModel", "awayFrom", "(II)I"⟩, 24) := ⟨⟨by decide +kernel, by decide +kernel⟩, List.mem_of_getElem? (i := 692) (by decide +kernel), List.mem_of_getElem? (i := 915) (by decide +kernel), List.mem_of_getElem? (i := 916) (by decide +kernel)⟩
theorem lw_p37 : lw_okq (⟨"StraySheepModel", "wolfGoes", "()V"⟩, 24) := ⟨⟨by decide +kernel, by decide +kernel⟩, List.mem_of_getElem? (i := 692) (by decide +kernel), List.mem_of_getElem? (i := 919) (by decide +kernel), List.mem_of_getElem? (i := 920) (by decide +kernel)⟩
theorem lw_p38 : lw_okq (⟨"StraySheepModel", "nearest", "()I"⟩, 24) := ⟨⟨by decide +kernel, by decide +kernel⟩, List.mem_of_getElem? (i := 692) (by decide +kernel), List.mem_of_getElem? (i := 923) (by decide +kernel), List.mem_of_getElem? (i := 924) (by decide +kernel)⟩
theorem lw_p39 : lw_okq (⟨"StraySheepModel", "carries", "()V"⟩, 24) := ⟨⟨by decide +kernel, by decide +kernel⟩, List.mem_of_getElem? (i := 692) (by decide +kernel), List.mem_of_getElem? (i := 927) (by decide +kernel), List.mem_of_getElem? (i := 928) (by decide +kernel)⟩
theorem lw_p40 : lw_okq (⟨"StraySheepModel", "seeks", "()V"⟩, 24) := ⟨⟨by decide +kernel, by decide +kernel⟩, List.mem_of_getElem? (i := 692) (by decide +kernel), List.mem_of_getElem? (i := 931) (by decide +kernel), List.mem_of_getElem? (i := 932) (by decide +kernel)⟩
theorem lw_p41 : lw_okq (⟨"StraySheepModel", "sought", "()I"⟩, 24) := ⟨⟨by decide +kernel, by decide +kernel⟩, List.mem_of_getElem? (i := 692) (by decide +kernel), List.mem_of_getElem? (i := 935) (by decide +kernel), List.mem_of_getElem? (i := 936) (by decide +kernel)⟩
theorem lw_p42 : lw_okq (⟨"StraySheepModel", "sumOf", "(I)I"⟩, 24) := ⟨⟨by decide +kernel, by decide +kernel⟩, List.mem_of_getElem? (i := 692) (by decide +kernel), List.mem_of_getElem? (i := 939) (by decide +kernel), List.mem_of_getElem? (i := 940) (by decide +kernel)⟩
theorem lw_p43 : lw_okq (⟨"StraySheepModel", "lostSet", "()I"⟩, 24) := ⟨⟨by decide +kernel, by decide +kernel⟩, List.mem_of_getElem? (i := 692) (by decide +kernel), List.mem_of_getElem? (i := 947) (by decide +kernel), List.mem_of_getElem? (i := 948) (by decide +kernel)⟩
theorem lw_p44 : lw_okq (⟨"StraySheepModel", "mostAfraid", "()I"⟩, 24) := ⟨⟨by decide +kernel, by decide +kernel⟩, List.mem_of_getElem? (i := 692) (by decide +kernel), List.mem_of_getElem? (i := 951) (by decide +kernel), List.mem_of_getElem? (i := 952) (by decide +kernel)⟩
theorem lw_p45 : lw_okq (⟨"StraySheepModel", "behind", "(II)I"⟩, 24) := ⟨⟨by decide +kernel, by decide +kernel⟩, List.mem_of_getElem? (i := 692) (by decide +kernel), List.mem_of_getElem? (i := 959) (by decide +kernel), List.mem_of_getElem? (i := 960) (by decide +kernel)⟩
theorem lw_p46 : lw_okq (⟨"StraySheepModel", "putBack", "(I)I"⟩, 24) := ⟨⟨by decide +kernel, by decide +kernel⟩, List.mem_of_getElem? (i := 692) (by decide +kernel), List.mem_of_getElem? (i := 966) (by decide +kernel), List.mem_of_getElem? (i := 967) (by decide +kernel)⟩
theorem lw_p47 : lw_okq (⟨"StraySheepModel", "whenIs", "(III)I"⟩, 24) := ⟨⟨by decide +kernel, by decide +kernel⟩, List.mem_of_getElem? (i := 692) (by decide +kernel), List.mem_of_getElem? (i := 978) (by decide +kernel), List.mem_of_getElem? (i := 979) (by decide +kernel)⟩
def lw_privs_3 : List (MethodName × Nat) := [(⟨"StraySheepModel", "setAt", "(I)I"⟩, 24), (⟨"StraySheepModel", "hoursGo", "(I)V"⟩, 24), (⟨"StraySheepModel", "hour", "()V"⟩, 24), (⟨"StraySheepModel", "sheepGo", "()V"⟩, 24), (⟨"StraySheepModel", "awayFrom", "(II)I"⟩, 24), (⟨"StraySheepModel", "wolfGoes", "()V"⟩, 24), (⟨"StraySheepModel", "nearest", "()I"⟩, 24), (⟨"StraySheepModel", "carries", "()V"⟩, 24), (⟨"StraySheepModel", "seeks", "()V"⟩, 24), (⟨"StraySheepModel", "sought", "()I"⟩, 24), (⟨"StraySheepModel", "sumOf", "(I)I"⟩, 24), (⟨"StraySheepModel", "lostSet", "()I"⟩, 24), (⟨"StraySheepModel", "mostAfraid", "()I"⟩, 24), (⟨"StraySheepModel", "behind", "(II)I"⟩, 24), (⟨"StraySheepModel", "putBack", "(I)I"⟩, 24), (⟨"StraySheepModel", "whenIs", "(III)I"⟩, 24)]
theorem lw_r3 : ∀ q ∈ lw_privs_3, lw_okq q := List.forall_mem_cons.mpr ⟨lw_p32, List.forall_mem_cons.mpr ⟨lw_p33, List.forall_mem_cons.mpr ⟨lw_p34, List.forall_mem_cons.mpr ⟨lw_p35, List.forall_mem_cons.mpr ⟨lw_p36, List.forall_mem_cons.mpr ⟨lw_p37, List.forall_mem_cons.mpr ⟨lw_p38, List.forall_mem_cons.mpr ⟨lw_p39, List.forall_mem_cons.mpr ⟨lw_p40, List.forall_mem_cons.mpr ⟨lw_p41, List.forall_mem_cons.mpr ⟨lw_p42, List.forall_mem_cons.mpr ⟨lw_p43, List.forall_mem_cons.mpr ⟨lw_p44, List.forall_mem_cons.mpr ⟨lw_p45, List.forall_mem_cons.mpr ⟨lw_p46, List.forall_mem_cons.mpr ⟨lw_p47, fun _ h => absurd h List.not_mem_nil⟩⟩⟩⟩⟩⟩⟩⟩⟩⟩⟩⟩⟩⟩⟩⟩
theorem lw_p48 : lw_okq (⟨"StraySheepModel", "areHome", "()Z"⟩, 24) := ⟨⟨by decide +kernel, by decide +kernel⟩, List.mem_of_getElem? (i := 692) (by decide +kernel), List.mem_of_getElem? (i := 986) (by decide +kernel), List.mem_of_getElem? (i := 987) (by decide +kernel)⟩
theorem lw_p49 : lw_okq (⟨"StraySheepModel", "leastFor", "(III)I"⟩, 24) := ⟨⟨by decide +kernel, by decide +kernel⟩, List.mem_of_getElem? (i := 692) (by decide +kernel), List.mem_of_getElem? (i := 1001) (by decide +kernel), List.mem_of_getElem? (i := 1002) (by decide +kernel)⟩
theorem lw_p50 : lw_okq (⟨"StraySheepModel", "sumBehind", "(II)I"⟩, 24) := ⟨⟨by decide +kernel, by decide +kernel⟩, List.mem_of_getElem? (i := 692) (by decide +kernel), List.mem_of_getElem? (i := 1005) (by decide +kernel), List.mem_of_getElem? (i := 1006) (by decide +kernel)⟩
theorem lw_p51 : lw_okq (⟨"StraySheepModel", "areNear", "(II)Z"⟩, 24) := ⟨⟨by decide +kernel, by decide +kernel⟩, List.mem_of_getElem? (i := 692) (by decide +kernel), List.mem_of_getElem? (i := 1025) (by decide +kernel), List.mem_of_getElem? (i := 1026) (by decide +kernel)⟩
theorem lw_p52 : lw_okq (⟨"StraySheepModel", "lacks", "(IZ)I"⟩, 24) := ⟨⟨by decide +kernel, by decide +kernel⟩, List.mem_of_getElem? (i := 692) (by decide +kernel), List.mem_of_getElem? (i := 1036) (by decide +kernel), List.mem_of_getElem? (i := 1037) (by decide +kernel)⟩
theorem lw_p53 : lw_okq (⟨"StraySheepModel", "valuesFor", "(IIII)I"⟩, 24) := ⟨⟨by decide +kernel, by decide +kernel⟩, List.mem_of_getElem? (i := 692) (by decide +kernel), List.mem_of_getElem? (i := 1044) (by decide +kernel), List.mem_of_getElem? (i := 1045) (by decide +kernel)⟩
theorem lw_p54 : lw_okq (⟨"StraySheepModel", "isToldWay", "(II)Z"⟩, 24) := ⟨⟨by decide +kernel, by decide +kernel⟩, List.mem_of_getElem? (i := 692) (by decide +kernel), List.mem_of_getElem? (i := 1048) (by decide +kernel), List.mem_of_getElem? (i := 1049) (by decide +kernel)⟩
theorem lw_p55 : lw_okq (⟨"StraySheepModel", "drawn", "()I"⟩, 24) := ⟨⟨by decide +kernel, by decide +kernel⟩, List.mem_of_getElem? (i := 692) (by decide +kernel), List.mem_of_getElem? (i := 1060) (by decide +kernel), List.mem_of_getElem? (i := 1061) (by decide +kernel)⟩
theorem lw_p56 : lw_okq (⟨"StraySheepModel", "token", "()V"⟩, 24) := ⟨⟨by decide +kernel, by decide +kernel⟩, List.mem_of_getElem? (i := 692) (by decide +kernel), List.mem_of_getElem? (i := 1085) (by decide +kernel), List.mem_of_getElem? (i := 1086) (by decide +kernel)⟩
theorem lw_p57 : lw_okq (⟨"StraySheepModel", "byteAt", "(I)I"⟩, 24) := ⟨⟨by decide +kernel, by decide +kernel⟩, List.mem_of_getElem? (i := 692) (by decide +kernel), List.mem_of_getElem? (i := 1089) (by decide +kernel), List.mem_of_getElem? (i := 1090) (by decide +kernel)⟩
theorem lw_p58 : lw_okq (⟨"StraySheepModel", "readItem", "()V"⟩, 24) := ⟨⟨by decide +kernel, by decide +kernel⟩, List.mem_of_getElem? (i := 692) (by decide +kernel), List.mem_of_getElem? (i := 1093) (by decide +kernel), List.mem_of_getElem? (i := 1094) (by decide +kernel)⟩
theorem lw_p59 : lw_okq (⟨"StraySheepModel", "isWord", "(Ljava/lang/String;)Z"⟩, 24) := ⟨⟨by decide +kernel, by decide +kernel⟩, List.mem_of_getElem? (i := 692) (by decide +kernel), List.mem_of_getElem? (i := 1097) (by decide +kernel), List.mem_of_getElem? (i := 1098) (by decide +kernel)⟩
theorem lw_p60 : lw_okq (⟨"StraySheepModel", "readSheep", "(I)V"⟩, 24) := ⟨⟨by decide +kernel, by decide +kernel⟩, List.mem_of_getElem? (i := 692) (by decide +kernel), List.mem_of_getElem? (i := 1103) (by decide +kernel), List.mem_of_getElem? (i := 1104) (by decide +kernel)⟩
theorem lw_p61 : lw_okq (⟨"StraySheepModel", "must", "(Z)V"⟩, 24) := ⟨⟨by decide +kernel, by decide +kernel⟩, List.mem_of_getElem? (i := 692) (by decide +kernel), List.mem_of_getElem? (i := 1107) (by decide +kernel), List.mem_of_getElem? (i := 1108) (by decide +kernel)⟩
theorem lw_p62 : lw_okq (⟨"StraySheepModel", "mayTell", "(Ljava/lang/String;II)I"⟩, 24) := ⟨⟨by decide +kernel, by decide +kernel⟩, List.mem_of_getElem? (i := 692) (by decide +kernel), List.mem_of_getElem? (i := 1112) (by decide +kernel), List.mem_of_getElem? (i := 1113) (by decide +kernel)⟩
theorem lw_p63 : lw_okq (⟨"StraySheepModel", "takesWord", "(Ljava/lang/String;)Z"⟩, 24) := ⟨⟨by decide +kernel, by decide +kernel⟩, List.mem_of_getElem? (i := 692) (by decide +kernel), List.mem_of_getElem? (i := 1116) (by decide +kernel), List.mem_of_getElem? (i := 1117) (by decide +kernel)⟩
def lw_privs_4 : List (MethodName × Nat) := [(⟨"StraySheepModel", "areHome", "()Z"⟩, 24), (⟨"StraySheepModel", "leastFor", "(III)I"⟩, 24), (⟨"StraySheepModel", "sumBehind", "(II)I"⟩, 24), (⟨"StraySheepModel", "areNear", "(II)Z"⟩, 24), (⟨"StraySheepModel", "lacks", "(IZ)I"⟩, 24), (⟨"StraySheepModel", "valuesFor", "(IIII)I"⟩, 24), (⟨"StraySheepModel", "isToldWay", "(II)Z"⟩, 24), (⟨"StraySheepModel", "drawn", "()I"⟩, 24), (⟨"StraySheepModel", "token", "()V"⟩, 24), (⟨"StraySheepModel", "byteAt", "(I)I"⟩, 24), (⟨"StraySheepModel", "readItem", "()V"⟩, 24), (⟨"StraySheepModel", "isWord", "(Ljava/lang/String;)Z"⟩, 24), (⟨"StraySheepModel", "readSheep", "(I)V"⟩, 24), (⟨"StraySheepModel", "must", "(Z)V"⟩, 24), (⟨"StraySheepModel", "mayTell", "(Ljava/lang/String;II)I"⟩, 24), (⟨"StraySheepModel", "takesWord", "(Ljava/lang/String;)Z"⟩, 24)]
theorem lw_r4 : ∀ q ∈ lw_privs_4, lw_okq q := List.forall_mem_cons.mpr ⟨lw_p48, List.forall_mem_cons.mpr ⟨lw_p49, List.forall_mem_cons.mpr ⟨lw_p50, List.forall_mem_cons.mpr ⟨lw_p51, List.forall_mem_cons.mpr ⟨lw_p52, List.forall_mem_cons.mpr ⟨lw_p53, List.forall_mem_cons.mpr ⟨lw_p54, List.forall_mem_cons.mpr ⟨lw_p55, List.forall_mem_cons.mpr ⟨lw_p56, List.forall_mem_cons.mpr ⟨lw_p57, List.forall_mem_cons.mpr ⟨lw_p58, List.forall_mem_cons.mpr ⟨lw_p59, List.forall_mem_cons.mpr ⟨lw_p60, List.forall_mem_cons.mpr ⟨lw_p61, List.forall_mem_cons.mpr ⟨lw_p62, List.forall_mem_cons.mpr ⟨lw_p63, fun _ h => absurd h List.not_mem_nil⟩⟩⟩⟩⟩⟩⟩⟩⟩⟩⟩⟩⟩⟩⟩⟩
theorem lw_p64 : lw_okq (⟨"StraySheepModel", "number", "(II)I"⟩, 24) := ⟨⟨by decide +kernel, by decide +kernel⟩, List.mem_of_getElem? (i := 692) (by decide +kernel), List.mem_of_getElem? (i := 1120) (by decide +kernel), List.mem_of_getElem? (i := 1121) (by decide +kernel)⟩
theorem lw_p65 : lw_okq (⟨"StraySheepModel", "addItem", "(IIII)V"⟩, 24) := ⟨⟨by decide +kernel, by decide +kernel⟩, List.mem_of_getElem? (i := 692) (by decide +kernel), List.mem_of_getElem? (i := 1126) (by decide +kernel), List.mem_of_getElem? (i := 1127) (by decide +kernel)⟩
theorem lw_p66 : lw_okq (⟨"StraySheepModel", "isToldSo", "(I)V"⟩, 24) := ⟨⟨by decide +kernel, by decide +kernel⟩, List.mem_of_getElem? (i := 692) (by decide +kernel), List.mem_of_getElem? (i := 1134) (by decide +kernel), List.mem_of_getElem? (i := 1135) (by decide +kernel)⟩
def lw_privs_5 : List (MethodName × Nat) := [(⟨"StraySheepModel", "number", "(II)I"⟩, 24), (⟨"StraySheepModel", "addItem", "(IIII)V"⟩, 24), (⟨"StraySheepModel", "isToldSo", "(I)V"⟩, 24)]
theorem lw_r5 : ∀ q ∈ lw_privs_5, lw_okq q := List.forall_mem_cons.mpr ⟨lw_p64, List.forall_mem_cons.mpr ⟨lw_p65, List.forall_mem_cons.mpr ⟨lw_p66, fun _ h => absurd h List.not_mem_nil⟩⟩⟩
def lw_privs : List (MethodName × Nat) := lw_privs_1 ++ (lw_privs_2 ++ (lw_privs_3 ++ (lw_privs_4 ++ (lw_privs_5))))
def lw_tbl : List Cond := k2_sels lw_privs ++ tables_1
theorem lw_privs_ok : ∀ q ∈ lw_privs, lw_okq q := by
  show ∀ q ∈ lw_privs_1 ++ (lw_privs_2 ++ (lw_privs_3 ++ (lw_privs_4 ++ (lw_privs_5)))), lw_okq q
  exact List.forall_mem_append.mpr ⟨lw_r1, List.forall_mem_append.mpr ⟨lw_r2, List.forall_mem_append.mpr ⟨lw_r3, List.forall_mem_append.mpr ⟨lw_r4, lw_r5⟩⟩⟩⟩
end
section
def R0 : String := "StraySheep"
def T0 : u_T := fun k => match k with
  | 0 => ("StraySheep", "live", "LStraySheep$Hill;", true)
  | 1 => ("StraySheep", "trial", "LStraySheep$Hill;", true)
  | 2 => ("StraySheep", "kept", "LStraySheep$Hill;", true)
  | 3 => ("StraySheep", "isKept", "Z", false)
  | 4 => ("StraySheep", "spots", "[I", true)
  | 5 => ("StraySheep", "keptSpots", "[I", true)
  | 6 => ("StraySheep", "z", "I", false)
  | 7 => ("StraySheep", "keptZ", "I", false)
  | 8 => ("StraySheep", "tape", "LStraySheep$Tape;", true)
  | 9 => ("StraySheep", "sheets", "[LStraySheep$Sheet;", true)
  | _ => ("StraySheep", "findings", "[I", true)
def ty0 : Nat → FieldType := fun k => match k with
  | 0 => .object "StraySheep$Hill"
  | 1 => .object "StraySheep$Hill"
  | 2 => .object "StraySheep$Hill"
  | 3 => .boolean
  | 4 => .array .int
  | 5 => .array .int
  | 6 => .int
  | 7 => .int
  | 8 => .object "StraySheep$Tape"
  | 9 => .array (.object "StraySheep$Sheet")
  | _ => .array .int
theorem nm0 : ∀ a, a < 11 → ∀ b, b < 11 → a ≠ b → (T0 a).2.1 ≠ (T0 b).2.1 := by decide +kernel
theorem ty0_ok : ∀ k, k < 11 → parseFieldDescriptor (T0 k).2.2.1 = some (ty0 k) := by decide +kernel
def R1 : String := "StraySheep$Hill"
def T1 : u_T := fun k => match k with
  | 0 => ("StraySheep$Hill", "fold", "I", false)
  | 1 => ("StraySheep$Hill", "keeper", "I", false)
  | 2 => ("StraySheep$Hill", "carried", "I", false)
  | 3 => ("StraySheep$Hill", "wolf", "I", false)
  | 4 => ("StraySheep$Hill", "pace", "I", false)
  | 5 => ("StraySheep$Hill", "hour", "I", false)
  | 6 => ("StraySheep$Hill", "size", "I", false)
  | 7 => ("StraySheep$Hill", "kind", "[I", true)
  | 8 => ("StraySheep$Hill", "cell", "[I", true)
  | 9 => ("StraySheep$Hill", "fear", "[I", true)
  | 10 => ("StraySheep$Hill", "lost", "[I", true)
  | _ => ("StraySheep$Hill", "found", "[I", true)
def ty1 : Nat → FieldType := fun k => match k with
  | 0 => .int
  | 1 => .int
  | 2 => .int
  | 3 => .int
  | 4 => .int
  | 5 => .int
  | 6 => .int
  | 7 => .array .int
  | 8 => .array .int
  | 9 => .array .int
  | 10 => .array .int
  | _ => .array .int
theorem nm1 : ∀ a, a < 12 → ∀ b, b < 12 → a ≠ b → (T1 a).2.1 ≠ (T1 b).2.1 := by decide +kernel
theorem ty1_ok : ∀ k, k < 12 → parseFieldDescriptor (T1 k).2.2.1 = some (ty1 k) := by decide +kernel
def R2 : String := "StraySheep$Sheet"
def T2 : u_T := fun k => match k with
  | 0 => ("StraySheep$Sheet", "bits", "I", false)
  | 1 => ("StraySheep$Sheet", "size", "I", false)
  | _ => ("StraySheep$Sheet", "numbers", "[I", true)
def ty2 : Nat → FieldType := fun k => match k with
  | 0 => .int
  | 1 => .int
  | _ => .array .int
theorem nm2 : ∀ a, a < 3 → ∀ b, b < 3 → a ≠ b → (T2 a).2.1 ≠ (T2 b).2.1 := by decide +kernel
theorem ty2_ok : ∀ k, k < 3 → parseFieldDescriptor (T2 k).2.2.1 = some (ty2 k) := by decide +kernel
def R3 : String := "StraySheep$Tape"
def T3 : u_T := fun k => match k with
  | 0 => ("StraySheep$Tape", "bytes", "[I", true)
  | 1 => ("StraySheep$Tape", "length", "I", false)
  | 2 => ("StraySheep$Tape", "place", "I", false)
  | 3 => ("StraySheep$Tape", "behind", "I", false)
  | _ => ("StraySheep$Tape", "token", "I", false)
def ty3 : Nat → FieldType := fun k => match k with
  | 0 => .array .int
  | 1 => .int
  | 2 => .int
  | 3 => .int
  | _ => .int
theorem nm3 : ∀ a, a < 5 → ∀ b, b < 5 → a ≠ b → (T3 a).2.1 ≠ (T3 b).2.1 := by decide +kernel
theorem ty3_ok : ∀ k, k < 5 → parseFieldDescriptor (T3 k).2.2.1 = some (ty3 k) := by decide +kernel
def R4 : String := "StraySheepModel"
def T4 : u_T := fun k => match k with
  | 0 => ("StraySheepModel", "now", "[I", true)
  | 1 => ("StraySheepModel", "kept", "[I", true)
  | 2 => ("StraySheepModel", "aside", "[I", true)
  | 3 => ("StraySheepModel", "isKept", "Z", false)
  | 4 => ("StraySheepModel", "found", "[I", true)
  | 5 => ("StraySheepModel", "tethered", "I", false)
  | 6 => ("StraySheepModel", "tape", "[I", true)
  | 7 => ("StraySheepModel", "taped", "I", false)
  | 8 => ("StraySheepModel", "begins", "I", false)
  | 9 => ("StraySheepModel", "ends", "I", false)
  | 10 => ("StraySheepModel", "sort", "I", false)
  | 11 => ("StraySheepModel", "value", "I", false)
  | 12 => ("StraySheepModel", "isWrong", "Z", false)
  | 13 => ("StraySheepModel", "kindNames", "[Ljava/lang/String;", true)
  | 14 => ("StraySheepModel", "itemWhat", "[I", true)
  | 15 => ("StraySheepModel", "itemA", "[I", true)
  | 16 => ("StraySheepModel", "itemB", "[I", true)
  | 17 => ("StraySheepModel", "itemC", "[I", true)
  | 18 => ("StraySheepModel", "itemMany", "I", false)
  | 19 => ("StraySheepModel", "sheepThen", "I", false)
  | 20 => ("StraySheepModel", "widths", "[I", true)
  | 21 => ("StraySheepModel", "sizes", "[I", true)
  | 22 => ("StraySheepModel", "numbers", "[I", true)
  | _ => ("StraySheepModel", "moved", "[I", true)
def ty4 : Nat → FieldType := fun k => match k with
  | 0 => .array .int
  | 1 => .array .int
  | 2 => .array .int
  | 3 => .boolean
  | 4 => .array .int
  | 5 => .int
  | 6 => .array .int
  | 7 => .int
  | 8 => .int
  | 9 => .int
  | 10 => .int
  | 11 => .int
  | 12 => .boolean
  | 13 => .array (.object "java/lang/String")
  | 14 => .array .int
  | 15 => .array .int
  | 16 => .array .int
  | 17 => .array .int
  | 18 => .int
  | 19 => .int
  | 20 => .array .int
  | 21 => .array .int
  | 22 => .array .int
  | _ => .array .int
theorem nm4 : ∀ a, a < 24 → ∀ b, b < 24 → a ≠ b → (T4 a).2.1 ≠ (T4 b).2.1 := by decide +kernel
theorem ty4_ok : ∀ k, k < 24 → parseFieldDescriptor (T4 k).2.2.1 = some (ty4 k) := by decide +kernel
abbrev cls : List vw_C := [(R0, T0, 11), (R1, T1, 12), (R2, T2, 3), (R3, T3, 5), (R4, T4, 24)]
def LT : List Cond := lw_tbl.filter goodWord
theorem LTm {w : Cond} (i : Nat) (h : lw_tbl[i]? = some w) (hg : goodWord w = true) : w ∈ LT := List.mem_filter.mpr ⟨List.mem_of_getElem? h, hg⟩
theorem LTsub {w : Cond} (h : w ∈ LT) : w ∈ lw_tbl := (List.mem_filter.mp h).1
theorem LTgood : GoodIn LT LT := fun _ hw => ⟨hw, good_of_word (List.mem_filter.mp hw).2⟩
theorem LTr (ws : List Cond) (ps : List Nat) (hp : ws = ps.filterMap (fun i => lw_tbl[i]?)) (h : ws.all goodWord = true) : ∀ w ∈ ws, w ∈ LT := by
  intro w hw
  have h1 := List.all_eq_true.mp h w hw
  rw [hp] at hw
  obtain ⟨i, -, hi⟩ := List.mem_filterMap.mp hw
  exact LTm i hi h1
theorem in0 : ∀ w ∈ u_ws R0 T0 11, w ∈ LT := LTr _ [204, 206, 208, 210, 212, 214, 216, 218, 220, 222, 224] (by decide +kernel) (by decide +kernel)
theorem in1 : ∀ w ∈ u_ws R1 T1 12, w ∈ LT := LTr _ [124, 126, 128, 130, 132, 134, 136, 138, 140, 142, 144, 146] (by decide +kernel) (by decide +kernel)
theorem in2 : ∀ w ∈ u_ws R2 T2 3, w ∈ LT := LTr _ [186, 188, 190] (by decide +kernel) (by decide +kernel)
theorem in3 : ∀ w ∈ u_ws R3 T3 5, w ∈ LT := LTr _ [162, 164, 166, 168, 170] (by decide +kernel) (by decide +kernel)
theorem in4 : ∀ w ∈ u_ws R4 T4 24, w ∈ LT := LTr _ [797, 799, 801, 803, 805, 807, 809, 811, 813, 815, 817, 819, 821, 823, 825, 827, 829, 831, 833, 835, 837, 839, 841, 843] (by decide +kernel) (by decide +kernel)
def fdef (ci : Nat) : List Nat := match ci with
  | 0 => [1, 7, 13, 0, 19, 20, 0, 0, 21, 23, 32]
  | 1 => [0, 0, 0, 0, 0, 0, 0, 1, 2, 3, 4, 5]
  | 2 => [0, 0, 1]
  | 3 => [1, 0, 0, 0, 0]
  | 4 => [1, 2, 3, 0, 4, 0, 5, 0, 0, 0, 0, 0, 0, 6, 7, 8, 9, 10, 0, 0, 11, 12, 13, 14]
  | _ => []
def objL : List (Option Nat) := [some 0, some 1, none, none, none, none, none, some 1, none, none, none, none, none, some 1, none, none, none, none, none, none, none, some 3, none, none, some 2, none, some 2, none, some 2, none, some 2, none, none, some 4, none, none, none, none, none, none, none, none, none, none, none, none, none, none]
def arrL : List (Option Nat) := [none, none, some 8, some 8, some 8, some 8, some 8, none, some 8, some 8, some 8, some 8, some 8, none, some 8, some 8, some 8, some 8, some 8, some 10, some 10, none, some 120, none, none, some 40, none, some 40, none, some 40, none, some 40, some 7, none, some 58, some 58, some 58, some 8, some 120, none, some 120, some 120, some 120, some 120, some 4, some 4, some 160, some 40]
abbrev MM : Type := MethodName × ByteArray × Nat × Option FieldType × Nat × Nat
def S_init : MM := (⟨"StraySheep", "<init>", "()V"⟩, prog_1_method_1_code, 2, none, 2, 40)
def H_init : MM := (⟨"StraySheep$Hill", "<init>", "()V"⟩, prog_2_method_1_code, 1, none, 1, 20)
def T_init : MM := (⟨"StraySheep$Tape", "<init>", "()V"⟩, prog_4_method_1_code, 1, none, 1, 20)
def E_init : MM := (⟨"StraySheep$Sheet", "<init>", "()V"⟩, prog_3_method_1_code, 1, none, 1, 20)
def S_set : MM := (⟨"StraySheep", "set", "(II)I"⟩, prog_1_method_2_code, 4, some .int, 3, 63)
def S_canBeSet : MM := (⟨"StraySheep", "canBeSet", "(II)Z"⟩, prog_1_method_47_code, 2, some .boolean, 2, 42)
def S_isCell : MM := (⟨"StraySheep", "isCell", "(I)Z"⟩, prog_1_method_43_code, 1, some .boolean, 1, 22)
def S_isWithin : MM := (⟨"StraySheep", "isWithin", "(III)Z"⟩, prog_1_method_42_code, 3, some .boolean, 0, 0)
def S_finding : MM := (⟨"StraySheep", "finding", "(I)I"⟩, prog_1_method_41_code, 2, some .int, 0, 0)
def H_feature : MM := (⟨"StraySheep$Hill", "feature", "(I)I"⟩, prog_2_method_7_code, 2, some .int, 0, 0)
def H_moveKeeper : MM := (⟨"StraySheep$Hill", "moveKeeper", "(I)V"⟩, prog_2_method_6_code, 2, none, 1, 21)
def H_has : MM := (⟨"StraySheep$Hill", "has", "(I)Z"⟩, prog_2_method_3_code, 2, some .boolean, 0, 0)
def S_hill : MM := (⟨"StraySheep", "hill", "(I)I"⟩, prog_1_method_3_code, 2, some .int, 1, 22)
def S_sheep : MM := (⟨"StraySheep", "sheep", "(II)I"⟩, prog_1_method_4_code, 3, some .int, 2, 43)
def S_isKind : MM := (⟨"StraySheep", "isKind", "(I)Z"⟩, prog_1_method_44_code, 1, some .boolean, 1, 22)
def H_isFull : MM := (⟨"StraySheep$Hill", "isFull", "()Z"⟩, prog_2_method_4_code, 1, some .boolean, 0, 0)
def H_add : MM := (⟨"StraySheep$Hill", "add", "(II)I"⟩, prog_2_method_5_code, 4, some .int, 1, 20)
def S_of : MM := (⟨"StraySheep", "of", "(II)I"⟩, prog_1_method_5_code, 3, some .int, 4, 87)
def H_trait : MM := (⟨"StraySheep$Hill", "trait", "(II)I"⟩, prog_2_method_8_code, 3, some .int, 3, 65)
def H_far : MM := (⟨"StraySheep$Hill", "far", "(I)I"⟩, prog_2_method_9_code, 2, some .int, 1, 21)
def S_distance : MM := (⟨"StraySheep", "distance", "(II)I"⟩, prog_1_method_61_code, 2, some .int, 0, 0)
def H_strays : MM := (⟨"StraySheep$Hill", "strays", "(I)I"⟩, prog_2_method_17_code, 2, some .int, 2, 44)
def H_straysAsRam : MM := (⟨"StraySheep$Hill", "straysAsRam", "(I)I"⟩, prog_2_method_19_code, 2, some .int, 1, 20)
def H_straysAsSheep : MM := (⟨"StraySheep$Hill", "straysAsSheep", "()I"⟩, prog_2_method_18_code, 1, some .int, 0, 0)
def H_straysAsEwe : MM := (⟨"StraySheep$Hill", "straysAsEwe", "(I)I"⟩, prog_2_method_20_code, 2, some .int, 1, 20)
def H_hasCompany : MM := (⟨"StraySheep$Hill", "hasCompany", "(I)Z"⟩, prog_2_method_21_code, 2, some .boolean, 1, 23)
def H_sheepAt : MM := (⟨"StraySheep$Hill", "sheepAt", "(I)I"⟩, prog_2_method_11_code, 4, some .int, 0, 0)
def S_fearsOf : MM := (⟨"StraySheep", "fearsOf", "(I)I"⟩, prog_1_method_58_code, 1, some .int, 0, 0)
def S_calmsOf : MM := (⟨"StraySheep", "calmsOf", "(I)I"⟩, prog_1_method_59_code, 1, some .int, 0, 0)
def S_lightOf : MM := (⟨"StraySheep", "lightOf", "(I)I"⟩, prog_1_method_60_code, 1, some .int, 0, 0)
def S_change : MM := (⟨"StraySheep", "change", "(III)I"⟩, prog_1_method_6_code, 5, some .int, 4, 87)
def S_canBeChanged : MM := (⟨"StraySheep", "canBeChanged", "(II)Z"⟩, prog_1_method_48_code, 2, some .boolean, 2, 42)
def S_drop : MM := (⟨"StraySheep", "drop", "()I"⟩, prog_1_method_7_code, 2, some .int, 1, 21)
def S_who : MM := (⟨"StraySheep", "who", "(I)I"⟩, prog_1_method_8_code, 2, some .int, 2, 42)
def S_go : MM := (⟨"StraySheep", "go", "(I)I"⟩, prog_1_method_9_code, 2, some .int, 7, 149)
def H_passHours : MM := (⟨"StraySheep$Hill", "passHours", "(I)V"⟩, prog_2_method_22_code, 3, none, 6, 127)
def H_passHour : MM := (⟨"StraySheep$Hill", "passHour", "(I)V"⟩, prog_2_method_23_code, 2, none, 5, 106)
def H_strayAll : MM := (⟨"StraySheep$Hill", "strayAll", "(I)V"⟩, prog_2_method_24_code, 3, none, 3, 66)
def H_strayedFrom : MM := (⟨"StraySheep$Hill", "strayedFrom", "(II)I"⟩, prog_2_method_25_code, 4, some .int, 2, 43)
def S_towards : MM := (⟨"StraySheep", "towards", "(III)I"⟩, prog_1_method_62_code, 3, some .int, 1, 21)
def JM_min : MM := (⟨"java/lang/Math", "min", "(II)I"⟩, prog_8_method_69_code, 2, some .int, 0, 0)
def JM_max : MM := (⟨"java/lang/Math", "max", "(II)I"⟩, prog_8_method_65_code, 2, some .int, 0, 0)
def H_prowl : MM := (⟨"StraySheep$Hill", "prowl", "()V"⟩, prog_2_method_26_code, 2, none, 2, 44)
def H_nearestToWolf : MM := (⟨"StraySheep$Hill", "nearestToWolf", "()I"⟩, prog_2_method_27_code, 4, some .int, 1, 21)
def H_frighten : MM := (⟨"StraySheep$Hill", "frighten", "()V"⟩, prog_2_method_28_code, 2, none, 1, 21)
def H_tend : MM := (⟨"StraySheep$Hill", "tend", "()V"⟩, prog_2_method_29_code, 1, none, 4, 86)
def H_carryHome : MM := (⟨"StraySheep$Hill", "carryHome", "()V"⟩, prog_2_method_30_code, 2, none, 2, 43)
def H_seek : MM := (⟨"StraySheep$Hill", "seek", "()V"⟩, prog_2_method_31_code, 2, none, 3, 65)
def H_sought : MM := (⟨"StraySheep$Hill", "sought", "()I"⟩, prog_2_method_14_code, 4, some .int, 2, 42)
def H_settle : MM := (⟨"StraySheep$Hill", "settle", "()V"⟩, prog_2_method_32_code, 2, none, 1, 21)
def H_total : MM := (⟨"StraySheep$Hill", "total", "([I)I"⟩, prog_2_method_10_code, 4, some .int, 0, 0)
def S_now : MM := (⟨"StraySheep", "now", "(I)I"⟩, prog_1_method_10_code, 2, some .int, 3, 65)
def H_farSheep : MM := (⟨"StraySheep$Hill", "farSheep", "()I"⟩, prog_2_method_12_code, 3, some .int, 2, 42)
def H_mostAfraid : MM := (⟨"StraySheep$Hill", "mostAfraid", "()I"⟩, prog_2_method_15_code, 4, some .int, 0, 0)
def S_ahead : MM := (⟨"StraySheep", "ahead", "(III)I"⟩, prog_1_method_11_code, 4, some .int, 7, 149)
def H_become : MM := (⟨"StraySheep$Hill", "become", "(LStraySheep$Hill;)V"⟩, prog_2_method_2_code, 2, none, 1, 30)
def S_later : MM := (⟨"StraySheep", "later", "(II)I"⟩, prog_1_method_12_code, 3, some .int, 7, 149)
def S_when : MM := (⟨"StraySheep", "when", "(II)I"⟩, prog_1_method_13_code, 3, some .int, 8, 173)
def S_firstHourOfAtLeast : MM := (⟨"StraySheep", "firstHourOfAtLeast", "([III)I"⟩, prog_1_method_49_code, 5, some .int, 7, 149)
def S_home : MM := (⟨"StraySheep", "home", "()I"⟩, prog_1_method_14_code, 2, some .int, 7, 149)
def H_allAtFold : MM := (⟨"StraySheep$Hill", "allAtFold", "()Z"⟩, prog_2_method_13_code, 1, some .boolean, 1, 23)
def S_panic : MM := (⟨"StraySheep", "panic", "(II)I"⟩, prog_1_method_15_code, 3, some .int, 8, 173)
def S_standFor : MM := (⟨"StraySheep", "standFor", "(I)I"⟩, prog_1_method_16_code, 6, some .int, 7, 149)
def S_foldFor : MM := (⟨"StraySheep", "foldFor", "(I)I"⟩, prog_1_method_17_code, 6, some .int, 7, 149)
def S_kindFor : MM := (⟨"StraySheep", "kindFor", "(II)I"⟩, prog_1_method_18_code, 6, some .int, 7, 149)
def S_paceFor : MM := (⟨"StraySheep", "paceFor", "(II)I"⟩, prog_1_method_19_code, 4, some .int, 7, 149)
def S_tether : MM := (⟨"StraySheep", "tether", "(I)I"⟩, prog_1_method_20_code, 6, some .int, 7, 150)
def JI_bitCount : MM := (⟨"java/lang/Integer", "bitCount", "(I)I"⟩, prog_7_method_49_code, 1, some .int, 0, 0)
def S_keepsNear : MM := (⟨"StraySheep", "keepsNear", "(II)Z"⟩, prog_1_method_50_code, 4, some .boolean, 6, 127)
def S_fits : MM := (⟨"StraySheep", "fits", "(II)I"⟩, prog_1_method_21_code, 5, some .int, 8, 171)
def S_isSheet : MM := (⟨"StraySheep", "isSheet", "(I)Z"⟩, prog_1_method_46_code, 1, some .boolean, 1, 22)
def E_isMissing : MM := (⟨"StraySheep$Sheet", "isMissing", "()Z"⟩, prog_3_method_2_code, 1, some .boolean, 0, 0)
def S_keeperGoesAsTold : MM := (⟨"StraySheep", "keeperGoesAsTold", "(LStraySheep$Sheet;)Z"⟩, prog_1_method_51_code, 3, some .boolean, 7, 149)
def E_allows : MM := (⟨"StraySheep$Sheet", "allows", "(II)Z"⟩, prog_3_method_6_code, 3, some .boolean, 0, 0)
def S_kinds : MM := (⟨"StraySheep", "kinds", "(II)I"⟩, prog_1_method_22_code, 5, some .int, 8, 172)
def S_sheepGoesAsTold : MM := (⟨"StraySheep", "sheepGoesAsTold", "(LStraySheep$Sheet;I)Z"⟩, prog_1_method_52_code, 4, some .boolean, 7, 149)
def S_nights : MM := (⟨"StraySheep", "nights", "(I)I"⟩, prog_1_method_23_code, 3, some .int, 7, 149)
def S_draw : MM := (⟨"StraySheep", "draw", "()I"⟩, prog_1_method_53_code, 1, some .int, 0, 0)
def S_odds : MM := (⟨"StraySheep", "odds", "(III)J"⟩, prog_1_method_24_code, 7, some .long, 2, 44)
def H_cellsOutOfReachOf : MM := (⟨"StraySheep$Hill", "cellsOutOfReachOf", "(I)I"⟩, prog_2_method_16_code, 4, some .int, 1, 21)
def S_power : MM := (⟨"StraySheep", "power", "(II)J"⟩, prog_1_method_54_code, 5, some .long, 0, 0)
def S_seed : MM := (⟨"StraySheep", "seed", "(I)I"⟩, prog_1_method_25_code, 3, some .int, 0, 0)
def S_feed : MM := (⟨"StraySheep", "feed", "(II)I"⟩, prog_1_method_26_code, 4, some .int, 2, 42)
def T_hasRoomFor : MM := (⟨"StraySheep$Tape", "hasRoomFor", "(I)Z"⟩, prog_4_method_2_code, 2, some .boolean, 0, 0)
def T_append : MM := (⟨"StraySheep$Tape", "append", "(I)V"⟩, prog_4_method_3_code, 2, none, 1, 21)
def S_wipe : MM := (⟨"StraySheep", "wipe", "()I"⟩, prog_1_method_27_code, 2, some .int, 0, 0)
def S_text : MM := (⟨"StraySheep", "text", "()I"⟩, prog_1_method_28_code, 2, some .int, 9, 196)
def T_readOnto : MM := (⟨"StraySheep$Tape", "readOnto", "(LStraySheep$Hill;)I"⟩, prog_4_method_4_code, 3, some .int, 8, 174)
def T_nextToken : MM := (⟨"StraySheep$Tape", "nextToken", "()V"⟩, prog_4_method_15_code, 1, none, 1, 22)
def T_tokenAt : MM := (⟨"StraySheep$Tape", "tokenAt", "(I)I"⟩, prog_4_method_17_code, 3, some .int, 0, 0)
def T_isLong : MM := (⟨"StraySheep$Tape", "isLong", "(I)Z"⟩, prog_4_method_16_code, 1, some .boolean, 0, 0)
def T_readItem : MM := (⟨"StraySheep$Tape", "readItem", "(LStraySheep$Hill;)Z"⟩, prog_4_method_5_code, 3, some .boolean, 7, 152)
def T_kindOfWord : MM := (⟨"StraySheep$Tape", "kindOfWord", "()I"⟩, prog_4_method_10_code, 2, some .int, 5, 107)
def T_nameOf : MM := (⟨"StraySheep$Tape", "nameOf", "(I)Ljava/lang/String;"⟩, prog_4_method_11_code, 1, some (.object "java/lang/String"), 0, 0)
def T_isWord : MM := (⟨"StraySheep$Tape", "isWord", "(Ljava/lang/String;)Z"⟩, prog_4_method_12_code, 3, some .boolean, 4, 85)
def JS_length : MM := (⟨"java/lang/String", "length", "()I"⟩, prog_9_method_54_code, 1, some .int, 1, 20)
def JS_coder : MM := (⟨"java/lang/String", "coder", "()B"⟩, prog_9_method_152_code, 1, some .byte, 0, 0)
def JS_charAt : MM := (⟨"java/lang/String", "charAt", "(I)C"⟩, prog_9_method_56_code, 2, some .char, 3, 64)
def JS_isLatin1 : MM := (⟨"java/lang/String", "isLatin1", "()Z"⟩, prog_9_method_154_code, 1, some .boolean, 0, 0)
def JL_charAt : MM := (⟨"java/lang/StringLatin1", "charAt", "([BI)C"⟩, prog_10_method_2_code, 2, some .char, 2, 43)
def JS_checkIndex : MM := (⟨"java/lang/String", "checkIndex", "(II)V"⟩, prog_9_method_155_code, 2, none, 1, 22)
def JP_checkIndex : MM := (⟨"jdk/internal/util/Preconditions", "checkIndex", "(IILjava/util/function/BiFunction;)I"⟩, prog_13_method_11_code, 3, some .int, 0, 0)
def T_readSheep : MM := (⟨"StraySheep$Tape", "readSheep", "(LStraySheep$Hill;I)Z"⟩, prog_4_method_6_code, 5, some .boolean, 6, 128)
def T_skipWord : MM := (⟨"StraySheep$Tape", "skipWord", "(Ljava/lang/String;)Z"⟩, prog_4_method_13_code, 2, some .boolean, 5, 107)
def T_takeNumber : MM := (⟨"StraySheep$Tape", "takeNumber", "(I)I"⟩, prog_4_method_14_code, 4, some .int, 2, 42)
def T_readFold : MM := (⟨"StraySheep$Tape", "readFold", "(LStraySheep$Hill;)Z"⟩, prog_4_method_7_code, 3, some .boolean, 3, 65)
def T_readKeeper : MM := (⟨"StraySheep$Tape", "readKeeper", "(LStraySheep$Hill;)Z"⟩, prog_4_method_8_code, 3, some .boolean, 3, 65)
def T_readWolf : MM := (⟨"StraySheep$Tape", "readWolf", "(LStraySheep$Hill;)Z"⟩, prog_4_method_9_code, 4, some .boolean, 6, 128)
def S_hold : MM := (⟨"StraySheep", "hold", "(II)I"⟩, prog_1_method_29_code, 3, some .int, 2, 42)
def S_isSpot : MM := (⟨"StraySheep", "isSpot", "(I)Z"⟩, prog_1_method_45_code, 1, some .boolean, 1, 22)
def S_as : MM := (⟨"StraySheep", "as", "(II)I"⟩, prog_1_method_30_code, 4, some .int, 2, 43)
def S_isUnder : MM := (⟨"StraySheep", "isUnder", "(II)Z"⟩, prog_1_method_56_code, 4, some .boolean, 1, 20)
def S_kindAbove : MM := (⟨"StraySheep", "kindAbove", "(I)I"⟩, prog_1_method_57_code, 1, some .int, 0, 0)
def S_sheet : MM := (⟨"StraySheep", "sheet", "(III)I"⟩, prog_1_method_31_code, 4, some .int, 2, 42)
def E_begin : MM := (⟨"StraySheep$Sheet", "begin", "(II)V"⟩, prog_3_method_3_code, 4, none, 0, 0)
def S_write : MM := (⟨"StraySheep", "write", "(III)I"⟩, prog_1_method_32_code, 4, some .int, 2, 42)
def E_put : MM := (⟨"StraySheep$Sheet", "put", "(II)V"⟩, prog_3_method_4_code, 3, none, 0, 0)
def S_copy : MM := (⟨"StraySheep", "copy", "(IIIII)I"⟩, prog_1_method_33_code, 6, some .int, 2, 42)
def E_hasRun : MM := (⟨"StraySheep$Sheet", "hasRun", "(II)Z"⟩, prog_3_method_5_code, 3, some .boolean, 0, 0)
def S_load : MM := (⟨"StraySheep", "load", "(I)I"⟩, prog_1_method_34_code, 3, some .int, 2, 42)
def S_judge : MM := (⟨"StraySheep", "judge", "(I)I"⟩, prog_1_method_35_code, 3, some .int, 2, 42)
def S_image : MM := (⟨"StraySheep", "image", "()I"⟩, prog_1_method_36_code, 1, some .int, 2, 51)
def S_undo : MM := (⟨"StraySheep", "undo", "()I"⟩, prog_1_method_37_code, 1, some .int, 2, 51)
def S_tear : MM := (⟨"StraySheep", "tear", "()I"⟩, prog_1_method_38_code, 2, some .int, 0, 0)
def S_count : MM := (⟨"StraySheep", "count", "(I)I"⟩, prog_1_method_39_code, 2, some .int, 1, 23)
def S_spotsInUse : MM := (⟨"StraySheep", "spotsInUse", "()I"⟩, prog_1_method_55_code, 3, some .int, 0, 0)
def S_status : MM := (⟨"StraySheep", "status", "(I)I"⟩, prog_1_method_40_code, 4, some .int, 1, 22)
def Q_init : MM := (⟨"StraySheepModel", "<init>", "()V"⟩, prog_6_method_1_code, 2, none, 1, 20)
def Q_set : MM := (⟨"StraySheepModel", "set", "(II)I"⟩, prog_6_method_16_code, 4, some .int, 3, 64)
def Q_within : MM := (⟨"StraySheepModel", "within", "(III)Z"⟩, prog_6_method_3_code, 3, some .boolean, 0, 0)
def Q_isCell : MM := (⟨"StraySheepModel", "isCell", "(I)Z"⟩, prog_6_method_10_code, 1, some .boolean, 1, 22)
def Q_finding : MM := (⟨"StraySheepModel", "finding", "(I)I"⟩, prog_6_method_2_code, 2, some .int, 0, 0)
def Q_keeperTo : MM := (⟨"StraySheepModel", "keeperTo", "(I)I"⟩, prog_6_method_15_code, 3, some .int, 2, 42)
def Q_keeperAt : MM := (⟨"StraySheepModel", "keeperAt", "(I)V"⟩, prog_6_method_14_code, 2, none, 1, 21)
def Q_sheepAt : MM := (⟨"StraySheepModel", "sheepAt", "(II)I"⟩, prog_6_method_11_code, 2, some .int, 0, 0)
def Q_become : MM := (⟨"StraySheepModel", "become", "(II)I"⟩, prog_6_method_4_code, 4, some .int, 0, 0)
def Q_hill : MM := (⟨"StraySheepModel", "hill", "(I)I"⟩, prog_6_method_17_code, 2, some .int, 1, 22)
def Q_sheep : MM := (⟨"StraySheepModel", "sheep", "(II)I"⟩, prog_6_method_20_code, 3, some .int, 2, 45)
def Q_isKind : MM := (⟨"StraySheepModel", "isKind", "(I)Z"⟩, prog_6_method_18_code, 1, some .boolean, 1, 22)
def Q_comes : MM := (⟨"StraySheepModel", "comes", "(II)I"⟩, prog_6_method_19_code, 5, some .int, 1, 21)
def Q_of : MM := (⟨"StraySheepModel", "of", "(II)I"⟩, prog_6_method_27_code, 3, some .int, 4, 90)
def Q_isSheep : MM := (⟨"StraySheepModel", "isSheep", "(I)Z"⟩, prog_6_method_13_code, 2, some .boolean, 1, 22)
def Q_far : MM := (⟨"StraySheepModel", "far", "(I)I"⟩, prog_6_method_21_code, 2, some .int, 2, 43)
def Q_sheepIs : MM := (⟨"StraySheepModel", "sheepIs", "(II)I"⟩, prog_6_method_12_code, 3, some .int, 1, 21)
def JM_abs : MM := (⟨"java/lang/Math", "abs", "(I)I"⟩, prog_8_method_59_code, 1, some .int, 0, 0)
def Q_strays : MM := (⟨"StraySheepModel", "strays", "(I)I"⟩, prog_6_method_23_code, 5, some .int, 3, 66)
def Q_isAlone : MM := (⟨"StraySheepModel", "isAlone", "(I)Z"⟩, prog_6_method_22_code, 4, some .boolean, 2, 43)
def Q_fears : MM := (⟨"StraySheepModel", "fears", "(I)I"⟩, prog_6_method_24_code, 2, some .int, 2, 43)
def Q_calms : MM := (⟨"StraySheepModel", "calms", "(I)I"⟩, prog_6_method_25_code, 2, some .int, 2, 43)
def Q_light : MM := (⟨"StraySheepModel", "light", "(I)I"⟩, prog_6_method_26_code, 2, some .int, 2, 43)
def Q_change : MM := (⟨"StraySheepModel", "change", "(III)I"⟩, prog_6_method_29_code, 4, some .int, 3, 63)
def Q_isField : MM := (⟨"StraySheepModel", "isField", "(II)Z"⟩, prog_6_method_28_code, 2, some .boolean, 2, 42)
def Q_drop : MM := (⟨"StraySheepModel", "drop", "()I"⟩, prog_6_method_30_code, 2, some .int, 2, 42)
def Q_orNone : MM := (⟨"StraySheepModel", "orNone", "(I)I"⟩, prog_6_method_7_code, 2, some .int, 1, 21)
def Q_who : MM := (⟨"StraySheepModel", "who", "(I)I"⟩, prog_6_method_32_code, 2, some .int, 3, 66)
def Q_setAt : MM := (⟨"StraySheepModel", "setAt", "(I)I"⟩, prog_6_method_31_code, 4, some .int, 2, 43)
def Q_go : MM := (⟨"StraySheepModel", "go", "(I)I"⟩, prog_6_method_44_code, 2, some .int, 7, 156)
def Q_hoursGo : MM := (⟨"StraySheepModel", "hoursGo", "(I)V"⟩, prog_6_method_42_code, 3, none, 6, 134)
def Q_hour : MM := (⟨"StraySheepModel", "hour", "()V"⟩, prog_6_method_41_code, 2, none, 5, 113)
def Q_sheepGo : MM := (⟨"StraySheepModel", "sheepGo", "()V"⟩, prog_6_method_35_code, 4, none, 4, 90)
def Q_hasBit : MM := (⟨"StraySheepModel", "hasBit", "(II)Z"⟩, prog_6_method_9_code, 2, some .boolean, 0, 0)
def Q_towards : MM := (⟨"StraySheepModel", "towards", "(III)I"⟩, prog_6_method_33_code, 3, some .int, 1, 21)
def Q_awayFrom : MM := (⟨"StraySheepModel", "awayFrom", "(II)I"⟩, prog_6_method_34_code, 4, some .int, 1, 21)
def Q_wolfGoes : MM := (⟨"StraySheepModel", "wolfGoes", "()V"⟩, prog_6_method_37_code, 5, none, 3, 67)
def Q_nearest : MM := (⟨"StraySheepModel", "nearest", "()I"⟩, prog_6_method_36_code, 5, some .int, 2, 43)
def Q_carries : MM := (⟨"StraySheepModel", "carries", "()V"⟩, prog_6_method_39_code, 2, none, 3, 64)
def Q_seeks : MM := (⟨"StraySheepModel", "seeks", "()V"⟩, prog_6_method_40_code, 2, none, 4, 87)
def Q_sought : MM := (⟨"StraySheepModel", "sought", "()I"⟩, prog_6_method_38_code, 4, some .int, 3, 64)
def Q_sumOf : MM := (⟨"StraySheepModel", "sumOf", "(I)I"⟩, prog_6_method_43_code, 4, some .int, 2, 43)
def Q_now : MM := (⟨"StraySheepModel", "now", "(I)I"⟩, prog_6_method_47_code, 2, some .int, 4, 87)
def Q_lostSet : MM := (⟨"StraySheepModel", "lostSet", "()I"⟩, prog_6_method_45_code, 3, some .int, 3, 64)
def Q_mostAfraid : MM := (⟨"StraySheepModel", "mostAfraid", "()I"⟩, prog_6_method_46_code, 4, some .int, 2, 43)
def Q_ahead : MM := (⟨"StraySheepModel", "ahead", "(III)I"⟩, prog_6_method_50_code, 4, some .int, 8, 178)
def Q_behind : MM := (⟨"StraySheepModel", "behind", "(II)I"⟩, prog_6_method_48_code, 3, some .int, 7, 156)
def Q_copyRow : MM := (⟨"StraySheepModel", "copyRow", "([I[I)V"⟩, prog_6_method_5_code, 3, none, 0, 0)
def Q_putBack : MM := (⟨"StraySheepModel", "putBack", "(I)I"⟩, prog_6_method_6_code, 2, some .int, 1, 22)
def Q_later : MM := (⟨"StraySheepModel", "later", "(II)I"⟩, prog_6_method_51_code, 4, some .int, 8, 178)
def Q_when : MM := (⟨"StraySheepModel", "when", "(II)I"⟩, prog_6_method_53_code, 3, some .int, 7, 158)
def Q_whenIs : MM := (⟨"StraySheepModel", "whenIs", "(III)I"⟩, prog_6_method_52_code, 5, some .int, 6, 134)
def Q_home : MM := (⟨"StraySheepModel", "home", "()I"⟩, prog_6_method_55_code, 2, some .int, 6, 134)
def Q_areHome : MM := (⟨"StraySheepModel", "areHome", "()Z"⟩, prog_6_method_54_code, 1, some .boolean, 3, 66)
def Q_panic : MM := (⟨"StraySheepModel", "panic", "(II)I"⟩, prog_6_method_56_code, 3, some .int, 7, 158)
def Q_standFor : MM := (⟨"StraySheepModel", "standFor", "(I)I"⟩, prog_6_method_59_code, 2, some .int, 9, 206)
def Q_isThought : MM := (⟨"StraySheepModel", "isThought", "(I)Z"⟩, prog_6_method_57_code, 1, some .boolean, 1, 22)
def Q_leastFor : MM := (⟨"StraySheepModel", "leastFor", "(III)I"⟩, prog_6_method_58_code, 9, some .int, 8, 178)
def Q_sumBehind : MM := (⟨"StraySheepModel", "sumBehind", "(II)I"⟩, prog_6_method_49_code, 3, some .int, 7, 156)
def Q_foldFor : MM := (⟨"StraySheepModel", "foldFor", "(I)I"⟩, prog_6_method_60_code, 2, some .int, 9, 206)
def Q_kindFor : MM := (⟨"StraySheepModel", "kindFor", "(II)I"⟩, prog_6_method_61_code, 9, some .int, 8, 178)
def Q_paceFor : MM := (⟨"StraySheepModel", "paceFor", "(II)I"⟩, prog_6_method_62_code, 6, some .int, 8, 178)
def Q_tether : MM := (⟨"StraySheepModel", "tether", "(I)I"⟩, prog_6_method_64_code, 4, some .int, 8, 179)
def Q_areNear : MM := (⟨"StraySheepModel", "areNear", "(II)Z"⟩, prog_6_method_63_code, 4, some .boolean, 7, 156)
def Q_bits : MM := (⟨"StraySheepModel", "bits", "(I)I"⟩, prog_6_method_8_code, 3, some .int, 0, 0)
def Q_fits : MM := (⟨"StraySheepModel", "fits", "(II)I"⟩, prog_6_method_68_code, 4, some .int, 8, 186)
def Q_lacks : MM := (⟨"StraySheepModel", "lacks", "(IZ)I"⟩, prog_6_method_65_code, 3, some .int, 2, 42)
def Q_isSheet : MM := (⟨"StraySheepModel", "isSheet", "(I)Z"⟩, prog_6_method_91_code, 1, some .boolean, 1, 22)
def Q_valuesFor : MM := (⟨"StraySheepModel", "valuesFor", "(IIII)I"⟩, prog_6_method_67_code, 8, some .int, 7, 159)
def Q_isToldWay : MM := (⟨"StraySheepModel", "isToldWay", "(II)Z"⟩, prog_6_method_66_code, 6, some .boolean, 6, 134)
def Q_kinds : MM := (⟨"StraySheepModel", "kinds", "(II)I"⟩, prog_6_method_69_code, 4, some .int, 8, 186)
def Q_nights : MM := (⟨"StraySheepModel", "nights", "(I)I"⟩, prog_6_method_71_code, 3, some .int, 6, 134)
def Q_drawn : MM := (⟨"StraySheepModel", "drawn", "()I"⟩, prog_6_method_70_code, 1, some .int, 0, 0)
def Q_odds : MM := (⟨"StraySheepModel", "odds", "(III)J"⟩, prog_6_method_72_code, 10, some .long, 2, 43)
def Q_seed : MM := (⟨"StraySheepModel", "seed", "(I)I"⟩, prog_6_method_73_code, 2, some .int, 1, 23)
def Q_feed : MM := (⟨"StraySheepModel", "feed", "(II)I"⟩, prog_6_method_74_code, 4, some .int, 1, 22)
def Q_wipe : MM := (⟨"StraySheepModel", "wipe", "()I"⟩, prog_6_method_75_code, 2, some .int, 0, 0)
def Q_text : MM := (⟨"StraySheepModel", "text", "()I"⟩, prog_6_method_87_code, 2, some .int, 9, 198)
def Q_token : MM := (⟨"StraySheepModel", "token", "()V"⟩, prog_6_method_77_code, 2, none, 1, 22)
def Q_byteAt : MM := (⟨"StraySheepModel", "byteAt", "(I)I"⟩, prog_6_method_76_code, 2, some .int, 0, 0)
def Q_readItem : MM := (⟨"StraySheepModel", "readItem", "()V"⟩, prog_6_method_85_code, 3, none, 8, 176)
def Q_isWord : MM := (⟨"StraySheepModel", "isWord", "(Ljava/lang/String;)Z"⟩, prog_6_method_78_code, 4, some .boolean, 4, 85)
def Q_readSheep : MM := (⟨"StraySheepModel", "readSheep", "(I)V"⟩, prog_6_method_84_code, 4, none, 7, 153)
def Q_must : MM := (⟨"StraySheepModel", "must", "(Z)V"⟩, prog_6_method_79_code, 2, none, 2, 43)
def Q_mayTell : MM := (⟨"StraySheepModel", "mayTell", "(Ljava/lang/String;II)I"⟩, prog_6_method_83_code, 4, some .int, 6, 130)
def Q_takesWord : MM := (⟨"StraySheepModel", "takesWord", "(Ljava/lang/String;)Z"⟩, prog_6_method_82_code, 3, some .boolean, 5, 108)
def Q_number : MM := (⟨"StraySheepModel", "number", "(II)I"⟩, prog_6_method_80_code, 4, some .int, 3, 64)
def Q_addItem : MM := (⟨"StraySheepModel", "addItem", "(IIII)V"⟩, prog_6_method_81_code, 5, none, 0, 0)
def Q_isToldSo : MM := (⟨"StraySheepModel", "isToldSo", "(I)V"⟩, prog_6_method_86_code, 5, none, 2, 45)
def Q_hold : MM := (⟨"StraySheepModel", "hold", "(II)I"⟩, prog_6_method_89_code, 3, some .int, 2, 43)
def Q_isSpot : MM := (⟨"StraySheepModel", "isSpot", "(I)Z"⟩, prog_6_method_88_code, 1, some .boolean, 1, 22)
def Q_as : MM := (⟨"StraySheepModel", "as", "(II)I"⟩, prog_6_method_90_code, 4, some .int, 2, 43)
def Q_isUnder : MM := (⟨"StraySheepModel", "isUnder", "(II)Z"⟩, prog_6_method_97_code, 3, some .boolean, 1, 20)
def Q_above : MM := (⟨"StraySheepModel", "above", "(I)I"⟩, prog_6_method_96_code, 1, some .int, 0, 0)
def Q_sheet : MM := (⟨"StraySheepModel", "sheet", "(III)I"⟩, prog_6_method_93_code, 5, some .int, 2, 42)
def Q_write : MM := (⟨"StraySheepModel", "write", "(III)I"⟩, prog_6_method_94_code, 4, some .int, 2, 42)
def Q_cutTo : MM := (⟨"StraySheepModel", "cutTo", "(II)I"⟩, prog_6_method_92_code, 2, some .int, 0, 0)
def Q_copy : MM := (⟨"StraySheepModel", "copy", "(IIIII)I"⟩, prog_6_method_95_code, 7, some .int, 2, 42)
def Q_load : MM := (⟨"StraySheepModel", "load", "(I)I"⟩, prog_6_method_98_code, 3, some .int, 3, 64)
def Q_judge : MM := (⟨"StraySheepModel", "judge", "(I)I"⟩, prog_6_method_99_code, 3, some .int, 3, 64)
def Q_image : MM := (⟨"StraySheepModel", "image", "()I"⟩, prog_6_method_100_code, 1, some .int, 1, 22)
def Q_undo : MM := (⟨"StraySheepModel", "undo", "()I"⟩, prog_6_method_101_code, 1, some .int, 1, 22)
def Q_tear : MM := (⟨"StraySheepModel", "tear", "()I"⟩, prog_6_method_102_code, 2, some .int, 0, 0)
def Q_count : MM := (⟨"StraySheepModel", "count", "(I)I"⟩, prog_6_method_103_code, 4, some .int, 3, 66)
def Q_status : MM := (⟨"StraySheepModel", "status", "(I)I"⟩, prog_6_method_104_code, 2, some .int, 1, 22)
end
section
/-! THE WORLD: 48 cells at addresses g.1 0 .. g.1 47; what changes in them is Wd: cell, place -> int -/
abbrev Wd : Type := Nat → Nat → Int32
abbrev GG : Type := (Nat → Nat) × va_G × (ClassId × ClassId × ClassId) × (Nat → Nat) × (Nat → Nat)
def up (w : Wd) (k j : Nat) (v : Int32) : Wd := fun k' => if k' = k then upd (w k) j v else w k'
theorem up_same (w : Wd) (k j : Nat) (v : Int32) : up w k j v k = upd (w k) j v := if_pos rfl
theorem up_other (w : Wd) (k j : Nat) (v : Int32) {k' : Nat} (h : k' ≠ k) : up w k j v k' = w k' := if_neg h
def upR (w : Wd) (k : Nat) (f : Nat → Int32) : Wd := fun k' => if k' = k then f else w k'
theorem upR_same (w : Wd) (k : Nat) (f : Nat → Int32) : upR w k f k = f := if_pos rfl
theorem upR_other (w : Wd) (k : Nat) (f : Nat → Int32) {k' : Nat} (h : k' ≠ k) : upR w k f k' = w k' := if_neg h
def objC (k : Nat) : Option Nat := (objL[k]?).getD none
def arrN (k : Nat) : Option Nat := (arrL[k]?).getD none
theorem objC_lt {k ci : Nat} (h : objC k = some ci) : k < 48 := by
  unfold objC at h
  cases e : objL[k]? with
  | none => rw [e] at h; cases h
  | some x => exact (List.getElem?_eq_some_iff.mp e).1
theorem arrN_lt {k n : Nat} (h : arrN k = some n) : k < 48 := by
  unfold arrN at h
  cases e : arrL[k]? with
  | none => rw [e] at h; cases h
  | some x => exact (List.getElem?_eq_some_iff.mp e).1
theorem obj_arr : ∀ k, k < 48 → ((objL[k]?).getD none).isSome = true → ((arrL[k]?).getD none) = none := by decide +kernel
def fOf (g : GG) (w : Wd) (k ci : Nat) : List Value := (fdef ci).zipIdx.map (fun q => if q.1 = 0 then .int (w k q.2) else .ref (g.1 (k + q.1)))
def cellOf (g : GG) (w : Wd) (k : Nat) : va_E := match objC k with
  | some ci => .inr (ci, fOf g w k ci)
  | none => match arrN k with
    | some n => .inl (g.2.2.1.1, n, .inl (w k))
    | none => if k = 23 then .inl (g.2.2.1.2.1, 4, .inr (.inr (.inr (.inr (fun j => some (g.1 (24 + 2 * j)))))))
      else .inl (g.2.2.1.2.2, 7, .inr (.inr (.inr (.inr (fun j => some (g.2.2.2.1 j))))))
def wsW (g : GG) (w : Wd) : va_W := (List.range 48).map (fun k => (g.1 k, cellOf g w k))
def tysG (g : GG) : List (ClassId × FieldType) := [(g.2.2.1.1, .int), (g.2.2.1.2.1, .object "StraySheep$Sheet"), (g.2.2.1.2.2, .object "java/lang/String")]
def Hv (g : GG) (w : Wd) (H : Heap) : Prop := va_P g.2.1 cls (wsW g w) H
def Ad (g : GG) : Nat → Prop := fun q => ∃ k, k < 48 ∧ q = g.1 k
theorem wsW_at (g : GG) (w : Wd) {k : Nat} (h : k < 48) : (wsW g w)[k]? = some (g.1 k, cellOf g w k) := by
  unfold wsW
  rw [List.getElem?_map, List.getElem?_range h]
  rfl
theorem wsW_len (g : GG) (w : Wd) : (wsW g w).length = 48 := by simp [wsW]
theorem wsW_of {g : GG} {w : Wd} {k : Nat} {q : Nat × va_E} (h : (wsW g w)[k]? = some q) : k < 48 ∧ q = (g.1 k, cellOf g w k) := by
  have hk : k < 48 := by have := (List.getElem?_eq_some_iff.mp h).1; rw [wsW_len] at this; exact this
  rw [wsW_at g w hk] at h
  exact ⟨hk, (Option.some.inj h).symm⟩
theorem cellOf_obj (g : GG) (w : Wd) {k ci : Nat} (h : objC k = some ci) : cellOf g w k = .inr (ci, fOf g w k ci) := by
  unfold cellOf
  rw [h]
theorem cellOf_arr (g : GG) (w : Wd) {k n : Nat} (h : arrN k = some n) : cellOf g w k = .inl (g.2.2.1.1, n, .inl (w k)) := by
  have ho : objC k = none := by
    cases e : objC k with
    | none => rfl
    | some ci =>
      have := obj_arr k (objC_lt e) (by show (objC k).isSome = true; rw [e]; rfl)
      have h2 : arrN k = none := this
      rw [h] at h2; cases h2
  unfold cellOf
  rw [ho, h]
theorem cellOf_congr {g : GG} {w w1 : Wd} {k : Nat} (h : w1 k = w k) : cellOf g w1 k = cellOf g w k := by
  unfold cellOf fOf
  rw [h]
theorem wsW_set {g : GG} {w w1 : Wd} {k : Nat} {e : va_E} (hk : k < 48) (he : cellOf g w1 k = e) (ho : ∀ k', k' ≠ k → w1 k' = w k') : (wsW g w).set k (g.1 k, e) = wsW g w1 := by
  apply List.ext_getElem?
  intro i
  by_cases hi : i < 48
  · by_cases hik : i = k
    · subst hik
      rw [List.getElem?_set_self (by rw [wsW_len]; exact hk), wsW_at g w1 hk, he]
    · rw [List.getElem?_set_ne (Ne.symm hik), wsW_at g w hi, wsW_at g w1 hi, cellOf_congr (ho i hik)]
  · rw [List.getElem?_eq_none (by rw [List.length_set, wsW_len]; omega), List.getElem?_eq_none (by rw [wsW_len]; omega)]
theorem fOf_get (g : GG) (w : Wd) (k ci : Nat) {j o : Nat} (h : (fdef ci)[j]? = some o) : (fOf g w k ci)[j]? = some (if o = 0 then .int (w k j) else .ref (g.1 (k + o))) := by
  unfold fOf
  rw [List.getElem?_map, List.getElem?_zipIdx, h]
  simp
theorem fOf_len (g : GG) (w : Wd) (k ci : Nat) : (fOf g w k ci).length = (fdef ci).length := by simp [fOf]
theorem fOf_set (g : GG) (w : Wd) (k ci : Nat) {j : Nat} (v : Int32) (h : (fdef ci)[j]? = some 0) : fOf g (up w k j v) k ci = (fOf g w k ci).set j (.int v) := by
  have hj : j < (fdef ci).length := (List.getElem?_eq_some_iff.mp h).1
  apply List.ext_getElem?
  intro i
  by_cases hi : i < (fdef ci).length
  · have hget : (fdef ci)[i]? = some (fdef ci)[i] := List.getElem?_eq_getElem hi
    rw [fOf_get g _ k ci hget]
    by_cases hij : i = j
    · subst hij
      rw [List.getElem?_set_self (by rw [fOf_len]; exact hj)]
      have h0 : (fdef ci)[i] = 0 := by rw [h] at hget; exact (Option.some.inj hget).symm
      rw [h0, up_same]
      simp [upd]
    · rw [List.getElem?_set_ne (Ne.symm hij), fOf_get g w k ci hget, up_same]
      simp [upd, hij]
  · rw [List.getElem?_eq_none (by rw [fOf_len]; omega), List.getElem?_eq_none (by rw [List.length_set, fOf_len]; omega)]
/-! what holds of the machine all the while -/
def NW : List Cond := lw_tbl.filter (fun w => match w with | .methodLinkNest .. => true | _ => false)
def sTx : List String := ["sheep", "ram", "ewe", "lamb", "orphan", "wanderer", "leader", "fold", "keeper", "wolf", "at", "fear", "lost", "pace"]
def sBy : List (List Int32) := [[115, 104, 101, 101, 112], [114, 97, 109], [101, 119, 101], [108, 97, 109, 98], [111, 114, 112, 104, 97, 110], [119, 97, 110, 100, 101, 114, 101, 114], [108, 101, 97, 100, 101, 114], [102, 111, 108, 100], [107, 101, 101, 112, 101, 114], [119, 111, 108, 102], [97, 116], [102, 101, 97, 114], [108, 111, 115, 116], [112, 97, 99, 101]]
def SW (own : String) (k i : Nat) : Prop := Cond.stringRef own k (sTx.getD i "") ∈ lw_tbl
def Cx (g : GG) (U : State) : Prop := va_K g.2.1 cls (tysG g) U ∧ (∀ i j, i < 48 → j < 48 → g.1 i = g.1 j → i = j) ∧ (∀ w ∈ NW, va_Nw w U) ∧ (∀ own k i, i < 14 → SW own k i → vk_R own k (sTx.getD i "") (g.2.2.2.1 i) U)
def Hx (g : GG) (U : State) (H : Heap) : Prop := (∀ i : Nat, i < 14 → va_O "java/lang/String" (g.2.2.2.1 i) (Ad g) U H ∧ va_OF "java/lang/String" "coder" "B" (.int 0) (g.2.2.2.1 i) (Ad g) U H ∧ va_OF "java/lang/String" "value" "[B" (.ref (g.2.2.2.2 i)) (g.2.2.2.1 i) (Ad g) U H ∧ va_T .byte (g.2.2.2.2 i) (sBy.getD i []).length (fun j => .int ((sBy.getD i []).getD j 0)) (Ad g) U H) ∧ va_Z "java/lang/String" "COMPACT_STRINGS" "Z" (.int 1) (Ad g) U H ∧ va_Zq "jdk/internal/util/Preconditions" "SIOOBE_FORMATTER" "Ljava/util/function/BiFunction;" (Ad g) U H
theorem va_Zq.mv {C n d : String} {A : Nat → Prop} {u U : State} {H : Heap} (hvm : u.vm.Alike U.vm) (h : va_Zq C n d A u H) : va_Zq C n d A U H := h.elim (fun h => Or.inl (h.moved hvm)) (fun ⟨t, h⟩ => Or.inr ⟨t, h.moved hvm⟩)
theorem va_Zq.kp {C n d : String} {A : Nat → Prop} {U : State} {H H1 : Heap} (h : va_Zq C n d A U H) (hq : ∀ a : Nat, a < H.size → ¬ A a → H1[a]? = H[a]?) : va_Zq C n d A U H1 := h.elim (fun h => Or.inl (h.kept hq)) (fun ⟨t, h⟩ => Or.inr ⟨t, h.kept hq⟩)
theorem Hx.moved {g : GG} {u U : State} {H : Heap} (hvm : u.vm.Alike U.vm) (h : Hx g u H) : Hx g U H :=
  ⟨fun i hi => ⟨va_O.moved hvm (h.1 i hi).1, va_OF.moved hvm (h.1 i hi).2.1, va_OF.moved hvm (h.1 i hi).2.2.1, va_T.moved hvm (h.1 i hi).2.2.2⟩, h.2.1.moved hvm, h.2.2.mv hvm⟩
theorem Hx.kept {g : GG} {U : State} {H H1 : Heap} (h : Hx g U H) (hq : ∀ a : Nat, a < H.size → ¬ Ad g a → H1[a]? = H[a]?) : Hx g U H1 :=
  ⟨fun i hi => ⟨(h.1 i hi).1.kept hq, (h.1 i hi).2.1.kept hq, (h.1 i hi).2.2.1.kept hq, (h.1 i hi).2.2.2.kept hq⟩, h.2.1.kept hq, h.2.2.kp hq⟩
theorem NW_is {w : Cond} (h : w ∈ NW) : ∃ a i x b, w = .methodLinkNest a i x b := by
  have h1 := (List.mem_filter.mp h).2
  cases w <;> first | exact ⟨_, _, _, _, rfl⟩ | cases h1
theorem Cx.warm {g : GG} {s U : State} (hW : s.WarmedH U.vm) (h : Cx g s) : Cx g U :=
  ⟨va_K.moved hW.alike h.1, h.2.1, fun w hw => by
    obtain ⟨a, i, x, b, rfl⟩ := NW_is hw
    exact va_Nw.warmM hW (h.2.2.1 _ hw), fun own k i hi hs => vk_R.warm hW (h.2.2.2 own k i hi hs)⟩
theorem Cx.same {g : GG} {s U : State} (hvm : U.vm = s.vm) (h : Cx g s) : Cx g U :=
  ⟨va_K.moved (by rw [hvm]; exact Vm.Alike.refl _) h.1, h.2.1, fun w hw => by
    obtain ⟨a, i, x, b, rfl⟩ := NW_is hw
    exact va_Nw.same rfl hvm.symm (h.2.2.1 _ hw), fun own k i hi hs => vk_R.same hvm (h.2.2.2 own k i hi hs)⟩
theorem Cx.D {g : GG} {s : State} (h : Cx g s) (w : Wd) : va_D (Ad g) (wsW g w) := by
  refine ⟨fun i j p q hi hj hpq => ?_, fun k q hk => ?_⟩
  · obtain ⟨h1, rfl⟩ := wsW_of hi
    obtain ⟨h2, rfl⟩ := wsW_of hj
    exact h.2.1 i j h1 h2 hpq
  · obtain ⟨h1, rfl⟩ := wsW_of hk
    exact ⟨k, h1, rfl⟩
def Fx (g : GG) (M : MM) (p : Program) (s : State) (m : MethodId) (args : Array Value) (meth : Method) (c : Code) : Prop :=
  p.tables.exec = Jvm.exec ∧ c.code = M.2.1 ∧ c.maxLocals = M.2.2.1 ∧ meth.sig.returnType = M.2.2.2.1 ∧ meth.locks = false ∧ s.vm.findClass M.1.cls = some m.cls ∧ (∀ w ∈ LT, w.before args s = true) ∧ Cx g s ∧ Hx g s s.heap
/-! locals by their places -/
def lvh (ls : Array Slot) (nL : Nat) (lv : List (Option Value)) : Prop := ls.size = nL ∧ lv_wf ls ∧ ∀ (i : Nat) (v : Value), lv[i]? = some (some v) → ls[i]? = some (.val v)
def lvasc (lv : List (Option Value)) : List (Nat × Value) := lv.zipIdx.filterMap (fun q => q.1.map (fun v => (q.2, v)))
theorem mem_lvasc {lv : List (Option Value)} {i : Nat} {v : Value} : (i, v) ∈ lvasc lv ↔ lv[i]? = some (some v) := by
  unfold lvasc
  rw [List.mem_filterMap]
  constructor
  · rintro ⟨⟨o, k⟩, hm, he⟩
    have hm2 := List.mem_zipIdx_iff_getElem?.mp hm
    cases o with
    | none => cases he
    | some u =>
      simp at he
      obtain ⟨rfl, rfl⟩ := he
      exact hm2
  · intro h
    exact ⟨(some v, i), List.mem_zipIdx_iff_getElem?.mpr h, rfl⟩
theorem lvh.has {ls : Array Slot} {nL : Nat} {lv : List (Option Value)} (h : lvh ls nL lv) : lv_has ls nL (lvasc lv) := ⟨h.1, h.2.1, fun q hq => h.2.2 q.1 q.2 (mem_lvasc.mp hq)⟩
def okst (lv : List (Option Value)) (i : Nat) : Bool := match i with
  | 0 => true
  | k + 1 => match lv[k]? with
    | some (some u) => !(u.category == 2)
    | _ => true
theorem lvh.st1 {ls' : Array Slot} {nL : Nat} {lv : List (Option Value)} {i : Nat} {v : Value} (hok : okst lv i = true) (h : lv_has ls' nL ((i, v) :: (lvasc lv).filter (fun q => !(q.1 == i) && !(q.1 + 1 == i && q.2.category == 2)))) : lvh ls' nL (lv.set i (some v)) := by
  refine ⟨h.1, h.2.1, fun j u hj => ?_⟩
  by_cases hji : j = i
  · subst hji
    have hl : j < lv.length := by have := (List.getElem?_eq_some_iff.mp hj).1; rw [List.length_set] at this; exact this
    rw [List.getElem?_set_self hl] at hj
    cases hj
    exact h.2.2 (j, v) List.mem_cons_self
  · rw [List.getElem?_set_ne (Ne.symm hji)] at hj
    refine h.2.2 (j, u) (List.mem_cons_of_mem _ (List.mem_filter.mpr ⟨mem_lvasc.mpr hj, ?_⟩))
    have h1 : (j == i) = false := by simpa using hji
    by_cases h2 : j + 1 = i
    · subst h2
      simp only [okst, hj] at hok
      simp only [h1, Bool.not_false, Bool.true_and, beq_self_eq_true]
      exact hok
    · have h3 : (j + 1 == i) = false := by simpa using h2
      simp [h1, h3]
theorem lvh.st2 {ls' : Array Slot} {nL : Nat} {lv : List (Option Value)} {i : Nat} {v : Value} (hok : okst lv i = true) (h : lv_has ls' nL ((i, v) :: (lvasc lv).filter (fun q => !(q.1 == i) && (!(q.1 == i + 1) && !(q.1 + 1 == i && q.2.category == 2))))) : lvh ls' nL ((lv.set i (some v)).set (i + 1) none) := by
  refine ⟨h.1, h.2.1, fun j u hj => ?_⟩
  by_cases hj1 : j = i + 1
  · subst hj1
    have hl : i + 1 < (lv.set i (some v)).length := by have := (List.getElem?_eq_some_iff.mp hj).1; rw [List.length_set] at this; exact this
    rw [List.getElem?_set_self hl] at hj
    cases hj
  rw [List.getElem?_set_ne (Ne.symm hj1)] at hj
  by_cases hji : j = i
  · subst hji
    have hl : j < lv.length := by have := (List.getElem?_eq_some_iff.mp hj).1; rw [List.length_set] at this; exact this
    rw [List.getElem?_set_self hl] at hj
    cases hj
    exact h.2.2 (j, v) List.mem_cons_self
  · rw [List.getElem?_set_ne (Ne.symm hji)] at hj
    refine h.2.2 (j, u) (List.mem_cons_of_mem _ (List.mem_filter.mpr ⟨mem_lvasc.mpr hj, ?_⟩))
    have h1 : (j == i) = false := by simpa using hji
    have h0 : (j == i + 1) = false := by simpa using hj1
    by_cases h2 : j + 1 = i
    · subst h2
      simp only [okst, hj] at hok
      simp only [h1, h0, Bool.not_false, Bool.true_and, beq_self_eq_true]
      exact hok
    · have h3 : (j + 1 == i) = false := by simpa using h2
      simp [h1, h0, h3]
/-! THE JUDGEMENT: the body of M, at pc, with locals lv, stack st, world w, comes to its end with an answer and a world of Q -/
def Qq (g : GG) (Q : Option Value → Wd → Prop) : Array Value → State → Outcome → State → Prop := fun _ st oc t => (∃ (r : Option Value) (w' : Wd), oc = .returned r ∧ Q r w' ∧ Hv g w' t.heap) ∧ va_F (Ad g) st t
def rmM (M : MM) : Room := { frames := M.2.2.2.2.1, cells := 0, slots := 0, locals := M.2.2.2.2.2 }
def Go (l : Launch) (g : GG) (M : MM) (pc : Nat) (lv : List (Option Value)) (st : List Value) (w : Wd) (Q : Option Value → Wd → Prop) : Prop :=
  ∀ (p : Program) (e : Env) (s : State) (m : MethodId) (args : Array Value) (below : List Frame) (meth : Method) (c : Code) (H : Heap) (locs : List Loc) (ls : Array Slot),
    Fx g M p s m args meth c → Hv g w H → va_S (Ad g) s.heap H locs → lvh ls M.2.2.1 lv →
    W p l e (rmM M) s m args below meth c H locs 0 0 (MQ below (Qq g Q) args s 0 0 (Ad g)) (F0 m pc ls st)
def Res (l : Launch) (g : GG) (M : MM) (as : List Value) (w : Wd) (Q : Option Value → Wd → Prop) : Prop :=
  Met l M.1 (Cond.code M.1 M.2.1 M.2.2.1 M.2.2.2.1 :: LT) (rmM M) (va_Pc as (fun U => Cx g U ∧ Hx g U U.heap ∧ Hv g w U.heap)) (Qq g Q) 0 0 (Ad g)
def Is (r : Option Value) (w' : Wd) : Option Value → Wd → Prop := fun r1 w1 => r1 = r ∧ w1 = w'
end
section
/-! decoded instructions; what comes next -/
def Dc (M : MM) (pc : Nat) (i : Instr) (len n : Nat) : Prop := decode M.2.1 pc = .ok (i, len) ∧ pc + len = n
section ROWS
variable {l : Launch} {g : GG} {M : MM} {pc n : Nat} {lv : List (Option Value)} {st : List Value} {w : Wd} {Q : Option Value → Wd → Prop}
theorem g_iconst {z : Int} {v : Int32} (hd : Dc M pc (.iconst z) 1 n) (hv : Int32.ofInt z = v) (k : Go l g M n lv (.int v :: st) w Q) : Go l g M pc lv (st) w Q := by
  obtain ⟨hd, rfl⟩ := hd
  exact fun p e s m args below meth c H locs ls F hP hS hl => lv_iconst F.1 F.2.1 hd hv (k p e s m args below meth c H locs ls F hP hS hl)
theorem g_bipush {z : Int} {v : Int32} (hd : Dc M pc (.bipush z) 2 n) (hv : (Int8.ofInt z).toInt32 = v) (k : Go l g M n lv (.int v :: st) w Q) : Go l g M pc lv (st) w Q := by
  obtain ⟨hd, rfl⟩ := hd
  exact fun p e s m args below meth c H locs ls F hP hS hl => lv_bipush F.1 F.2.1 hd hv (k p e s m args below meth c H locs ls F hP hS hl)
theorem g_sipush {z : Int} {v : Int32} (hd : Dc M pc (.sipush z) 3 n) (hv : (Int16.ofInt z).toInt32 = v) (k : Go l g M n lv (.int v :: st) w Q) : Go l g M pc lv (st) w Q := by
  obtain ⟨hd, rfl⟩ := hd
  exact fun p e s m args below meth c H locs ls F hP hS hl => lv_sipush F.1 F.2.1 hd hv (k p e s m args below meth c H locs ls F hP hS hl)
theorem g_lconst {z : Fin 2} {v : Int64} (hd : Dc M pc (.lconst z) 1 n) (hv : Int64.ofNat (z : Nat) = v) (k : Go l g M n lv (.long v :: st) w Q) : Go l g M pc lv (st) w Q := by
  obtain ⟨hd, rfl⟩ := hd
  exact fun p e s m args below meth c H locs ls F hP hS hl => lv_lconst F.1 F.2.1 hd hv (k p e s m args below meth c H locs ls F hP hS hl)
theorem g_iload_n {z : Fin 4} {x : Int32} (hd : Dc M pc (.iload_n z) 1 n) (hi : lv[(z : Nat)]? = some (some (.int x))) (k : Go l g M n lv (.int x :: st) w Q) : Go l g M pc lv (st) w Q := by
  obtain ⟨hd, rfl⟩ := hd
  exact fun p e s m args below meth c H locs ls F hP hS hl => lv_iload_n F.1 F.2.1 hd rfl (hl.2.2 _ _ hi) (k p e s m args below meth c H locs ls F hP hS hl)
theorem g_iload {i : Nat} {x : Int32} (hd : Dc M pc (.iload i) 2 n) (hi : lv[i]? = some (some (.int x))) (k : Go l g M n lv (.int x :: st) w Q) : Go l g M pc lv (st) w Q := by
  obtain ⟨hd, rfl⟩ := hd
  exact fun p e s m args below meth c H locs ls F hP hS hl => lv_iload F.1 F.2.1 hd (hl.2.2 _ _ hi) (k p e s m args below meth c H locs ls F hP hS hl)
theorem g_lload_n {z : Fin 4} {x : Int64} (hd : Dc M pc (.lload_n z) 1 n) (hi : lv[(z : Nat)]? = some (some (.long x))) (k : Go l g M n lv (.long x :: st) w Q) : Go l g M pc lv (st) w Q := by
  obtain ⟨hd, rfl⟩ := hd
  exact fun p e s m args below meth c H locs ls F hP hS hl => lv_lload_n F.1 F.2.1 hd rfl (hl.2.2 _ _ hi) (k p e s m args below meth c H locs ls F hP hS hl)
theorem g_lload {i : Nat} {x : Int64} (hd : Dc M pc (.lload i) 2 n) (hi : lv[i]? = some (some (.long x))) (k : Go l g M n lv (.long x :: st) w Q) : Go l g M pc lv (st) w Q := by
  obtain ⟨hd, rfl⟩ := hd
  exact fun p e s m args below meth c H locs ls F hP hS hl => lv_lload F.1 F.2.1 hd (hl.2.2 _ _ hi) (k p e s m args below meth c H locs ls F hP hS hl)
theorem g_aload_n {z : Fin 4} {x : Nat} (hd : Dc M pc (.aload_n z) 1 n) (hi : lv[(z : Nat)]? = some (some (.ref x))) (k : Go l g M n lv (.ref x :: st) w Q) : Go l g M pc lv (st) w Q := by
  obtain ⟨hd, rfl⟩ := hd
  exact fun p e s m args below meth c H locs ls F hP hS hl => lv_aload_n F.1 F.2.1 hd rfl (hl.2.2 _ _ hi) (k p e s m args below meth c H locs ls F hP hS hl)
theorem g_aload {i : Nat} {x : Nat} (hd : Dc M pc (.aload i) 2 n) (hi : lv[i]? = some (some (.ref x))) (k : Go l g M n lv (.ref x :: st) w Q) : Go l g M pc lv (st) w Q := by
  obtain ⟨hd, rfl⟩ := hd
  exact fun p e s m args below meth c H locs ls F hP hS hl => lv_aload F.1 F.2.1 hd (hl.2.2 _ _ hi) (k p e s m args below meth c H locs ls F hP hS hl)
theorem g_aload_nN {z : Fin 4} (hd : Dc M pc (.aload_n z) 1 n) (hi : lv[(z : Nat)]? = some (some .null)) (k : Go l g M n lv (.null :: st) w Q) : Go l g M pc lv (st) w Q := by
  obtain ⟨hd, rfl⟩ := hd
  exact fun p e s m args below meth c H locs ls F hP hS hl => lv_aload_nN F.1 F.2.1 hd rfl (hl.2.2 _ _ hi) (k p e s m args below meth c H locs ls F hP hS hl)
theorem g_iadd {x y : Int32} (hd : Dc M pc .iadd 1 n) (k : Go l g M n lv (.int (x + y) :: st) w Q) : Go l g M pc lv (.int y :: .int x :: st) w Q := by
  obtain ⟨hd, rfl⟩ := hd
  exact fun p e s m args below meth c H locs ls F hP hS hl => lv_iadd F.1 F.2.1 hd (k p e s m args below meth c H locs ls F hP hS hl)
theorem g_isub {x y : Int32} (hd : Dc M pc .isub 1 n) (k : Go l g M n lv (.int (x - y) :: st) w Q) : Go l g M pc lv (.int y :: .int x :: st) w Q := by
  obtain ⟨hd, rfl⟩ := hd
  exact fun p e s m args below meth c H locs ls F hP hS hl => lv_isub F.1 F.2.1 hd (k p e s m args below meth c H locs ls F hP hS hl)
theorem g_imul {x y : Int32} (hd : Dc M pc .imul 1 n) (k : Go l g M n lv (.int (x * y) :: st) w Q) : Go l g M pc lv (.int y :: .int x :: st) w Q := by
  obtain ⟨hd, rfl⟩ := hd
  exact fun p e s m args below meth c H locs ls F hP hS hl => lv_imul F.1 F.2.1 hd (k p e s m args below meth c H locs ls F hP hS hl)
theorem g_iand {x y : Int32} (hd : Dc M pc .iand 1 n) (k : Go l g M n lv (.int (x &&& y) :: st) w Q) : Go l g M pc lv (.int y :: .int x :: st) w Q := by
  obtain ⟨hd, rfl⟩ := hd
  exact fun p e s m args below meth c H locs ls F hP hS hl => lv_iand F.1 F.2.1 hd (k p e s m args below meth c H locs ls F hP hS hl)
theorem g_ior {x y : Int32} (hd : Dc M pc .ior 1 n) (k : Go l g M n lv (.int (x ||| y) :: st) w Q) : Go l g M pc lv (.int y :: .int x :: st) w Q := by
  obtain ⟨hd, rfl⟩ := hd
  exact fun p e s m args below meth c H locs ls F hP hS hl => lv_ior F.1 F.2.1 hd (k p e s m args below meth c H locs ls F hP hS hl)
theorem g_ixor {x y : Int32} (hd : Dc M pc .ixor 1 n) (k : Go l g M n lv (.int (x ^^^ y) :: st) w Q) : Go l g M pc lv (.int y :: .int x :: st) w Q := by
  obtain ⟨hd, rfl⟩ := hd
  exact fun p e s m args below meth c H locs ls F hP hS hl => lv_ixor F.1 F.2.1 hd (k p e s m args below meth c H locs ls F hP hS hl)
theorem g_ishl {x y : Int32} (hd : Dc M pc .ishl 1 n) (k : Go l g M n lv (.int (x <<< (y &&& 31)) :: st) w Q) : Go l g M pc lv (.int y :: .int x :: st) w Q := by
  obtain ⟨hd, rfl⟩ := hd
  exact fun p e s m args below meth c H locs ls F hP hS hl => lv_ishl F.1 F.2.1 hd (k p e s m args below meth c H locs ls F hP hS hl)
theorem g_ishr {x y : Int32} (hd : Dc M pc .ishr 1 n) (k : Go l g M n lv (.int (x >>> (y &&& 31)) :: st) w Q) : Go l g M pc lv (.int y :: .int x :: st) w Q := by
  obtain ⟨hd, rfl⟩ := hd
  exact fun p e s m args below meth c H locs ls F hP hS hl => lv_ishr F.1 F.2.1 hd (k p e s m args below meth c H locs ls F hP hS hl)
theorem g_idiv {x y : Int32} (hd : Dc M pc .idiv 1 n) (hne : ¬ y = 0) (k : Go l g M n lv (.int (x / y) :: st) w Q) : Go l g M pc lv (.int y :: .int x :: st) w Q := by
  obtain ⟨hd, rfl⟩ := hd
  exact fun p e s m args below meth c H locs ls F hP hS hl => lv_idiv F.1 F.2.1 hd hne (k p e s m args below meth c H locs ls F hP hS hl)
theorem g_irem {x y : Int32} (hd : Dc M pc .irem 1 n) (hne : ¬ y = 0) (k : Go l g M n lv (.int (x - x / y * y) :: st) w Q) : Go l g M pc lv (.int y :: .int x :: st) w Q := by
  obtain ⟨hd, rfl⟩ := hd
  exact fun p e s m args below meth c H locs ls F hP hS hl => lv_irem F.1 F.2.1 hd hne (k p e s m args below meth c H locs ls F hP hS hl)
theorem g_iushr {x y : Int32} (hd : Dc M pc .iushr 1 n) (k : Go l g M n lv (.int ((x.toUInt32 >>> (y.toUInt32 &&& Int32.toUInt32 31)).toInt32) :: st) w Q) : Go l g M pc lv (.int y :: .int x :: st) w Q := by
  obtain ⟨hd, rfl⟩ := hd
  exact fun p e s m args below meth c H locs ls F hP hS hl => lv_iushr F.1 F.2.1 hd rfl (k p e s m args below meth c H locs ls F hP hS hl)
theorem g_ineg {x : Int32} (hd : Dc M pc .ineg 1 n) (k : Go l g M n lv (.int (-x) :: st) w Q) : Go l g M pc lv (.int x :: st) w Q := by
  obtain ⟨hd, rfl⟩ := hd
  exact fun p e s m args below meth c H locs ls F hP hS hl => lv_ineg F.1 F.2.1 hd (k p e s m args below meth c H locs ls F hP hS hl)
theorem g_ladd {x y : Int64} (hd : Dc M pc .ladd 1 n) (k : Go l g M n lv (.long (x + y) :: st) w Q) : Go l g M pc lv (.long y :: .long x :: st) w Q := by
  obtain ⟨hd, rfl⟩ := hd
  exact fun p e s m args below meth c H locs ls F hP hS hl => lv_ladd F.1 F.2.1 hd (k p e s m args below meth c H locs ls F hP hS hl)
theorem g_lmul {x y : Int64} (hd : Dc M pc .lmul 1 n) (k : Go l g M n lv (.long (x * y) :: st) w Q) : Go l g M pc lv (.long y :: .long x :: st) w Q := by
  obtain ⟨hd, rfl⟩ := hd
  exact fun p e s m args below meth c H locs ls F hP hS hl => lv_lmul F.1 F.2.1 hd (k p e s m args below meth c H locs ls F hP hS hl)
theorem g_lcmp {x y : Int64} (hd : Dc M pc .lcmp 1 n) (k : Go l g M n lv (.int (lg_cmp x y) :: st) w Q) : Go l g M pc lv (.long y :: .long x :: st) w Q := by
  obtain ⟨hd, rfl⟩ := hd
  exact fun p e s m args below meth c H locs ls F hP hS hl => W.lcmp F.1 F.2.1 hd (k p e s m args below meth c H locs ls F hP hS hl)
theorem g_i2l {x : Int32} (hd : Dc M pc .i2l 1 n) (k : Go l g M n lv (.long x.toInt64 :: st) w Q) : Go l g M pc lv (.int x :: st) w Q := by
  obtain ⟨hd, rfl⟩ := hd
  exact fun p e s m args below meth c H locs ls F hP hS hl => lv_i2l F.1 F.2.1 hd rfl (k p e s m args below meth c H locs ls F hP hS hl)
theorem g_i2b {x : Int32} (hd : Dc M pc .i2b 1 n) (k : Go l g M n lv (.int x.toInt8.toInt32 :: st) w Q) : Go l g M pc lv (.int x :: st) w Q := by
  obtain ⟨hd, rfl⟩ := hd
  exact fun p e s m args below meth c H locs ls F hP hS hl => lv_i2b F.1 F.2.1 hd rfl (k p e s m args below meth c H locs ls F hP hS hl)
theorem g_i2s {x : Int32} (hd : Dc M pc .i2s 1 n) (k : Go l g M n lv (.int x.toInt16.toInt32 :: st) w Q) : Go l g M pc lv (.int x :: st) w Q := by
  obtain ⟨hd, rfl⟩ := hd
  exact fun p e s m args below meth c H locs ls F hP hS hl => lv_i2s F.1 F.2.1 hd rfl (k p e s m args below meth c H locs ls F hP hS hl)
theorem g_i2c {x : Int32} (hd : Dc M pc .i2c 1 n) (k : Go l g M n lv (.int (x.toUInt32 % 65536).toInt32 :: st) w Q) : Go l g M pc lv (.int x :: st) w Q := by
  obtain ⟨hd, rfl⟩ := hd
  exact fun p e s m args below meth c H locs ls F hP hS hl => lv_i2c F.1 F.2.1 hd rfl (k p e s m args below meth c H locs ls F hP hS hl)
theorem g_dup {a : Value} (hd : Dc M pc .dup 1 n) (ha : a.category = 1) (k : Go l g M n lv (a :: a :: st) w Q) : Go l g M pc lv (a :: st) w Q := by
  obtain ⟨hd, rfl⟩ := hd
  exact fun p e s m args below meth c H locs ls F hP hS hl => lv_dup F.1 F.2.1 hd ha (k p e s m args below meth c H locs ls F hP hS hl)
theorem g_pop {a : Value} (hd : Dc M pc .pop 1 n) (ha : a.category = 1) (k : Go l g M n lv (st) w Q) : Go l g M pc lv (a :: st) w Q := by
  obtain ⟨hd, rfl⟩ := hd
  exact fun p e s m args below meth c H locs ls F hP hS hl => lv_pop F.1 F.2.1 hd ha (k p e s m args below meth c H locs ls F hP hS hl)
theorem g_dup2 {a b : Value} (hd : Dc M pc .dup2 1 n) (ha : a.category = 1) (hb : b.category = 1) (k : Go l g M n lv (a :: b :: a :: b :: st) w Q) : Go l g M pc lv (a :: b :: st) w Q := by
  obtain ⟨hd, rfl⟩ := hd
  exact fun p e s m args below meth c H locs ls F hP hS hl => lv_dup2_11 F.1 F.2.1 hd ha hb (k p e s m args below meth c H locs ls F hP hS hl)
theorem g_dup_x1 {a b : Value} (hd : Dc M pc .dup_x1 1 n) (ha : a.category = 1) (hb : b.category = 1) (k : Go l g M n lv (a :: b :: a :: st) w Q) : Go l g M pc lv (a :: b :: st) w Q := by
  obtain ⟨hd, rfl⟩ := hd
  exact fun p e s m args below meth c H locs ls F hP hS hl => lv_dup_x1 F.1 F.2.1 hd ha hb (k p e s m args below meth c H locs ls F hP hS hl)
theorem g_istore_n {z : Fin 4} {x : Int32} {lv2 : List (Option Value)} (hd : Dc M pc (.istore_n z) 1 n) (hn : (z : Nat) < M.2.2.1) (hok : okst lv (z : Nat) = true) (he : (lv.set (z : Nat) (some (.int x))) = lv2) (k : Go l g M n lv2 st w Q) : Go l g M pc lv (.int x :: st) w Q := by
  obtain ⟨hd, rfl⟩ := hd
  subst he
  exact fun p e s m args below meth c H locs ls F hP hS hl => lv_istore_n F.1 F.2.1 hd rfl hl.has hn rfl (fun ls2 h2 => k p e s m args below meth c H locs ls2 F hP hS (lvh.st1 hok h2))
theorem g_istore {i : Nat} {x : Int32} {lv2 : List (Option Value)} (hd : Dc M pc (.istore i) 2 n) (hn : i < M.2.2.1) (hok : okst lv i = true) (he : (lv.set i (some (.int x))) = lv2) (k : Go l g M n lv2 st w Q) : Go l g M pc lv (.int x :: st) w Q := by
  obtain ⟨hd, rfl⟩ := hd
  subst he
  exact fun p e s m args below meth c H locs ls F hP hS hl => lv_istore F.1 F.2.1 hd hl.has hn rfl (fun ls2 h2 => k p e s m args below meth c H locs ls2 F hP hS (lvh.st1 hok h2))
theorem g_astore_n {z : Fin 4} {x : Nat} {lv2 : List (Option Value)} (hd : Dc M pc (.astore_n z) 1 n) (hn : (z : Nat) < M.2.2.1) (hok : okst lv (z : Nat) = true) (he : (lv.set (z : Nat) (some (.ref x))) = lv2) (k : Go l g M n lv2 st w Q) : Go l g M pc lv (.ref x :: st) w Q := by
  obtain ⟨hd, rfl⟩ := hd
  subst he
  exact fun p e s m args below meth c H locs ls F hP hS hl => lv_astore_n F.1 F.2.1 hd rfl hl.has hn rfl (fun ls2 h2 => k p e s m args below meth c H locs ls2 F hP hS (lvh.st1 hok h2))
theorem g_astore {i : Nat} {x : Nat} {lv2 : List (Option Value)} (hd : Dc M pc (.astore i) 2 n) (hn : i < M.2.2.1) (hok : okst lv i = true) (he : (lv.set i (some (.ref x))) = lv2) (k : Go l g M n lv2 st w Q) : Go l g M pc lv (.ref x :: st) w Q := by
  obtain ⟨hd, rfl⟩ := hd
  subst he
  exact fun p e s m args below meth c H locs ls F hP hS hl => lv_astore F.1 F.2.1 hd hl.has hn rfl (fun ls2 h2 => k p e s m args below meth c H locs ls2 F hP hS (lvh.st1 hok h2))
theorem g_lstore_n {z : Fin 4} {x : Int64} {lv2 : List (Option Value)} (hd : Dc M pc (.lstore_n z) 1 n) (hn : (z : Nat) + 1 < M.2.2.1) (hok : okst lv (z : Nat) = true) (he : ((lv.set (z : Nat) (some (.long x))).set ((z : Nat) + 1) none) = lv2) (k : Go l g M n lv2 st w Q) : Go l g M pc lv (.long x :: st) w Q := by
  obtain ⟨hd, rfl⟩ := hd
  subst he
  exact fun p e s m args below meth c H locs ls F hP hS hl => lv_lstore_n F.1 F.2.1 hd rfl hl.has hn rfl (fun ls2 h2 => k p e s m args below meth c H locs ls2 F hP hS (lvh.st2 hok h2))
theorem g_lstore {i : Nat} {x : Int64} {lv2 : List (Option Value)} (hd : Dc M pc (.lstore i) 2 n) (hn : i + 1 < M.2.2.1) (hok : okst lv i = true) (he : ((lv.set i (some (.long x))).set (i + 1) none) = lv2) (k : Go l g M n lv2 st w Q) : Go l g M pc lv (.long x :: st) w Q := by
  obtain ⟨hd, rfl⟩ := hd
  subst he
  exact fun p e s m args below meth c H locs ls F hP hS hl => lv_lstore F.1 F.2.1 hd hl.has hn rfl (fun ls2 h2 => k p e s m args below meth c H locs ls2 F hP hS (lvh.st2 hok h2))
theorem g_iinc {i : Nat} {z : Int} {x v : Int32} {lv2 : List (Option Value)} (hd : Dc M pc (.iinc i z) 3 n) (hi : lv[i]? = some (some (.int x))) (hv : x + Int32.ofInt z = v) (hn : i < M.2.2.1) (hok : okst lv i = true) (he : lv.set i (some (.int v)) = lv2) (k : Go l g M n lv2 st w Q) : Go l g M pc lv st w Q := by
  obtain ⟨hd, rfl⟩ := hd
  subst he
  intro p e s m args below meth c H locs ls F hP hS hl
  obtain ⟨k0, hk0⟩ := List.getElem?_of_mem (mem_lvasc.mpr hi)
  exact lv_iinc F.1 F.2.1 hd hl.has hk0 hv hn rfl (fun ls2 h2 => k p e s m args below meth c H locs ls2 F hP hS (lvh.st1 hok h2))
theorem g_if_eq {x : Int32} {off : Int} {tgt : Nat} (hd : Dc M pc (.ifCond .eq off) 3 n) (ht : (pc : Int) + off = (tgt : Int)) (kt : x = 0 → Go l g M tgt lv st w Q) (kf : ¬ x = 0 → Go l g M n lv st w Q) : Go l g M pc lv (.int x :: st) w Q := by
  obtain ⟨hd, rfl⟩ := hd
  exact fun p e s m args below meth c H locs ls F hP hS hl => lv_if_eq F.1 F.2.1 hd ht (fun h => kt h p e s m args below meth c H locs ls F hP hS hl) (fun h => kf h p e s m args below meth c H locs ls F hP hS hl)
theorem g_icmp_eq {x y : Int32} {off : Int} {tgt : Nat} (hd : Dc M pc (.if_icmp .eq off) 3 n) (ht : (pc : Int) + off = (tgt : Int)) (kt : x = y → Go l g M tgt lv st w Q) (kf : ¬ x = y → Go l g M n lv st w Q) : Go l g M pc lv (.int y :: .int x :: st) w Q := by
  obtain ⟨hd, rfl⟩ := hd
  exact fun p e s m args below meth c H locs ls F hP hS hl => lv_icmp_eq F.1 F.2.1 hd ht (fun h => kt h p e s m args below meth c H locs ls F hP hS hl) (fun h => kf h p e s m args below meth c H locs ls F hP hS hl)
theorem g_if_ne {x : Int32} {off : Int} {tgt : Nat} (hd : Dc M pc (.ifCond .ne off) 3 n) (ht : (pc : Int) + off = (tgt : Int)) (kt : ¬ x = 0 → Go l g M tgt lv st w Q) (kf : x = 0 → Go l g M n lv st w Q) : Go l g M pc lv (.int x :: st) w Q := by
  obtain ⟨hd, rfl⟩ := hd
  exact fun p e s m args below meth c H locs ls F hP hS hl => lv_if_ne F.1 F.2.1 hd ht (fun h => kt h p e s m args below meth c H locs ls F hP hS hl) (fun h => kf h p e s m args below meth c H locs ls F hP hS hl)
theorem g_icmp_ne {x y : Int32} {off : Int} {tgt : Nat} (hd : Dc M pc (.if_icmp .ne off) 3 n) (ht : (pc : Int) + off = (tgt : Int)) (kt : ¬ x = y → Go l g M tgt lv st w Q) (kf : x = y → Go l g M n lv st w Q) : Go l g M pc lv (.int y :: .int x :: st) w Q := by
  obtain ⟨hd, rfl⟩ := hd
  exact fun p e s m args below meth c H locs ls F hP hS hl => lv_icmp_ne F.1 F.2.1 hd ht (fun h => kt h p e s m args below meth c H locs ls F hP hS hl) (fun h => kf h p e s m args below meth c H locs ls F hP hS hl)
theorem g_if_lt {x : Int32} {off : Int} {tgt : Nat} (hd : Dc M pc (.ifCond .lt off) 3 n) (ht : (pc : Int) + off = (tgt : Int)) (kt : x < 0 → Go l g M tgt lv st w Q) (kf : ¬ x < 0 → Go l g M n lv st w Q) : Go l g M pc lv (.int x :: st) w Q := by
  obtain ⟨hd, rfl⟩ := hd
  exact fun p e s m args below meth c H locs ls F hP hS hl => lv_if_lt F.1 F.2.1 hd ht (fun h => kt h p e s m args below meth c H locs ls F hP hS hl) (fun h => kf h p e s m args below meth c H locs ls F hP hS hl)
theorem g_icmp_lt {x y : Int32} {off : Int} {tgt : Nat} (hd : Dc M pc (.if_icmp .lt off) 3 n) (ht : (pc : Int) + off = (tgt : Int)) (kt : x < y → Go l g M tgt lv st w Q) (kf : ¬ x < y → Go l g M n lv st w Q) : Go l g M pc lv (.int y :: .int x :: st) w Q := by
  obtain ⟨hd, rfl⟩ := hd
  exact fun p e s m args below meth c H locs ls F hP hS hl => lv_icmp_lt F.1 F.2.1 hd ht (fun h => kt h p e s m args below meth c H locs ls F hP hS hl) (fun h => kf h p e s m args below meth c H locs ls F hP hS hl)
theorem g_if_ge {x : Int32} {off : Int} {tgt : Nat} (hd : Dc M pc (.ifCond .ge off) 3 n) (ht : (pc : Int) + off = (tgt : Int)) (kt : 0 ≤ x → Go l g M tgt lv st w Q) (kf : ¬ 0 ≤ x → Go l g M n lv st w Q) : Go l g M pc lv (.int x :: st) w Q := by
  obtain ⟨hd, rfl⟩ := hd
  exact fun p e s m args below meth c H locs ls F hP hS hl => lv_if_ge F.1 F.2.1 hd ht (fun h => kt h p e s m args below meth c H locs ls F hP hS hl) (fun h => kf h p e s m args below meth c H locs ls F hP hS hl)
theorem g_icmp_ge {x y : Int32} {off : Int} {tgt : Nat} (hd : Dc M pc (.if_icmp .ge off) 3 n) (ht : (pc : Int) + off = (tgt : Int)) (kt : y ≤ x → Go l g M tgt lv st w Q) (kf : ¬ y ≤ x → Go l g M n lv st w Q) : Go l g M pc lv (.int y :: .int x :: st) w Q := by
  obtain ⟨hd, rfl⟩ := hd
  exact fun p e s m args below meth c H locs ls F hP hS hl => lv_icmp_ge F.1 F.2.1 hd ht (fun h => kt h p e s m args below meth c H locs ls F hP hS hl) (fun h => kf h p e s m args below meth c H locs ls F hP hS hl)
theorem g_if_gt {x : Int32} {off : Int} {tgt : Nat} (hd : Dc M pc (.ifCond .gt off) 3 n) (ht : (pc : Int) + off = (tgt : Int)) (kt : 0 < x → Go l g M tgt lv st w Q) (kf : ¬ 0 < x → Go l g M n lv st w Q) : Go l g M pc lv (.int x :: st) w Q := by
  obtain ⟨hd, rfl⟩ := hd
  exact fun p e s m args below meth c H locs ls F hP hS hl => lv_if_gt F.1 F.2.1 hd ht (fun h => kt h p e s m args below meth c H locs ls F hP hS hl) (fun h => kf h p e s m args below meth c H locs ls F hP hS hl)
theorem g_icmp_gt {x y : Int32} {off : Int} {tgt : Nat} (hd : Dc M pc (.if_icmp .gt off) 3 n) (ht : (pc : Int) + off = (tgt : Int)) (kt : y < x → Go l g M tgt lv st w Q) (kf : ¬ y < x → Go l g M n lv st w Q) : Go l g M pc lv (.int y :: .int x :: st) w Q := by
  obtain ⟨hd, rfl⟩ := hd
  exact fun p e s m args below meth c H locs ls F hP hS hl => lv_icmp_gt F.1 F.2.1 hd ht (fun h => kt h p e s m args below meth c H locs ls F hP hS hl) (fun h => kf h p e s m args below meth c H locs ls F hP hS hl)
theorem g_if_le {x : Int32} {off : Int} {tgt : Nat} (hd : Dc M pc (.ifCond .le off) 3 n) (ht : (pc : Int) + off = (tgt : Int)) (kt : x ≤ 0 → Go l g M tgt lv st w Q) (kf : ¬ x ≤ 0 → Go l g M n lv st w Q) : Go l g M pc lv (.int x :: st) w Q := by
  obtain ⟨hd, rfl⟩ := hd
  exact fun p e s m args below meth c H locs ls F hP hS hl => lv_if_le F.1 F.2.1 hd ht (fun h => kt h p e s m args below meth c H locs ls F hP hS hl) (fun h => kf h p e s m args below meth c H locs ls F hP hS hl)
theorem g_icmp_le {x y : Int32} {off : Int} {tgt : Nat} (hd : Dc M pc (.if_icmp .le off) 3 n) (ht : (pc : Int) + off = (tgt : Int)) (kt : x ≤ y → Go l g M tgt lv st w Q) (kf : ¬ x ≤ y → Go l g M n lv st w Q) : Go l g M pc lv (.int y :: .int x :: st) w Q := by
  obtain ⟨hd, rfl⟩ := hd
  exact fun p e s m args below meth c H locs ls F hP hS hl => lv_icmp_le F.1 F.2.1 hd ht (fun h => kt h p e s m args below meth c H locs ls F hP hS hl) (fun h => kf h p e s m args below meth c H locs ls F hP hS hl)
theorem g_goto {off : Int} {tgt : Nat} (hd : Dc M pc (.goto off) 3 n) (ht : (pc : Int) + off = (tgt : Int)) (k : Go l g M tgt lv st w Q) : Go l g M pc lv st w Q := by
  obtain ⟨hd, rfl⟩ := hd
  exact fun p e s m args below meth c H locs ls F hP hS hl => lv_goto F.1 F.2.1 hd ht (k p e s m args below meth c H locs ls F hP hS hl)
theorem g_lookup {dflt : Int} {ps : Array (Int × Int)} {len : Nat} {x : Int32} {off : Int} {tgt : Nat} (hd : Dc M pc (.lookupswitch dflt ps) len n) (hp : (ps.toList.zip (ps.toList.drop 1)).all (fun (a, next) => a.1 < next.1) = true) (ho : Op.lookupswitch.offset ps.toList dflt x.toInt = off) (ht : (pc : Int) + off = (tgt : Int)) (k : Go l g M tgt lv st w Q) : Go l g M pc lv (.int x :: st) w Q := by
  obtain ⟨hd, rfl⟩ := hd
  exact fun p e s m args below meth c H locs ls F hP hS hl => lv_lookup F.1 F.2.1 hd hp ho ht (k p e s m args below meth c H locs ls F hP hS hl)
theorem g_tabOut {dflt lo hi : Int} {offs : Array Int} {len : Nat} {x : Int32} {tgt : Nat} (hd : Dc M pc (.tableswitch dflt lo hi offs) len n) (h : x.toInt < lo ∨ hi < x.toInt) (ht : (pc : Int) + dflt = (tgt : Int)) (k : Go l g M tgt lv st w Q) : Go l g M pc lv (.int x :: st) w Q := by
  obtain ⟨hd, rfl⟩ := hd
  exact fun p e s m args below meth c H locs ls F hP hS hl => lv_tableOut F.1 F.2.1 hd h ht (k p e s m args below meth c H locs ls F hP hS hl)
theorem g_tabIn {dflt lo hi : Int} {offs : Array Int} {len : Nat} {x : Int32} {off : Int} {tgt : Nat} (hd : Dc M pc (.tableswitch dflt lo hi offs) len n) (h1 : ¬ x.toInt < lo) (h2 : ¬ hi < x.toInt) (ho : offs[(x.toInt - lo).toNat]? = some off) (ht : (pc : Int) + off = (tgt : Int)) (k : Go l g M tgt lv st w Q) : Go l g M pc lv (.int x :: st) w Q := by
  obtain ⟨hd, rfl⟩ := hd
  exact fun p e s m args below meth c H locs ls F hP hS hl => lv_tableIn F.1 F.2.1 hd h1 h2 ho ht (k p e s m args below meth c H locs ls F hP hS hl)
theorem g_iret {x : Int32} {ty : FieldType} (hd : Dc M pc .ireturn 1 n) (hr : M.2.2.2.1 = some ty) (hn : narrow ty (.int x) = .int x) (hq : Q (some (.int x)) w) : Go l g M pc lv [.int x] w Q := by
  obtain ⟨hd, rfl⟩ := hd
  exact fun p e s m args below meth c H locs ls F hP hS hl => W.zret F.1 F.2.1 (F.2.2.2.1.trans hr) hn (fun t ht hW => ⟨⟨some (.int x), w, rfl, hq, by rw [ht]; exact hP⟩, hS.F ht⟩) hS.2.2 hd F.2.2.2.2.1
theorem g_lret {x : Int64} (hd : Dc M pc .lreturn 1 n) (hr : M.2.2.2.1 = some .long) (hq : Q (some (.long x)) w) : Go l g M pc lv [.long x] w Q := by
  obtain ⟨hd, rfl⟩ := hd
  exact fun p e s m args below meth c H locs ls F hP hS hl => W.lret F.1 F.2.1 (F.2.2.2.1.trans hr) (fun t ht hW => ⟨⟨some (.long x), w, rfl, hq, by rw [ht]; exact hP⟩, hS.F ht⟩) hS.2.2 hd F.2.2.2.2.1
theorem g_aret {x : Nat} {C : String} (hd : Dc M pc .areturn 1 n) (hr : M.2.2.2.1 = some (.object C)) (hq : Q (some (.ref x)) w) : Go l g M pc lv [.ref x] w Q := by
  obtain ⟨hd, rfl⟩ := hd
  exact fun p e s m args below meth c H locs ls F hP hS hl => W.aret F.1 F.2.1 (F.2.2.2.1.trans hr) (Or.inl ⟨_, rfl⟩) (Or.inr ⟨_, rfl⟩) (fun t ht hW => ⟨⟨some (.ref x), w, rfl, hq, by rw [ht]; exact hP⟩, hS.F ht⟩) hS.2.2 hd F.2.2.2.2.1
theorem g_vret (hd : Dc M pc .return_ 1 n) (hr : M.2.2.2.1 = none) (hq : Q none w) : Go l g M pc lv [] w Q := by
  obtain ⟨hd, rfl⟩ := hd
  exact fun p e s m args below meth c H locs ls F hP hS hl => W.vret F.1 F.2.1 (F.2.2.2.1.trans hr) (fun t ht hW => ⟨⟨none, w, rfl, hq, by rw [ht]; exact hP⟩, hS.F ht⟩) hS.2.2 hd F.2.2.2.2.1
end ROWS
end
section
/-! fields, arrays, constants -/
def clsOk (ci : Nat) (C : String) (T : u_T) (N : Nat) (ty : Nat → FieldType) : Prop := cls[ci]? = some (C, T, N) ∧ (∀ w ∈ u_ws C T N, w ∈ LT) ∧ (∀ k, k < N → parseFieldDescriptor (T k).2.2.1 = some (ty k)) ∧ (∀ a, a < N → ∀ b, b < N → a ≠ b → (T a).2.1 ≠ (T b).2.1) ∧ (fdef ci).length = N
theorem ok0 : clsOk 0 R0 T0 11 ty0 := ⟨rfl, in0, ty0_ok, nm0, rfl⟩
theorem ok1 : clsOk 1 R1 T1 12 ty1 := ⟨rfl, in1, ty1_ok, nm1, rfl⟩
theorem ok2 : clsOk 2 R2 T2 3 ty2 := ⟨rfl, in2, ty2_ok, nm2, rfl⟩
theorem ok3 : clsOk 3 R3 T3 5 ty3 := ⟨rfl, in3, ty3_ok, nm3, rfl⟩
theorem ok4 : clsOk 4 R4 T4 24 ty4 := ⟨rfl, in4, ty4_ok, nm4, rfl⟩
/-- entry idx of own's pool is field j of class ci -/
def Fk (own : String) (idx ci j : Nat) (ty : FieldType) (fin : Bool) : Prop := ∃ C T N tyf, clsOk ci C T N tyf ∧ j < N ∧ Cond.fieldLink own idx (T j).1 (T j).2.1 (T j).2.2.1 ∈ LT ∧ tyf j = ty ∧ (T j).2.2.2 = fin
section HROWS
variable {l : Launch} {g : GG} {M : MM} {pc n : Nat} {lv : List (Option Value)} {st : List Value} {w : Wd} {Q : Option Value → Wd → Prop}
theorem g_getI {k ci j idx : Nat} {ty : FieldType} {fin : Bool} (hd : Dc M pc (.getfield idx) 3 n) (hf : Fk M.1.cls idx ci j ty fin) (ho : objC k = some ci) (hj : (fdef ci)[j]? = some 0) (kk : Go l g M n lv (.int (w k j) :: st) w Q) : Go l g M pc lv (.ref (g.1 k) :: st) w Q := by
  obtain ⟨hd, rfl⟩ := hd
  obtain ⟨C, T, N, tyf, ⟨c1, c2, c3, c4, c5⟩, hjN, hl, -, -⟩ := hf
  intro p e s m args below meth c H locs ls F hP hS hlv
  exact va_get (D := g.2.1) (cl := cls) (C := C) (T := T) (N := N) (ci := ci) (ref := (T j).1) (v := .int (w k j)) F.1 F.2.1 F.2.2.2.2.2.2.1 c2 F.2.2.2.2.2.1 F.2.2.2.2.2.2.2.1.1 hP k (by rw [wsW_at g w (objC_lt ho), cellOf_obj g w ho]) c1 j hjN (F.2.2.2.2.2.2.1 _ hl) (fun _ h => h) (by rw [fOf_get g w k ci hj]; rfl) hd (kk p e s m args below meth c H locs ls F hP hS hlv)
theorem g_getR {k ci j o idx : Nat} {ty : FieldType} {fin : Bool} (hd : Dc M pc (.getfield idx) 3 n) (hf : Fk M.1.cls idx ci j ty fin) (ho : objC k = some ci) (hj : (fdef ci)[j]? = some (o + 1)) (kk : Go l g M n lv (.ref (g.1 (k + (o + 1))) :: st) w Q) : Go l g M pc lv (.ref (g.1 k) :: st) w Q := by
  obtain ⟨hd, rfl⟩ := hd
  obtain ⟨C, T, N, tyf, ⟨c1, c2, c3, c4, c5⟩, hjN, hl, -, -⟩ := hf
  intro p e s m args below meth c H locs ls F hP hS hlv
  exact va_get (D := g.2.1) (cl := cls) (C := C) (T := T) (N := N) (ci := ci) (ref := (T j).1) (v := .ref (g.1 (k + (o + 1)))) F.1 F.2.1 F.2.2.2.2.2.2.1 c2 F.2.2.2.2.2.1 F.2.2.2.2.2.2.2.1.1 hP k (by rw [wsW_at g w (objC_lt ho), cellOf_obj g w ho]) c1 j hjN (F.2.2.2.2.2.2.1 _ hl) (fun _ h => h) (by rw [fOf_get g w k ci hj]; rfl) hd (kk p e s m args below meth c H locs ls F hP hS hlv)
theorem g_putI {k ci j idx : Nat} {ty : FieldType} {x : Int32} (hd : Dc M pc (.putfield idx) 3 n) (hf : Fk M.1.cls idx ci j ty false) (ho : objC k = some ci) (hj : (fdef ci)[j]? = some 0) (hn : narrow ty (.int x) = .int x) (hfit : fits ty (.int x) = true) (kk : Go l g M n lv st (up w k j x) Q) : Go l g M pc lv (.int x :: .ref (g.1 k) :: st) w Q := by
  obtain ⟨hd, rfl⟩ := hd
  obtain ⟨C, T, N, tyf, ⟨c1, c2, c3, c4, c5⟩, hjN, hl, hty, hfin⟩ := hf
  intro p e s m args below meth c H locs ls F hP hS hlv
  refine va_put (D := g.2.1) (cl := cls) (C := C) (T := T) (N := N) (ci := ci) (ref := (T j).1) (A := Ad g) F.1 F.2.1 F.2.2.2.2.2.2.1 c2 tyf c3 c4 F.2.2.2.2.2.1 F.2.2.2.2.2.2.2.1.1 hP (F.2.2.2.2.2.2.2.1.D w) hS k (by rw [wsW_at g w (objC_lt ho), cellOf_obj g w ho]) c1 j hjN (F.2.2.2.2.2.2.1 _ hl) (fun _ h => h) hfin (c3 j hjN) (by rw [hty]; exact hn) (by rw [hty]; exact hfit) (by rw [fOf_len, c5]; exact hjN) hd (fun H1 locs1 hP1 hD1 hS1 => ?_)
  rw [wsW_set (w1 := up w k j x) (objC_lt ho) (by rw [cellOf_obj g _ ho, fOf_set g w k ci x hj]) (fun k' hk' => up_other w k j x hk')] at hP1
  exact kk p e s m args below meth c H1 locs1 ls F hP1 hS1 hlv
theorem g_iald {k N : Nat} {i : Int32} (hd : Dc M pc .iaload 1 n) (ha : arrN k = some N) (hi : vp_in i N) (kk : Go l g M n lv (.int (w k i.toNatClampNeg) :: st) w Q) : Go l g M pc lv (.int i :: .ref (g.1 k) :: st) w Q := by
  obtain ⟨hd, rfl⟩ := hd
  intro p e s m args below meth c H locs ls F hP hS hlv
  exact va_iald F.1 F.2.1 F.2.2.2.2.2.2.2.1.1 hP k 0 (by rw [wsW_at g w (arrN_lt ha), cellOf_arr g w ha]) rfl hi hd (kk p e s m args below meth c H locs ls F hP hS hlv)
theorem g_iast {k N : Nat} {i x : Int32} (hd : Dc M pc .iastore 1 n) (ha : arrN k = some N) (hi : vp_in i N) (kk : Go l g M n lv st (up w k i.toNatClampNeg x) Q) : Go l g M pc lv (.int x :: .int i :: .ref (g.1 k) :: st) w Q := by
  obtain ⟨hd, rfl⟩ := hd
  intro p e s m args below meth c H locs ls F hP hS hlv
  refine va_iast F.1 F.2.1 F.2.2.2.2.2.2.2.1.1 hP (F.2.2.2.2.2.2.2.1.D w) hS k 0 (by rw [wsW_at g w (arrN_lt ha), cellOf_arr g w ha]) rfl hi hd (fun H1 locs1 hP1 hD1 hS1 => ?_)
  rw [wsW_set (w1 := up w k i.toNatClampNeg x) (arrN_lt ha) (by rw [cellOf_arr g _ ha, up_same]) (fun k' hk' => up_other w k _ x hk')] at hP1
  exact kk p e s m args below meth c H1 locs1 ls F hP1 hS1 hlv
theorem g_ialdN {k N i : Nat} (hd : Dc M pc .iaload 1 n) (ha : arrN k = some N) (hi : i < N) (hN : N < 2 ^ 31) (kk : Go l g M n lv (.int (w k i) :: st) w Q) : Go l g M pc lv (.int (nI i) :: .ref (g.1 k) :: st) w Q :=
  g_iald hd ha (vp_in_nI hi hN) (by rw [nI_clamp (by omega)]; exact kk)
theorem g_iastN {k N i : Nat} {x : Int32} (hd : Dc M pc .iastore 1 n) (ha : arrN k = some N) (hi : i < N) (hN : N < 2 ^ 31) (kk : Go l g M n lv st (up w k i x) Q) : Go l g M pc lv (.int x :: .int (nI i) :: .ref (g.1 k) :: st) w Q :=
  g_iast hd ha (vp_in_nI hi hN) (by rw [nI_clamp (by omega)]; exact kk)
theorem cellOf_23 (g : GG) (w : Wd) : cellOf g w 23 = .inl (g.2.2.1.2.1, 4, .inr (.inr (.inr (.inr (fun j => some (g.1 (24 + 2 * j))))))) := rfl
theorem cellOf_39 (g : GG) (w : Wd) : cellOf g w 39 = .inl (g.2.2.1.2.2, 7, .inr (.inr (.inr (.inr (fun j => some (g.2.2.2.1 j)))))) := rfl
theorem g_sheetN {i : Nat} (hd : Dc M pc .aaload 1 n) (hi : i < 4) (kk : Go l g M n lv (.ref (g.1 (24 + 2 * i)) :: st) w Q) : Go l g M pc lv (.int (nI i) :: .ref (g.1 23) :: st) w Q := by
  obtain ⟨hd, rfl⟩ := hd
  intro p e s m args below meth c H locs ls F hP hS hlv
  refine va_aldq F.1 F.2.1 F.2.2.2.2.2.2.2.1.1 hP 23 1 (by rw [wsW_at g w (by decide), cellOf_23]) rfl (vp_in_nI hi (by decide)) hd ?_
  rw [nI_clamp (by omega)]
  exact kk p e s m args below meth c H locs ls F hP hS hlv
theorem g_knameN {i : Nat} (hd : Dc M pc .aaload 1 n) (hi : i < 7) (kk : Go l g M n lv (.ref (g.2.2.2.1 i) :: st) w Q) : Go l g M pc lv (.int (nI i) :: .ref (g.1 39) :: st) w Q := by
  obtain ⟨hd, rfl⟩ := hd
  intro p e s m args below meth c H locs ls F hP hS hlv
  refine va_aldq F.1 F.2.1 F.2.2.2.2.2.2.2.1.1 hP 39 2 (by rw [wsW_at g w (by decide), cellOf_39]) rfl (vp_in_nI hi (by decide)) hd ?_
  rw [nI_clamp (by omega)]
  exact kk p e s m args below meth c H locs ls F hP hS hlv
theorem g_klen (hd : Dc M pc .arraylength 1 n) (kk : Go l g M n lv (.int 7 :: st) w Q) : Go l g M pc lv (.ref (g.1 39) :: st) w Q := by
  obtain ⟨hd, rfl⟩ := hd
  intro p e s m args below meth c H locs ls F hP hS hlv
  exact va_alen F.1 F.2.1 F.2.2.2.2.2.2.2.1.1 hP 39 2 (by rw [wsW_at g w (by decide), cellOf_39]) rfl rfl hd (kk p e s m args below meth c H locs ls F hP hS hlv)
theorem g_ldc {idx : Nat} {v : Int32} (hd : Dc M pc (.ldc idx) 2 n) (hk : Cond.constant M.1.cls idx v ∈ LT) (kk : Go l g M n lv (.int v :: st) w Q) : Go l g M pc lv st w Q := by
  obtain ⟨hd, rfl⟩ := hd
  exact fun p e s m args below meth c H locs ls F hP hS hlv => lv_ldc F.1 F.2.1 F.2.2.2.2.2.1 (F.2.2.2.2.2.2.1 _ hk) hd (kk p e s m args below meth c H locs ls F hP hS hlv)
theorem g_ldcw {idx : Nat} {v : Int32} (hd : Dc M pc (.ldc_w idx) 3 n) (hk : Cond.constant M.1.cls idx v ∈ LT) (kk : Go l g M n lv (.int v :: st) w Q) : Go l g M pc lv st w Q := by
  obtain ⟨hd, rfl⟩ := hd
  exact fun p e s m args below meth c H locs ls F hP hS hlv => lv_ldcw F.1 F.2.1 F.2.2.2.2.2.1 (F.2.2.2.2.2.2.1 _ hk) hd (kk p e s m args below meth c H locs ls F hP hS hlv)
theorem g_ldcS {idx i : Nat} (hd : Dc M pc (.ldc idx) 2 n) (hi : i < 14) (hk : SW M.1.cls idx i) (kk : Go l g M n lv (.ref (g.2.2.2.1 i) :: st) w Q) : Go l g M pc lv st w Q := by
  obtain ⟨hd, rfl⟩ := hd
  exact fun p e s m args below meth c H locs ls F hP hS hlv => va_ldcS F.1 F.2.1 F.2.2.2.2.2.1 (F.2.2.2.2.2.2.2.1.2.2.2 _ _ i hi hk) hd (kk p e s m args below meth c H locs ls F hP hS hlv)
/-! what isn't seen of a world may be changed -/
def vis (k j : Nat) : Prop := (∃ ci, objC k = some ci ∧ (fdef ci)[j]? = some 0) ∨ (∃ N, arrN k = some N ∧ j < N)
theorem Hv.agree {g : GG} {w w1 : Wd} {H : Heap} (h : Hv g w H) (ha : ∀ k j, vis k j → w1 k j = w k j) : Hv g w1 H := by
  intro k q hk
  obtain ⟨hk48, rfl⟩ := wsW_of hk
  have h0 := h k _ (wsW_at g w hk48)
  cases ho : objC k with
  | some ci =>
    rw [cellOf_obj g _ ho] at h0 ⊢
    have e : fOf g w1 k ci = fOf g w k ci := by
      apply List.ext_getElem?
      intro i
      by_cases hi : i < (fdef ci).length
      · have hget : (fdef ci)[i]? = some (fdef ci)[i] := List.getElem?_eq_getElem hi
        rw [fOf_get g _ k ci hget, fOf_get g _ k ci hget]
        by_cases h00 : (fdef ci)[i] = 0
        · rw [ha k i (Or.inl ⟨ci, ho, by rw [hget, h00]⟩)]
        · rw [if_neg h00, if_neg h00]
      · rw [List.getElem?_eq_none (by rw [fOf_len]; omega), List.getElem?_eq_none (by rw [fOf_len]; omega)]
    rw [e]
    exact h0
  | none =>
    cases hn : arrN k with
    | some N =>
      rw [cellOf_arr g _ hn] at h0 ⊢
      have h1 : H[g.1 k]? = some (vp_cell g.2.2.1.1 (N, .inl (w k))) := h0
      show H[g.1 k]? = some (vp_cell g.2.2.1.1 (N, .inl (w1 k)))
      rw [h1]
      congr 1
      rw [vp_cell_i, vp_cell_i]
      simp only [arrV]
      congr 1
      apply Array.ext
      · simp
      · intro i h1 h2
        simp at h1 ⊢
        rw [ha k i (Or.inr ⟨N, hn, h1⟩)]
    | none =>
      have e : cellOf g w1 k = cellOf g w k := by
        unfold cellOf
        rw [ho, hn]
      rw [e]
      exact h0
theorem g_agree {w1 : Wd} (ha : ∀ k j, vis k j → w1 k j = w k j) (kk : Go l g M pc lv st w1 Q) : Go l g M pc lv st w Q :=
  fun p e s m args below meth c H locs ls F hP hS hlv => kk p e s m args below meth c H locs ls F (hP.agree ha) hS hlv
end HROWS
end
section
/-! entry and calls -/
theorem lg_len1 : ∀ (vs : List Value), (∀ v ∈ vs, v.category = 1) → (lg_sl vs).length = vs.length
  | [], _ => rfl
  | v :: vs, h => by
    have h1 : v.category = 1 := h v List.mem_cons_self
    have ih := lg_len1 vs (fun u hu => h u (List.mem_cons_of_mem _ hu))
    show ((if v.category = 2 then [Slot.val v, .second] else [.val v]) ++ lg_sl vs).length = _
    rw [if_neg (by omega)]
    simp [ih]
    try omega
theorem lv_args1 : ∀ (vs : List Value) (o i : Nat) (v : Value), (∀ v ∈ vs, v.category = 1) → vs[i]? = some v → (o + i, v) ∈ lv_args o vs
  | [], _, _, _, _, h => by simp at h
  | u :: vs, o, 0, v, _, h => by
    simp at h
    subst h
    exact List.mem_cons_self
  | u :: vs, o, i + 1, v, hc, h => by
    have h1 : u.category = 1 := hc u List.mem_cons_self
    have ih := lv_args1 vs (o + 1) i v (fun z hz => hc z (List.mem_cons_of_mem _ hz)) (by simpa using h)
    show (o + (i + 1), v) ∈ (o, u) :: lv_args (if u.category = 2 then o + 2 else o + 1) vs
    rw [if_neg (by omega)]
    refine List.mem_cons_of_mem _ ?_
    have e : o + (i + 1) = o + 1 + i := by omega
    rw [e]
    exact ih
theorem Res.of {l : Launch} {g : GG} {M : MM} {as : List Value} {w : Wd} {Q : Option Value → Wd → Prop} (hp : plainName M.1.cls = true) (hcat : ∀ v ∈ as, v.category = 1) (hlen : as.length ≤ M.2.2.1) {lv : List (Option Value)} (hlv : as.map some ++ List.replicate (M.2.2.1 - as.length) none = lv) (k : Go l g M 0 lv [] w Q) : Res l g M as w Q := by
  subst hlv
  refine Met.ofW (cc := M.2.1) (maxL := M.2.2.1) (ret := M.2.2.2.1) hp rfl ?_
  intro p e s m args below meth c s₁ B hml hv
  obtain ⟨rfl, hC, hH, hP⟩ := hv
  rw [lg_entry_eq]
  have hl := lv_entry as (n := M.2.2.1) (by rw [lg_len1 as hcat]; exact hlen)
  have hts := atoms_spec (ws := Cond.code M.1 M.2.1 M.2.2.1 M.2.2.2.1 :: LT) B.pre
  refine k p e s m _ below meth c s.heap [] _ ⟨B.exec, B.bytes, hml, B.returns, B.notSynchronized, findClass_of_methodNamed B.named, fun w hw => hts w (List.mem_cons_of_mem _ hw), hC, hH⟩ hP va_S.rf ⟨hl.1, hl.2.1, fun i v hi => ?_⟩
  have hi2 : as[i]? = some v := by
    by_cases hlt : i < as.length
    · rw [List.getElem?_append_left (by simpa using hlt), List.getElem?_map] at hi
      cases e : as[i]? with
      | none => rw [e] at hi; cases hi
      | some u => rw [e] at hi; simp at hi; rw [hi]
    · rw [List.getElem?_append_right (by simp; omega)] at hi
      have := List.mem_of_getElem? hi
      have := List.eq_of_mem_replicate this
      cases this
  have := hl.2.2 (i, v) (by have h2 := lv_args1 as 0 i v hcat hi2; rw [Nat.zero_add] at h2; exact h2)
  exact this
theorem good_cons {M' : MM} (h : Cond.code M'.1 M'.2.1 M'.2.2.1 M'.2.2.2.1 ∈ LT) : GoodIn LT (Cond.code M'.1 M'.2.1 M'.2.2.1 M'.2.2.2.1 :: LT) := fun w hw => (List.mem_cons.mp hw).elim (fun e => by rw [e]; exact LTgood _ h) (fun h2 => LTgood w h2)
section CROWS
variable {l : Launch} {g : GG} {M M' : MM} {pc n : Nat} {lv : List (Option Value)} {st rest as : List Value} {w : Wd} {Q Q' : Option Value → Wd → Prop}
theorem blind_of : FrameBlind (va_Pc as (fun U => Cx g U ∧ Hx g U U.heap ∧ Hv g w U.heap)) := fun a U gf mk h => ⟨h.1, Cx.same (s := U) rfl h.2.1, Hx.moved (u := U) (Vm.Alike.refl U.vm) h.2.2.1, h.2.2.2⟩
theorem pre_of {p : Program} {s : State} {m : MethodId} {args : Array Value} {meth : Method} {c : Code} {H : Heap} {locs : List Loc} (F : Fx g M p s m args meth c) (hP : Hv g w H) (hS : va_S (Ad g) s.heap H locs) : ∀ U : State, U.heap = H → s.WarmedH U.vm → va_Pc as (fun U => Cx g U ∧ Hx g U U.heap ∧ Hv g w U.heap) as.toArray U :=
  fun U hU hW => ⟨rfl, F.2.2.2.2.2.2.2.1.warm hW, by rw [hU]; exact (F.2.2.2.2.2.2.2.2.kept hS.2.1).moved hW.alike, by rw [hU]; exact hP⟩
theorem callGo (hrun : ∀ (p : Program) (e : Env) (s : State) (m : MethodId) (args : Array Value) (below : List Frame) (meth : Method) (c : Code) (H : Heap) (locs : List Loc) (ls : Array Slot), Fx g M p s m args meth c → Hv g w H → va_S (Ad g) s.heap H locs → lvh ls M.2.2.1 lv → va_Run p l e (rmM M) s m args below meth c H locs 0 0 0 0 (F0 m pc ls st) rest (Qq g Q' as.toArray) (Ad g))
    (k : ∀ r w', Q' r w' → Go l g M (pc + 3) lv (r.toList ++ rest) w' Q) : Go l g M pc lv st w Q := by
  intro p e s m args below meth c H locs ls F hP hS hlv T hT X
  obtain ⟨v, st₀, t, T', L, h0, X', hL, e1, e2, ⟨⟨r, w', hv, hq, hw'⟩, hz, hk⟩, stp⟩ := hrun p e s m args below meth c H locs ls F hP hS hlv T hT X
  cases hv
  rw [h0] at hz hk
  obtain ⟨t2, a1, b1⟩ := k v w' hq p e s m args below meth c T'.heap (locs ++ L) ls F (by rw [e1]; exact hw')
    ⟨Nat.le_trans hS.1 (by rw [e1]; exact hz), fun q h1 h2 => by rw [e1, hk q (Nat.lt_of_lt_of_le h1 hS.1) h2]; exact hS.2.1 q h1 h2, fun q hq => by
      rcases List.mem_append.mp hq with h | h
      · exact hS.2.2 q h
      · exact hL q h⟩ hlv T' rfl X'
  exact ⟨t2, stp t2 a1, b1⟩
/-- entry idx of M's pool is the static method M', with na arguments; its room is in M's -/
def CkS (M : MM) (idx : Nat) (M' : MM) (na : Nat) : Prop := Cond.methodLink M.1.cls idx M'.1 ∈ LT ∧ Cond.static M'.1 ∈ LT ∧ Cond.initialized M'.1.cls ∈ LT ∧ Cond.code M'.1 M'.2.1 M'.2.2.1 M'.2.2.2.1 ∈ LT ∧ (M'.1.cls ≠ "java/lang/invoke/MethodHandle" ∧ M'.1.cls ≠ "java/lang/invoke/VarHandle" ∧ (parseMethodDescriptor M'.1.desc).map (fun d => d.parameters.length) = some na) ∧ ((rmM M').frames + 1 ≤ (rmM M).frames ∧ 8 + (M'.2.2.1 + 11) + (rmM M').locals ≤ (rmM M).locals)
def CkN (M : MM) (idx : Nat) (M' : MM) (na : Nat) : Prop := (∃ host, Cond.methodLinkNest M.1.cls idx M'.1 host ∈ NW) ∧ Cond.static M'.1 ∈ LT ∧ Cond.initialized M'.1.cls ∈ LT ∧ Cond.code M'.1 M'.2.1 M'.2.2.1 M'.2.2.2.1 ∈ LT ∧ (M'.1.cls ≠ "java/lang/invoke/MethodHandle" ∧ M'.1.cls ≠ "java/lang/invoke/VarHandle" ∧ (parseMethodDescriptor M'.1.desc).map (fun d => d.parameters.length) = some na) ∧ ((rmM M').frames + 1 ≤ (rmM M).frames ∧ 8 + (M'.2.2.1 + 11) + (rmM M').locals ≤ (rmM M).locals)
def CkV (M : MM) (idx : Nat) (M' : MM) (na : Nat) : Prop := Cond.methodLink M.1.cls idx M'.1 ∈ LT ∧ Cond.instanceMethod M'.1 ∈ LT ∧ Cond.selects M'.1.cls M'.1 M'.1 ∈ LT ∧ Cond.initialized M'.1.cls ∈ LT ∧ Cond.code M'.1 M'.2.1 M'.2.2.1 M'.2.2.2.1 ∈ LT ∧ (M'.1.cls ≠ "java/lang/invoke/MethodHandle" ∧ M'.1.cls ≠ "java/lang/invoke/VarHandle" ∧ (parseMethodDescriptor M'.1.desc).map (fun d => d.parameters.length) = some na) ∧ ((rmM M').frames + 1 ≤ (rmM M).frames ∧ 8 + (M'.2.2.1 + 11) + (rmM M').locals ≤ (rmM M).locals)
theorem g_callS {idx : Nat} (hd : Dc M pc (.invokestatic idx) 3 n) (hk : CkS M idx M' as.length) (hr : Res l g M' as w Q') (hcat : (rest.map fun v => v.category).sum ≤ 8) (hst : st = as.reverse ++ rest) (k : ∀ r w', Q' r w' → Go l g M n lv (r.toList ++ rest) w' Q) : Go l g M pc lv st w Q := by
  obtain ⟨hd, rfl⟩ := hd
  obtain ⟨k1, k2, k3, k4, k5, k6⟩ := hk
  refine callGo (M := M) (as := as) (rest := rest) (Q' := Q') (fun p e s m args below meth c H locs ls F hP hS hlv => ?_) k
  exact va_runS (As := as) (rest := rest) (n := as.length) (bytes := M'.2.1) (maxL := M'.2.2.1) (ret := M'.2.2.2.1) ⟨F.1, F.2.1, F.2.2.1, F.2.2.2.2.2.1, F.2.2.2.2.2.2.1⟩ hr ⟨callB_of as.length F.2.2.2.2.2.2.1 (good_cons k4) rfl rfl rfl (F.2.2.2.2.2.2.1 _ k3) (F.2.2.2.2.2.2.1 _ k1) k5 k6, F.2.2.2.2.2.2.1 _ k2⟩ ⟨blind_of, pre_of F hP hS⟩ rfl rfl hlv.1 hst (lv_room hcat) hd ⟨Nat.le_refl _, Nat.le_refl _⟩
theorem g_callN {idx : Nat} (hd : Dc M pc (.invokestatic idx) 3 n) (hk : CkN M idx M' as.length) (hr : Res l g M' as w Q') (hcat : (rest.map fun v => v.category).sum ≤ 8) (hst : st = as.reverse ++ rest) (k : ∀ r w', Q' r w' → Go l g M n lv (r.toList ++ rest) w' Q) : Go l g M pc lv st w Q := by
  obtain ⟨hd, rfl⟩ := hd
  obtain ⟨⟨host, k1⟩, k2, k3, k4, k5, k6⟩ := hk
  refine callGo (M := M) (as := as) (rest := rest) (Q' := Q') (fun p e s m args below meth c H locs ls F hP hS hlv => ?_) k
  exact va_runSN (As := as) (rest := rest) (n := as.length) (bytes := M'.2.1) (maxL := M'.2.2.1) (ret := M'.2.2.2.1) ⟨F.1, F.2.1, F.2.2.1, F.2.2.2.2.2.1, F.2.2.2.2.2.2.1⟩ hr ⟨va_cnB as.length F.2.2.2.2.2.2.1 (good_cons k4) rfl rfl rfl (F.2.2.2.2.2.2.2.1.2.2.1 _ k1) (F.2.2.2.2.2.2.1 _ k3) k5 k6, F.2.2.2.2.2.2.1 _ k2, trivial⟩ ⟨blind_of, pre_of F hP hS⟩ rfl rfl hlv.1 hst (lv_room hcat) hd ⟨Nat.le_refl _, Nat.le_refl _⟩
/-- a call on an object of the world -/
theorem g_callV {idx b ci : Nat} (hd : Dc M pc (.invokevirtual idx) 3 n) (hk : CkV M idx M' as.length) (ho : objC b = some ci) (hc : (cls[ci]?).map (fun q => q.1) = some M'.1.cls) (hr : Res l g M' (.ref (g.1 b) :: as) w Q') (hcat : (rest.map fun v => v.category).sum ≤ 8) (hst : st = as.reverse ++ .ref (g.1 b) :: rest) (k : ∀ r w', Q' r w' → Go l g M n lv (r.toList ++ rest) w' Q) : Go l g M pc lv st w Q := by
  obtain ⟨hd, rfl⟩ := hd
  obtain ⟨k1, k2, k7, k3, k4, k5, k6⟩ := hk
  refine callGo (M := M) (as := .ref (g.1 b) :: as) (rest := rest) (Q' := Q') (fun p e s m args below meth c H locs ls F hP hS hlv => ?_) k
  have hrecv : ∃ cellB : Cell, H[g.1 b]? = some cellB ∧ cellB.vm.isStatics = false ∧ s.vm.findClass M'.1.cls = some cellB.cls := by
    cases hq : cls[ci]? with
    | none => rw [hq] at hc; cases hc
    | some q =>
      rw [hq] at hc
      have hc2 : q.1 = M'.1.cls := Option.some.inj hc
      obtain ⟨cell, h1, h2, h3⟩ := va_recv F.2.2.2.2.2.2.2.1.1 hP hq (by rw [wsW_at g w (objC_lt ho), cellOf_obj g w ho])
      exact ⟨cell, h1, h2, by rw [← hc2]; exact h3⟩
  exact va_runV (As := as) (rest := rest) (n := as.length) (b := g.1 b) (C := M'.1.cls) (bytes := M'.2.1) (maxL := M'.2.2.1) (ret := M'.2.2.2.1) ⟨F.1, F.2.1, F.2.2.1, F.2.2.2.2.2.1, F.2.2.2.2.2.2.1⟩ hr ⟨callB_of as.length F.2.2.2.2.2.2.1 (good_cons k4) rfl rfl rfl (F.2.2.2.2.2.2.1 _ k3) (F.2.2.2.2.2.2.1 _ k1) k5 k6, F.2.2.2.2.2.2.1 _ k2, F.2.2.2.2.2.2.1 _ k7⟩ ⟨blind_of, hrecv, pre_of F hP hS⟩ rfl rfl hlv.1 hst (lv_room hcat) hd ⟨Nat.le_refl _, Nat.le_refl _⟩
/-- a call on a String constant -/
theorem g_callT {idx i : Nat} (hd : Dc M pc (.invokevirtual idx) 3 n) (hk : CkV M idx M' as.length) (hi : i < 14) (hc : M'.1.cls = "java/lang/String") (hr : Res l g M' (.ref (g.2.2.2.1 i) :: as) w Q') (hcat : (rest.map fun v => v.category).sum ≤ 8) (hst : st = as.reverse ++ .ref (g.2.2.2.1 i) :: rest) (k : ∀ r w', Q' r w' → Go l g M n lv (r.toList ++ rest) w' Q) : Go l g M pc lv st w Q := by
  obtain ⟨hd, rfl⟩ := hd
  obtain ⟨k1, k2, k7, k3, k4, k5, k6⟩ := hk
  refine callGo (M := M) (as := .ref (g.2.2.2.1 i) :: as) (rest := rest) (Q' := Q') (fun p e s m args below meth c H locs ls F hP hS hlv => ?_) k
  have hrecv : ∃ cellB : Cell, H[g.2.2.2.1 i]? = some cellB ∧ cellB.vm.isStatics = false ∧ s.vm.findClass M'.1.cls = some cellB.cls := by
    obtain ⟨cell, h1, h2, h3, -⟩ := (F.2.2.2.2.2.2.2.2.1 i hi).1.kept hS.2.1
    exact ⟨cell, h1, h2, by rw [hc]; exact h3⟩
  exact va_runV (As := as) (rest := rest) (n := as.length) (b := g.2.2.2.1 i) (C := M'.1.cls) (bytes := M'.2.1) (maxL := M'.2.2.1) (ret := M'.2.2.2.1) ⟨F.1, F.2.1, F.2.2.1, F.2.2.2.2.2.1, F.2.2.2.2.2.2.1⟩ hr ⟨callB_of as.length F.2.2.2.2.2.2.1 (good_cons k4) rfl rfl rfl (F.2.2.2.2.2.2.1 _ k3) (F.2.2.2.2.2.2.1 _ k1) k5 k6, F.2.2.2.2.2.2.1 _ k2, F.2.2.2.2.2.2.1 _ k7⟩ ⟨blind_of, hrecv, pre_of F hP hS⟩ rfl rfl hlv.1 hst (lv_room hcat) hd ⟨Nat.le_refl _, Nat.le_refl _⟩
/-- System.arraycopy between int arrays of the world -/
theorem g_acopy {idx k0 k1 N0 N1 sp dp len : Nat} (hd : Dc M pc (.invokestatic idx) 3 n) (hl : Cond.methodLink M.1.cls idx arraycopyName ∈ LT) (hnat : Cond.native arraycopyName ∈ LT) (hst2 : Cond.static arraycopyName ∈ LT) (hini : Cond.initialized "java/lang/System" ∈ LT) (ha0 : arrN k0 = some N0) (ha1 : arrN k1 = some N1) (h0 : sp + len ≤ N0) (h1 : dp + len ≤ N1) (hN0 : N0 < 2 ^ 31) (hN1 : N1 < 2 ^ 31) (hfr : 1 ≤ (rmM M).frames) (hlo : (st.map fun v => v.category).sum + (nativeFrameWords "java/lang/System" "arraycopy" 5 + 11) ≤ (rmM M).locals)
    (kk : Go l g M n lv st (upR w k1 (va_cpy (w k0) (w k1) sp dp len)) Q) : Go l g M pc lv (.int (nI len) :: .int (nI dp) :: .ref (g.1 k1) :: .int (nI sp) :: .ref (g.1 k0) :: st) w Q := by
  obtain ⟨hd, rfl⟩ := hd
  intro p e s m args below meth c H locs ls F hP hS hlv
  have c1 : (nI sp).toNatClampNeg = sp := nI_clamp (by omega)
  have c2 : (nI dp).toNatClampNeg = dp := nI_clamp (by omega)
  have c3 : (nI len).toNatClampNeg = len := nI_clamp (by omega)
  refine va_copyi (ty := .int) F.1 F.2.1 (by rw [F.2.2.1]; exact hlv.1.symm) F.2.2.2.2.2.1 (F.2.2.2.2.2.2.1 _ hl) (F.2.2.2.2.2.2.1 _ hnat) (F.2.2.2.2.2.2.1 _ hst2) (F.2.2.2.2.2.2.1 _ hini) F.2.2.2.2.2.2.2.1.1 hP (F.2.2.2.2.2.2.2.1.D w) hS k0 k1 0 0 (by rw [wsW_at g w (arrN_lt ha0), cellOf_arr g w ha0]) (by rw [wsW_at g w (arrN_lt ha1), cellOf_arr g w ha1]) rfl rfl rfl (nI_pos (by omega)) (nI_pos (by omega)) (nI_pos (by omega)) (by rw [c1, c3]; exact h0) (by rw [c2, c3]; exact h1) (fun i _ => rfl) hfr hlo hd (fun H1 locs1 hP1 hD1 hS1 => ?_)
  rw [c1, c2, c3, wsW_set (w1 := upR w k1 (va_cpy (w k0) (w k1) sp dp len)) (arrN_lt ha1) (by rw [cellOf_arr g _ ha1, upR_same]) (fun k' hk' => upR_other w k1 _ hk')] at hP1
  exact kk p e s m args below meth c H1 locs1 ls F hP1 hS1 hlv
end CROWS
end
section
section AROWS
variable {l : Launch} {g : GG} {M M' : MM} {pc n idx : Nat} {lv : List (Option Value)} {rest : List Value} {w w' : Wd} {Q Q' : Option Value → Wd → Prop} {v : Value}
theorem gS1 {x1 : Value} (hd : Dc M pc (.invokestatic idx) 3 n) (hk : CkS M idx M' 1) (hr : Res l g M' [x1] w (Is (some v) w')) (hcat : (rest.map fun v => v.category).sum ≤ 8) (k : Go l g M n lv (v :: rest) w' Q) : Go l g M pc lv (x1 :: rest) w Q :=
  g_callS (as := [x1]) (rest := rest) hd hk hr hcat rfl (fun r w1 h => by obtain ⟨rfl, rfl⟩ := h; exact k)
theorem gS1v {x1 : Value} (hd : Dc M pc (.invokestatic idx) 3 n) (hk : CkS M idx M' 1) (hr : Res l g M' [x1] w (Is none w')) (hcat : (rest.map fun v => v.category).sum ≤ 8) (k : Go l g M n lv rest w' Q) : Go l g M pc lv (x1 :: rest) w Q :=
  g_callS (as := [x1]) (rest := rest) hd hk hr hcat rfl (fun r w1 h => by obtain ⟨rfl, rfl⟩ := h; exact k)
theorem gS1q {x1 : Value} (hd : Dc M pc (.invokestatic idx) 3 n) (hk : CkS M idx M' 1) (hr : Res l g M' [x1] w Q') (hcat : (rest.map fun v => v.category).sum ≤ 8) (k : ∀ r w', Q' r w' → Go l g M n lv (r.toList ++ rest) w' Q) : Go l g M pc lv (x1 :: rest) w Q :=
  g_callS (as := [x1]) (rest := rest) hd hk hr hcat rfl k
theorem gS2 {x1 x2 : Value} (hd : Dc M pc (.invokestatic idx) 3 n) (hk : CkS M idx M' 2) (hr : Res l g M' [x1, x2] w (Is (some v) w')) (hcat : (rest.map fun v => v.category).sum ≤ 8) (k : Go l g M n lv (v :: rest) w' Q) : Go l g M pc lv (x2 :: x1 :: rest) w Q :=
  g_callS (as := [x1, x2]) (rest := rest) hd hk hr hcat rfl (fun r w1 h => by obtain ⟨rfl, rfl⟩ := h; exact k)
theorem gS2v {x1 x2 : Value} (hd : Dc M pc (.invokestatic idx) 3 n) (hk : CkS M idx M' 2) (hr : Res l g M' [x1, x2] w (Is none w')) (hcat : (rest.map fun v => v.category).sum ≤ 8) (k : Go l g M n lv rest w' Q) : Go l g M pc lv (x2 :: x1 :: rest) w Q :=
  g_callS (as := [x1, x2]) (rest := rest) hd hk hr hcat rfl (fun r w1 h => by obtain ⟨rfl, rfl⟩ := h; exact k)
theorem gS2q {x1 x2 : Value} (hd : Dc M pc (.invokestatic idx) 3 n) (hk : CkS M idx M' 2) (hr : Res l g M' [x1, x2] w Q') (hcat : (rest.map fun v => v.category).sum ≤ 8) (k : ∀ r w', Q' r w' → Go l g M n lv (r.toList ++ rest) w' Q) : Go l g M pc lv (x2 :: x1 :: rest) w Q :=
  g_callS (as := [x1, x2]) (rest := rest) hd hk hr hcat rfl k
theorem gS3 {x1 x2 x3 : Value} (hd : Dc M pc (.invokestatic idx) 3 n) (hk : CkS M idx M' 3) (hr : Res l g M' [x1, x2, x3] w (Is (some v) w')) (hcat : (rest.map fun v => v.category).sum ≤ 8) (k : Go l g M n lv (v :: rest) w' Q) : Go l g M pc lv (x3 :: x2 :: x1 :: rest) w Q :=
  g_callS (as := [x1, x2, x3]) (rest := rest) hd hk hr hcat rfl (fun r w1 h => by obtain ⟨rfl, rfl⟩ := h; exact k)
theorem gS3v {x1 x2 x3 : Value} (hd : Dc M pc (.invokestatic idx) 3 n) (hk : CkS M idx M' 3) (hr : Res l g M' [x1, x2, x3] w (Is none w')) (hcat : (rest.map fun v => v.category).sum ≤ 8) (k : Go l g M n lv rest w' Q) : Go l g M pc lv (x3 :: x2 :: x1 :: rest) w Q :=
  g_callS (as := [x1, x2, x3]) (rest := rest) hd hk hr hcat rfl (fun r w1 h => by obtain ⟨rfl, rfl⟩ := h; exact k)
theorem gS3q {x1 x2 x3 : Value} (hd : Dc M pc (.invokestatic idx) 3 n) (hk : CkS M idx M' 3) (hr : Res l g M' [x1, x2, x3] w Q') (hcat : (rest.map fun v => v.category).sum ≤ 8) (k : ∀ r w', Q' r w' → Go l g M n lv (r.toList ++ rest) w' Q) : Go l g M pc lv (x3 :: x2 :: x1 :: rest) w Q :=
  g_callS (as := [x1, x2, x3]) (rest := rest) hd hk hr hcat rfl k
theorem gS4 {x1 x2 x3 x4 : Value} (hd : Dc M pc (.invokestatic idx) 3 n) (hk : CkS M idx M' 4) (hr : Res l g M' [x1, x2, x3, x4] w (Is (some v) w')) (hcat : (rest.map fun v => v.category).sum ≤ 8) (k : Go l g M n lv (v :: rest) w' Q) : Go l g M pc lv (x4 :: x3 :: x2 :: x1 :: rest) w Q :=
  g_callS (as := [x1, x2, x3, x4]) (rest := rest) hd hk hr hcat rfl (fun r w1 h => by obtain ⟨rfl, rfl⟩ := h; exact k)
theorem gS4v {x1 x2 x3 x4 : Value} (hd : Dc M pc (.invokestatic idx) 3 n) (hk : CkS M idx M' 4) (hr : Res l g M' [x1, x2, x3, x4] w (Is none w')) (hcat : (rest.map fun v => v.category).sum ≤ 8) (k : Go l g M n lv rest w' Q) : Go l g M pc lv (x4 :: x3 :: x2 :: x1 :: rest) w Q :=
  g_callS (as := [x1, x2, x3, x4]) (rest := rest) hd hk hr hcat rfl (fun r w1 h => by obtain ⟨rfl, rfl⟩ := h; exact k)
theorem gS4q {x1 x2 x3 x4 : Value} (hd : Dc M pc (.invokestatic idx) 3 n) (hk : CkS M idx M' 4) (hr : Res l g M' [x1, x2, x3, x4] w Q') (hcat : (rest.map fun v => v.category).sum ≤ 8) (k : ∀ r w', Q' r w' → Go l g M n lv (r.toList ++ rest) w' Q) : Go l g M pc lv (x4 :: x3 :: x2 :: x1 :: rest) w Q :=
  g_callS (as := [x1, x2, x3, x4]) (rest := rest) hd hk hr hcat rfl k
theorem gS5 {x1 x2 x3 x4 x5 : Value} (hd : Dc M pc (.invokestatic idx) 3 n) (hk : CkS M idx M' 5) (hr : Res l g M' [x1, x2, x3, x4, x5] w (Is (some v) w')) (hcat : (rest.map fun v => v.category).sum ≤ 8) (k : Go l g M n lv (v :: rest) w' Q) : Go l g M pc lv (x5 :: x4 :: x3 :: x2 :: x1 :: rest) w Q :=
  g_callS (as := [x1, x2, x3, x4, x5]) (rest := rest) hd hk hr hcat rfl (fun r w1 h => by obtain ⟨rfl, rfl⟩ := h; exact k)
theorem gS5v {x1 x2 x3 x4 x5 : Value} (hd : Dc M pc (.invokestatic idx) 3 n) (hk : CkS M idx M' 5) (hr : Res l g M' [x1, x2, x3, x4, x5] w (Is none w')) (hcat : (rest.map fun v => v.category).sum ≤ 8) (k : Go l g M n lv rest w' Q) : Go l g M pc lv (x5 :: x4 :: x3 :: x2 :: x1 :: rest) w Q :=
  g_callS (as := [x1, x2, x3, x4, x5]) (rest := rest) hd hk hr hcat rfl (fun r w1 h => by obtain ⟨rfl, rfl⟩ := h; exact k)
theorem gS5q {x1 x2 x3 x4 x5 : Value} (hd : Dc M pc (.invokestatic idx) 3 n) (hk : CkS M idx M' 5) (hr : Res l g M' [x1, x2, x3, x4, x5] w Q') (hcat : (rest.map fun v => v.category).sum ≤ 8) (k : ∀ r w', Q' r w' → Go l g M n lv (r.toList ++ rest) w' Q) : Go l g M pc lv (x5 :: x4 :: x3 :: x2 :: x1 :: rest) w Q :=
  g_callS (as := [x1, x2, x3, x4, x5]) (rest := rest) hd hk hr hcat rfl k
theorem gN1 {x1 : Value} (hd : Dc M pc (.invokestatic idx) 3 n) (hk : CkN M idx M' 1) (hr : Res l g M' [x1] w (Is (some v) w')) (hcat : (rest.map fun v => v.category).sum ≤ 8) (k : Go l g M n lv (v :: rest) w' Q) : Go l g M pc lv (x1 :: rest) w Q :=
  g_callN (as := [x1]) (rest := rest) hd hk hr hcat rfl (fun r w1 h => by obtain ⟨rfl, rfl⟩ := h; exact k)
theorem gN1v {x1 : Value} (hd : Dc M pc (.invokestatic idx) 3 n) (hk : CkN M idx M' 1) (hr : Res l g M' [x1] w (Is none w')) (hcat : (rest.map fun v => v.category).sum ≤ 8) (k : Go l g M n lv rest w' Q) : Go l g M pc lv (x1 :: rest) w Q :=
  g_callN (as := [x1]) (rest := rest) hd hk hr hcat rfl (fun r w1 h => by obtain ⟨rfl, rfl⟩ := h; exact k)
theorem gN1q {x1 : Value} (hd : Dc M pc (.invokestatic idx) 3 n) (hk : CkN M idx M' 1) (hr : Res l g M' [x1] w Q') (hcat : (rest.map fun v => v.category).sum ≤ 8) (k : ∀ r w', Q' r w' → Go l g M n lv (r.toList ++ rest) w' Q) : Go l g M pc lv (x1 :: rest) w Q :=
  g_callN (as := [x1]) (rest := rest) hd hk hr hcat rfl k
theorem gN2 {x1 x2 : Value} (hd : Dc M pc (.invokestatic idx) 3 n) (hk : CkN M idx M' 2) (hr : Res l g M' [x1, x2] w (Is (some v) w')) (hcat : (rest.map fun v => v.category).sum ≤ 8) (k : Go l g M n lv (v :: rest) w' Q) : Go l g M pc lv (x2 :: x1 :: rest) w Q :=
  g_callN (as := [x1, x2]) (rest := rest) hd hk hr hcat rfl (fun r w1 h => by obtain ⟨rfl, rfl⟩ := h; exact k)
theorem gN2v {x1 x2 : Value} (hd : Dc M pc (.invokestatic idx) 3 n) (hk : CkN M idx M' 2) (hr : Res l g M' [x1, x2] w (Is none w')) (hcat : (rest.map fun v => v.category).sum ≤ 8) (k : Go l g M n lv rest w' Q) : Go l g M pc lv (x2 :: x1 :: rest) w Q :=
  g_callN (as := [x1, x2]) (rest := rest) hd hk hr hcat rfl (fun r w1 h => by obtain ⟨rfl, rfl⟩ := h; exact k)
theorem gN2q {x1 x2 : Value} (hd : Dc M pc (.invokestatic idx) 3 n) (hk : CkN M idx M' 2) (hr : Res l g M' [x1, x2] w Q') (hcat : (rest.map fun v => v.category).sum ≤ 8) (k : ∀ r w', Q' r w' → Go l g M n lv (r.toList ++ rest) w' Q) : Go l g M pc lv (x2 :: x1 :: rest) w Q :=
  g_callN (as := [x1, x2]) (rest := rest) hd hk hr hcat rfl k
theorem gN3 {x1 x2 x3 : Value} (hd : Dc M pc (.invokestatic idx) 3 n) (hk : CkN M idx M' 3) (hr : Res l g M' [x1, x2, x3] w (Is (some v) w')) (hcat : (rest.map fun v => v.category).sum ≤ 8) (k : Go l g M n lv (v :: rest) w' Q) : Go l g M pc lv (x3 :: x2 :: x1 :: rest) w Q :=
  g_callN (as := [x1, x2, x3]) (rest := rest) hd hk hr hcat rfl (fun r w1 h => by obtain ⟨rfl, rfl⟩ := h; exact k)
theorem gN3v {x1 x2 x3 : Value} (hd : Dc M pc (.invokestatic idx) 3 n) (hk : CkN M idx M' 3) (hr : Res l g M' [x1, x2, x3] w (Is none w')) (hcat : (rest.map fun v => v.category).sum ≤ 8) (k : Go l g M n lv rest w' Q) : Go l g M pc lv (x3 :: x2 :: x1 :: rest) w Q :=
  g_callN (as := [x1, x2, x3]) (rest := rest) hd hk hr hcat rfl (fun r w1 h => by obtain ⟨rfl, rfl⟩ := h; exact k)
theorem gN3q {x1 x2 x3 : Value} (hd : Dc M pc (.invokestatic idx) 3 n) (hk : CkN M idx M' 3) (hr : Res l g M' [x1, x2, x3] w Q') (hcat : (rest.map fun v => v.category).sum ≤ 8) (k : ∀ r w', Q' r w' → Go l g M n lv (r.toList ++ rest) w' Q) : Go l g M pc lv (x3 :: x2 :: x1 :: rest) w Q :=
  g_callN (as := [x1, x2, x3]) (rest := rest) hd hk hr hcat rfl k
theorem gN4 {x1 x2 x3 x4 : Value} (hd : Dc M pc (.invokestatic idx) 3 n) (hk : CkN M idx M' 4) (hr : Res l g M' [x1, x2, x3, x4] w (Is (some v) w')) (hcat : (rest.map fun v => v.category).sum ≤ 8) (k : Go l g M n lv (v :: rest) w' Q) : Go l g M pc lv (x4 :: x3 :: x2 :: x1 :: rest) w Q :=
  g_callN (as := [x1, x2, x3, x4]) (rest := rest) hd hk hr hcat rfl (fun r w1 h => by obtain ⟨rfl, rfl⟩ := h; exact k)
theorem gN4v {x1 x2 x3 x4 : Value} (hd : Dc M pc (.invokestatic idx) 3 n) (hk : CkN M idx M' 4) (hr : Res l g M' [x1, x2, x3, x4] w (Is none w')) (hcat : (rest.map fun v => v.category).sum ≤ 8) (k : Go l g M n lv rest w' Q) : Go l g M pc lv (x4 :: x3 :: x2 :: x1 :: rest) w Q :=
  g_callN (as := [x1, x2, x3, x4]) (rest := rest) hd hk hr hcat rfl (fun r w1 h => by obtain ⟨rfl, rfl⟩ := h; exact k)
theorem gN4q {x1 x2 x3 x4 : Value} (hd : Dc M pc (.invokestatic idx) 3 n) (hk : CkN M idx M' 4) (hr : Res l g M' [x1, x2, x3, x4] w Q') (hcat : (rest.map fun v => v.category).sum ≤ 8) (k : ∀ r w', Q' r w' → Go l g M n lv (r.toList ++ rest) w' Q) : Go l g M pc lv (x4 :: x3 :: x2 :: x1 :: rest) w Q :=
  g_callN (as := [x1, x2, x3, x4]) (rest := rest) hd hk hr hcat rfl k
theorem gN5 {x1 x2 x3 x4 x5 : Value} (hd : Dc M pc (.invokestatic idx) 3 n) (hk : CkN M idx M' 5) (hr : Res l g M' [x1, x2, x3, x4, x5] w (Is (some v) w')) (hcat : (rest.map fun v => v.category).sum ≤ 8) (k : Go l g M n lv (v :: rest) w' Q) : Go l g M pc lv (x5 :: x4 :: x3 :: x2 :: x1 :: rest) w Q :=
  g_callN (as := [x1, x2, x3, x4, x5]) (rest := rest) hd hk hr hcat rfl (fun r w1 h => by obtain ⟨rfl, rfl⟩ := h; exact k)
theorem gN5v {x1 x2 x3 x4 x5 : Value} (hd : Dc M pc (.invokestatic idx) 3 n) (hk : CkN M idx M' 5) (hr : Res l g M' [x1, x2, x3, x4, x5] w (Is none w')) (hcat : (rest.map fun v => v.category).sum ≤ 8) (k : Go l g M n lv rest w' Q) : Go l g M pc lv (x5 :: x4 :: x3 :: x2 :: x1 :: rest) w Q :=
  g_callN (as := [x1, x2, x3, x4, x5]) (rest := rest) hd hk hr hcat rfl (fun r w1 h => by obtain ⟨rfl, rfl⟩ := h; exact k)
theorem gN5q {x1 x2 x3 x4 x5 : Value} (hd : Dc M pc (.invokestatic idx) 3 n) (hk : CkN M idx M' 5) (hr : Res l g M' [x1, x2, x3, x4, x5] w Q') (hcat : (rest.map fun v => v.category).sum ≤ 8) (k : ∀ r w', Q' r w' → Go l g M n lv (r.toList ++ rest) w' Q) : Go l g M pc lv (x5 :: x4 :: x3 :: x2 :: x1 :: rest) w Q :=
  g_callN (as := [x1, x2, x3, x4, x5]) (rest := rest) hd hk hr hcat rfl k
theorem gV0 {b ci : Nat} (hd : Dc M pc (.invokevirtual idx) 3 n) (hk : CkV M idx M' 0) (ho : objC b = some ci) (hc : (cls[ci]?).map (fun q => q.1) = some M'.1.cls) (hr : Res l g M' [.ref (g.1 b)] w (Is (some v) w')) (hcat : (rest.map fun v => v.category).sum ≤ 8) (k : Go l g M n lv (v :: rest) w' Q) : Go l g M pc lv (.ref (g.1 b) :: rest) w Q :=
  g_callV (as := []) (rest := rest) hd hk ho hc hr hcat rfl (fun r w1 h => by obtain ⟨rfl, rfl⟩ := h; exact k)
theorem gV0v {b ci : Nat} (hd : Dc M pc (.invokevirtual idx) 3 n) (hk : CkV M idx M' 0) (ho : objC b = some ci) (hc : (cls[ci]?).map (fun q => q.1) = some M'.1.cls) (hr : Res l g M' [.ref (g.1 b)] w (Is none w')) (hcat : (rest.map fun v => v.category).sum ≤ 8) (k : Go l g M n lv rest w' Q) : Go l g M pc lv (.ref (g.1 b) :: rest) w Q :=
  g_callV (as := []) (rest := rest) hd hk ho hc hr hcat rfl (fun r w1 h => by obtain ⟨rfl, rfl⟩ := h; exact k)
theorem gV0q {b ci : Nat} (hd : Dc M pc (.invokevirtual idx) 3 n) (hk : CkV M idx M' 0) (ho : objC b = some ci) (hc : (cls[ci]?).map (fun q => q.1) = some M'.1.cls) (hr : Res l g M' [.ref (g.1 b)] w Q') (hcat : (rest.map fun v => v.category).sum ≤ 8) (k : ∀ r w', Q' r w' → Go l g M n lv (r.toList ++ rest) w' Q) : Go l g M pc lv (.ref (g.1 b) :: rest) w Q :=
  g_callV (as := []) (rest := rest) hd hk ho hc hr hcat rfl k
theorem gV1 {b ci : Nat} {x1 : Value} (hd : Dc M pc (.invokevirtual idx) 3 n) (hk : CkV M idx M' 1) (ho : objC b = some ci) (hc : (cls[ci]?).map (fun q => q.1) = some M'.1.cls) (hr : Res l g M' [.ref (g.1 b), x1] w (Is (some v) w')) (hcat : (rest.map fun v => v.category).sum ≤ 8) (k : Go l g M n lv (v :: rest) w' Q) : Go l g M pc lv (x1 :: .ref (g.1 b) :: rest) w Q :=
  g_callV (as := [x1]) (rest := rest) hd hk ho hc hr hcat rfl (fun r w1 h => by obtain ⟨rfl, rfl⟩ := h; exact k)
theorem gV1v {b ci : Nat} {x1 : Value} (hd : Dc M pc (.invokevirtual idx) 3 n) (hk : CkV M idx M' 1) (ho : objC b = some ci) (hc : (cls[ci]?).map (fun q => q.1) = some M'.1.cls) (hr : Res l g M' [.ref (g.1 b), x1] w (Is none w')) (hcat : (rest.map fun v => v.category).sum ≤ 8) (k : Go l g M n lv rest w' Q) : Go l g M pc lv (x1 :: .ref (g.1 b) :: rest) w Q :=
  g_callV (as := [x1]) (rest := rest) hd hk ho hc hr hcat rfl (fun r w1 h => by obtain ⟨rfl, rfl⟩ := h; exact k)
theorem gV1q {b ci : Nat} {x1 : Value} (hd : Dc M pc (.invokevirtual idx) 3 n) (hk : CkV M idx M' 1) (ho : objC b = some ci) (hc : (cls[ci]?).map (fun q => q.1) = some M'.1.cls) (hr : Res l g M' [.ref (g.1 b), x1] w Q') (hcat : (rest.map fun v => v.category).sum ≤ 8) (k : ∀ r w', Q' r w' → Go l g M n lv (r.toList ++ rest) w' Q) : Go l g M pc lv (x1 :: .ref (g.1 b) :: rest) w Q :=
  g_callV (as := [x1]) (rest := rest) hd hk ho hc hr hcat rfl k
theorem gV2 {b ci : Nat} {x1 x2 : Value} (hd : Dc M pc (.invokevirtual idx) 3 n) (hk : CkV M idx M' 2) (ho : objC b = some ci) (hc : (cls[ci]?).map (fun q => q.1) = some M'.1.cls) (hr : Res l g M' [.ref (g.1 b), x1, x2] w (Is (some v) w')) (hcat : (rest.map fun v => v.category).sum ≤ 8) (k : Go l g M n lv (v :: rest) w' Q) : Go l g M pc lv (x2 :: x1 :: .ref (g.1 b) :: rest) w Q :=
  g_callV (as := [x1, x2]) (rest := rest) hd hk ho hc hr hcat rfl (fun r w1 h => by obtain ⟨rfl, rfl⟩ := h; exact k)
theorem gV2v {b ci : Nat} {x1 x2 : Value} (hd : Dc M pc (.invokevirtual idx) 3 n) (hk : CkV M idx M' 2) (ho : objC b = some ci) (hc : (cls[ci]?).map (fun q => q.1) = some M'.1.cls) (hr : Res l g M' [.ref (g.1 b), x1, x2] w (Is none w')) (hcat : (rest.map fun v => v.category).sum ≤ 8) (k : Go l g M n lv rest w' Q) : Go l g M pc lv (x2 :: x1 :: .ref (g.1 b) :: rest) w Q :=
  g_callV (as := [x1, x2]) (rest := rest) hd hk ho hc hr hcat rfl (fun r w1 h => by obtain ⟨rfl, rfl⟩ := h; exact k)
theorem gV2q {b ci : Nat} {x1 x2 : Value} (hd : Dc M pc (.invokevirtual idx) 3 n) (hk : CkV M idx M' 2) (ho : objC b = some ci) (hc : (cls[ci]?).map (fun q => q.1) = some M'.1.cls) (hr : Res l g M' [.ref (g.1 b), x1, x2] w Q') (hcat : (rest.map fun v => v.category).sum ≤ 8) (k : ∀ r w', Q' r w' → Go l g M n lv (r.toList ++ rest) w' Q) : Go l g M pc lv (x2 :: x1 :: .ref (g.1 b) :: rest) w Q :=
  g_callV (as := [x1, x2]) (rest := rest) hd hk ho hc hr hcat rfl k
theorem gV3 {b ci : Nat} {x1 x2 x3 : Value} (hd : Dc M pc (.invokevirtual idx) 3 n) (hk : CkV M idx M' 3) (ho : objC b = some ci) (hc : (cls[ci]?).map (fun q => q.1) = some M'.1.cls) (hr : Res l g M' [.ref (g.1 b), x1, x2, x3] w (Is (some v) w')) (hcat : (rest.map fun v => v.category).sum ≤ 8) (k : Go l g M n lv (v :: rest) w' Q) : Go l g M pc lv (x3 :: x2 :: x1 :: .ref (g.1 b) :: rest) w Q :=
  g_callV (as := [x1, x2, x3]) (rest := rest) hd hk ho hc hr hcat rfl (fun r w1 h => by obtain ⟨rfl, rfl⟩ := h; exact k)
theorem gV3v {b ci : Nat} {x1 x2 x3 : Value} (hd : Dc M pc (.invokevirtual idx) 3 n) (hk : CkV M idx M' 3) (ho : objC b = some ci) (hc : (cls[ci]?).map (fun q => q.1) = some M'.1.cls) (hr : Res l g M' [.ref (g.1 b), x1, x2, x3] w (Is none w')) (hcat : (rest.map fun v => v.category).sum ≤ 8) (k : Go l g M n lv rest w' Q) : Go l g M pc lv (x3 :: x2 :: x1 :: .ref (g.1 b) :: rest) w Q :=
  g_callV (as := [x1, x2, x3]) (rest := rest) hd hk ho hc hr hcat rfl (fun r w1 h => by obtain ⟨rfl, rfl⟩ := h; exact k)
theorem gV3q {b ci : Nat} {x1 x2 x3 : Value} (hd : Dc M pc (.invokevirtual idx) 3 n) (hk : CkV M idx M' 3) (ho : objC b = some ci) (hc : (cls[ci]?).map (fun q => q.1) = some M'.1.cls) (hr : Res l g M' [.ref (g.1 b), x1, x2, x3] w Q') (hcat : (rest.map fun v => v.category).sum ≤ 8) (k : ∀ r w', Q' r w' → Go l g M n lv (r.toList ++ rest) w' Q) : Go l g M pc lv (x3 :: x2 :: x1 :: .ref (g.1 b) :: rest) w Q :=
  g_callV (as := [x1, x2, x3]) (rest := rest) hd hk ho hc hr hcat rfl k
theorem gV4 {b ci : Nat} {x1 x2 x3 x4 : Value} (hd : Dc M pc (.invokevirtual idx) 3 n) (hk : CkV M idx M' 4) (ho : objC b = some ci) (hc : (cls[ci]?).map (fun q => q.1) = some M'.1.cls) (hr : Res l g M' [.ref (g.1 b), x1, x2, x3, x4] w (Is (some v) w')) (hcat : (rest.map fun v => v.category).sum ≤ 8) (k : Go l g M n lv (v :: rest) w' Q) : Go l g M pc lv (x4 :: x3 :: x2 :: x1 :: .ref (g.1 b) :: rest) w Q :=
  g_callV (as := [x1, x2, x3, x4]) (rest := rest) hd hk ho hc hr hcat rfl (fun r w1 h => by obtain ⟨rfl, rfl⟩ := h; exact k)
theorem gV4v {b ci : Nat} {x1 x2 x3 x4 : Value} (hd : Dc M pc (.invokevirtual idx) 3 n) (hk : CkV M idx M' 4) (ho : objC b = some ci) (hc : (cls[ci]?).map (fun q => q.1) = some M'.1.cls) (hr : Res l g M' [.ref (g.1 b), x1, x2, x3, x4] w (Is none w')) (hcat : (rest.map fun v => v.category).sum ≤ 8) (k : Go l g M n lv rest w' Q) : Go l g M pc lv (x4 :: x3 :: x2 :: x1 :: .ref (g.1 b) :: rest) w Q :=
  g_callV (as := [x1, x2, x3, x4]) (rest := rest) hd hk ho hc hr hcat rfl (fun r w1 h => by obtain ⟨rfl, rfl⟩ := h; exact k)
theorem gV4q {b ci : Nat} {x1 x2 x3 x4 : Value} (hd : Dc M pc (.invokevirtual idx) 3 n) (hk : CkV M idx M' 4) (ho : objC b = some ci) (hc : (cls[ci]?).map (fun q => q.1) = some M'.1.cls) (hr : Res l g M' [.ref (g.1 b), x1, x2, x3, x4] w Q') (hcat : (rest.map fun v => v.category).sum ≤ 8) (k : ∀ r w', Q' r w' → Go l g M n lv (r.toList ++ rest) w' Q) : Go l g M pc lv (x4 :: x3 :: x2 :: x1 :: .ref (g.1 b) :: rest) w Q :=
  g_callV (as := [x1, x2, x3, x4]) (rest := rest) hd hk ho hc hr hcat rfl k
theorem gV5 {b ci : Nat} {x1 x2 x3 x4 x5 : Value} (hd : Dc M pc (.invokevirtual idx) 3 n) (hk : CkV M idx M' 5) (ho : objC b = some ci) (hc : (cls[ci]?).map (fun q => q.1) = some M'.1.cls) (hr : Res l g M' [.ref (g.1 b), x1, x2, x3, x4, x5] w (Is (some v) w')) (hcat : (rest.map fun v => v.category).sum ≤ 8) (k : Go l g M n lv (v :: rest) w' Q) : Go l g M pc lv (x5 :: x4 :: x3 :: x2 :: x1 :: .ref (g.1 b) :: rest) w Q :=
  g_callV (as := [x1, x2, x3, x4, x5]) (rest := rest) hd hk ho hc hr hcat rfl (fun r w1 h => by obtain ⟨rfl, rfl⟩ := h; exact k)
theorem gV5v {b ci : Nat} {x1 x2 x3 x4 x5 : Value} (hd : Dc M pc (.invokevirtual idx) 3 n) (hk : CkV M idx M' 5) (ho : objC b = some ci) (hc : (cls[ci]?).map (fun q => q.1) = some M'.1.cls) (hr : Res l g M' [.ref (g.1 b), x1, x2, x3, x4, x5] w (Is none w')) (hcat : (rest.map fun v => v.category).sum ≤ 8) (k : Go l g M n lv rest w' Q) : Go l g M pc lv (x5 :: x4 :: x3 :: x2 :: x1 :: .ref (g.1 b) :: rest) w Q :=
  g_callV (as := [x1, x2, x3, x4, x5]) (rest := rest) hd hk ho hc hr hcat rfl (fun r w1 h => by obtain ⟨rfl, rfl⟩ := h; exact k)
theorem gV5q {b ci : Nat} {x1 x2 x3 x4 x5 : Value} (hd : Dc M pc (.invokevirtual idx) 3 n) (hk : CkV M idx M' 5) (ho : objC b = some ci) (hc : (cls[ci]?).map (fun q => q.1) = some M'.1.cls) (hr : Res l g M' [.ref (g.1 b), x1, x2, x3, x4, x5] w Q') (hcat : (rest.map fun v => v.category).sum ≤ 8) (k : ∀ r w', Q' r w' → Go l g M n lv (r.toList ++ rest) w' Q) : Go l g M pc lv (x5 :: x4 :: x3 :: x2 :: x1 :: .ref (g.1 b) :: rest) w Q :=
  g_callV (as := [x1, x2, x3, x4, x5]) (rest := rest) hd hk ho hc hr hcat rfl k
theorem gT0 {i : Nat} (hd : Dc M pc (.invokevirtual idx) 3 n) (hk : CkV M idx M' 0) (hi : i < 14) (hc : M'.1.cls = "java/lang/String") (hr : Res l g M' [.ref (g.2.2.2.1 i)] w (Is (some v) w')) (hcat : (rest.map fun v => v.category).sum ≤ 8) (k : Go l g M n lv (v :: rest) w' Q) : Go l g M pc lv (.ref (g.2.2.2.1 i) :: rest) w Q :=
  g_callT (as := []) (rest := rest) hd hk hi hc hr hcat rfl (fun r w1 h => by obtain ⟨rfl, rfl⟩ := h; exact k)
theorem gT0v {i : Nat} (hd : Dc M pc (.invokevirtual idx) 3 n) (hk : CkV M idx M' 0) (hi : i < 14) (hc : M'.1.cls = "java/lang/String") (hr : Res l g M' [.ref (g.2.2.2.1 i)] w (Is none w')) (hcat : (rest.map fun v => v.category).sum ≤ 8) (k : Go l g M n lv rest w' Q) : Go l g M pc lv (.ref (g.2.2.2.1 i) :: rest) w Q :=
  g_callT (as := []) (rest := rest) hd hk hi hc hr hcat rfl (fun r w1 h => by obtain ⟨rfl, rfl⟩ := h; exact k)
theorem gT0q {i : Nat} (hd : Dc M pc (.invokevirtual idx) 3 n) (hk : CkV M idx M' 0) (hi : i < 14) (hc : M'.1.cls = "java/lang/String") (hr : Res l g M' [.ref (g.2.2.2.1 i)] w Q') (hcat : (rest.map fun v => v.category).sum ≤ 8) (k : ∀ r w', Q' r w' → Go l g M n lv (r.toList ++ rest) w' Q) : Go l g M pc lv (.ref (g.2.2.2.1 i) :: rest) w Q :=
  g_callT (as := []) (rest := rest) hd hk hi hc hr hcat rfl k
theorem gT1 {i : Nat} {x1 : Value} (hd : Dc M pc (.invokevirtual idx) 3 n) (hk : CkV M idx M' 1) (hi : i < 14) (hc : M'.1.cls = "java/lang/String") (hr : Res l g M' [.ref (g.2.2.2.1 i), x1] w (Is (some v) w')) (hcat : (rest.map fun v => v.category).sum ≤ 8) (k : Go l g M n lv (v :: rest) w' Q) : Go l g M pc lv (x1 :: .ref (g.2.2.2.1 i) :: rest) w Q :=
  g_callT (as := [x1]) (rest := rest) hd hk hi hc hr hcat rfl (fun r w1 h => by obtain ⟨rfl, rfl⟩ := h; exact k)
theorem gT1v {i : Nat} {x1 : Value} (hd : Dc M pc (.invokevirtual idx) 3 n) (hk : CkV M idx M' 1) (hi : i < 14) (hc : M'.1.cls = "java/lang/String") (hr : Res l g M' [.ref (g.2.2.2.1 i), x1] w (Is none w')) (hcat : (rest.map fun v => v.category).sum ≤ 8) (k : Go l g M n lv rest w' Q) : Go l g M pc lv (x1 :: .ref (g.2.2.2.1 i) :: rest) w Q :=
  g_callT (as := [x1]) (rest := rest) hd hk hi hc hr hcat rfl (fun r w1 h => by obtain ⟨rfl, rfl⟩ := h; exact k)
theorem gT1q {i : Nat} {x1 : Value} (hd : Dc M pc (.invokevirtual idx) 3 n) (hk : CkV M idx M' 1) (hi : i < 14) (hc : M'.1.cls = "java/lang/String") (hr : Res l g M' [.ref (g.2.2.2.1 i), x1] w Q') (hcat : (rest.map fun v => v.category).sum ≤ 8) (k : ∀ r w', Q' r w' → Go l g M n lv (r.toList ++ rest) w' Q) : Go l g M pc lv (x1 :: .ref (g.2.2.2.1 i) :: rest) w Q :=
  g_callT (as := [x1]) (rest := rest) hd hk hi hc hr hcat rfl k
theorem gT2 {i : Nat} {x1 x2 : Value} (hd : Dc M pc (.invokevirtual idx) 3 n) (hk : CkV M idx M' 2) (hi : i < 14) (hc : M'.1.cls = "java/lang/String") (hr : Res l g M' [.ref (g.2.2.2.1 i), x1, x2] w (Is (some v) w')) (hcat : (rest.map fun v => v.category).sum ≤ 8) (k : Go l g M n lv (v :: rest) w' Q) : Go l g M pc lv (x2 :: x1 :: .ref (g.2.2.2.1 i) :: rest) w Q :=
  g_callT (as := [x1, x2]) (rest := rest) hd hk hi hc hr hcat rfl (fun r w1 h => by obtain ⟨rfl, rfl⟩ := h; exact k)
theorem gT2v {i : Nat} {x1 x2 : Value} (hd : Dc M pc (.invokevirtual idx) 3 n) (hk : CkV M idx M' 2) (hi : i < 14) (hc : M'.1.cls = "java/lang/String") (hr : Res l g M' [.ref (g.2.2.2.1 i), x1, x2] w (Is none w')) (hcat : (rest.map fun v => v.category).sum ≤ 8) (k : Go l g M n lv rest w' Q) : Go l g M pc lv (x2 :: x1 :: .ref (g.2.2.2.1 i) :: rest) w Q :=
  g_callT (as := [x1, x2]) (rest := rest) hd hk hi hc hr hcat rfl (fun r w1 h => by obtain ⟨rfl, rfl⟩ := h; exact k)
theorem gT2q {i : Nat} {x1 x2 : Value} (hd : Dc M pc (.invokevirtual idx) 3 n) (hk : CkV M idx M' 2) (hi : i < 14) (hc : M'.1.cls = "java/lang/String") (hr : Res l g M' [.ref (g.2.2.2.1 i), x1, x2] w Q') (hcat : (rest.map fun v => v.category).sum ≤ 8) (k : ∀ r w', Q' r w' → Go l g M n lv (r.toList ++ rest) w' Q) : Go l g M pc lv (x2 :: x1 :: .ref (g.2.2.2.1 i) :: rest) w Q :=
  g_callT (as := [x1, x2]) (rest := rest) hd hk hi hc hr hcat rfl k
theorem gT3 {i : Nat} {x1 x2 x3 : Value} (hd : Dc M pc (.invokevirtual idx) 3 n) (hk : CkV M idx M' 3) (hi : i < 14) (hc : M'.1.cls = "java/lang/String") (hr : Res l g M' [.ref (g.2.2.2.1 i), x1, x2, x3] w (Is (some v) w')) (hcat : (rest.map fun v => v.category).sum ≤ 8) (k : Go l g M n lv (v :: rest) w' Q) : Go l g M pc lv (x3 :: x2 :: x1 :: .ref (g.2.2.2.1 i) :: rest) w Q :=
  g_callT (as := [x1, x2, x3]) (rest := rest) hd hk hi hc hr hcat rfl (fun r w1 h => by obtain ⟨rfl, rfl⟩ := h; exact k)
theorem gT3v {i : Nat} {x1 x2 x3 : Value} (hd : Dc M pc (.invokevirtual idx) 3 n) (hk : CkV M idx M' 3) (hi : i < 14) (hc : M'.1.cls = "java/lang/String") (hr : Res l g M' [.ref (g.2.2.2.1 i), x1, x2, x3] w (Is none w')) (hcat : (rest.map fun v => v.category).sum ≤ 8) (k : Go l g M n lv rest w' Q) : Go l g M pc lv (x3 :: x2 :: x1 :: .ref (g.2.2.2.1 i) :: rest) w Q :=
  g_callT (as := [x1, x2, x3]) (rest := rest) hd hk hi hc hr hcat rfl (fun r w1 h => by obtain ⟨rfl, rfl⟩ := h; exact k)
theorem gT3q {i : Nat} {x1 x2 x3 : Value} (hd : Dc M pc (.invokevirtual idx) 3 n) (hk : CkV M idx M' 3) (hi : i < 14) (hc : M'.1.cls = "java/lang/String") (hr : Res l g M' [.ref (g.2.2.2.1 i), x1, x2, x3] w Q') (hcat : (rest.map fun v => v.category).sum ≤ 8) (k : ∀ r w', Q' r w' → Go l g M n lv (r.toList ++ rest) w' Q) : Go l g M pc lv (x3 :: x2 :: x1 :: .ref (g.2.2.2.1 i) :: rest) w Q :=
  g_callT (as := [x1, x2, x3]) (rest := rest) hd hk hi hc hr hcat rfl k
theorem gT4 {i : Nat} {x1 x2 x3 x4 : Value} (hd : Dc M pc (.invokevirtual idx) 3 n) (hk : CkV M idx M' 4) (hi : i < 14) (hc : M'.1.cls = "java/lang/String") (hr : Res l g M' [.ref (g.2.2.2.1 i), x1, x2, x3, x4] w (Is (some v) w')) (hcat : (rest.map fun v => v.category).sum ≤ 8) (k : Go l g M n lv (v :: rest) w' Q) : Go l g M pc lv (x4 :: x3 :: x2 :: x1 :: .ref (g.2.2.2.1 i) :: rest) w Q :=
  g_callT (as := [x1, x2, x3, x4]) (rest := rest) hd hk hi hc hr hcat rfl (fun r w1 h => by obtain ⟨rfl, rfl⟩ := h; exact k)
theorem gT4v {i : Nat} {x1 x2 x3 x4 : Value} (hd : Dc M pc (.invokevirtual idx) 3 n) (hk : CkV M idx M' 4) (hi : i < 14) (hc : M'.1.cls = "java/lang/String") (hr : Res l g M' [.ref (g.2.2.2.1 i), x1, x2, x3, x4] w (Is none w')) (hcat : (rest.map fun v => v.category).sum ≤ 8) (k : Go l g M n lv rest w' Q) : Go l g M pc lv (x4 :: x3 :: x2 :: x1 :: .ref (g.2.2.2.1 i) :: rest) w Q :=
  g_callT (as := [x1, x2, x3, x4]) (rest := rest) hd hk hi hc hr hcat rfl (fun r w1 h => by obtain ⟨rfl, rfl⟩ := h; exact k)
theorem gT4q {i : Nat} {x1 x2 x3 x4 : Value} (hd : Dc M pc (.invokevirtual idx) 3 n) (hk : CkV M idx M' 4) (hi : i < 14) (hc : M'.1.cls = "java/lang/String") (hr : Res l g M' [.ref (g.2.2.2.1 i), x1, x2, x3, x4] w Q') (hcat : (rest.map fun v => v.category).sum ≤ 8) (k : ∀ r w', Q' r w' → Go l g M n lv (r.toList ++ rest) w' Q) : Go l g M pc lv (x4 :: x3 :: x2 :: x1 :: .ref (g.2.2.2.1 i) :: rest) w Q :=
  g_callT (as := [x1, x2, x3, x4]) (rest := rest) hd hk hi hc hr hcat rfl k
theorem gT5 {i : Nat} {x1 x2 x3 x4 x5 : Value} (hd : Dc M pc (.invokevirtual idx) 3 n) (hk : CkV M idx M' 5) (hi : i < 14) (hc : M'.1.cls = "java/lang/String") (hr : Res l g M' [.ref (g.2.2.2.1 i), x1, x2, x3, x4, x5] w (Is (some v) w')) (hcat : (rest.map fun v => v.category).sum ≤ 8) (k : Go l g M n lv (v :: rest) w' Q) : Go l g M pc lv (x5 :: x4 :: x3 :: x2 :: x1 :: .ref (g.2.2.2.1 i) :: rest) w Q :=
  g_callT (as := [x1, x2, x3, x4, x5]) (rest := rest) hd hk hi hc hr hcat rfl (fun r w1 h => by obtain ⟨rfl, rfl⟩ := h; exact k)
theorem gT5v {i : Nat} {x1 x2 x3 x4 x5 : Value} (hd : Dc M pc (.invokevirtual idx) 3 n) (hk : CkV M idx M' 5) (hi : i < 14) (hc : M'.1.cls = "java/lang/String") (hr : Res l g M' [.ref (g.2.2.2.1 i), x1, x2, x3, x4, x5] w (Is none w')) (hcat : (rest.map fun v => v.category).sum ≤ 8) (k : Go l g M n lv rest w' Q) : Go l g M pc lv (x5 :: x4 :: x3 :: x2 :: x1 :: .ref (g.2.2.2.1 i) :: rest) w Q :=
  g_callT (as := [x1, x2, x3, x4, x5]) (rest := rest) hd hk hi hc hr hcat rfl (fun r w1 h => by obtain ⟨rfl, rfl⟩ := h; exact k)
theorem gT5q {i : Nat} {x1 x2 x3 x4 x5 : Value} (hd : Dc M pc (.invokevirtual idx) 3 n) (hk : CkV M idx M' 5) (hi : i < 14) (hc : M'.1.cls = "java/lang/String") (hr : Res l g M' [.ref (g.2.2.2.1 i), x1, x2, x3, x4, x5] w Q') (hcat : (rest.map fun v => v.category).sum ≤ 8) (k : ∀ r w', Q' r w' → Go l g M n lv (r.toList ++ rest) w' Q) : Go l g M pc lv (x5 :: x4 :: x3 :: x2 :: x1 :: .ref (g.2.2.2.1 i) :: rest) w Q :=
  g_callT (as := [x1, x2, x3, x4, x5]) (rest := rest) hd hk hi hc hr hcat rfl k
end AROWS
end
section
theorem fH_9 : Fk "StraySheep$Hill" 9 1 0 (.int) false := ⟨_, _, _, _, ok1, by decide, LTm 94 (by decide +kernel) rfl, rfl, rfl⟩
theorem fS_68 : Fk "StraySheep" 68 1 0 (.int) false := ⟨_, _, _, _, ok1, by decide, LTm 95 (by decide +kernel) rfl, rfl, rfl⟩
theorem fT_89 : Fk "StraySheep$Tape" 89 1 0 (.int) false := ⟨_, _, _, _, ok1, by decide, LTm 96 (by decide +kernel) rfl, rfl, rfl⟩
theorem fH_15 : Fk "StraySheep$Hill" 15 1 1 (.int) false := ⟨_, _, _, _, ok1, by decide, LTm 97 (by decide +kernel) rfl, rfl, rfl⟩
theorem fS_247 : Fk "StraySheep" 247 1 1 (.int) false := ⟨_, _, _, _, ok1, by decide, LTm 98 (by decide +kernel) rfl, rfl, rfl⟩
theorem fH_18 : Fk "StraySheep$Hill" 18 1 2 (.int) false := ⟨_, _, _, _, ok1, by decide, LTm 99 (by decide +kernel) rfl, rfl, rfl⟩
theorem fS_109 : Fk "StraySheep" 109 1 2 (.int) false := ⟨_, _, _, _, ok1, by decide, LTm 100 (by decide +kernel) rfl, rfl, rfl⟩
theorem fH_21 : Fk "StraySheep$Hill" 21 1 3 (.int) false := ⟨_, _, _, _, ok1, by decide, LTm 101 (by decide +kernel) rfl, rfl, rfl⟩
theorem fS_75 : Fk "StraySheep" 75 1 3 (.int) false := ⟨_, _, _, _, ok1, by decide, LTm 102 (by decide +kernel) rfl, rfl, rfl⟩
theorem fT_95 : Fk "StraySheep$Tape" 95 1 3 (.int) false := ⟨_, _, _, _, ok1, by decide, LTm 103 (by decide +kernel) rfl, rfl, rfl⟩
theorem fH_24 : Fk "StraySheep$Hill" 24 1 4 (.int) false := ⟨_, _, _, _, ok1, by decide, LTm 104 (by decide +kernel) rfl, rfl, rfl⟩
theorem fS_78 : Fk "StraySheep" 78 1 4 (.int) false := ⟨_, _, _, _, ok1, by decide, LTm 105 (by decide +kernel) rfl, rfl, rfl⟩
theorem fT_99 : Fk "StraySheep$Tape" 99 1 4 (.int) false := ⟨_, _, _, _, ok1, by decide, LTm 106 (by decide +kernel) rfl, rfl, rfl⟩
theorem fH_27 : Fk "StraySheep$Hill" 27 1 5 (.int) false := ⟨_, _, _, _, ok1, by decide, LTm 107 (by decide +kernel) rfl, rfl, rfl⟩
theorem fS_130 : Fk "StraySheep" 130 1 5 (.int) false := ⟨_, _, _, _, ok1, by decide, LTm 108 (by decide +kernel) rfl, rfl, rfl⟩
theorem fH_30 : Fk "StraySheep$Hill" 30 1 6 (.int) false := ⟨_, _, _, _, ok1, by decide, LTm 109 (by decide +kernel) rfl, rfl, rfl⟩
theorem fS_165 : Fk "StraySheep" 165 1 6 (.int) false := ⟨_, _, _, _, ok1, by decide, LTm 110 (by decide +kernel) rfl, rfl, rfl⟩
theorem fH_33 : Fk "StraySheep$Hill" 33 1 7 (.array .int) true := ⟨_, _, _, _, ok1, by decide, LTm 111 (by decide +kernel) rfl, rfl, rfl⟩
theorem fS_112 : Fk "StraySheep" 112 1 7 (.array .int) true := ⟨_, _, _, _, ok1, by decide, LTm 112 (by decide +kernel) rfl, rfl, rfl⟩
theorem fH_37 : Fk "StraySheep$Hill" 37 1 8 (.array .int) true := ⟨_, _, _, _, ok1, by decide, LTm 113 (by decide +kernel) rfl, rfl, rfl⟩
theorem fT_78 : Fk "StraySheep$Tape" 78 1 8 (.array .int) true := ⟨_, _, _, _, ok1, by decide, LTm 114 (by decide +kernel) rfl, rfl, rfl⟩
theorem fS_115 : Fk "StraySheep" 115 1 8 (.array .int) true := ⟨_, _, _, _, ok1, by decide, LTm 115 (by decide +kernel) rfl, rfl, rfl⟩
theorem fH_40 : Fk "StraySheep$Hill" 40 1 9 (.array .int) true := ⟨_, _, _, _, ok1, by decide, LTm 116 (by decide +kernel) rfl, rfl, rfl⟩
theorem fT_83 : Fk "StraySheep$Tape" 83 1 9 (.array .int) true := ⟨_, _, _, _, ok1, by decide, LTm 117 (by decide +kernel) rfl, rfl, rfl⟩
theorem fS_118 : Fk "StraySheep" 118 1 9 (.array .int) true := ⟨_, _, _, _, ok1, by decide, LTm 118 (by decide +kernel) rfl, rfl, rfl⟩
theorem fH_43 : Fk "StraySheep$Hill" 43 1 10 (.array .int) true := ⟨_, _, _, _, ok1, by decide, LTm 119 (by decide +kernel) rfl, rfl, rfl⟩
theorem fT_87 : Fk "StraySheep$Tape" 87 1 10 (.array .int) true := ⟨_, _, _, _, ok1, by decide, LTm 120 (by decide +kernel) rfl, rfl, rfl⟩
theorem fS_121 : Fk "StraySheep" 121 1 10 (.array .int) true := ⟨_, _, _, _, ok1, by decide, LTm 121 (by decide +kernel) rfl, rfl, rfl⟩
theorem fH_46 : Fk "StraySheep$Hill" 46 1 11 (.array .int) true := ⟨_, _, _, _, ok1, by decide, LTm 122 (by decide +kernel) rfl, rfl, rfl⟩
theorem fS_124 : Fk "StraySheep" 124 1 11 (.array .int) true := ⟨_, _, _, _, ok1, by decide, LTm 123 (by decide +kernel) rfl, rfl, rfl⟩
theorem fT_9 : Fk "StraySheep$Tape" 9 3 0 (.array .int) true := ⟨_, _, _, _, ok3, by decide, LTm 156 (by decide +kernel) rfl, rfl, rfl⟩
theorem fT_15 : Fk "StraySheep$Tape" 15 3 1 (.int) false := ⟨_, _, _, _, ok3, by decide, LTm 157 (by decide +kernel) rfl, rfl, rfl⟩
theorem fS_204 : Fk "StraySheep" 204 3 1 (.int) false := ⟨_, _, _, _, ok3, by decide, LTm 158 (by decide +kernel) rfl, rfl, rfl⟩
theorem fT_19 : Fk "StraySheep$Tape" 19 3 2 (.int) false := ⟨_, _, _, _, ok3, by decide, LTm 159 (by decide +kernel) rfl, rfl, rfl⟩
theorem fT_22 : Fk "StraySheep$Tape" 22 3 3 (.int) false := ⟨_, _, _, _, ok3, by decide, LTm 160 (by decide +kernel) rfl, rfl, rfl⟩
theorem fT_25 : Fk "StraySheep$Tape" 25 3 4 (.int) false := ⟨_, _, _, _, ok3, by decide, LTm 161 (by decide +kernel) rfl, rfl, rfl⟩
theorem fE_9 : Fk "StraySheep$Sheet" 9 2 0 (.int) false := ⟨_, _, _, _, ok2, by decide, LTm 180 (by decide +kernel) rfl, rfl, rfl⟩
theorem fS_225 : Fk "StraySheep" 225 2 0 (.int) false := ⟨_, _, _, _, ok2, by decide, LTm 181 (by decide +kernel) rfl, rfl, rfl⟩
theorem fE_15 : Fk "StraySheep$Sheet" 15 2 1 (.int) false := ⟨_, _, _, _, ok2, by decide, LTm 182 (by decide +kernel) rfl, rfl, rfl⟩
theorem fS_221 : Fk "StraySheep" 221 2 1 (.int) false := ⟨_, _, _, _, ok2, by decide, LTm 183 (by decide +kernel) rfl, rfl, rfl⟩
theorem fE_18 : Fk "StraySheep$Sheet" 18 2 2 (.array .int) true := ⟨_, _, _, _, ok2, by decide, LTm 184 (by decide +kernel) rfl, rfl, rfl⟩
theorem fS_231 : Fk "StraySheep" 231 2 2 (.array .int) true := ⟨_, _, _, _, ok2, by decide, LTm 185 (by decide +kernel) rfl, rfl, rfl⟩
theorem fS_12 : Fk "StraySheep" 12 0 0 (.object "StraySheep$Hill") true := ⟨_, _, _, _, ok0, by decide, LTm 193 (by decide +kernel) rfl, rfl, rfl⟩
theorem fS_16 : Fk "StraySheep" 16 0 1 (.object "StraySheep$Hill") true := ⟨_, _, _, _, ok0, by decide, LTm 194 (by decide +kernel) rfl, rfl, rfl⟩
theorem fS_19 : Fk "StraySheep" 19 0 2 (.object "StraySheep$Hill") true := ⟨_, _, _, _, ok0, by decide, LTm 195 (by decide +kernel) rfl, rfl, rfl⟩
theorem fS_22 : Fk "StraySheep" 22 0 3 (.boolean) false := ⟨_, _, _, _, ok0, by decide, LTm 196 (by decide +kernel) rfl, rfl, rfl⟩
theorem fS_26 : Fk "StraySheep" 26 0 4 (.array .int) true := ⟨_, _, _, _, ok0, by decide, LTm 197 (by decide +kernel) rfl, rfl, rfl⟩
theorem fS_30 : Fk "StraySheep" 30 0 5 (.array .int) true := ⟨_, _, _, _, ok0, by decide, LTm 198 (by decide +kernel) rfl, rfl, rfl⟩
theorem fS_33 : Fk "StraySheep" 33 0 6 (.int) false := ⟨_, _, _, _, ok0, by decide, LTm 199 (by decide +kernel) rfl, rfl, rfl⟩
theorem fS_37 : Fk "StraySheep" 37 0 7 (.int) false := ⟨_, _, _, _, ok0, by decide, LTm 200 (by decide +kernel) rfl, rfl, rfl⟩
theorem fS_43 : Fk "StraySheep" 43 0 8 (.object "StraySheep$Tape") true := ⟨_, _, _, _, ok0, by decide, LTm 201 (by decide +kernel) rfl, rfl, rfl⟩
theorem fS_50 : Fk "StraySheep" 50 0 9 (.array (.object "StraySheep$Sheet")) true := ⟨_, _, _, _, ok0, by decide, LTm 202 (by decide +kernel) rfl, rfl, rfl⟩
theorem fS_54 : Fk "StraySheep" 54 0 10 (.array .int) true := ⟨_, _, _, _, ok0, by decide, LTm 203 (by decide +kernel) rfl, rfl, rfl⟩
theorem fS_243 : Cond.constant "StraySheep" 243 (-1000001) ∈ LT := LTm 244 (by decide +kernel) rfl
theorem fS_133 : Cond.constant "StraySheep" 133 (99999) ∈ LT := LTm 346 (by decide +kernel) rfl
theorem fH_115 : Cond.constant "StraySheep$Hill" 115 (99999) ∈ LT := LTm 407 (by decide +kernel) rfl
theorem fS_164 : Cond.constant "StraySheep" 164 (2147483647) ∈ LT := LTm 464 (by decide +kernel) rfl
theorem fJI_265 : Cond.constant "java/lang/Integer" 265 (1431655765) ∈ LT := LTm 484 (by decide +kernel) rfl
theorem fJI_266 : Cond.constant "java/lang/Integer" 266 (858993459) ∈ LT := LTm 485 (by decide +kernel) rfl
theorem fJI_267 : Cond.constant "java/lang/Integer" 267 (252645135) ∈ LT := LTm 486 (by decide +kernel) rfl
theorem fS_253 : Cond.constant "StraySheep" 253 (1103515245) ∈ LT := LTm 527 (by decide +kernel) rfl
theorem fT_108 : SW "StraySheep$Tape" 108 1 := List.mem_of_getElem? (i := 590) (by decide +kernel)
theorem fT_110 : SW "StraySheep$Tape" 110 2 := List.mem_of_getElem? (i := 591) (by decide +kernel)
theorem fT_112 : SW "StraySheep$Tape" 112 3 := List.mem_of_getElem? (i := 592) (by decide +kernel)
theorem fT_114 : SW "StraySheep$Tape" 114 4 := List.mem_of_getElem? (i := 593) (by decide +kernel)
theorem fT_116 : SW "StraySheep$Tape" 116 5 := List.mem_of_getElem? (i := 594) (by decide +kernel)
theorem fT_118 : SW "StraySheep$Tape" 118 6 := List.mem_of_getElem? (i := 595) (by decide +kernel)
theorem fT_120 : SW "StraySheep$Tape" 120 0 := List.mem_of_getElem? (i := 596) (by decide +kernel)
theorem fT_72 : SW "StraySheep$Tape" 72 10 := List.mem_of_getElem? (i := 654) (by decide +kernel)
theorem fT_81 : SW "StraySheep$Tape" 81 11 := List.mem_of_getElem? (i := 664) (by decide +kernel)
theorem fT_85 : SW "StraySheep$Tape" 85 12 := List.mem_of_getElem? (i := 665) (by decide +kernel)
theorem fT_47 : SW "StraySheep$Tape" 47 7 := List.mem_of_getElem? (i := 666) (by decide +kernel)
theorem fT_56 : SW "StraySheep$Tape" 56 8 := List.mem_of_getElem? (i := 671) (by decide +kernel)
theorem fT_61 : SW "StraySheep$Tape" 61 9 := List.mem_of_getElem? (i := 677) (by decide +kernel)
theorem fT_97 : SW "StraySheep$Tape" 97 13 := List.mem_of_getElem? (i := 682) (by decide +kernel)
theorem fQ_27 : SW "StraySheepModel" 27 0 := List.mem_of_getElem? (i := 766) (by decide +kernel)
theorem fQ_29 : SW "StraySheepModel" 29 1 := List.mem_of_getElem? (i := 767) (by decide +kernel)
theorem fQ_31 : SW "StraySheepModel" 31 2 := List.mem_of_getElem? (i := 768) (by decide +kernel)
theorem fQ_33 : SW "StraySheepModel" 33 3 := List.mem_of_getElem? (i := 769) (by decide +kernel)
theorem fQ_35 : SW "StraySheepModel" 35 4 := List.mem_of_getElem? (i := 770) (by decide +kernel)
theorem fQ_37 : SW "StraySheepModel" 37 5 := List.mem_of_getElem? (i := 771) (by decide +kernel)
theorem fQ_39 : SW "StraySheepModel" 39 6 := List.mem_of_getElem? (i := 772) (by decide +kernel)
theorem fQ_9 : Fk "StraySheepModel" 9 4 0 (.array .int) true := ⟨_, _, _, _, ok4, by decide, LTm 773 (by decide +kernel) rfl, rfl, rfl⟩
theorem fQ_13 : Fk "StraySheepModel" 13 4 1 (.array .int) true := ⟨_, _, _, _, ok4, by decide, LTm 774 (by decide +kernel) rfl, rfl, rfl⟩
theorem fQ_16 : Fk "StraySheepModel" 16 4 2 (.array .int) true := ⟨_, _, _, _, ok4, by decide, LTm 775 (by decide +kernel) rfl, rfl, rfl⟩
theorem fQ_347 : Fk "StraySheepModel" 347 4 3 (.boolean) false := ⟨_, _, _, _, ok4, by decide, LTm 776 (by decide +kernel) rfl, rfl, rfl⟩
theorem fQ_19 : Fk "StraySheepModel" 19 4 4 (.array .int) true := ⟨_, _, _, _, ok4, by decide, LTm 777 (by decide +kernel) rfl, rfl, rfl⟩
theorem fQ_154 : Fk "StraySheepModel" 154 4 5 (.int) false := ⟨_, _, _, _, ok4, by decide, LTm 778 (by decide +kernel) rfl, rfl, rfl⟩
theorem fQ_22 : Fk "StraySheepModel" 22 4 6 (.array .int) true := ⟨_, _, _, _, ok4, by decide, LTm 779 (by decide +kernel) rfl, rfl, rfl⟩
theorem fQ_250 : Fk "StraySheepModel" 250 4 7 (.int) false := ⟨_, _, _, _, ok4, by decide, LTm 780 (by decide +kernel) rfl, rfl, rfl⟩
theorem fQ_256 : Fk "StraySheepModel" 256 4 8 (.int) false := ⟨_, _, _, _, ok4, by decide, LTm 781 (by decide +kernel) rfl, rfl, rfl⟩
theorem fQ_253 : Fk "StraySheepModel" 253 4 9 (.int) false := ⟨_, _, _, _, ok4, by decide, LTm 782 (by decide +kernel) rfl, rfl, rfl⟩
theorem fQ_265 : Fk "StraySheepModel" 265 4 10 (.int) false := ⟨_, _, _, _, ok4, by decide, LTm 783 (by decide +kernel) rfl, rfl, rfl⟩
theorem fQ_262 : Fk "StraySheepModel" 262 4 11 (.int) false := ⟨_, _, _, _, ok4, by decide, LTm 784 (by decide +kernel) rfl, rfl, rfl⟩
theorem fQ_275 : Fk "StraySheepModel" 275 4 12 (.boolean) false := ⟨_, _, _, _, ok4, by decide, LTm 785 (by decide +kernel) rfl, rfl, rfl⟩
theorem fQ_41 : Fk "StraySheepModel" 41 4 13 (.array (.object "java/lang/String")) true := ⟨_, _, _, _, ok4, by decide, LTm 786 (by decide +kernel) rfl, rfl, rfl⟩
theorem fQ_45 : Fk "StraySheepModel" 45 4 14 (.array .int) true := ⟨_, _, _, _, ok4, by decide, LTm 787 (by decide +kernel) rfl, rfl, rfl⟩
theorem fQ_48 : Fk "StraySheepModel" 48 4 15 (.array .int) true := ⟨_, _, _, _, ok4, by decide, LTm 788 (by decide +kernel) rfl, rfl, rfl⟩
theorem fQ_51 : Fk "StraySheepModel" 51 4 16 (.array .int) true := ⟨_, _, _, _, ok4, by decide, LTm 789 (by decide +kernel) rfl, rfl, rfl⟩
theorem fQ_54 : Fk "StraySheepModel" 54 4 17 (.array .int) true := ⟨_, _, _, _, ok4, by decide, LTm 790 (by decide +kernel) rfl, rfl, rfl⟩
theorem fQ_286 : Fk "StraySheepModel" 286 4 18 (.int) false := ⟨_, _, _, _, ok4, by decide, LTm 791 (by decide +kernel) rfl, rfl, rfl⟩
theorem fQ_299 : Fk "StraySheepModel" 299 4 19 (.int) false := ⟨_, _, _, _, ok4, by decide, LTm 792 (by decide +kernel) rfl, rfl, rfl⟩
theorem fQ_57 : Fk "StraySheepModel" 57 4 20 (.array .int) true := ⟨_, _, _, _, ok4, by decide, LTm 793 (by decide +kernel) rfl, rfl, rfl⟩
theorem fQ_60 : Fk "StraySheepModel" 60 4 21 (.array .int) true := ⟨_, _, _, _, ok4, by decide, LTm 794 (by decide +kernel) rfl, rfl, rfl⟩
theorem fQ_63 : Fk "StraySheepModel" 63 4 22 (.array .int) true := ⟨_, _, _, _, ok4, by decide, LTm 795 (by decide +kernel) rfl, rfl, rfl⟩
theorem fQ_66 : Fk "StraySheepModel" 66 4 23 (.array .int) true := ⟨_, _, _, _, ok4, by decide, LTm 796 (by decide +kernel) rfl, rfl, rfl⟩
theorem fQ_69 : Cond.constant "StraySheepModel" 69 (-1000001) ∈ LT := LTm 856 (by decide +kernel) rfl
theorem fQ_104 : Cond.constant "StraySheepModel" 104 (-1000002) ∈ LT := LTm 887 (by decide +kernel) rfl
theorem fQ_141 : Cond.constant "StraySheepModel" 141 (-1000005) ∈ LT := LTm 938 (by decide +kernel) rfl
theorem fQ_74 : Cond.constant "StraySheepModel" 74 (-1000004) ∈ LT := LTm 947 (by decide +kernel) rfl
theorem fQ_190 : Cond.constant "StraySheepModel" 190 (99999) ∈ LT := LTm 960 (by decide +kernel) rfl
theorem fQ_234 : Cond.constant "StraySheepModel" 234 (-1000006) ∈ LT := LTm 1109 (by decide +kernel) rfl
theorem fQ_246 : Cond.constant "StraySheepModel" 246 (1103515245) ∈ LT := LTm 1130 (by decide +kernel) rfl
theorem fQ_302 : SW "StraySheepModel" 302 10 := List.mem_of_getElem? (i := 1177) (by decide +kernel)
theorem fQ_308 : SW "StraySheepModel" 308 11 := List.mem_of_getElem? (i := 1190) (by decide +kernel)
theorem fQ_310 : SW "StraySheepModel" 310 12 := List.mem_of_getElem? (i := 1191) (by decide +kernel)
theorem fQ_319 : SW "StraySheepModel" 319 7 := List.mem_of_getElem? (i := 1196) (by decide +kernel)
theorem fQ_321 : SW "StraySheepModel" 321 8 := List.mem_of_getElem? (i := 1197) (by decide +kernel)
theorem fQ_323 : SW "StraySheepModel" 323 9 := List.mem_of_getElem? (i := 1198) (by decide +kernel)
theorem fQ_325 : SW "StraySheepModel" 325 13 := List.mem_of_getElem? (i := 1199) (by decide +kernel)
theorem fQ_339 : Cond.constant "StraySheepModel" 339 (-1000003) ∈ LT := LTm 1221 (by decide +kernel) rfl
theorem fQ_340 : Cond.constant "StraySheepModel" 340 (-1000007) ∈ LT := LTm 1226 (by decide +kernel) rfl
theorem ini_S : Cond.initialized "StraySheep" ∈ LT := LTm 68 (by decide +kernel) rfl
theorem ini_H : Cond.initialized "StraySheep$Hill" ∈ LT := LTm 69 (by decide +kernel) rfl
theorem ini_E : Cond.initialized "StraySheep$Sheet" ∈ LT := LTm 71 (by decide +kernel) rfl
theorem ini_T : Cond.initialized "StraySheep$Tape" ∈ LT := LTm 70 (by decide +kernel) rfl
theorem ini_Q : Cond.initialized "StraySheepModel" ∈ LT := LTm 72 (by decide +kernel) rfl
theorem ini_JM : Cond.initialized "java/lang/Math" ∈ LT := LTm 73 (by decide +kernel) rfl
theorem ini_JS : Cond.initialized "java/lang/String" ∈ LT := LTm 76 (by decide +kernel) rfl
theorem ini_JL : Cond.initialized "java/lang/StringLatin1" ∈ LT := LTm 77 (by decide +kernel) rfl
theorem ini_JI : Cond.initialized "java/lang/Integer" ∈ LT := LTm 75 (by decide +kernel) rfl
theorem ini_JP : Cond.initialized "jdk/internal/util/Preconditions" ∈ LT := LTm 78 (by decide +kernel) rfl
theorem ini_sys : Cond.initialized "java/lang/System" ∈ LT := LTm 74 (by decide +kernel) rfl
theorem ac_nat : Cond.native arraycopyName ∈ LT := LTm 435 (by decide +kernel) rfl
theorem ac_st : Cond.static arraycopyName ∈ LT := LTm 434 (by decide +kernel) rfl
def MkS (M : MM) (na : Nat) : Prop := Cond.static M.1 ∈ LT ∧ Cond.initialized M.1.cls ∈ LT ∧ Cond.code M.1 M.2.1 M.2.2.1 M.2.2.2.1 ∈ LT ∧ (M.1.cls ≠ "java/lang/invoke/MethodHandle" ∧ M.1.cls ≠ "java/lang/invoke/VarHandle" ∧ (parseMethodDescriptor M.1.desc).map (fun d => d.parameters.length) = some na)
def MkV (M : MM) (na : Nat) : Prop := Cond.instanceMethod M.1 ∈ LT ∧ Cond.selects M.1.cls M.1 M.1 ∈ LT ∧ Cond.initialized M.1.cls ∈ LT ∧ Cond.code M.1 M.2.1 M.2.2.1 M.2.2.2.1 ∈ LT ∧ (M.1.cls ≠ "java/lang/invoke/MethodHandle" ∧ M.1.cls ≠ "java/lang/invoke/VarHandle" ∧ (parseMethodDescriptor M.1.desc).map (fun d => d.parameters.length) = some na)
set_option maxRecDepth 20000 in
theorem mS_set : MkV S_set 2 := ⟨LTm 228 (by decide +kernel) rfl, LTm 229 (by decide +kernel) rfl, ini_S, LTm 230 rfl rfl, ⟨by decide, by decide, by decide +kernel⟩⟩
set_option maxRecDepth 20000 in
theorem mS_canBeSet : MkS S_canBeSet 2 := ⟨LTm 232 (by decide +kernel) rfl, ini_S, LTm 233 rfl rfl, ⟨by decide, by decide, by decide +kernel⟩⟩
set_option maxRecDepth 20000 in
theorem mS_isCell : MkS S_isCell 1 := ⟨LTm 235 (by decide +kernel) rfl, ini_S, LTm 236 rfl rfl, ⟨by decide, by decide, by decide +kernel⟩⟩
set_option maxRecDepth 20000 in
theorem mS_isWithin : MkS S_isWithin 3 := ⟨LTm 238 (by decide +kernel) rfl, ini_S, LTm 239 rfl rfl, ⟨by decide, by decide, by decide +kernel⟩⟩
set_option maxRecDepth 20000 in
theorem mS_finding : MkV S_finding 1 := ⟨LTm 242 (by decide +kernel) rfl, LTm 0 (by decide +kernel) rfl, ini_S, LTm 243 rfl rfl, ⟨by decide, by decide, by decide +kernel⟩⟩
set_option maxRecDepth 20000 in
theorem mH_feature : MkV H_feature 1 := ⟨LTm 246 (by decide +kernel) rfl, LTm 247 (by decide +kernel) rfl, ini_H, LTm 248 rfl rfl, ⟨by decide, by decide, by decide +kernel⟩⟩
set_option maxRecDepth 20000 in
theorem mH_moveKeeper : MkV H_moveKeeper 1 := ⟨LTm 250 (by decide +kernel) rfl, LTm 251 (by decide +kernel) rfl, ini_H, LTm 252 rfl rfl, ⟨by decide, by decide, by decide +kernel⟩⟩
set_option maxRecDepth 20000 in
theorem mH_has : MkV H_has 1 := ⟨LTm 254 (by decide +kernel) rfl, LTm 255 (by decide +kernel) rfl, ini_H, LTm 256 rfl rfl, ⟨by decide, by decide, by decide +kernel⟩⟩
set_option maxRecDepth 20000 in
theorem mS_hill : MkV S_hill 1 := ⟨LTm 258 (by decide +kernel) rfl, LTm 259 (by decide +kernel) rfl, ini_S, LTm 260 rfl rfl, ⟨by decide, by decide, by decide +kernel⟩⟩
set_option maxRecDepth 20000 in
theorem mS_sheep : MkV S_sheep 2 := ⟨LTm 262 (by decide +kernel) rfl, LTm 263 (by decide +kernel) rfl, ini_S, LTm 264 rfl rfl, ⟨by decide, by decide, by decide +kernel⟩⟩
set_option maxRecDepth 20000 in
theorem mS_isKind : MkS S_isKind 1 := ⟨LTm 266 (by decide +kernel) rfl, ini_S, LTm 267 rfl rfl, ⟨by decide, by decide, by decide +kernel⟩⟩
set_option maxRecDepth 20000 in
theorem mH_isFull : MkV H_isFull 0 := ⟨LTm 269 (by decide +kernel) rfl, LTm 270 (by decide +kernel) rfl, ini_H, LTm 271 rfl rfl, ⟨by decide, by decide, by decide +kernel⟩⟩
set_option maxRecDepth 20000 in
theorem mH_add : MkV H_add 2 := ⟨LTm 273 (by decide +kernel) rfl, LTm 274 (by decide +kernel) rfl, ini_H, LTm 275 rfl rfl, ⟨by decide, by decide, by decide +kernel⟩⟩
set_option maxRecDepth 20000 in
theorem mS_of : MkV S_of 2 := ⟨LTm 278 (by decide +kernel) rfl, LTm 279 (by decide +kernel) rfl, ini_S, LTm 280 rfl rfl, ⟨by decide, by decide, by decide +kernel⟩⟩
set_option maxRecDepth 20000 in
theorem mH_trait : MkV H_trait 2 := ⟨LTm 283 (by decide +kernel) rfl, LTm 284 (by decide +kernel) rfl, ini_H, LTm 285 rfl rfl, ⟨by decide, by decide, by decide +kernel⟩⟩
set_option maxRecDepth 20000 in
theorem mH_far : MkV H_far 1 := ⟨LTm 287 (by decide +kernel) rfl, LTm 288 (by decide +kernel) rfl, ini_H, LTm 289 rfl rfl, ⟨by decide, by decide, by decide +kernel⟩⟩
set_option maxRecDepth 20000 in
theorem mS_distance : MkS S_distance 2 := ⟨LTm 291 (by decide +kernel) rfl, ini_S, LTm 292 rfl rfl, ⟨by decide, by decide, by decide +kernel⟩⟩
set_option maxRecDepth 20000 in
theorem mH_strays : MkV H_strays 1 := ⟨LTm 294 (by decide +kernel) rfl, LTm 295 (by decide +kernel) rfl, ini_H, LTm 296 rfl rfl, ⟨by decide, by decide, by decide +kernel⟩⟩
set_option maxRecDepth 20000 in
theorem mH_straysAsRam : MkV H_straysAsRam 1 := ⟨LTm 298 (by decide +kernel) rfl, LTm 299 (by decide +kernel) rfl, ini_H, LTm 300 rfl rfl, ⟨by decide, by decide, by decide +kernel⟩⟩
set_option maxRecDepth 20000 in
theorem mH_straysAsSheep : MkV H_straysAsSheep 0 := ⟨LTm 302 (by decide +kernel) rfl, LTm 303 (by decide +kernel) rfl, ini_H, LTm 304 rfl rfl, ⟨by decide, by decide, by decide +kernel⟩⟩
set_option maxRecDepth 20000 in
theorem mH_straysAsEwe : MkV H_straysAsEwe 1 := ⟨LTm 306 (by decide +kernel) rfl, LTm 307 (by decide +kernel) rfl, ini_H, LTm 308 rfl rfl, ⟨by decide, by decide, by decide +kernel⟩⟩
set_option maxRecDepth 20000 in
theorem mH_hasCompany : MkV H_hasCompany 1 := ⟨LTm 310 (by decide +kernel) rfl, LTm 311 (by decide +kernel) rfl, ini_H, LTm 312 rfl rfl, ⟨by decide, by decide, by decide +kernel⟩⟩
set_option maxRecDepth 20000 in
theorem mH_sheepAt : MkV H_sheepAt 1 := ⟨LTm 314 (by decide +kernel) rfl, LTm 315 (by decide +kernel) rfl, ini_H, LTm 316 rfl rfl, ⟨by decide, by decide, by decide +kernel⟩⟩
set_option maxRecDepth 20000 in
theorem mS_fearsOf : MkS S_fearsOf 1 := ⟨LTm 318 (by decide +kernel) rfl, ini_S, LTm 319 rfl rfl, ⟨by decide, by decide, by decide +kernel⟩⟩
set_option maxRecDepth 20000 in
theorem mS_calmsOf : MkS S_calmsOf 1 := ⟨LTm 321 (by decide +kernel) rfl, ini_S, LTm 322 rfl rfl, ⟨by decide, by decide, by decide +kernel⟩⟩
set_option maxRecDepth 20000 in
theorem mS_lightOf : MkS S_lightOf 1 := ⟨LTm 324 (by decide +kernel) rfl, ini_S, LTm 325 rfl rfl, ⟨by decide, by decide, by decide +kernel⟩⟩
set_option maxRecDepth 20000 in
theorem mS_change : MkV S_change 3 := ⟨LTm 327 (by decide +kernel) rfl, LTm 328 (by decide +kernel) rfl, ini_S, LTm 329 rfl rfl, ⟨by decide, by decide, by decide +kernel⟩⟩
set_option maxRecDepth 20000 in
theorem mS_canBeChanged : MkS S_canBeChanged 2 := ⟨LTm 331 (by decide +kernel) rfl, ini_S, LTm 332 rfl rfl, ⟨by decide, by decide, by decide +kernel⟩⟩
set_option maxRecDepth 20000 in
theorem mS_drop : MkV S_drop 0 := ⟨LTm 334 (by decide +kernel) rfl, LTm 335 (by decide +kernel) rfl, ini_S, LTm 336 rfl rfl, ⟨by decide, by decide, by decide +kernel⟩⟩
set_option maxRecDepth 20000 in
theorem mS_who : MkV S_who 1 := ⟨LTm 338 (by decide +kernel) rfl, LTm 339 (by decide +kernel) rfl, ini_S, LTm 340 rfl rfl, ⟨by decide, by decide, by decide +kernel⟩⟩
set_option maxRecDepth 20000 in
theorem mS_go : MkV S_go 1 := ⟨LTm 343 (by decide +kernel) rfl, LTm 344 (by decide +kernel) rfl, ini_S, LTm 345 rfl rfl, ⟨by decide, by decide, by decide +kernel⟩⟩
set_option maxRecDepth 20000 in
theorem mH_passHours : MkV H_passHours 1 := ⟨LTm 348 (by decide +kernel) rfl, LTm 349 (by decide +kernel) rfl, ini_H, LTm 350 rfl rfl, ⟨by decide, by decide, by decide +kernel⟩⟩
set_option maxRecDepth 20000 in
theorem mH_passHour : MkV H_passHour 1 := ⟨LTm 352 (by decide +kernel) rfl, LTm 353 (by decide +kernel) rfl, ini_H, LTm 354 rfl rfl, ⟨by decide, by decide, by decide +kernel⟩⟩
set_option maxRecDepth 20000 in
theorem mH_strayAll : MkV H_strayAll 1 := ⟨LTm 356 (by decide +kernel) rfl, LTm 357 (by decide +kernel) rfl, ini_H, LTm 358 rfl rfl, ⟨by decide, by decide, by decide +kernel⟩⟩
set_option maxRecDepth 20000 in
theorem mH_strayedFrom : MkV H_strayedFrom 2 := ⟨LTm 360 (by decide +kernel) rfl, LTm 361 (by decide +kernel) rfl, ini_H, LTm 362 rfl rfl, ⟨by decide, by decide, by decide +kernel⟩⟩
set_option maxRecDepth 20000 in
theorem mS_towards : MkS S_towards 3 := ⟨LTm 364 (by decide +kernel) rfl, ini_S, LTm 365 rfl rfl, ⟨by decide, by decide, by decide +kernel⟩⟩
set_option maxRecDepth 20000 in
theorem mJM_min : MkS JM_min 2 := ⟨LTm 367 (by decide +kernel) rfl, ini_JM, LTm 368 rfl rfl, ⟨by decide, by decide, by decide +kernel⟩⟩
set_option maxRecDepth 20000 in
theorem mJM_max : MkS JM_max 2 := ⟨LTm 370 (by decide +kernel) rfl, ini_JM, LTm 371 rfl rfl, ⟨by decide, by decide, by decide +kernel⟩⟩
set_option maxRecDepth 20000 in
theorem mH_prowl : MkV H_prowl 0 := ⟨LTm 375 (by decide +kernel) rfl, LTm 376 (by decide +kernel) rfl, ini_H, LTm 377 rfl rfl, ⟨by decide, by decide, by decide +kernel⟩⟩
set_option maxRecDepth 20000 in
theorem mH_nearestToWolf : MkV H_nearestToWolf 0 := ⟨LTm 379 (by decide +kernel) rfl, LTm 380 (by decide +kernel) rfl, ini_H, LTm 381 rfl rfl, ⟨by decide, by decide, by decide +kernel⟩⟩
set_option maxRecDepth 20000 in
theorem mH_frighten : MkV H_frighten 0 := ⟨LTm 383 (by decide +kernel) rfl, LTm 384 (by decide +kernel) rfl, ini_H, LTm 385 rfl rfl, ⟨by decide, by decide, by decide +kernel⟩⟩
set_option maxRecDepth 20000 in
theorem mH_tend : MkV H_tend 0 := ⟨LTm 387 (by decide +kernel) rfl, LTm 388 (by decide +kernel) rfl, ini_H, LTm 389 rfl rfl, ⟨by decide, by decide, by decide +kernel⟩⟩
set_option maxRecDepth 20000 in
theorem mH_carryHome : MkV H_carryHome 0 := ⟨LTm 391 (by decide +kernel) rfl, LTm 392 (by decide +kernel) rfl, ini_H, LTm 393 rfl rfl, ⟨by decide, by decide, by decide +kernel⟩⟩
set_option maxRecDepth 20000 in
theorem mH_seek : MkV H_seek 0 := ⟨LTm 396 (by decide +kernel) rfl, LTm 397 (by decide +kernel) rfl, ini_H, LTm 398 rfl rfl, ⟨by decide, by decide, by decide +kernel⟩⟩
set_option maxRecDepth 20000 in
theorem mH_sought : MkV H_sought 0 := ⟨LTm 400 (by decide +kernel) rfl, LTm 401 (by decide +kernel) rfl, ini_H, LTm 402 rfl rfl, ⟨by decide, by decide, by decide +kernel⟩⟩
set_option maxRecDepth 20000 in
theorem mH_settle : MkV H_settle 0 := ⟨LTm 404 (by decide +kernel) rfl, LTm 405 (by decide +kernel) rfl, ini_H, LTm 406 rfl rfl, ⟨by decide, by decide, by decide +kernel⟩⟩
set_option maxRecDepth 20000 in
theorem mH_total : MkV H_total 1 := ⟨LTm 409 (by decide +kernel) rfl, LTm 410 (by decide +kernel) rfl, ini_H, LTm 411 rfl rfl, ⟨by decide, by decide, by decide +kernel⟩⟩
set_option maxRecDepth 20000 in
theorem mS_now : MkV S_now 1 := ⟨LTm 413 (by decide +kernel) rfl, LTm 414 (by decide +kernel) rfl, ini_S, LTm 415 rfl rfl, ⟨by decide, by decide, by decide +kernel⟩⟩
set_option maxRecDepth 20000 in
theorem mH_farSheep : MkV H_farSheep 0 := ⟨LTm 417 (by decide +kernel) rfl, LTm 418 (by decide +kernel) rfl, ini_H, LTm 419 rfl rfl, ⟨by decide, by decide, by decide +kernel⟩⟩
set_option maxRecDepth 20000 in
theorem mH_mostAfraid : MkV H_mostAfraid 0 := ⟨LTm 422 (by decide +kernel) rfl, LTm 423 (by decide +kernel) rfl, ini_H, LTm 424 rfl rfl, ⟨by decide, by decide, by decide +kernel⟩⟩
set_option maxRecDepth 20000 in
theorem mS_ahead : MkV S_ahead 3 := ⟨LTm 426 (by decide +kernel) rfl, LTm 427 (by decide +kernel) rfl, ini_S, LTm 428 rfl rfl, ⟨by decide, by decide, by decide +kernel⟩⟩
set_option maxRecDepth 20000 in
theorem mH_become : MkV H_become 1 := ⟨LTm 430 (by decide +kernel) rfl, LTm 431 (by decide +kernel) rfl, ini_H, LTm 432 rfl rfl, ⟨by decide, by decide, by decide +kernel⟩⟩
set_option maxRecDepth 20000 in
theorem mS_later : MkV S_later 2 := ⟨LTm 437 (by decide +kernel) rfl, LTm 438 (by decide +kernel) rfl, ini_S, LTm 439 rfl rfl, ⟨by decide, by decide, by decide +kernel⟩⟩
set_option maxRecDepth 20000 in
theorem mS_when : MkV S_when 2 := ⟨LTm 441 (by decide +kernel) rfl, LTm 442 (by decide +kernel) rfl, ini_S, LTm 443 rfl rfl, ⟨by decide, by decide, by decide +kernel⟩⟩
set_option maxRecDepth 20000 in
theorem mS_firstHourOfAtLeast : MkV S_firstHourOfAtLeast 3 := ⟨LTm 446 (by decide +kernel) rfl, LTm 1 (by decide +kernel) rfl, ini_S, LTm 447 rfl rfl, ⟨by decide, by decide, by decide +kernel⟩⟩
set_option maxRecDepth 20000 in
theorem mS_home : MkV S_home 0 := ⟨LTm 449 (by decide +kernel) rfl, LTm 450 (by decide +kernel) rfl, ini_S, LTm 451 rfl rfl, ⟨by decide, by decide, by decide +kernel⟩⟩
set_option maxRecDepth 20000 in
theorem mH_allAtFold : MkV H_allAtFold 0 := ⟨LTm 453 (by decide +kernel) rfl, LTm 454 (by decide +kernel) rfl, ini_H, LTm 455 rfl rfl, ⟨by decide, by decide, by decide +kernel⟩⟩
set_option maxRecDepth 20000 in
theorem mS_panic : MkV S_panic 2 := ⟨LTm 457 (by decide +kernel) rfl, LTm 458 (by decide +kernel) rfl, ini_S, LTm 459 rfl rfl, ⟨by decide, by decide, by decide +kernel⟩⟩
set_option maxRecDepth 20000 in
theorem mS_standFor : MkV S_standFor 1 := ⟨LTm 461 (by decide +kernel) rfl, LTm 462 (by decide +kernel) rfl, ini_S, LTm 463 rfl rfl, ⟨by decide, by decide, by decide +kernel⟩⟩
set_option maxRecDepth 20000 in
theorem mS_foldFor : MkV S_foldFor 1 := ⟨LTm 466 (by decide +kernel) rfl, LTm 467 (by decide +kernel) rfl, ini_S, LTm 468 rfl rfl, ⟨by decide, by decide, by decide +kernel⟩⟩
set_option maxRecDepth 20000 in
theorem mS_kindFor : MkV S_kindFor 2 := ⟨LTm 470 (by decide +kernel) rfl, LTm 471 (by decide +kernel) rfl, ini_S, LTm 472 rfl rfl, ⟨by decide, by decide, by decide +kernel⟩⟩
set_option maxRecDepth 20000 in
theorem mS_paceFor : MkV S_paceFor 2 := ⟨LTm 474 (by decide +kernel) rfl, LTm 475 (by decide +kernel) rfl, ini_S, LTm 476 rfl rfl, ⟨by decide, by decide, by decide +kernel⟩⟩
set_option maxRecDepth 20000 in
theorem mS_tether : MkV S_tether 1 := ⟨LTm 478 (by decide +kernel) rfl, LTm 479 (by decide +kernel) rfl, ini_S, LTm 480 rfl rfl, ⟨by decide, by decide, by decide +kernel⟩⟩
set_option maxRecDepth 20000 in
theorem mJI_bitCount : MkS JI_bitCount 1 := ⟨LTm 482 (by decide +kernel) rfl, ini_JI, LTm 483 rfl rfl, ⟨by decide, by decide, by decide +kernel⟩⟩
set_option maxRecDepth 20000 in
theorem mS_keepsNear : MkV S_keepsNear 2 := ⟨LTm 489 (by decide +kernel) rfl, LTm 2 (by decide +kernel) rfl, ini_S, LTm 490 rfl rfl, ⟨by decide, by decide, by decide +kernel⟩⟩
set_option maxRecDepth 20000 in
theorem mS_fits : MkV S_fits 2 := ⟨LTm 493 (by decide +kernel) rfl, LTm 494 (by decide +kernel) rfl, ini_S, LTm 495 rfl rfl, ⟨by decide, by decide, by decide +kernel⟩⟩
set_option maxRecDepth 20000 in
theorem mS_isSheet : MkS S_isSheet 1 := ⟨LTm 497 (by decide +kernel) rfl, ini_S, LTm 498 rfl rfl, ⟨by decide, by decide, by decide +kernel⟩⟩
set_option maxRecDepth 20000 in
theorem mE_isMissing : MkV E_isMissing 0 := ⟨LTm 500 (by decide +kernel) rfl, LTm 501 (by decide +kernel) rfl, ini_E, LTm 502 rfl rfl, ⟨by decide, by decide, by decide +kernel⟩⟩
set_option maxRecDepth 20000 in
theorem mS_keeperGoesAsTold : MkV S_keeperGoesAsTold 1 := ⟨LTm 505 (by decide +kernel) rfl, LTm 3 (by decide +kernel) rfl, ini_S, LTm 506 rfl rfl, ⟨by decide, by decide, by decide +kernel⟩⟩
set_option maxRecDepth 20000 in
theorem mE_allows : MkV E_allows 2 := ⟨LTm 508 (by decide +kernel) rfl, LTm 509 (by decide +kernel) rfl, ini_E, LTm 510 rfl rfl, ⟨by decide, by decide, by decide +kernel⟩⟩
set_option maxRecDepth 20000 in
theorem mS_kinds : MkV S_kinds 2 := ⟨LTm 512 (by decide +kernel) rfl, LTm 513 (by decide +kernel) rfl, ini_S, LTm 514 rfl rfl, ⟨by decide, by decide, by decide +kernel⟩⟩
set_option maxRecDepth 20000 in
theorem mS_sheepGoesAsTold : MkV S_sheepGoesAsTold 2 := ⟨LTm 517 (by decide +kernel) rfl, LTm 4 (by decide +kernel) rfl, ini_S, LTm 518 rfl rfl, ⟨by decide, by decide, by decide +kernel⟩⟩
set_option maxRecDepth 20000 in
theorem mS_nights : MkV S_nights 1 := ⟨LTm 520 (by decide +kernel) rfl, LTm 521 (by decide +kernel) rfl, ini_S, LTm 522 rfl rfl, ⟨by decide, by decide, by decide +kernel⟩⟩
set_option maxRecDepth 20000 in
theorem mS_draw : MkV S_draw 0 := ⟨LTm 525 (by decide +kernel) rfl, LTm 5 (by decide +kernel) rfl, ini_S, LTm 526 rfl rfl, ⟨by decide, by decide, by decide +kernel⟩⟩
set_option maxRecDepth 20000 in
theorem mS_odds : MkV S_odds 3 := ⟨LTm 529 (by decide +kernel) rfl, LTm 530 (by decide +kernel) rfl, ini_S, LTm 531 rfl rfl, ⟨by decide, by decide, by decide +kernel⟩⟩
set_option maxRecDepth 20000 in
theorem mH_cellsOutOfReachOf : MkV H_cellsOutOfReachOf 1 := ⟨LTm 533 (by decide +kernel) rfl, LTm 534 (by decide +kernel) rfl, ini_H, LTm 535 rfl rfl, ⟨by decide, by decide, by decide +kernel⟩⟩
set_option maxRecDepth 20000 in
theorem mS_power : MkS S_power 2 := ⟨LTm 537 (by decide +kernel) rfl, ini_S, LTm 538 rfl rfl, ⟨by decide, by decide, by decide +kernel⟩⟩
set_option maxRecDepth 20000 in
theorem mS_seed : MkV S_seed 1 := ⟨LTm 540 (by decide +kernel) rfl, LTm 541 (by decide +kernel) rfl, ini_S, LTm 542 rfl rfl, ⟨by decide, by decide, by decide +kernel⟩⟩
set_option maxRecDepth 20000 in
theorem mS_feed : MkV S_feed 2 := ⟨LTm 544 (by decide +kernel) rfl, LTm 545 (by decide +kernel) rfl, ini_S, LTm 546 rfl rfl, ⟨by decide, by decide, by decide +kernel⟩⟩
set_option maxRecDepth 20000 in
theorem mT_hasRoomFor : MkV T_hasRoomFor 1 := ⟨LTm 548 (by decide +kernel) rfl, LTm 549 (by decide +kernel) rfl, ini_T, LTm 550 rfl rfl, ⟨by decide, by decide, by decide +kernel⟩⟩
set_option maxRecDepth 20000 in
theorem mT_append : MkV T_append 1 := ⟨LTm 552 (by decide +kernel) rfl, LTm 553 (by decide +kernel) rfl, ini_T, LTm 554 rfl rfl, ⟨by decide, by decide, by decide +kernel⟩⟩
set_option maxRecDepth 20000 in
theorem mS_wipe : MkV S_wipe 0 := ⟨LTm 557 (by decide +kernel) rfl, LTm 558 (by decide +kernel) rfl, ini_S, LTm 559 rfl rfl, ⟨by decide, by decide, by decide +kernel⟩⟩
set_option maxRecDepth 20000 in
theorem mS_text : MkV S_text 0 := ⟨LTm 561 (by decide +kernel) rfl, LTm 562 (by decide +kernel) rfl, ini_S, LTm 563 rfl rfl, ⟨by decide, by decide, by decide +kernel⟩⟩
set_option maxRecDepth 20000 in
theorem mT_readOnto : MkV T_readOnto 1 := ⟨LTm 565 (by decide +kernel) rfl, LTm 566 (by decide +kernel) rfl, ini_T, LTm 567 rfl rfl, ⟨by decide, by decide, by decide +kernel⟩⟩
set_option maxRecDepth 20000 in
theorem mT_nextToken : MkV T_nextToken 0 := ⟨LTm 570 (by decide +kernel) rfl, LTm 6 (by decide +kernel) rfl, ini_T, LTm 571 rfl rfl, ⟨by decide, by decide, by decide +kernel⟩⟩
set_option maxRecDepth 20000 in
theorem mT_tokenAt : MkV T_tokenAt 1 := ⟨LTm 574 (by decide +kernel) rfl, LTm 7 (by decide +kernel) rfl, ini_T, LTm 575 rfl rfl, ⟨by decide, by decide, by decide +kernel⟩⟩
set_option maxRecDepth 20000 in
theorem mT_isLong : MkS T_isLong 1 := ⟨LTm 577 (by decide +kernel) rfl, ini_T, LTm 578 rfl rfl, ⟨by decide, by decide, by decide +kernel⟩⟩
set_option maxRecDepth 20000 in
theorem mT_readItem : MkV T_readItem 1 := ⟨LTm 581 (by decide +kernel) rfl, LTm 8 (by decide +kernel) rfl, ini_T, LTm 582 rfl rfl, ⟨by decide, by decide, by decide +kernel⟩⟩
set_option maxRecDepth 20000 in
theorem mT_kindOfWord : MkV T_kindOfWord 0 := ⟨LTm 585 (by decide +kernel) rfl, LTm 9 (by decide +kernel) rfl, ini_T, LTm 586 rfl rfl, ⟨by decide, by decide, by decide +kernel⟩⟩
set_option maxRecDepth 20000 in
theorem mT_nameOf : MkS T_nameOf 1 := ⟨LTm 588 (by decide +kernel) rfl, ini_T, LTm 589 rfl rfl, ⟨by decide, by decide, by decide +kernel⟩⟩
set_option maxRecDepth 20000 in
theorem mT_isWord : MkV T_isWord 1 := ⟨LTm 599 (by decide +kernel) rfl, LTm 10 (by decide +kernel) rfl, ini_T, LTm 600 rfl rfl, ⟨by decide, by decide, by decide +kernel⟩⟩
set_option maxRecDepth 20000 in
theorem mJS_length : MkV JS_length 0 := ⟨LTm 602 (by decide +kernel) rfl, LTm 603 (by decide +kernel) rfl, ini_JS, LTm 604 rfl rfl, ⟨by decide, by decide, by decide +kernel⟩⟩
set_option maxRecDepth 20000 in
theorem mJS_coder : MkV JS_coder 0 := ⟨LTm 606 (by decide +kernel) rfl, LTm 607 (by decide +kernel) rfl, ini_JS, LTm 608 rfl rfl, ⟨by decide, by decide, by decide +kernel⟩⟩
set_option maxRecDepth 20000 in
theorem mJS_charAt : MkV JS_charAt 1 := ⟨LTm 612 (by decide +kernel) rfl, LTm 613 (by decide +kernel) rfl, ini_JS, LTm 614 rfl rfl, ⟨by decide, by decide, by decide +kernel⟩⟩
set_option maxRecDepth 20000 in
theorem mJS_isLatin1 : MkV JS_isLatin1 0 := ⟨LTm 616 (by decide +kernel) rfl, LTm 617 (by decide +kernel) rfl, ini_JS, LTm 618 rfl rfl, ⟨by decide, by decide, by decide +kernel⟩⟩
set_option maxRecDepth 20000 in
theorem mJL_charAt : MkS JL_charAt 2 := ⟨LTm 620 (by decide +kernel) rfl, ini_JL, LTm 621 rfl rfl, ⟨by decide, by decide, by decide +kernel⟩⟩
set_option maxRecDepth 20000 in
theorem mJS_checkIndex : MkS JS_checkIndex 2 := ⟨LTm 623 (by decide +kernel) rfl, ini_JS, LTm 624 rfl rfl, ⟨by decide, by decide, by decide +kernel⟩⟩
set_option maxRecDepth 20000 in
theorem mJP_checkIndex : MkS JP_checkIndex 3 := ⟨LTm 628 (by decide +kernel) rfl, ini_JP, LTm 629 rfl rfl, ⟨by decide, by decide, by decide +kernel⟩⟩
set_option maxRecDepth 20000 in
theorem mT_readSheep : MkV T_readSheep 2 := ⟨LTm 651 (by decide +kernel) rfl, LTm 11 (by decide +kernel) rfl, ini_T, LTm 652 rfl rfl, ⟨by decide, by decide, by decide +kernel⟩⟩
set_option maxRecDepth 20000 in
theorem mT_skipWord : MkV T_skipWord 1 := ⟨LTm 657 (by decide +kernel) rfl, LTm 12 (by decide +kernel) rfl, ini_T, LTm 658 rfl rfl, ⟨by decide, by decide, by decide +kernel⟩⟩
set_option maxRecDepth 20000 in
theorem mT_takeNumber : MkV T_takeNumber 1 := ⟨LTm 661 (by decide +kernel) rfl, LTm 13 (by decide +kernel) rfl, ini_T, LTm 662 rfl rfl, ⟨by decide, by decide, by decide +kernel⟩⟩
set_option maxRecDepth 20000 in
theorem mT_readFold : MkV T_readFold 1 := ⟨LTm 669 (by decide +kernel) rfl, LTm 14 (by decide +kernel) rfl, ini_T, LTm 670 rfl rfl, ⟨by decide, by decide, by decide +kernel⟩⟩
set_option maxRecDepth 20000 in
theorem mT_readKeeper : MkV T_readKeeper 1 := ⟨LTm 674 (by decide +kernel) rfl, LTm 15 (by decide +kernel) rfl, ini_T, LTm 675 rfl rfl, ⟨by decide, by decide, by decide +kernel⟩⟩
set_option maxRecDepth 20000 in
theorem mT_readWolf : MkV T_readWolf 1 := ⟨LTm 680 (by decide +kernel) rfl, LTm 16 (by decide +kernel) rfl, ini_T, LTm 681 rfl rfl, ⟨by decide, by decide, by decide +kernel⟩⟩
set_option maxRecDepth 20000 in
theorem mS_hold : MkV S_hold 2 := ⟨LTm 685 (by decide +kernel) rfl, LTm 686 (by decide +kernel) rfl, ini_S, LTm 687 rfl rfl, ⟨by decide, by decide, by decide +kernel⟩⟩
set_option maxRecDepth 20000 in
theorem mS_isSpot : MkS S_isSpot 1 := ⟨LTm 689 (by decide +kernel) rfl, ini_S, LTm 690 rfl rfl, ⟨by decide, by decide, by decide +kernel⟩⟩
set_option maxRecDepth 20000 in
theorem mS_as : MkV S_as 2 := ⟨LTm 692 (by decide +kernel) rfl, LTm 693 (by decide +kernel) rfl, ini_S, LTm 694 rfl rfl, ⟨by decide, by decide, by decide +kernel⟩⟩
set_option maxRecDepth 20000 in
theorem mS_isUnder : MkS S_isUnder 2 := ⟨LTm 696 (by decide +kernel) rfl, ini_S, LTm 697 rfl rfl, ⟨by decide, by decide, by decide +kernel⟩⟩
set_option maxRecDepth 20000 in
theorem mS_kindAbove : MkS S_kindAbove 1 := ⟨LTm 699 (by decide +kernel) rfl, ini_S, LTm 700 rfl rfl, ⟨by decide, by decide, by decide +kernel⟩⟩
set_option maxRecDepth 20000 in
theorem mS_sheet : MkV S_sheet 3 := ⟨LTm 702 (by decide +kernel) rfl, LTm 703 (by decide +kernel) rfl, ini_S, LTm 704 rfl rfl, ⟨by decide, by decide, by decide +kernel⟩⟩
set_option maxRecDepth 20000 in
theorem mE_begin : MkV E_begin 2 := ⟨LTm 706 (by decide +kernel) rfl, LTm 707 (by decide +kernel) rfl, ini_E, LTm 708 rfl rfl, ⟨by decide, by decide, by decide +kernel⟩⟩
set_option maxRecDepth 20000 in
theorem mS_write : MkV S_write 3 := ⟨LTm 710 (by decide +kernel) rfl, LTm 711 (by decide +kernel) rfl, ini_S, LTm 712 rfl rfl, ⟨by decide, by decide, by decide +kernel⟩⟩
set_option maxRecDepth 20000 in
theorem mE_put : MkV E_put 2 := ⟨LTm 714 (by decide +kernel) rfl, LTm 715 (by decide +kernel) rfl, ini_E, LTm 716 rfl rfl, ⟨by decide, by decide, by decide +kernel⟩⟩
set_option maxRecDepth 20000 in
theorem mS_copy : MkV S_copy 5 := ⟨LTm 718 (by decide +kernel) rfl, LTm 719 (by decide +kernel) rfl, ini_S, LTm 720 rfl rfl, ⟨by decide, by decide, by decide +kernel⟩⟩
set_option maxRecDepth 20000 in
theorem mE_hasRun : MkV E_hasRun 2 := ⟨LTm 722 (by decide +kernel) rfl, LTm 723 (by decide +kernel) rfl, ini_E, LTm 724 rfl rfl, ⟨by decide, by decide, by decide +kernel⟩⟩
set_option maxRecDepth 20000 in
theorem mS_load : MkV S_load 1 := ⟨LTm 727 (by decide +kernel) rfl, LTm 728 (by decide +kernel) rfl, ini_S, LTm 729 rfl rfl, ⟨by decide, by decide, by decide +kernel⟩⟩
set_option maxRecDepth 20000 in
theorem mS_judge : MkV S_judge 1 := ⟨LTm 731 (by decide +kernel) rfl, LTm 732 (by decide +kernel) rfl, ini_S, LTm 733 rfl rfl, ⟨by decide, by decide, by decide +kernel⟩⟩
set_option maxRecDepth 20000 in
theorem mS_image : MkV S_image 0 := ⟨LTm 735 (by decide +kernel) rfl, LTm 736 (by decide +kernel) rfl, ini_S, LTm 737 rfl rfl, ⟨by decide, by decide, by decide +kernel⟩⟩
set_option maxRecDepth 20000 in
theorem mS_undo : MkV S_undo 0 := ⟨LTm 739 (by decide +kernel) rfl, LTm 740 (by decide +kernel) rfl, ini_S, LTm 741 rfl rfl, ⟨by decide, by decide, by decide +kernel⟩⟩
set_option maxRecDepth 20000 in
theorem mS_tear : MkV S_tear 0 := ⟨LTm 743 (by decide +kernel) rfl, LTm 744 (by decide +kernel) rfl, ini_S, LTm 745 rfl rfl, ⟨by decide, by decide, by decide +kernel⟩⟩
set_option maxRecDepth 20000 in
theorem mS_count : MkV S_count 1 := ⟨LTm 747 (by decide +kernel) rfl, LTm 748 (by decide +kernel) rfl, ini_S, LTm 749 rfl rfl, ⟨by decide, by decide, by decide +kernel⟩⟩
set_option maxRecDepth 20000 in
theorem mS_spotsInUse : MkV S_spotsInUse 0 := ⟨LTm 752 (by decide +kernel) rfl, LTm 17 (by decide +kernel) rfl, ini_S, LTm 753 rfl rfl, ⟨by decide, by decide, by decide +kernel⟩⟩
set_option maxRecDepth 20000 in
theorem mS_status : MkV S_status 1 := ⟨LTm 755 (by decide +kernel) rfl, LTm 756 (by decide +kernel) rfl, ini_S, LTm 757 rfl rfl, ⟨by decide, by decide, by decide +kernel⟩⟩
set_option maxRecDepth 20000 in
theorem mQ_set : MkV Q_set 2 := ⟨LTm 847 (by decide +kernel) rfl, LTm 848 (by decide +kernel) rfl, ini_Q, LTm 849 rfl rfl, ⟨by decide, by decide, by decide +kernel⟩⟩
set_option maxRecDepth 20000 in
theorem mQ_within : MkS Q_within 3 := ⟨LTm 851 (by decide +kernel) rfl, ini_Q, LTm 852 rfl rfl, ⟨by decide, by decide, by decide +kernel⟩⟩
set_option maxRecDepth 20000 in
theorem mQ_isCell : MkS Q_isCell 1 := ⟨LTm 854 (by decide +kernel) rfl, ini_Q, LTm 855 rfl rfl, ⟨by decide, by decide, by decide +kernel⟩⟩
set_option maxRecDepth 20000 in
theorem mQ_finding : MkV Q_finding 1 := ⟨LTm 859 (by decide +kernel) rfl, LTm 18 (by decide +kernel) rfl, ini_Q, LTm 860 rfl rfl, ⟨by decide, by decide, by decide +kernel⟩⟩
set_option maxRecDepth 20000 in
theorem mQ_keeperTo : MkV Q_keeperTo 1 := ⟨LTm 863 (by decide +kernel) rfl, LTm 19 (by decide +kernel) rfl, ini_Q, LTm 864 rfl rfl, ⟨by decide, by decide, by decide +kernel⟩⟩
set_option maxRecDepth 20000 in
theorem mQ_keeperAt : MkV Q_keeperAt 1 := ⟨LTm 867 (by decide +kernel) rfl, LTm 20 (by decide +kernel) rfl, ini_Q, LTm 868 rfl rfl, ⟨by decide, by decide, by decide +kernel⟩⟩
set_option maxRecDepth 20000 in
theorem mQ_sheepAt : MkS Q_sheepAt 2 := ⟨LTm 870 (by decide +kernel) rfl, ini_Q, LTm 871 rfl rfl, ⟨by decide, by decide, by decide +kernel⟩⟩
set_option maxRecDepth 20000 in
theorem mQ_become : MkV Q_become 2 := ⟨LTm 874 (by decide +kernel) rfl, LTm 21 (by decide +kernel) rfl, ini_Q, LTm 875 rfl rfl, ⟨by decide, by decide, by decide +kernel⟩⟩
set_option maxRecDepth 20000 in
theorem mQ_hill : MkV Q_hill 1 := ⟨LTm 877 (by decide +kernel) rfl, LTm 878 (by decide +kernel) rfl, ini_Q, LTm 879 rfl rfl, ⟨by decide, by decide, by decide +kernel⟩⟩
set_option maxRecDepth 20000 in
theorem mQ_sheep : MkV Q_sheep 2 := ⟨LTm 881 (by decide +kernel) rfl, LTm 882 (by decide +kernel) rfl, ini_Q, LTm 883 rfl rfl, ⟨by decide, by decide, by decide +kernel⟩⟩
set_option maxRecDepth 20000 in
theorem mQ_isKind : MkS Q_isKind 1 := ⟨LTm 885 (by decide +kernel) rfl, ini_Q, LTm 886 rfl rfl, ⟨by decide, by decide, by decide +kernel⟩⟩
set_option maxRecDepth 20000 in
theorem mQ_comes : MkV Q_comes 2 := ⟨LTm 890 (by decide +kernel) rfl, LTm 22 (by decide +kernel) rfl, ini_Q, LTm 891 rfl rfl, ⟨by decide, by decide, by decide +kernel⟩⟩
set_option maxRecDepth 20000 in
theorem mQ_of : MkV Q_of 2 := ⟨LTm 893 (by decide +kernel) rfl, LTm 894 (by decide +kernel) rfl, ini_Q, LTm 895 rfl rfl, ⟨by decide, by decide, by decide +kernel⟩⟩
set_option maxRecDepth 20000 in
theorem mQ_isSheep : MkV Q_isSheep 1 := ⟨LTm 898 (by decide +kernel) rfl, LTm 23 (by decide +kernel) rfl, ini_Q, LTm 899 rfl rfl, ⟨by decide, by decide, by decide +kernel⟩⟩
set_option maxRecDepth 20000 in
theorem mQ_far : MkV Q_far 1 := ⟨LTm 902 (by decide +kernel) rfl, LTm 24 (by decide +kernel) rfl, ini_Q, LTm 903 rfl rfl, ⟨by decide, by decide, by decide +kernel⟩⟩
set_option maxRecDepth 20000 in
theorem mQ_sheepIs : MkV Q_sheepIs 2 := ⟨LTm 906 (by decide +kernel) rfl, LTm 25 (by decide +kernel) rfl, ini_Q, LTm 907 rfl rfl, ⟨by decide, by decide, by decide +kernel⟩⟩
set_option maxRecDepth 20000 in
theorem mJM_abs : MkS JM_abs 1 := ⟨LTm 909 (by decide +kernel) rfl, ini_JM, LTm 910 rfl rfl, ⟨by decide, by decide, by decide +kernel⟩⟩
set_option maxRecDepth 20000 in
theorem mQ_strays : MkV Q_strays 1 := ⟨LTm 913 (by decide +kernel) rfl, LTm 26 (by decide +kernel) rfl, ini_Q, LTm 914 rfl rfl, ⟨by decide, by decide, by decide +kernel⟩⟩
set_option maxRecDepth 20000 in
theorem mQ_isAlone : MkV Q_isAlone 1 := ⟨LTm 917 (by decide +kernel) rfl, LTm 27 (by decide +kernel) rfl, ini_Q, LTm 918 rfl rfl, ⟨by decide, by decide, by decide +kernel⟩⟩
set_option maxRecDepth 20000 in
theorem mQ_fears : MkV Q_fears 1 := ⟨LTm 921 (by decide +kernel) rfl, LTm 28 (by decide +kernel) rfl, ini_Q, LTm 922 rfl rfl, ⟨by decide, by decide, by decide +kernel⟩⟩
set_option maxRecDepth 20000 in
theorem mQ_calms : MkV Q_calms 1 := ⟨LTm 925 (by decide +kernel) rfl, LTm 29 (by decide +kernel) rfl, ini_Q, LTm 926 rfl rfl, ⟨by decide, by decide, by decide +kernel⟩⟩
set_option maxRecDepth 20000 in
theorem mQ_light : MkV Q_light 1 := ⟨LTm 929 (by decide +kernel) rfl, LTm 30 (by decide +kernel) rfl, ini_Q, LTm 930 rfl rfl, ⟨by decide, by decide, by decide +kernel⟩⟩
set_option maxRecDepth 20000 in
theorem mQ_change : MkV Q_change 3 := ⟨LTm 932 (by decide +kernel) rfl, LTm 933 (by decide +kernel) rfl, ini_Q, LTm 934 rfl rfl, ⟨by decide, by decide, by decide +kernel⟩⟩
set_option maxRecDepth 20000 in
theorem mQ_isField : MkS Q_isField 2 := ⟨LTm 936 (by decide +kernel) rfl, ini_Q, LTm 937 rfl rfl, ⟨by decide, by decide, by decide +kernel⟩⟩
set_option maxRecDepth 20000 in
theorem mQ_drop : MkV Q_drop 0 := ⟨LTm 940 (by decide +kernel) rfl, LTm 941 (by decide +kernel) rfl, ini_Q, LTm 942 rfl rfl, ⟨by decide, by decide, by decide +kernel⟩⟩
set_option maxRecDepth 20000 in
theorem mQ_orNone : MkV Q_orNone 1 := ⟨LTm 945 (by decide +kernel) rfl, LTm 31 (by decide +kernel) rfl, ini_Q, LTm 946 rfl rfl, ⟨by decide, by decide, by decide +kernel⟩⟩
set_option maxRecDepth 20000 in
theorem mQ_who : MkV Q_who 1 := ⟨LTm 949 (by decide +kernel) rfl, LTm 950 (by decide +kernel) rfl, ini_Q, LTm 951 rfl rfl, ⟨by decide, by decide, by decide +kernel⟩⟩
set_option maxRecDepth 20000 in
theorem mQ_setAt : MkV Q_setAt 1 := ⟨LTm 954 (by decide +kernel) rfl, LTm 32 (by decide +kernel) rfl, ini_Q, LTm 955 rfl rfl, ⟨by decide, by decide, by decide +kernel⟩⟩
set_option maxRecDepth 20000 in
theorem mQ_go : MkV Q_go 1 := ⟨LTm 957 (by decide +kernel) rfl, LTm 958 (by decide +kernel) rfl, ini_Q, LTm 959 rfl rfl, ⟨by decide, by decide, by decide +kernel⟩⟩
set_option maxRecDepth 20000 in
theorem mQ_hoursGo : MkV Q_hoursGo 1 := ⟨LTm 963 (by decide +kernel) rfl, LTm 33 (by decide +kernel) rfl, ini_Q, LTm 964 rfl rfl, ⟨by decide, by decide, by decide +kernel⟩⟩
set_option maxRecDepth 20000 in
theorem mQ_hour : MkV Q_hour 0 := ⟨LTm 967 (by decide +kernel) rfl, LTm 34 (by decide +kernel) rfl, ini_Q, LTm 968 rfl rfl, ⟨by decide, by decide, by decide +kernel⟩⟩
set_option maxRecDepth 20000 in
theorem mQ_sheepGo : MkV Q_sheepGo 0 := ⟨LTm 971 (by decide +kernel) rfl, LTm 35 (by decide +kernel) rfl, ini_Q, LTm 972 rfl rfl, ⟨by decide, by decide, by decide +kernel⟩⟩
set_option maxRecDepth 20000 in
theorem mQ_hasBit : MkS Q_hasBit 2 := ⟨LTm 974 (by decide +kernel) rfl, ini_Q, LTm 975 rfl rfl, ⟨by decide, by decide, by decide +kernel⟩⟩
set_option maxRecDepth 20000 in
theorem mQ_towards : MkS Q_towards 3 := ⟨LTm 977 (by decide +kernel) rfl, ini_Q, LTm 978 rfl rfl, ⟨by decide, by decide, by decide +kernel⟩⟩
set_option maxRecDepth 20000 in
theorem mQ_awayFrom : MkV Q_awayFrom 2 := ⟨LTm 983 (by decide +kernel) rfl, LTm 36 (by decide +kernel) rfl, ini_Q, LTm 984 rfl rfl, ⟨by decide, by decide, by decide +kernel⟩⟩
set_option maxRecDepth 20000 in
theorem mQ_wolfGoes : MkV Q_wolfGoes 0 := ⟨LTm 987 (by decide +kernel) rfl, LTm 37 (by decide +kernel) rfl, ini_Q, LTm 988 rfl rfl, ⟨by decide, by decide, by decide +kernel⟩⟩
set_option maxRecDepth 20000 in
theorem mQ_nearest : MkV Q_nearest 0 := ⟨LTm 991 (by decide +kernel) rfl, LTm 38 (by decide +kernel) rfl, ini_Q, LTm 992 rfl rfl, ⟨by decide, by decide, by decide +kernel⟩⟩
set_option maxRecDepth 20000 in
theorem mQ_carries : MkV Q_carries 0 := ⟨LTm 995 (by decide +kernel) rfl, LTm 39 (by decide +kernel) rfl, ini_Q, LTm 996 rfl rfl, ⟨by decide, by decide, by decide +kernel⟩⟩
set_option maxRecDepth 20000 in
theorem mQ_seeks : MkV Q_seeks 0 := ⟨LTm 999 (by decide +kernel) rfl, LTm 40 (by decide +kernel) rfl, ini_Q, LTm 1000 rfl rfl, ⟨by decide, by decide, by decide +kernel⟩⟩
set_option maxRecDepth 20000 in
theorem mQ_sought : MkV Q_sought 0 := ⟨LTm 1003 (by decide +kernel) rfl, LTm 41 (by decide +kernel) rfl, ini_Q, LTm 1004 rfl rfl, ⟨by decide, by decide, by decide +kernel⟩⟩
set_option maxRecDepth 20000 in
theorem mQ_sumOf : MkV Q_sumOf 1 := ⟨LTm 1007 (by decide +kernel) rfl, LTm 42 (by decide +kernel) rfl, ini_Q, LTm 1008 rfl rfl, ⟨by decide, by decide, by decide +kernel⟩⟩
set_option maxRecDepth 20000 in
theorem mQ_now : MkV Q_now 1 := ⟨LTm 1010 (by decide +kernel) rfl, LTm 1011 (by decide +kernel) rfl, ini_Q, LTm 1012 rfl rfl, ⟨by decide, by decide, by decide +kernel⟩⟩
set_option maxRecDepth 20000 in
theorem mQ_lostSet : MkV Q_lostSet 0 := ⟨LTm 1015 (by decide +kernel) rfl, LTm 43 (by decide +kernel) rfl, ini_Q, LTm 1016 rfl rfl, ⟨by decide, by decide, by decide +kernel⟩⟩
set_option maxRecDepth 20000 in
theorem mQ_mostAfraid : MkV Q_mostAfraid 0 := ⟨LTm 1019 (by decide +kernel) rfl, LTm 44 (by decide +kernel) rfl, ini_Q, LTm 1020 rfl rfl, ⟨by decide, by decide, by decide +kernel⟩⟩
set_option maxRecDepth 20000 in
theorem mQ_ahead : MkV Q_ahead 3 := ⟨LTm 1022 (by decide +kernel) rfl, LTm 1023 (by decide +kernel) rfl, ini_Q, LTm 1024 rfl rfl, ⟨by decide, by decide, by decide +kernel⟩⟩
set_option maxRecDepth 20000 in
theorem mQ_behind : MkV Q_behind 2 := ⟨LTm 1027 (by decide +kernel) rfl, LTm 45 (by decide +kernel) rfl, ini_Q, LTm 1028 rfl rfl, ⟨by decide, by decide, by decide +kernel⟩⟩
set_option maxRecDepth 20000 in
theorem mQ_copyRow : MkS Q_copyRow 2 := ⟨LTm 1030 (by decide +kernel) rfl, ini_Q, LTm 1031 rfl rfl, ⟨by decide, by decide, by decide +kernel⟩⟩
set_option maxRecDepth 20000 in
theorem mQ_putBack : MkV Q_putBack 1 := ⟨LTm 1034 (by decide +kernel) rfl, LTm 46 (by decide +kernel) rfl, ini_Q, LTm 1035 rfl rfl, ⟨by decide, by decide, by decide +kernel⟩⟩
set_option maxRecDepth 20000 in
theorem mQ_later : MkV Q_later 2 := ⟨LTm 1037 (by decide +kernel) rfl, LTm 1038 (by decide +kernel) rfl, ini_Q, LTm 1039 rfl rfl, ⟨by decide, by decide, by decide +kernel⟩⟩
set_option maxRecDepth 20000 in
theorem mQ_when : MkV Q_when 2 := ⟨LTm 1041 (by decide +kernel) rfl, LTm 1042 (by decide +kernel) rfl, ini_Q, LTm 1043 rfl rfl, ⟨by decide, by decide, by decide +kernel⟩⟩
set_option maxRecDepth 20000 in
theorem mQ_whenIs : MkV Q_whenIs 3 := ⟨LTm 1046 (by decide +kernel) rfl, LTm 47 (by decide +kernel) rfl, ini_Q, LTm 1047 rfl rfl, ⟨by decide, by decide, by decide +kernel⟩⟩
set_option maxRecDepth 20000 in
theorem mQ_home : MkV Q_home 0 := ⟨LTm 1049 (by decide +kernel) rfl, LTm 1050 (by decide +kernel) rfl, ini_Q, LTm 1051 rfl rfl, ⟨by decide, by decide, by decide +kernel⟩⟩
set_option maxRecDepth 20000 in
theorem mQ_areHome : MkV Q_areHome 0 := ⟨LTm 1054 (by decide +kernel) rfl, LTm 48 (by decide +kernel) rfl, ini_Q, LTm 1055 rfl rfl, ⟨by decide, by decide, by decide +kernel⟩⟩
set_option maxRecDepth 20000 in
theorem mQ_panic : MkV Q_panic 2 := ⟨LTm 1057 (by decide +kernel) rfl, LTm 1058 (by decide +kernel) rfl, ini_Q, LTm 1059 rfl rfl, ⟨by decide, by decide, by decide +kernel⟩⟩
set_option maxRecDepth 20000 in
theorem mQ_standFor : MkV Q_standFor 1 := ⟨LTm 1061 (by decide +kernel) rfl, LTm 1062 (by decide +kernel) rfl, ini_Q, LTm 1063 rfl rfl, ⟨by decide, by decide, by decide +kernel⟩⟩
set_option maxRecDepth 20000 in
theorem mQ_isThought : MkS Q_isThought 1 := ⟨LTm 1065 (by decide +kernel) rfl, ini_Q, LTm 1066 rfl rfl, ⟨by decide, by decide, by decide +kernel⟩⟩
set_option maxRecDepth 20000 in
theorem mQ_leastFor : MkV Q_leastFor 3 := ⟨LTm 1069 (by decide +kernel) rfl, LTm 49 (by decide +kernel) rfl, ini_Q, LTm 1070 rfl rfl, ⟨by decide, by decide, by decide +kernel⟩⟩
set_option maxRecDepth 20000 in
theorem mQ_sumBehind : MkV Q_sumBehind 2 := ⟨LTm 1073 (by decide +kernel) rfl, LTm 50 (by decide +kernel) rfl, ini_Q, LTm 1074 rfl rfl, ⟨by decide, by decide, by decide +kernel⟩⟩
set_option maxRecDepth 20000 in
theorem mQ_foldFor : MkV Q_foldFor 1 := ⟨LTm 1076 (by decide +kernel) rfl, LTm 1077 (by decide +kernel) rfl, ini_Q, LTm 1078 rfl rfl, ⟨by decide, by decide, by decide +kernel⟩⟩
set_option maxRecDepth 20000 in
theorem mQ_kindFor : MkV Q_kindFor 2 := ⟨LTm 1080 (by decide +kernel) rfl, LTm 1081 (by decide +kernel) rfl, ini_Q, LTm 1082 rfl rfl, ⟨by decide, by decide, by decide +kernel⟩⟩
set_option maxRecDepth 20000 in
theorem mQ_paceFor : MkV Q_paceFor 2 := ⟨LTm 1084 (by decide +kernel) rfl, LTm 1085 (by decide +kernel) rfl, ini_Q, LTm 1086 rfl rfl, ⟨by decide, by decide, by decide +kernel⟩⟩
set_option maxRecDepth 20000 in
theorem mQ_tether : MkV Q_tether 1 := ⟨LTm 1088 (by decide +kernel) rfl, LTm 1089 (by decide +kernel) rfl, ini_Q, LTm 1090 rfl rfl, ⟨by decide, by decide, by decide +kernel⟩⟩
set_option maxRecDepth 20000 in
theorem mQ_areNear : MkV Q_areNear 2 := ⟨LTm 1093 (by decide +kernel) rfl, LTm 51 (by decide +kernel) rfl, ini_Q, LTm 1094 rfl rfl, ⟨by decide, by decide, by decide +kernel⟩⟩
set_option maxRecDepth 20000 in
theorem mQ_bits : MkS Q_bits 1 := ⟨LTm 1096 (by decide +kernel) rfl, ini_Q, LTm 1097 rfl rfl, ⟨by decide, by decide, by decide +kernel⟩⟩
set_option maxRecDepth 20000 in
theorem mQ_fits : MkV Q_fits 2 := ⟨LTm 1099 (by decide +kernel) rfl, LTm 1100 (by decide +kernel) rfl, ini_Q, LTm 1101 rfl rfl, ⟨by decide, by decide, by decide +kernel⟩⟩
set_option maxRecDepth 20000 in
theorem mQ_lacks : MkV Q_lacks 2 := ⟨LTm 1104 (by decide +kernel) rfl, LTm 52 (by decide +kernel) rfl, ini_Q, LTm 1105 rfl rfl, ⟨by decide, by decide, by decide +kernel⟩⟩
set_option maxRecDepth 20000 in
theorem mQ_isSheet : MkS Q_isSheet 1 := ⟨LTm 1107 (by decide +kernel) rfl, ini_Q, LTm 1108 rfl rfl, ⟨by decide, by decide, by decide +kernel⟩⟩
set_option maxRecDepth 20000 in
theorem mQ_valuesFor : MkV Q_valuesFor 4 := ⟨LTm 1112 (by decide +kernel) rfl, LTm 53 (by decide +kernel) rfl, ini_Q, LTm 1113 rfl rfl, ⟨by decide, by decide, by decide +kernel⟩⟩
set_option maxRecDepth 20000 in
theorem mQ_isToldWay : MkV Q_isToldWay 2 := ⟨LTm 1116 (by decide +kernel) rfl, LTm 54 (by decide +kernel) rfl, ini_Q, LTm 1117 rfl rfl, ⟨by decide, by decide, by decide +kernel⟩⟩
set_option maxRecDepth 20000 in
theorem mQ_kinds : MkV Q_kinds 2 := ⟨LTm 1119 (by decide +kernel) rfl, LTm 1120 (by decide +kernel) rfl, ini_Q, LTm 1121 rfl rfl, ⟨by decide, by decide, by decide +kernel⟩⟩
set_option maxRecDepth 20000 in
theorem mQ_nights : MkV Q_nights 1 := ⟨LTm 1123 (by decide +kernel) rfl, LTm 1124 (by decide +kernel) rfl, ini_Q, LTm 1125 rfl rfl, ⟨by decide, by decide, by decide +kernel⟩⟩
set_option maxRecDepth 20000 in
theorem mQ_drawn : MkV Q_drawn 0 := ⟨LTm 1128 (by decide +kernel) rfl, LTm 55 (by decide +kernel) rfl, ini_Q, LTm 1129 rfl rfl, ⟨by decide, by decide, by decide +kernel⟩⟩
set_option maxRecDepth 20000 in
theorem mQ_odds : MkV Q_odds 3 := ⟨LTm 1132 (by decide +kernel) rfl, LTm 1133 (by decide +kernel) rfl, ini_Q, LTm 1134 rfl rfl, ⟨by decide, by decide, by decide +kernel⟩⟩
set_option maxRecDepth 20000 in
theorem mQ_seed : MkV Q_seed 1 := ⟨LTm 1136 (by decide +kernel) rfl, LTm 1137 (by decide +kernel) rfl, ini_Q, LTm 1138 rfl rfl, ⟨by decide, by decide, by decide +kernel⟩⟩
set_option maxRecDepth 20000 in
theorem mQ_feed : MkV Q_feed 2 := ⟨LTm 1140 (by decide +kernel) rfl, LTm 1141 (by decide +kernel) rfl, ini_Q, LTm 1142 rfl rfl, ⟨by decide, by decide, by decide +kernel⟩⟩
set_option maxRecDepth 20000 in
theorem mQ_wipe : MkV Q_wipe 0 := ⟨LTm 1144 (by decide +kernel) rfl, LTm 1145 (by decide +kernel) rfl, ini_Q, LTm 1146 rfl rfl, ⟨by decide, by decide, by decide +kernel⟩⟩
set_option maxRecDepth 20000 in
theorem mQ_text : MkV Q_text 0 := ⟨LTm 1148 (by decide +kernel) rfl, LTm 1149 (by decide +kernel) rfl, ini_Q, LTm 1150 rfl rfl, ⟨by decide, by decide, by decide +kernel⟩⟩
set_option maxRecDepth 20000 in
theorem mQ_token : MkV Q_token 0 := ⟨LTm 1153 (by decide +kernel) rfl, LTm 56 (by decide +kernel) rfl, ini_Q, LTm 1154 rfl rfl, ⟨by decide, by decide, by decide +kernel⟩⟩
set_option maxRecDepth 20000 in
theorem mQ_byteAt : MkV Q_byteAt 1 := ⟨LTm 1157 (by decide +kernel) rfl, LTm 57 (by decide +kernel) rfl, ini_Q, LTm 1158 rfl rfl, ⟨by decide, by decide, by decide +kernel⟩⟩
set_option maxRecDepth 20000 in
theorem mQ_readItem : MkV Q_readItem 0 := ⟨LTm 1161 (by decide +kernel) rfl, LTm 58 (by decide +kernel) rfl, ini_Q, LTm 1162 rfl rfl, ⟨by decide, by decide, by decide +kernel⟩⟩
set_option maxRecDepth 20000 in
theorem mQ_isWord : MkV Q_isWord 1 := ⟨LTm 1165 (by decide +kernel) rfl, LTm 59 (by decide +kernel) rfl, ini_Q, LTm 1166 rfl rfl, ⟨by decide, by decide, by decide +kernel⟩⟩
set_option maxRecDepth 20000 in
theorem mQ_readSheep : MkV Q_readSheep 1 := ⟨LTm 1171 (by decide +kernel) rfl, LTm 60 (by decide +kernel) rfl, ini_Q, LTm 1172 rfl rfl, ⟨by decide, by decide, by decide +kernel⟩⟩
set_option maxRecDepth 20000 in
theorem mQ_must : MkV Q_must 1 := ⟨LTm 1175 (by decide +kernel) rfl, LTm 61 (by decide +kernel) rfl, ini_Q, LTm 1176 rfl rfl, ⟨by decide, by decide, by decide +kernel⟩⟩
set_option maxRecDepth 20000 in
theorem mQ_mayTell : MkV Q_mayTell 3 := ⟨LTm 1180 (by decide +kernel) rfl, LTm 62 (by decide +kernel) rfl, ini_Q, LTm 1181 rfl rfl, ⟨by decide, by decide, by decide +kernel⟩⟩
set_option maxRecDepth 20000 in
theorem mQ_takesWord : MkV Q_takesWord 1 := ⟨LTm 1184 (by decide +kernel) rfl, LTm 63 (by decide +kernel) rfl, ini_Q, LTm 1185 rfl rfl, ⟨by decide, by decide, by decide +kernel⟩⟩
set_option maxRecDepth 20000 in
theorem mQ_number : MkV Q_number 2 := ⟨LTm 1188 (by decide +kernel) rfl, LTm 64 (by decide +kernel) rfl, ini_Q, LTm 1189 rfl rfl, ⟨by decide, by decide, by decide +kernel⟩⟩
set_option maxRecDepth 20000 in
theorem mQ_addItem : MkV Q_addItem 4 := ⟨LTm 1194 (by decide +kernel) rfl, LTm 65 (by decide +kernel) rfl, ini_Q, LTm 1195 rfl rfl, ⟨by decide, by decide, by decide +kernel⟩⟩
set_option maxRecDepth 20000 in
theorem mQ_isToldSo : MkV Q_isToldSo 1 := ⟨LTm 1202 (by decide +kernel) rfl, LTm 66 (by decide +kernel) rfl, ini_Q, LTm 1203 rfl rfl, ⟨by decide, by decide, by decide +kernel⟩⟩
set_option maxRecDepth 20000 in
theorem mQ_hold : MkV Q_hold 2 := ⟨LTm 1205 (by decide +kernel) rfl, LTm 1206 (by decide +kernel) rfl, ini_Q, LTm 1207 rfl rfl, ⟨by decide, by decide, by decide +kernel⟩⟩
set_option maxRecDepth 20000 in
theorem mQ_isSpot : MkS Q_isSpot 1 := ⟨LTm 1209 (by decide +kernel) rfl, ini_Q, LTm 1210 rfl rfl, ⟨by decide, by decide, by decide +kernel⟩⟩
set_option maxRecDepth 20000 in
theorem mQ_as : MkV Q_as 2 := ⟨LTm 1212 (by decide +kernel) rfl, LTm 1213 (by decide +kernel) rfl, ini_Q, LTm 1214 rfl rfl, ⟨by decide, by decide, by decide +kernel⟩⟩
set_option maxRecDepth 20000 in
theorem mQ_isUnder : MkS Q_isUnder 2 := ⟨LTm 1216 (by decide +kernel) rfl, ini_Q, LTm 1217 rfl rfl, ⟨by decide, by decide, by decide +kernel⟩⟩
set_option maxRecDepth 20000 in
theorem mQ_above : MkS Q_above 1 := ⟨LTm 1219 (by decide +kernel) rfl, ini_Q, LTm 1220 rfl rfl, ⟨by decide, by decide, by decide +kernel⟩⟩
set_option maxRecDepth 20000 in
theorem mQ_sheet : MkV Q_sheet 3 := ⟨LTm 1223 (by decide +kernel) rfl, LTm 1224 (by decide +kernel) rfl, ini_Q, LTm 1225 rfl rfl, ⟨by decide, by decide, by decide +kernel⟩⟩
set_option maxRecDepth 20000 in
theorem mQ_write : MkV Q_write 3 := ⟨LTm 1228 (by decide +kernel) rfl, LTm 1229 (by decide +kernel) rfl, ini_Q, LTm 1230 rfl rfl, ⟨by decide, by decide, by decide +kernel⟩⟩
set_option maxRecDepth 20000 in
theorem mQ_cutTo : MkS Q_cutTo 2 := ⟨LTm 1232 (by decide +kernel) rfl, ini_Q, LTm 1233 rfl rfl, ⟨by decide, by decide, by decide +kernel⟩⟩
set_option maxRecDepth 20000 in
theorem mQ_copy : MkV Q_copy 5 := ⟨LTm 1235 (by decide +kernel) rfl, LTm 1236 (by decide +kernel) rfl, ini_Q, LTm 1237 rfl rfl, ⟨by decide, by decide, by decide +kernel⟩⟩
set_option maxRecDepth 20000 in
theorem mQ_load : MkV Q_load 1 := ⟨LTm 1239 (by decide +kernel) rfl, LTm 1240 (by decide +kernel) rfl, ini_Q, LTm 1241 rfl rfl, ⟨by decide, by decide, by decide +kernel⟩⟩
set_option maxRecDepth 20000 in
theorem mQ_judge : MkV Q_judge 1 := ⟨LTm 1243 (by decide +kernel) rfl, LTm 1244 (by decide +kernel) rfl, ini_Q, LTm 1245 rfl rfl, ⟨by decide, by decide, by decide +kernel⟩⟩
set_option maxRecDepth 20000 in
theorem mQ_image : MkV Q_image 0 := ⟨LTm 1247 (by decide +kernel) rfl, LTm 1248 (by decide +kernel) rfl, ini_Q, LTm 1249 rfl rfl, ⟨by decide, by decide, by decide +kernel⟩⟩
set_option maxRecDepth 20000 in
theorem mQ_undo : MkV Q_undo 0 := ⟨LTm 1251 (by decide +kernel) rfl, LTm 1252 (by decide +kernel) rfl, ini_Q, LTm 1253 rfl rfl, ⟨by decide, by decide, by decide +kernel⟩⟩
set_option maxRecDepth 20000 in
theorem mQ_tear : MkV Q_tear 0 := ⟨LTm 1255 (by decide +kernel) rfl, LTm 1256 (by decide +kernel) rfl, ini_Q, LTm 1257 rfl rfl, ⟨by decide, by decide, by decide +kernel⟩⟩
set_option maxRecDepth 20000 in
theorem mQ_count : MkV Q_count 1 := ⟨LTm 1259 (by decide +kernel) rfl, LTm 1260 (by decide +kernel) rfl, ini_Q, LTm 1261 rfl rfl, ⟨by decide, by decide, by decide +kernel⟩⟩
set_option maxRecDepth 20000 in
theorem mQ_status : MkV Q_status 1 := ⟨LTm 1263 (by decide +kernel) rfl, LTm 1264 (by decide +kernel) rfl, ini_Q, LTm 1265 rfl rfl, ⟨by decide, by decide, by decide +kernel⟩⟩
theorem lS_57 : Cond.methodLink "StraySheep" 57 S_canBeSet.1 ∈ LT := LTm 231 (by decide +kernel) rfl
theorem lS_89 : Cond.methodLink "StraySheep" 89 S_isCell.1 ∈ LT := LTm 234 (by decide +kernel) rfl
theorem lS_81 : Cond.methodLink "StraySheep" 81 S_isWithin.1 ∈ LT := LTm 237 (by decide +kernel) rfl
theorem lS_61 : Cond.methodLink "StraySheep" 61 S_finding.1 ∈ LT := LTm 240 (by decide +kernel) rfl
theorem lS_65 : Cond.methodLink "StraySheep" 65 H_feature.1 ∈ LT := LTm 245 (by decide +kernel) rfl
theorem lS_71 : Cond.methodLink "StraySheep" 71 H_moveKeeper.1 ∈ LT := LTm 249 (by decide +kernel) rfl
theorem lH_59 : Cond.methodLink "StraySheep$Hill" 59 H_has.1 ∈ LT := LTm 253 (by decide +kernel) rfl
theorem lS_85 : Cond.methodLink "StraySheep" 85 S_isKind.1 ∈ LT := LTm 265 (by decide +kernel) rfl
theorem lS_92 : Cond.methodLink "StraySheep" 92 H_isFull.1 ∈ LT := LTm 268 (by decide +kernel) rfl
theorem lS_96 : Cond.methodLink "StraySheep" 96 H_add.1 ∈ LT := LTm 272 (by decide +kernel) rfl
theorem lH_55 : Cond.methodLink "StraySheep$Hill" 55 H_isFull.1 ∈ LT := LTm 276 (by decide +kernel) rfl
theorem lS_100 : Cond.methodLink "StraySheep" 100 H_has.1 ∈ LT := LTm 281 (by decide +kernel) rfl
theorem lS_103 : Cond.methodLink "StraySheep" 103 H_trait.1 ∈ LT := LTm 282 (by decide +kernel) rfl
theorem lH_63 : Cond.methodLink "StraySheep$Hill" 63 H_far.1 ∈ LT := LTm 286 (by decide +kernel) rfl
theorem lH_79 : Cond.methodLinkNest "StraySheep$Hill" 79 S_distance.1 "StraySheep" ∈ NW := List.mem_filter.mpr ⟨List.mem_of_getElem? (i := 290) (by decide +kernel), rfl⟩
theorem lH_67 : Cond.methodLink "StraySheep$Hill" 67 H_strays.1 ∈ LT := LTm 293 (by decide +kernel) rfl
theorem lH_86 : Cond.methodLink "StraySheep$Hill" 86 H_straysAsRam.1 ∈ LT := LTm 297 (by decide +kernel) rfl
theorem lH_95 : Cond.methodLink "StraySheep$Hill" 95 H_straysAsSheep.1 ∈ LT := LTm 301 (by decide +kernel) rfl
theorem lH_89 : Cond.methodLink "StraySheep$Hill" 89 H_straysAsEwe.1 ∈ LT := LTm 305 (by decide +kernel) rfl
theorem lH_92 : Cond.methodLink "StraySheep$Hill" 92 H_hasCompany.1 ∈ LT := LTm 309 (by decide +kernel) rfl
theorem lH_83 : Cond.methodLink "StraySheep$Hill" 83 H_sheepAt.1 ∈ LT := LTm 313 (by decide +kernel) rfl
theorem lH_70 : Cond.methodLinkNest "StraySheep$Hill" 70 S_fearsOf.1 "StraySheep" ∈ NW := List.mem_filter.mpr ⟨List.mem_of_getElem? (i := 317) (by decide +kernel), rfl⟩
theorem lH_73 : Cond.methodLinkNest "StraySheep$Hill" 73 S_calmsOf.1 "StraySheep" ∈ NW := List.mem_filter.mpr ⟨List.mem_of_getElem? (i := 320) (by decide +kernel), rfl⟩
theorem lH_76 : Cond.methodLinkNest "StraySheep$Hill" 76 S_lightOf.1 "StraySheep" ∈ NW := List.mem_filter.mpr ⟨List.mem_of_getElem? (i := 323) (by decide +kernel), rfl⟩
theorem lS_106 : Cond.methodLink "StraySheep" 106 S_canBeChanged.1 ∈ LT := LTm 330 (by decide +kernel) rfl
theorem lS_127 : Cond.methodLink "StraySheep" 127 H_sheepAt.1 ∈ LT := LTm 341 (by decide +kernel) rfl
theorem lS_134 : Cond.methodLink "StraySheep" 134 H_passHours.1 ∈ LT := LTm 347 (by decide +kernel) rfl
theorem lH_99 : Cond.methodLink "StraySheep$Hill" 99 H_passHour.1 ∈ LT := LTm 351 (by decide +kernel) rfl
theorem lH_103 : Cond.methodLink "StraySheep$Hill" 103 H_strayAll.1 ∈ LT := LTm 355 (by decide +kernel) rfl
theorem lH_121 : Cond.methodLink "StraySheep$Hill" 121 H_strayedFrom.1 ∈ LT := LTm 359 (by decide +kernel) rfl
theorem lH_124 : Cond.methodLinkNest "StraySheep$Hill" 124 S_towards.1 "StraySheep" ∈ NW := List.mem_filter.mpr ⟨List.mem_of_getElem? (i := 363) (by decide +kernel), rfl⟩
theorem lS_257 : Cond.methodLink "StraySheep" 257 JM_min.1 ∈ LT := LTm 366 (by decide +kernel) rfl
theorem lS_262 : Cond.methodLink "StraySheep" 262 JM_max.1 ∈ LT := LTm 369 (by decide +kernel) rfl
theorem lH_116 : Cond.methodLink "StraySheep$Hill" 116 JM_min.1 ∈ LT := LTm 372 (by decide +kernel) rfl
theorem lH_128 : Cond.methodLink "StraySheep$Hill" 128 JM_max.1 ∈ LT := LTm 373 (by decide +kernel) rfl
theorem lH_106 : Cond.methodLink "StraySheep$Hill" 106 H_prowl.1 ∈ LT := LTm 374 (by decide +kernel) rfl
theorem lH_131 : Cond.methodLink "StraySheep$Hill" 131 H_nearestToWolf.1 ∈ LT := LTm 378 (by decide +kernel) rfl
theorem lH_134 : Cond.methodLink "StraySheep$Hill" 134 H_frighten.1 ∈ LT := LTm 382 (by decide +kernel) rfl
theorem lH_109 : Cond.methodLink "StraySheep$Hill" 109 H_tend.1 ∈ LT := LTm 386 (by decide +kernel) rfl
theorem lH_137 : Cond.methodLink "StraySheep$Hill" 137 H_carryHome.1 ∈ LT := LTm 390 (by decide +kernel) rfl
theorem lH_143 : Cond.methodLink "StraySheep$Hill" 143 H_moveKeeper.1 ∈ LT := LTm 394 (by decide +kernel) rfl
theorem lH_140 : Cond.methodLink "StraySheep$Hill" 140 H_seek.1 ∈ LT := LTm 395 (by decide +kernel) rfl
theorem lH_146 : Cond.methodLink "StraySheep$Hill" 146 H_sought.1 ∈ LT := LTm 399 (by decide +kernel) rfl
theorem lH_112 : Cond.methodLink "StraySheep$Hill" 112 H_settle.1 ∈ LT := LTm 403 (by decide +kernel) rfl
theorem lS_137 : Cond.methodLink "StraySheep" 137 H_total.1 ∈ LT := LTm 408 (by decide +kernel) rfl
theorem lS_141 : Cond.methodLink "StraySheep" 141 H_farSheep.1 ∈ LT := LTm 416 (by decide +kernel) rfl
theorem lS_145 : Cond.methodLink "StraySheep" 145 H_sought.1 ∈ LT := LTm 420 (by decide +kernel) rfl
theorem lS_148 : Cond.methodLink "StraySheep" 148 H_mostAfraid.1 ∈ LT := LTm 421 (by decide +kernel) rfl
theorem lS_151 : Cond.methodLink "StraySheep" 151 H_become.1 ∈ LT := LTm 429 (by decide +kernel) rfl
theorem lH_49 : Cond.methodLink "StraySheep$Hill" 49 arraycopyName ∈ LT := LTm 433 (by decide +kernel) rfl
theorem lS_155 : Cond.methodLink "StraySheep" 155 S_firstHourOfAtLeast.1 ∈ LT := LTm 444 (by decide +kernel) rfl
theorem lS_159 : Cond.methodLink "StraySheep" 159 H_allAtFold.1 ∈ LT := LTm 452 (by decide +kernel) rfl
theorem lS_168 : Cond.methodLink "StraySheep" 168 JI_bitCount.1 ∈ LT := LTm 481 (by decide +kernel) rfl
theorem lS_171 : Cond.methodLink "StraySheep" 171 S_keepsNear.1 ∈ LT := LTm 487 (by decide +kernel) rfl
theorem lS_244 : Cond.methodLink "StraySheep" 244 H_passHour.1 ∈ LT := LTm 491 (by decide +kernel) rfl
theorem lS_174 : Cond.methodLink "StraySheep" 174 S_isSheet.1 ∈ LT := LTm 496 (by decide +kernel) rfl
theorem lS_177 : Cond.methodLink "StraySheep" 177 E_isMissing.1 ∈ LT := LTm 499 (by decide +kernel) rfl
theorem lS_180 : Cond.methodLink "StraySheep" 180 S_keeperGoesAsTold.1 ∈ LT := LTm 503 (by decide +kernel) rfl
theorem lS_250 : Cond.methodLink "StraySheep" 250 E_allows.1 ∈ LT := LTm 507 (by decide +kernel) rfl
theorem lS_184 : Cond.methodLink "StraySheep" 184 S_sheepGoesAsTold.1 ∈ LT := LTm 515 (by decide +kernel) rfl
theorem lS_188 : Cond.methodLink "StraySheep" 188 S_draw.1 ∈ LT := LTm 523 (by decide +kernel) rfl
theorem lS_191 : Cond.methodLink "StraySheep" 191 H_cellsOutOfReachOf.1 ∈ LT := LTm 532 (by decide +kernel) rfl
theorem lS_194 : Cond.methodLink "StraySheep" 194 S_power.1 ∈ LT := LTm 536 (by decide +kernel) rfl
theorem lS_198 : Cond.methodLink "StraySheep" 198 T_hasRoomFor.1 ∈ LT := LTm 547 (by decide +kernel) rfl
theorem lS_201 : Cond.methodLink "StraySheep" 201 T_append.1 ∈ LT := LTm 551 (by decide +kernel) rfl
theorem lT_28 : Cond.methodLink "StraySheep$Tape" 28 T_hasRoomFor.1 ∈ LT := LTm 555 (by decide +kernel) rfl
theorem lS_207 : Cond.methodLink "StraySheep" 207 T_readOnto.1 ∈ LT := LTm 564 (by decide +kernel) rfl
theorem lT_32 : Cond.methodLink "StraySheep$Tape" 32 T_nextToken.1 ∈ LT := LTm 568 (by decide +kernel) rfl
theorem lT_135 : Cond.methodLink "StraySheep$Tape" 135 T_tokenAt.1 ∈ LT := LTm 572 (by decide +kernel) rfl
theorem lT_138 : Cond.methodLink "StraySheep$Tape" 138 T_isLong.1 ∈ LT := LTm 576 (by decide +kernel) rfl
theorem lT_35 : Cond.methodLink "StraySheep$Tape" 35 T_readItem.1 ∈ LT := LTm 579 (by decide +kernel) rfl
theorem lT_39 : Cond.methodLink "StraySheep$Tape" 39 T_kindOfWord.1 ∈ LT := LTm 583 (by decide +kernel) rfl
theorem lT_101 : Cond.methodLink "StraySheep$Tape" 101 T_nameOf.1 ∈ LT := LTm 587 (by decide +kernel) rfl
theorem lT_105 : Cond.methodLink "StraySheep$Tape" 105 T_isWord.1 ∈ LT := LTm 597 (by decide +kernel) rfl
theorem lT_122 : Cond.methodLink "StraySheep$Tape" 122 JS_length.1 ∈ LT := LTm 601 (by decide +kernel) rfl
theorem lJS_335 : Cond.methodLink "java/lang/String" 335 JS_coder.1 ∈ LT := LTm 605 (by decide +kernel) rfl
theorem lT_126 : Cond.methodLink "StraySheep$Tape" 126 JS_charAt.1 ∈ LT := LTm 611 (by decide +kernel) rfl
theorem lJS_492 : Cond.methodLink "java/lang/String" 492 JS_isLatin1.1 ∈ LT := LTm 615 (by decide +kernel) rfl
theorem lJS_495 : Cond.methodLink "java/lang/String" 495 JL_charAt.1 ∈ LT := LTm 619 (by decide +kernel) rfl
theorem lJL_9 : Cond.methodLink "java/lang/StringLatin1" 9 JS_checkIndex.1 ∈ LT := LTm 622 (by decide +kernel) rfl
theorem lJS_1059 : Cond.methodLink "java/lang/String" 1059 JP_checkIndex.1 ∈ LT := LTm 627 (by decide +kernel) rfl
theorem lT_43 : Cond.methodLink "StraySheep$Tape" 43 T_readSheep.1 ∈ LT := LTm 649 (by decide +kernel) rfl
theorem lT_66 : Cond.methodLink "StraySheep$Tape" 66 H_add.1 ∈ LT := LTm 653 (by decide +kernel) rfl
theorem lT_49 : Cond.methodLink "StraySheep$Tape" 49 T_skipWord.1 ∈ LT := LTm 655 (by decide +kernel) rfl
theorem lT_74 : Cond.methodLink "StraySheep$Tape" 74 T_takeNumber.1 ∈ LT := LTm 659 (by decide +kernel) rfl
theorem lT_130 : Cond.methodLink "StraySheep$Tape" 130 JM_min.1 ∈ LT := LTm 663 (by decide +kernel) rfl
theorem lT_53 : Cond.methodLink "StraySheep$Tape" 53 T_readFold.1 ∈ LT := LTm 667 (by decide +kernel) rfl
theorem lT_58 : Cond.methodLink "StraySheep$Tape" 58 T_readKeeper.1 ∈ LT := LTm 672 (by decide +kernel) rfl
theorem lT_91 : Cond.methodLink "StraySheep$Tape" 91 H_moveKeeper.1 ∈ LT := LTm 676 (by decide +kernel) rfl
theorem lT_63 : Cond.methodLink "StraySheep$Tape" 63 T_readWolf.1 ∈ LT := LTm 678 (by decide +kernel) rfl
theorem lS_211 : Cond.methodLink "StraySheep" 211 S_isSpot.1 ∈ LT := LTm 688 (by decide +kernel) rfl
theorem lS_214 : Cond.methodLink "StraySheep" 214 S_isUnder.1 ∈ LT := LTm 695 (by decide +kernel) rfl
theorem lS_254 : Cond.methodLink "StraySheep" 254 S_kindAbove.1 ∈ LT := LTm 698 (by decide +kernel) rfl
theorem lS_217 : Cond.methodLink "StraySheep" 217 E_begin.1 ∈ LT := LTm 705 (by decide +kernel) rfl
theorem lS_222 : Cond.methodLink "StraySheep" 222 E_put.1 ∈ LT := LTm 713 (by decide +kernel) rfl
theorem lS_228 : Cond.methodLink "StraySheep" 228 E_hasRun.1 ∈ LT := LTm 721 (by decide +kernel) rfl
theorem lS_234 : Cond.methodLink "StraySheep" 234 arraycopyName ∈ LT := LTm 725 (by decide +kernel) rfl
theorem lS_240 : Cond.methodLink "StraySheep" 240 S_spotsInUse.1 ∈ LT := LTm 750 (by decide +kernel) rfl
theorem lQ_79 : Cond.methodLink "StraySheepModel" 79 Q_within.1 ∈ LT := LTm 850 (by decide +kernel) rfl
theorem lQ_91 : Cond.methodLink "StraySheepModel" 91 Q_isCell.1 ∈ LT := LTm 853 (by decide +kernel) rfl
theorem lQ_75 : Cond.methodLink "StraySheepModel" 75 Q_finding.1 ∈ LT := LTm 857 (by decide +kernel) rfl
theorem lQ_95 : Cond.methodLink "StraySheepModel" 95 Q_keeperTo.1 ∈ LT := LTm 861 (by decide +kernel) rfl
theorem lQ_87 : Cond.methodLink "StraySheepModel" 87 Q_keeperAt.1 ∈ LT := LTm 865 (by decide +kernel) rfl
theorem lQ_83 : Cond.methodLink "StraySheepModel" 83 Q_sheepAt.1 ∈ LT := LTm 869 (by decide +kernel) rfl
theorem lQ_98 : Cond.methodLink "StraySheepModel" 98 Q_become.1 ∈ LT := LTm 872 (by decide +kernel) rfl
theorem lQ_101 : Cond.methodLink "StraySheepModel" 101 Q_isKind.1 ∈ LT := LTm 884 (by decide +kernel) rfl
theorem lQ_105 : Cond.methodLink "StraySheepModel" 105 Q_comes.1 ∈ LT := LTm 888 (by decide +kernel) rfl
theorem lQ_119 : Cond.methodLink "StraySheepModel" 119 Q_isSheep.1 ∈ LT := LTm 896 (by decide +kernel) rfl
theorem lQ_122 : Cond.methodLink "StraySheepModel" 122 Q_far.1 ∈ LT := LTm 900 (by decide +kernel) rfl
theorem lQ_108 : Cond.methodLink "StraySheepModel" 108 Q_sheepIs.1 ∈ LT := LTm 904 (by decide +kernel) rfl
theorem lQ_111 : Cond.methodLink "StraySheepModel" 111 JM_abs.1 ∈ LT := LTm 908 (by decide +kernel) rfl
theorem lQ_125 : Cond.methodLink "StraySheepModel" 125 Q_strays.1 ∈ LT := LTm 911 (by decide +kernel) rfl
theorem lQ_116 : Cond.methodLink "StraySheepModel" 116 Q_isAlone.1 ∈ LT := LTm 915 (by decide +kernel) rfl
theorem lQ_128 : Cond.methodLink "StraySheepModel" 128 Q_fears.1 ∈ LT := LTm 919 (by decide +kernel) rfl
theorem lQ_131 : Cond.methodLink "StraySheepModel" 131 Q_calms.1 ∈ LT := LTm 923 (by decide +kernel) rfl
theorem lQ_134 : Cond.methodLink "StraySheepModel" 134 Q_light.1 ∈ LT := LTm 927 (by decide +kernel) rfl
theorem lQ_137 : Cond.methodLink "StraySheepModel" 137 Q_isField.1 ∈ LT := LTm 935 (by decide +kernel) rfl
theorem lQ_142 : Cond.methodLink "StraySheepModel" 142 Q_orNone.1 ∈ LT := LTm 943 (by decide +kernel) rfl
theorem lQ_145 : Cond.methodLink "StraySheepModel" 145 Q_setAt.1 ∈ LT := LTm 952 (by decide +kernel) rfl
theorem lQ_191 : Cond.methodLink "StraySheepModel" 191 Q_hoursGo.1 ∈ LT := LTm 961 (by decide +kernel) rfl
theorem lQ_187 : Cond.methodLink "StraySheepModel" 187 Q_hour.1 ∈ LT := LTm 965 (by decide +kernel) rfl
theorem lQ_175 : Cond.methodLink "StraySheepModel" 175 Q_sheepGo.1 ∈ LT := LTm 969 (by decide +kernel) rfl
theorem lQ_158 : Cond.methodLink "StraySheepModel" 158 Q_hasBit.1 ∈ LT := LTm 973 (by decide +kernel) rfl
theorem lQ_161 : Cond.methodLink "StraySheepModel" 161 Q_towards.1 ∈ LT := LTm 976 (by decide +kernel) rfl
theorem lQ_148 : Cond.methodLink "StraySheepModel" 148 JM_min.1 ∈ LT := LTm 979 (by decide +kernel) rfl
theorem lQ_151 : Cond.methodLink "StraySheepModel" 151 JM_max.1 ∈ LT := LTm 980 (by decide +kernel) rfl
theorem lQ_165 : Cond.methodLink "StraySheepModel" 165 Q_awayFrom.1 ∈ LT := LTm 981 (by decide +kernel) rfl
theorem lQ_178 : Cond.methodLink "StraySheepModel" 178 Q_wolfGoes.1 ∈ LT := LTm 985 (by decide +kernel) rfl
theorem lQ_168 : Cond.methodLink "StraySheepModel" 168 Q_nearest.1 ∈ LT := LTm 989 (by decide +kernel) rfl
theorem lQ_181 : Cond.methodLink "StraySheepModel" 181 Q_carries.1 ∈ LT := LTm 993 (by decide +kernel) rfl
theorem lQ_184 : Cond.methodLink "StraySheepModel" 184 Q_seeks.1 ∈ LT := LTm 997 (by decide +kernel) rfl
theorem lQ_172 : Cond.methodLink "StraySheepModel" 172 Q_sought.1 ∈ LT := LTm 1001 (by decide +kernel) rfl
theorem lQ_194 : Cond.methodLink "StraySheepModel" 194 Q_sumOf.1 ∈ LT := LTm 1005 (by decide +kernel) rfl
theorem lQ_197 : Cond.methodLink "StraySheepModel" 197 Q_lostSet.1 ∈ LT := LTm 1013 (by decide +kernel) rfl
theorem lQ_200 : Cond.methodLink "StraySheepModel" 200 Q_mostAfraid.1 ∈ LT := LTm 1017 (by decide +kernel) rfl
theorem lQ_206 : Cond.methodLink "StraySheepModel" 206 Q_behind.1 ∈ LT := LTm 1025 (by decide +kernel) rfl
theorem lQ_70 : Cond.methodLink "StraySheepModel" 70 Q_copyRow.1 ∈ LT := LTm 1029 (by decide +kernel) rfl
theorem lQ_203 : Cond.methodLink "StraySheepModel" 203 Q_putBack.1 ∈ LT := LTm 1032 (by decide +kernel) rfl
theorem lQ_209 : Cond.methodLink "StraySheepModel" 209 Q_whenIs.1 ∈ LT := LTm 1044 (by decide +kernel) rfl
theorem lQ_212 : Cond.methodLink "StraySheepModel" 212 Q_areHome.1 ∈ LT := LTm 1052 (by decide +kernel) rfl
theorem lQ_219 : Cond.methodLink "StraySheepModel" 219 Q_isThought.1 ∈ LT := LTm 1064 (by decide +kernel) rfl
theorem lQ_222 : Cond.methodLink "StraySheepModel" 222 Q_leastFor.1 ∈ LT := LTm 1067 (by decide +kernel) rfl
theorem lQ_216 : Cond.methodLink "StraySheepModel" 216 Q_sumBehind.1 ∈ LT := LTm 1071 (by decide +kernel) rfl
theorem lQ_225 : Cond.methodLink "StraySheepModel" 225 Q_areNear.1 ∈ LT := LTm 1091 (by decide +kernel) rfl
theorem lQ_228 : Cond.methodLink "StraySheepModel" 228 Q_bits.1 ∈ LT := LTm 1095 (by decide +kernel) rfl
theorem lQ_238 : Cond.methodLink "StraySheepModel" 238 Q_lacks.1 ∈ LT := LTm 1102 (by decide +kernel) rfl
theorem lQ_231 : Cond.methodLink "StraySheepModel" 231 Q_isSheet.1 ∈ LT := LTm 1106 (by decide +kernel) rfl
theorem lQ_242 : Cond.methodLink "StraySheepModel" 242 Q_valuesFor.1 ∈ LT := LTm 1110 (by decide +kernel) rfl
theorem lQ_235 : Cond.methodLink "StraySheepModel" 235 Q_isToldWay.1 ∈ LT := LTm 1114 (by decide +kernel) rfl
theorem lQ_247 : Cond.methodLink "StraySheepModel" 247 Q_drawn.1 ∈ LT := LTm 1126 (by decide +kernel) rfl
theorem lQ_279 : Cond.methodLink "StraySheepModel" 279 Q_token.1 ∈ LT := LTm 1151 (by decide +kernel) rfl
theorem lQ_259 : Cond.methodLink "StraySheepModel" 259 Q_byteAt.1 ∈ LT := LTm 1155 (by decide +kernel) rfl
theorem lQ_327 : Cond.methodLink "StraySheepModel" 327 Q_readItem.1 ∈ LT := LTm 1159 (by decide +kernel) rfl
theorem lQ_289 : Cond.methodLink "StraySheepModel" 289 Q_isWord.1 ∈ LT := LTm 1163 (by decide +kernel) rfl
theorem lQ_268 : Cond.methodLink "StraySheepModel" 268 JS_length.1 ∈ LT := LTm 1167 (by decide +kernel) rfl
theorem lQ_271 : Cond.methodLink "StraySheepModel" 271 JS_charAt.1 ∈ LT := LTm 1168 (by decide +kernel) rfl
theorem lQ_316 : Cond.methodLink "StraySheepModel" 316 Q_readSheep.1 ∈ LT := LTm 1169 (by decide +kernel) rfl
theorem lQ_282 : Cond.methodLink "StraySheepModel" 282 Q_must.1 ∈ LT := LTm 1173 (by decide +kernel) rfl
theorem lQ_304 : Cond.methodLink "StraySheepModel" 304 Q_mayTell.1 ∈ LT := LTm 1178 (by decide +kernel) rfl
theorem lQ_293 : Cond.methodLink "StraySheepModel" 293 Q_takesWord.1 ∈ LT := LTm 1182 (by decide +kernel) rfl
theorem lQ_296 : Cond.methodLink "StraySheepModel" 296 Q_number.1 ∈ LT := LTm 1186 (by decide +kernel) rfl
theorem lQ_312 : Cond.methodLink "StraySheepModel" 312 Q_addItem.1 ∈ LT := LTm 1192 (by decide +kernel) rfl
theorem lQ_330 : Cond.methodLink "StraySheepModel" 330 Q_isToldSo.1 ∈ LT := LTm 1200 (by decide +kernel) rfl
theorem lQ_333 : Cond.methodLink "StraySheepModel" 333 Q_isSpot.1 ∈ LT := LTm 1208 (by decide +kernel) rfl
theorem lQ_336 : Cond.methodLink "StraySheepModel" 336 Q_isUnder.1 ∈ LT := LTm 1215 (by decide +kernel) rfl
theorem lQ_344 : Cond.methodLink "StraySheepModel" 344 Q_above.1 ∈ LT := LTm 1218 (by decide +kernel) rfl
theorem lQ_341 : Cond.methodLink "StraySheepModel" 341 Q_cutTo.1 ∈ LT := LTm 1231 (by decide +kernel) rfl
theorem kS_set_57 : CkS S_set 57 S_canBeSet 2 := ⟨lS_57, mS_canBeSet.1, mS_canBeSet.2.1, mS_canBeSet.2.2.1, mS_canBeSet.2.2.2, ⟨by decide, by decide⟩⟩
theorem kS_set_61 : CkV S_set 61 S_finding 1 := ⟨lS_61, mS_finding.1, mS_finding.2.1, mS_finding.2.2.1, mS_finding.2.2.2.1, mS_finding.2.2.2.2, ⟨by decide, by decide⟩⟩
theorem kS_set_65 : CkV S_set 65 H_feature 1 := ⟨lS_65, mH_feature.1, mH_feature.2.1, mH_feature.2.2.1, mH_feature.2.2.2.1, mH_feature.2.2.2.2, ⟨by decide, by decide⟩⟩
theorem kS_set_71 : CkV S_set 71 H_moveKeeper 1 := ⟨lS_71, mH_moveKeeper.1, mH_moveKeeper.2.1, mH_moveKeeper.2.2.1, mH_moveKeeper.2.2.2.1, mH_moveKeeper.2.2.2.2, ⟨by decide, by decide⟩⟩
theorem kS_canBeSet_89 : CkS S_canBeSet 89 S_isCell 1 := ⟨lS_89, mS_isCell.1, mS_isCell.2.1, mS_isCell.2.2.1, mS_isCell.2.2.2, ⟨by decide, by decide⟩⟩
theorem kS_canBeSet_81 : CkS S_canBeSet 81 S_isWithin 3 := ⟨lS_81, mS_isWithin.1, mS_isWithin.2.1, mS_isWithin.2.2.1, mS_isWithin.2.2.2, ⟨by decide, by decide⟩⟩
theorem kS_isCell_81 : CkS S_isCell 81 S_isWithin 3 := ⟨lS_81, mS_isWithin.1, mS_isWithin.2.1, mS_isWithin.2.2.1, mS_isWithin.2.2.2, ⟨by decide, by decide⟩⟩
theorem kH_moveKeeper_59 : CkV H_moveKeeper 59 H_has 1 := ⟨lH_59, mH_has.1, mH_has.2.1, mH_has.2.2.1, mH_has.2.2.2.1, mH_has.2.2.2.2, ⟨by decide, by decide⟩⟩
theorem kS_hill_81 : CkS S_hill 81 S_isWithin 3 := ⟨lS_81, mS_isWithin.1, mS_isWithin.2.1, mS_isWithin.2.2.1, mS_isWithin.2.2.2, ⟨by decide, by decide⟩⟩
theorem kS_hill_61 : CkV S_hill 61 S_finding 1 := ⟨lS_61, mS_finding.1, mS_finding.2.1, mS_finding.2.2.1, mS_finding.2.2.2.1, mS_finding.2.2.2.2, ⟨by decide, by decide⟩⟩
theorem kS_hill_65 : CkV S_hill 65 H_feature 1 := ⟨lS_65, mH_feature.1, mH_feature.2.1, mH_feature.2.2.1, mH_feature.2.2.2.1, mH_feature.2.2.2.2, ⟨by decide, by decide⟩⟩
theorem kS_sheep_85 : CkS S_sheep 85 S_isKind 1 := ⟨lS_85, mS_isKind.1, mS_isKind.2.1, mS_isKind.2.2.1, mS_isKind.2.2.2, ⟨by decide, by decide⟩⟩
theorem kS_sheep_89 : CkS S_sheep 89 S_isCell 1 := ⟨lS_89, mS_isCell.1, mS_isCell.2.1, mS_isCell.2.2.1, mS_isCell.2.2.2, ⟨by decide, by decide⟩⟩
theorem kS_sheep_61 : CkV S_sheep 61 S_finding 1 := ⟨lS_61, mS_finding.1, mS_finding.2.1, mS_finding.2.2.1, mS_finding.2.2.2.1, mS_finding.2.2.2.2, ⟨by decide, by decide⟩⟩
theorem kS_sheep_92 : CkV S_sheep 92 H_isFull 0 := ⟨lS_92, mH_isFull.1, mH_isFull.2.1, mH_isFull.2.2.1, mH_isFull.2.2.2.1, mH_isFull.2.2.2.2, ⟨by decide, by decide⟩⟩
theorem kS_sheep_96 : CkV S_sheep 96 H_add 2 := ⟨lS_96, mH_add.1, mH_add.2.1, mH_add.2.2.1, mH_add.2.2.2.1, mH_add.2.2.2.2, ⟨by decide, by decide⟩⟩
theorem kS_isKind_81 : CkS S_isKind 81 S_isWithin 3 := ⟨lS_81, mS_isWithin.1, mS_isWithin.2.1, mS_isWithin.2.2.1, mS_isWithin.2.2.2, ⟨by decide, by decide⟩⟩
theorem kH_add_55 : CkV H_add 55 H_isFull 0 := ⟨lH_55, mH_isFull.1, mH_isFull.2.1, mH_isFull.2.2.1, mH_isFull.2.2.2.1, mH_isFull.2.2.2.2, ⟨by decide, by decide⟩⟩
theorem kS_of_100 : CkV S_of 100 H_has 1 := ⟨lS_100, mH_has.1, mH_has.2.1, mH_has.2.2.1, mH_has.2.2.2.1, mH_has.2.2.2.2, ⟨by decide, by decide⟩⟩
theorem kS_of_81 : CkS S_of 81 S_isWithin 3 := ⟨lS_81, mS_isWithin.1, mS_isWithin.2.1, mS_isWithin.2.2.1, mS_isWithin.2.2.2, ⟨by decide, by decide⟩⟩
theorem kS_of_61 : CkV S_of 61 S_finding 1 := ⟨lS_61, mS_finding.1, mS_finding.2.1, mS_finding.2.2.1, mS_finding.2.2.2.1, mS_finding.2.2.2.2, ⟨by decide, by decide⟩⟩
theorem kS_of_103 : CkV S_of 103 H_trait 2 := ⟨lS_103, mH_trait.1, mH_trait.2.1, mH_trait.2.2.1, mH_trait.2.2.2.1, mH_trait.2.2.2.2, ⟨by decide, by decide⟩⟩
theorem kH_trait_63 : CkV H_trait 63 H_far 1 := ⟨lH_63, mH_far.1, mH_far.2.1, mH_far.2.2.1, mH_far.2.2.2.1, mH_far.2.2.2.2, ⟨by decide, by decide⟩⟩
theorem kH_trait_67 : CkV H_trait 67 H_strays 1 := ⟨lH_67, mH_strays.1, mH_strays.2.1, mH_strays.2.2.1, mH_strays.2.2.2.1, mH_strays.2.2.2.2, ⟨by decide, by decide⟩⟩
theorem kH_trait_70 : CkN H_trait 70 S_fearsOf 1 := ⟨⟨_, lH_70⟩, mS_fearsOf.1, mS_fearsOf.2.1, mS_fearsOf.2.2.1, mS_fearsOf.2.2.2, ⟨by decide, by decide⟩⟩
theorem kH_trait_73 : CkN H_trait 73 S_calmsOf 1 := ⟨⟨_, lH_73⟩, mS_calmsOf.1, mS_calmsOf.2.1, mS_calmsOf.2.2.1, mS_calmsOf.2.2.2, ⟨by decide, by decide⟩⟩
theorem kH_trait_76 : CkN H_trait 76 S_lightOf 1 := ⟨⟨_, lH_76⟩, mS_lightOf.1, mS_lightOf.2.1, mS_lightOf.2.2.1, mS_lightOf.2.2.2, ⟨by decide, by decide⟩⟩
theorem kH_far_79 : CkN H_far 79 S_distance 2 := ⟨⟨_, lH_79⟩, mS_distance.1, mS_distance.2.1, mS_distance.2.2.1, mS_distance.2.2.2, ⟨by decide, by decide⟩⟩
theorem kH_strays_86 : CkV H_strays 86 H_straysAsRam 1 := ⟨lH_86, mH_straysAsRam.1, mH_straysAsRam.2.1, mH_straysAsRam.2.2.1, mH_straysAsRam.2.2.2.1, mH_straysAsRam.2.2.2.2, ⟨by decide, by decide⟩⟩
theorem kH_strays_89 : CkV H_strays 89 H_straysAsEwe 1 := ⟨lH_89, mH_straysAsEwe.1, mH_straysAsEwe.2.1, mH_straysAsEwe.2.2.1, mH_straysAsEwe.2.2.2.1, mH_straysAsEwe.2.2.2.2, ⟨by decide, by decide⟩⟩
theorem kH_strays_92 : CkV H_strays 92 H_hasCompany 1 := ⟨lH_92, mH_hasCompany.1, mH_hasCompany.2.1, mH_hasCompany.2.2.1, mH_hasCompany.2.2.2.1, mH_hasCompany.2.2.2.2, ⟨by decide, by decide⟩⟩
theorem kH_strays_95 : CkV H_strays 95 H_straysAsSheep 0 := ⟨lH_95, mH_straysAsSheep.1, mH_straysAsSheep.2.1, mH_straysAsSheep.2.2.1, mH_straysAsSheep.2.2.2.1, mH_straysAsSheep.2.2.2.2, ⟨by decide, by decide⟩⟩
theorem kH_straysAsRam_95 : CkV H_straysAsRam 95 H_straysAsSheep 0 := ⟨lH_95, mH_straysAsSheep.1, mH_straysAsSheep.2.1, mH_straysAsSheep.2.2.1, mH_straysAsSheep.2.2.2.1, mH_straysAsSheep.2.2.2.2, ⟨by decide, by decide⟩⟩
theorem kH_straysAsEwe_95 : CkV H_straysAsEwe 95 H_straysAsSheep 0 := ⟨lH_95, mH_straysAsSheep.1, mH_straysAsSheep.2.1, mH_straysAsSheep.2.2.1, mH_straysAsSheep.2.2.2.1, mH_straysAsSheep.2.2.2.2, ⟨by decide, by decide⟩⟩
theorem kH_hasCompany_83 : CkV H_hasCompany 83 H_sheepAt 1 := ⟨lH_83, mH_sheepAt.1, mH_sheepAt.2.1, mH_sheepAt.2.2.1, mH_sheepAt.2.2.2.1, mH_sheepAt.2.2.2.2, ⟨by decide, by decide⟩⟩
theorem kS_change_100 : CkV S_change 100 H_has 1 := ⟨lS_100, mH_has.1, mH_has.2.1, mH_has.2.2.1, mH_has.2.2.2.1, mH_has.2.2.2.2, ⟨by decide, by decide⟩⟩
theorem kS_change_106 : CkS S_change 106 S_canBeChanged 2 := ⟨lS_106, mS_canBeChanged.1, mS_canBeChanged.2.1, mS_canBeChanged.2.2.1, mS_canBeChanged.2.2.2, ⟨by decide, by decide⟩⟩
theorem kS_change_61 : CkV S_change 61 S_finding 1 := ⟨lS_61, mS_finding.1, mS_finding.2.1, mS_finding.2.2.1, mS_finding.2.2.2.1, mS_finding.2.2.2.2, ⟨by decide, by decide⟩⟩
theorem kS_change_103 : CkV S_change 103 H_trait 2 := ⟨lS_103, mH_trait.1, mH_trait.2.1, mH_trait.2.2.1, mH_trait.2.2.2.1, mH_trait.2.2.2.2, ⟨by decide, by decide⟩⟩
theorem kS_canBeChanged_85 : CkS S_canBeChanged 85 S_isKind 1 := ⟨lS_85, mS_isKind.1, mS_isKind.2.1, mS_isKind.2.2.1, mS_isKind.2.2.2, ⟨by decide, by decide⟩⟩
theorem kS_canBeChanged_89 : CkS S_canBeChanged 89 S_isCell 1 := ⟨lS_89, mS_isCell.1, mS_isCell.2.1, mS_isCell.2.2.1, mS_isCell.2.2.2, ⟨by decide, by decide⟩⟩
theorem kS_canBeChanged_81 : CkS S_canBeChanged 81 S_isWithin 3 := ⟨lS_81, mS_isWithin.1, mS_isWithin.2.1, mS_isWithin.2.2.1, mS_isWithin.2.2.2, ⟨by decide, by decide⟩⟩
theorem kS_drop_61 : CkV S_drop 61 S_finding 1 := ⟨lS_61, mS_finding.1, mS_finding.2.1, mS_finding.2.2.1, mS_finding.2.2.2.1, mS_finding.2.2.2.2, ⟨by decide, by decide⟩⟩
theorem kS_who_89 : CkS S_who 89 S_isCell 1 := ⟨lS_89, mS_isCell.1, mS_isCell.2.1, mS_isCell.2.2.1, mS_isCell.2.2.2, ⟨by decide, by decide⟩⟩
theorem kS_who_61 : CkV S_who 61 S_finding 1 := ⟨lS_61, mS_finding.1, mS_finding.2.1, mS_finding.2.2.1, mS_finding.2.2.2.1, mS_finding.2.2.2.2, ⟨by decide, by decide⟩⟩
theorem kS_who_127 : CkV S_who 127 H_sheepAt 1 := ⟨lS_127, mH_sheepAt.1, mH_sheepAt.2.1, mH_sheepAt.2.2.1, mH_sheepAt.2.2.2.1, mH_sheepAt.2.2.2.2, ⟨by decide, by decide⟩⟩
theorem kS_go_81 : CkS S_go 81 S_isWithin 3 := ⟨lS_81, mS_isWithin.1, mS_isWithin.2.1, mS_isWithin.2.2.1, mS_isWithin.2.2.2, ⟨by decide, by decide⟩⟩
theorem kS_go_61 : CkV S_go 61 S_finding 1 := ⟨lS_61, mS_finding.1, mS_finding.2.1, mS_finding.2.2.1, mS_finding.2.2.2.1, mS_finding.2.2.2.2, ⟨by decide, by decide⟩⟩
theorem kS_go_134 : CkV S_go 134 H_passHours 1 := ⟨lS_134, mH_passHours.1, mH_passHours.2.1, mH_passHours.2.2.1, mH_passHours.2.2.2.1, mH_passHours.2.2.2.2, ⟨by decide, by decide⟩⟩
theorem kS_go_137 : CkV S_go 137 H_total 1 := ⟨lS_137, mH_total.1, mH_total.2.1, mH_total.2.2.1, mH_total.2.2.2.1, mH_total.2.2.2.2, ⟨by decide, by decide⟩⟩
theorem kH_passHours_99 : CkV H_passHours 99 H_passHour 1 := ⟨lH_99, mH_passHour.1, mH_passHour.2.1, mH_passHour.2.2.1, mH_passHour.2.2.2.1, mH_passHour.2.2.2.2, ⟨by decide, by decide⟩⟩
theorem kH_passHour_103 : CkV H_passHour 103 H_strayAll 1 := ⟨lH_103, mH_strayAll.1, mH_strayAll.2.1, mH_strayAll.2.2.1, mH_strayAll.2.2.2.1, mH_strayAll.2.2.2.2, ⟨by decide, by decide⟩⟩
theorem kH_passHour_106 : CkV H_passHour 106 H_prowl 0 := ⟨lH_106, mH_prowl.1, mH_prowl.2.1, mH_prowl.2.2.1, mH_prowl.2.2.2.1, mH_prowl.2.2.2.2, ⟨by decide, by decide⟩⟩
theorem kH_passHour_109 : CkV H_passHour 109 H_tend 0 := ⟨lH_109, mH_tend.1, mH_tend.2.1, mH_tend.2.2.1, mH_tend.2.2.2.1, mH_tend.2.2.2.2, ⟨by decide, by decide⟩⟩
theorem kH_passHour_112 : CkV H_passHour 112 H_settle 0 := ⟨lH_112, mH_settle.1, mH_settle.2.1, mH_settle.2.2.1, mH_settle.2.2.2.1, mH_settle.2.2.2.2, ⟨by decide, by decide⟩⟩
theorem kH_passHour_116 : CkS H_passHour 116 JM_min 2 := ⟨lH_116, mJM_min.1, mJM_min.2.1, mJM_min.2.2.1, mJM_min.2.2.2, ⟨by decide, by decide⟩⟩
theorem kH_strayAll_67 : CkV H_strayAll 67 H_strays 1 := ⟨lH_67, mH_strays.1, mH_strays.2.1, mH_strays.2.2.1, mH_strays.2.2.2.1, mH_strays.2.2.2.2, ⟨by decide, by decide⟩⟩
theorem kH_strayAll_121 : CkV H_strayAll 121 H_strayedFrom 2 := ⟨lH_121, mH_strayedFrom.1, mH_strayedFrom.2.1, mH_strayedFrom.2.2.1, mH_strayedFrom.2.2.2.1, mH_strayedFrom.2.2.2.2, ⟨by decide, by decide⟩⟩
theorem kH_strayedFrom_124 : CkN H_strayedFrom 124 S_towards 3 := ⟨⟨_, lH_124⟩, mS_towards.1, mS_towards.2.1, mS_towards.2.2.1, mS_towards.2.2.2, ⟨by decide, by decide⟩⟩
theorem kH_strayedFrom_116 : CkS H_strayedFrom 116 JM_min 2 := ⟨lH_116, mJM_min.1, mJM_min.2.1, mJM_min.2.2.1, mJM_min.2.2.2, ⟨by decide, by decide⟩⟩
theorem kH_strayedFrom_128 : CkS H_strayedFrom 128 JM_max 2 := ⟨lH_128, mJM_max.1, mJM_max.2.1, mJM_max.2.2.1, mJM_max.2.2.2, ⟨by decide, by decide⟩⟩
theorem kS_towards_257 : CkS S_towards 257 JM_min 2 := ⟨lS_257, mJM_min.1, mJM_min.2.1, mJM_min.2.2.1, mJM_min.2.2.2, ⟨by decide, by decide⟩⟩
theorem kS_towards_262 : CkS S_towards 262 JM_max 2 := ⟨lS_262, mJM_max.1, mJM_max.2.1, mJM_max.2.2.1, mJM_max.2.2.2, ⟨by decide, by decide⟩⟩
theorem kH_prowl_79 : CkN H_prowl 79 S_distance 2 := ⟨⟨_, lH_79⟩, mS_distance.1, mS_distance.2.1, mS_distance.2.2.1, mS_distance.2.2.2, ⟨by decide, by decide⟩⟩
theorem kH_prowl_131 : CkV H_prowl 131 H_nearestToWolf 0 := ⟨lH_131, mH_nearestToWolf.1, mH_nearestToWolf.2.1, mH_nearestToWolf.2.2.1, mH_nearestToWolf.2.2.2.1, mH_nearestToWolf.2.2.2.2, ⟨by decide, by decide⟩⟩
theorem kH_prowl_124 : CkN H_prowl 124 S_towards 3 := ⟨⟨_, lH_124⟩, mS_towards.1, mS_towards.2.1, mS_towards.2.2.1, mS_towards.2.2.2, ⟨by decide, by decide⟩⟩
theorem kH_prowl_134 : CkV H_prowl 134 H_frighten 0 := ⟨lH_134, mH_frighten.1, mH_frighten.2.1, mH_frighten.2.2.1, mH_frighten.2.2.2.1, mH_frighten.2.2.2.2, ⟨by decide, by decide⟩⟩
theorem kH_nearestToWolf_79 : CkN H_nearestToWolf 79 S_distance 2 := ⟨⟨_, lH_79⟩, mS_distance.1, mS_distance.2.1, mS_distance.2.2.1, mS_distance.2.2.2, ⟨by decide, by decide⟩⟩
theorem kH_frighten_79 : CkN H_frighten 79 S_distance 2 := ⟨⟨_, lH_79⟩, mS_distance.1, mS_distance.2.1, mS_distance.2.2.1, mS_distance.2.2.2, ⟨by decide, by decide⟩⟩
theorem kH_frighten_70 : CkN H_frighten 70 S_fearsOf 1 := ⟨⟨_, lH_70⟩, mS_fearsOf.1, mS_fearsOf.2.1, mS_fearsOf.2.2.1, mS_fearsOf.2.2.2, ⟨by decide, by decide⟩⟩
theorem kH_frighten_116 : CkS H_frighten 116 JM_min 2 := ⟨lH_116, mJM_min.1, mJM_min.2.1, mJM_min.2.2.1, mJM_min.2.2.2, ⟨by decide, by decide⟩⟩
theorem kH_tend_59 : CkV H_tend 59 H_has 1 := ⟨lH_59, mH_has.1, mH_has.2.1, mH_has.2.2.1, mH_has.2.2.2.1, mH_has.2.2.2.2, ⟨by decide, by decide⟩⟩
theorem kH_tend_137 : CkV H_tend 137 H_carryHome 0 := ⟨lH_137, mH_carryHome.1, mH_carryHome.2.1, mH_carryHome.2.2.1, mH_carryHome.2.2.2.1, mH_carryHome.2.2.2.2, ⟨by decide, by decide⟩⟩
theorem kH_tend_140 : CkV H_tend 140 H_seek 0 := ⟨lH_140, mH_seek.1, mH_seek.2.1, mH_seek.2.2.1, mH_seek.2.2.2.1, mH_seek.2.2.2.2, ⟨by decide, by decide⟩⟩
theorem kH_carryHome_76 : CkN H_carryHome 76 S_lightOf 1 := ⟨⟨_, lH_76⟩, mS_lightOf.1, mS_lightOf.2.1, mS_lightOf.2.2.1, mS_lightOf.2.2.2, ⟨by decide, by decide⟩⟩
theorem kH_carryHome_124 : CkN H_carryHome 124 S_towards 3 := ⟨⟨_, lH_124⟩, mS_towards.1, mS_towards.2.1, mS_towards.2.2.1, mS_towards.2.2.2, ⟨by decide, by decide⟩⟩
theorem kH_carryHome_143 : CkV H_carryHome 143 H_moveKeeper 1 := ⟨lH_143, mH_moveKeeper.1, mH_moveKeeper.2.1, mH_moveKeeper.2.2.1, mH_moveKeeper.2.2.2.1, mH_moveKeeper.2.2.2.2, ⟨by decide, by decide⟩⟩
theorem kH_carryHome_116 : CkS H_carryHome 116 JM_min 2 := ⟨lH_116, mJM_min.1, mJM_min.2.1, mJM_min.2.2.1, mJM_min.2.2.2, ⟨by decide, by decide⟩⟩
theorem kH_seek_146 : CkV H_seek 146 H_sought 0 := ⟨lH_146, mH_sought.1, mH_sought.2.1, mH_sought.2.2.1, mH_sought.2.2.2.1, mH_sought.2.2.2.2, ⟨by decide, by decide⟩⟩
theorem kH_seek_124 : CkN H_seek 124 S_towards 3 := ⟨⟨_, lH_124⟩, mS_towards.1, mS_towards.2.1, mS_towards.2.2.1, mS_towards.2.2.2, ⟨by decide, by decide⟩⟩
theorem kH_sought_63 : CkV H_sought 63 H_far 1 := ⟨lH_63, mH_far.1, mH_far.2.1, mH_far.2.2.1, mH_far.2.2.2.1, mH_far.2.2.2.2, ⟨by decide, by decide⟩⟩
theorem kH_settle_116 : CkS H_settle 116 JM_min 2 := ⟨lH_116, mJM_min.1, mJM_min.2.1, mJM_min.2.2.1, mJM_min.2.2.2, ⟨by decide, by decide⟩⟩
theorem kH_settle_73 : CkN H_settle 73 S_calmsOf 1 := ⟨⟨_, lH_73⟩, mS_calmsOf.1, mS_calmsOf.2.1, mS_calmsOf.2.2.1, mS_calmsOf.2.2.2, ⟨by decide, by decide⟩⟩
theorem kH_settle_128 : CkS H_settle 128 JM_max 2 := ⟨lH_128, mJM_max.1, mJM_max.2.1, mJM_max.2.2.1, mJM_max.2.2.2, ⟨by decide, by decide⟩⟩
theorem kS_now_141 : CkV S_now 141 H_farSheep 0 := ⟨lS_141, mH_farSheep.1, mH_farSheep.2.1, mH_farSheep.2.2.1, mH_farSheep.2.2.2.1, mH_farSheep.2.2.2.2, ⟨by decide, by decide⟩⟩
theorem kS_now_137 : CkV S_now 137 H_total 1 := ⟨lS_137, mH_total.1, mH_total.2.1, mH_total.2.2.1, mH_total.2.2.2.1, mH_total.2.2.2.2, ⟨by decide, by decide⟩⟩
theorem kS_now_145 : CkV S_now 145 H_sought 0 := ⟨lS_145, mH_sought.1, mH_sought.2.1, mH_sought.2.2.1, mH_sought.2.2.2.1, mH_sought.2.2.2.2, ⟨by decide, by decide⟩⟩
theorem kS_now_127 : CkV S_now 127 H_sheepAt 1 := ⟨lS_127, mH_sheepAt.1, mH_sheepAt.2.1, mH_sheepAt.2.2.1, mH_sheepAt.2.2.2.1, mH_sheepAt.2.2.2.2, ⟨by decide, by decide⟩⟩
theorem kS_now_148 : CkV S_now 148 H_mostAfraid 0 := ⟨lS_148, mH_mostAfraid.1, mH_mostAfraid.2.1, mH_mostAfraid.2.2.1, mH_mostAfraid.2.2.2.1, mH_mostAfraid.2.2.2.2, ⟨by decide, by decide⟩⟩
theorem kS_now_61 : CkV S_now 61 S_finding 1 := ⟨lS_61, mS_finding.1, mS_finding.2.1, mS_finding.2.2.1, mS_finding.2.2.2.1, mS_finding.2.2.2.2, ⟨by decide, by decide⟩⟩
theorem kH_farSheep_63 : CkV H_farSheep 63 H_far 1 := ⟨lH_63, mH_far.1, mH_far.2.1, mH_far.2.2.1, mH_far.2.2.2.1, mH_far.2.2.2.2, ⟨by decide, by decide⟩⟩
theorem kS_ahead_100 : CkV S_ahead 100 H_has 1 := ⟨lS_100, mH_has.1, mH_has.2.1, mH_has.2.2.1, mH_has.2.2.2.1, mH_has.2.2.2.2, ⟨by decide, by decide⟩⟩
theorem kS_ahead_81 : CkS S_ahead 81 S_isWithin 3 := ⟨lS_81, mS_isWithin.1, mS_isWithin.2.1, mS_isWithin.2.2.1, mS_isWithin.2.2.2, ⟨by decide, by decide⟩⟩
theorem kS_ahead_61 : CkV S_ahead 61 S_finding 1 := ⟨lS_61, mS_finding.1, mS_finding.2.1, mS_finding.2.2.1, mS_finding.2.2.2.1, mS_finding.2.2.2.2, ⟨by decide, by decide⟩⟩
theorem kS_ahead_151 : CkV S_ahead 151 H_become 1 := ⟨lS_151, mH_become.1, mH_become.2.1, mH_become.2.2.1, mH_become.2.2.2.1, mH_become.2.2.2.2, ⟨by decide, by decide⟩⟩
theorem kS_ahead_134 : CkV S_ahead 134 H_passHours 1 := ⟨lS_134, mH_passHours.1, mH_passHours.2.1, mH_passHours.2.2.1, mH_passHours.2.2.2.1, mH_passHours.2.2.2.2, ⟨by decide, by decide⟩⟩
theorem kS_ahead_103 : CkV S_ahead 103 H_trait 2 := ⟨lS_103, mH_trait.1, mH_trait.2.1, mH_trait.2.2.1, mH_trait.2.2.2.1, mH_trait.2.2.2.2, ⟨by decide, by decide⟩⟩
theorem kS_later_81 : CkS S_later 81 S_isWithin 3 := ⟨lS_81, mS_isWithin.1, mS_isWithin.2.1, mS_isWithin.2.2.1, mS_isWithin.2.2.2, ⟨by decide, by decide⟩⟩
theorem kS_later_61 : CkV S_later 61 S_finding 1 := ⟨lS_61, mS_finding.1, mS_finding.2.1, mS_finding.2.2.1, mS_finding.2.2.2.1, mS_finding.2.2.2.2, ⟨by decide, by decide⟩⟩
theorem kS_later_151 : CkV S_later 151 H_become 1 := ⟨lS_151, mH_become.1, mH_become.2.1, mH_become.2.2.1, mH_become.2.2.2.1, mH_become.2.2.2.2, ⟨by decide, by decide⟩⟩
theorem kS_later_134 : CkV S_later 134 H_passHours 1 := ⟨lS_134, mH_passHours.1, mH_passHours.2.1, mH_passHours.2.2.1, mH_passHours.2.2.2.1, mH_passHours.2.2.2.2, ⟨by decide, by decide⟩⟩
theorem kS_later_65 : CkV S_later 65 H_feature 1 := ⟨lS_65, mH_feature.1, mH_feature.2.1, mH_feature.2.2.1, mH_feature.2.2.2.1, mH_feature.2.2.2.2, ⟨by decide, by decide⟩⟩
theorem kS_when_100 : CkV S_when 100 H_has 1 := ⟨lS_100, mH_has.1, mH_has.2.1, mH_has.2.2.1, mH_has.2.2.2.1, mH_has.2.2.2.2, ⟨by decide, by decide⟩⟩
theorem kS_when_81 : CkS S_when 81 S_isWithin 3 := ⟨lS_81, mS_isWithin.1, mS_isWithin.2.1, mS_isWithin.2.2.1, mS_isWithin.2.2.2, ⟨by decide, by decide⟩⟩
theorem kS_when_61 : CkV S_when 61 S_finding 1 := ⟨lS_61, mS_finding.1, mS_finding.2.1, mS_finding.2.2.1, mS_finding.2.2.2.1, mS_finding.2.2.2.2, ⟨by decide, by decide⟩⟩
theorem kS_when_155 : CkV S_when 155 S_firstHourOfAtLeast 3 := ⟨lS_155, mS_firstHourOfAtLeast.1, mS_firstHourOfAtLeast.2.1, mS_firstHourOfAtLeast.2.2.1, mS_firstHourOfAtLeast.2.2.2.1, mS_firstHourOfAtLeast.2.2.2.2, ⟨by decide, by decide⟩⟩
theorem kS_firstHourOfAtLeast_151 : CkV S_firstHourOfAtLeast 151 H_become 1 := ⟨lS_151, mH_become.1, mH_become.2.1, mH_become.2.2.1, mH_become.2.2.2.1, mH_become.2.2.2.2, ⟨by decide, by decide⟩⟩
theorem kS_firstHourOfAtLeast_134 : CkV S_firstHourOfAtLeast 134 H_passHours 1 := ⟨lS_134, mH_passHours.1, mH_passHours.2.1, mH_passHours.2.2.1, mH_passHours.2.2.2.1, mH_passHours.2.2.2.2, ⟨by decide, by decide⟩⟩
theorem kS_firstHourOfAtLeast_61 : CkV S_firstHourOfAtLeast 61 S_finding 1 := ⟨lS_61, mS_finding.1, mS_finding.2.1, mS_finding.2.2.1, mS_finding.2.2.2.1, mS_finding.2.2.2.2, ⟨by decide, by decide⟩⟩
theorem kS_home_151 : CkV S_home 151 H_become 1 := ⟨lS_151, mH_become.1, mH_become.2.1, mH_become.2.2.1, mH_become.2.2.2.1, mH_become.2.2.2.2, ⟨by decide, by decide⟩⟩
theorem kS_home_159 : CkV S_home 159 H_allAtFold 0 := ⟨lS_159, mH_allAtFold.1, mH_allAtFold.2.1, mH_allAtFold.2.2.1, mH_allAtFold.2.2.2.1, mH_allAtFold.2.2.2.2, ⟨by decide, by decide⟩⟩
theorem kS_home_134 : CkV S_home 134 H_passHours 1 := ⟨lS_134, mH_passHours.1, mH_passHours.2.1, mH_passHours.2.2.1, mH_passHours.2.2.2.1, mH_passHours.2.2.2.2, ⟨by decide, by decide⟩⟩
theorem kS_home_61 : CkV S_home 61 S_finding 1 := ⟨lS_61, mS_finding.1, mS_finding.2.1, mS_finding.2.2.1, mS_finding.2.2.2.1, mS_finding.2.2.2.2, ⟨by decide, by decide⟩⟩
theorem kH_allAtFold_83 : CkV H_allAtFold 83 H_sheepAt 1 := ⟨lH_83, mH_sheepAt.1, mH_sheepAt.2.1, mH_sheepAt.2.2.1, mH_sheepAt.2.2.2.1, mH_sheepAt.2.2.2.2, ⟨by decide, by decide⟩⟩
theorem kS_panic_100 : CkV S_panic 100 H_has 1 := ⟨lS_100, mH_has.1, mH_has.2.1, mH_has.2.2.1, mH_has.2.2.2.1, mH_has.2.2.2.2, ⟨by decide, by decide⟩⟩
theorem kS_panic_81 : CkS S_panic 81 S_isWithin 3 := ⟨lS_81, mS_isWithin.1, mS_isWithin.2.1, mS_isWithin.2.2.1, mS_isWithin.2.2.2, ⟨by decide, by decide⟩⟩
theorem kS_panic_61 : CkV S_panic 61 S_finding 1 := ⟨lS_61, mS_finding.1, mS_finding.2.1, mS_finding.2.2.1, mS_finding.2.2.2.1, mS_finding.2.2.2.2, ⟨by decide, by decide⟩⟩
theorem kS_panic_155 : CkV S_panic 155 S_firstHourOfAtLeast 3 := ⟨lS_155, mS_firstHourOfAtLeast.1, mS_firstHourOfAtLeast.2.1, mS_firstHourOfAtLeast.2.2.1, mS_firstHourOfAtLeast.2.2.2.1, mS_firstHourOfAtLeast.2.2.2.2, ⟨by decide, by decide⟩⟩
theorem kS_standFor_81 : CkS S_standFor 81 S_isWithin 3 := ⟨lS_81, mS_isWithin.1, mS_isWithin.2.1, mS_isWithin.2.2.1, mS_isWithin.2.2.2, ⟨by decide, by decide⟩⟩
theorem kS_standFor_61 : CkV S_standFor 61 S_finding 1 := ⟨lS_61, mS_finding.1, mS_finding.2.1, mS_finding.2.2.1, mS_finding.2.2.2.1, mS_finding.2.2.2.2, ⟨by decide, by decide⟩⟩
theorem kS_standFor_151 : CkV S_standFor 151 H_become 1 := ⟨lS_151, mH_become.1, mH_become.2.1, mH_become.2.2.1, mH_become.2.2.2.1, mH_become.2.2.2.2, ⟨by decide, by decide⟩⟩
theorem kS_standFor_71 : CkV S_standFor 71 H_moveKeeper 1 := ⟨lS_71, mH_moveKeeper.1, mH_moveKeeper.2.1, mH_moveKeeper.2.2.1, mH_moveKeeper.2.2.2.1, mH_moveKeeper.2.2.2.2, ⟨by decide, by decide⟩⟩
theorem kS_standFor_134 : CkV S_standFor 134 H_passHours 1 := ⟨lS_134, mH_passHours.1, mH_passHours.2.1, mH_passHours.2.2.1, mH_passHours.2.2.2.1, mH_passHours.2.2.2.2, ⟨by decide, by decide⟩⟩
theorem kS_standFor_137 : CkV S_standFor 137 H_total 1 := ⟨lS_137, mH_total.1, mH_total.2.1, mH_total.2.2.1, mH_total.2.2.2.1, mH_total.2.2.2.2, ⟨by decide, by decide⟩⟩
theorem kS_foldFor_81 : CkS S_foldFor 81 S_isWithin 3 := ⟨lS_81, mS_isWithin.1, mS_isWithin.2.1, mS_isWithin.2.2.1, mS_isWithin.2.2.2, ⟨by decide, by decide⟩⟩
theorem kS_foldFor_61 : CkV S_foldFor 61 S_finding 1 := ⟨lS_61, mS_finding.1, mS_finding.2.1, mS_finding.2.2.1, mS_finding.2.2.2.1, mS_finding.2.2.2.2, ⟨by decide, by decide⟩⟩
theorem kS_foldFor_151 : CkV S_foldFor 151 H_become 1 := ⟨lS_151, mH_become.1, mH_become.2.1, mH_become.2.2.1, mH_become.2.2.2.1, mH_become.2.2.2.2, ⟨by decide, by decide⟩⟩
theorem kS_foldFor_134 : CkV S_foldFor 134 H_passHours 1 := ⟨lS_134, mH_passHours.1, mH_passHours.2.1, mH_passHours.2.2.1, mH_passHours.2.2.2.1, mH_passHours.2.2.2.2, ⟨by decide, by decide⟩⟩
theorem kS_foldFor_137 : CkV S_foldFor 137 H_total 1 := ⟨lS_137, mH_total.1, mH_total.2.1, mH_total.2.2.1, mH_total.2.2.2.1, mH_total.2.2.2.2, ⟨by decide, by decide⟩⟩
theorem kS_kindFor_100 : CkV S_kindFor 100 H_has 1 := ⟨lS_100, mH_has.1, mH_has.2.1, mH_has.2.2.1, mH_has.2.2.2.1, mH_has.2.2.2.2, ⟨by decide, by decide⟩⟩
theorem kS_kindFor_81 : CkS S_kindFor 81 S_isWithin 3 := ⟨lS_81, mS_isWithin.1, mS_isWithin.2.1, mS_isWithin.2.2.1, mS_isWithin.2.2.2, ⟨by decide, by decide⟩⟩
theorem kS_kindFor_61 : CkV S_kindFor 61 S_finding 1 := ⟨lS_61, mS_finding.1, mS_finding.2.1, mS_finding.2.2.1, mS_finding.2.2.2.1, mS_finding.2.2.2.2, ⟨by decide, by decide⟩⟩
theorem kS_kindFor_151 : CkV S_kindFor 151 H_become 1 := ⟨lS_151, mH_become.1, mH_become.2.1, mH_become.2.2.1, mH_become.2.2.2.1, mH_become.2.2.2.2, ⟨by decide, by decide⟩⟩
theorem kS_kindFor_134 : CkV S_kindFor 134 H_passHours 1 := ⟨lS_134, mH_passHours.1, mH_passHours.2.1, mH_passHours.2.2.1, mH_passHours.2.2.2.1, mH_passHours.2.2.2.2, ⟨by decide, by decide⟩⟩
theorem kS_paceFor_81 : CkS S_paceFor 81 S_isWithin 3 := ⟨lS_81, mS_isWithin.1, mS_isWithin.2.1, mS_isWithin.2.2.1, mS_isWithin.2.2.2, ⟨by decide, by decide⟩⟩
theorem kS_paceFor_61 : CkV S_paceFor 61 S_finding 1 := ⟨lS_61, mS_finding.1, mS_finding.2.1, mS_finding.2.2.1, mS_finding.2.2.2.1, mS_finding.2.2.2.2, ⟨by decide, by decide⟩⟩
theorem kS_paceFor_151 : CkV S_paceFor 151 H_become 1 := ⟨lS_151, mH_become.1, mH_become.2.1, mH_become.2.2.1, mH_become.2.2.2.1, mH_become.2.2.2.2, ⟨by decide, by decide⟩⟩
theorem kS_paceFor_134 : CkV S_paceFor 134 H_passHours 1 := ⟨lS_134, mH_passHours.1, mH_passHours.2.1, mH_passHours.2.2.1, mH_passHours.2.2.2.1, mH_passHours.2.2.2.2, ⟨by decide, by decide⟩⟩
theorem kS_paceFor_137 : CkV S_paceFor 137 H_total 1 := ⟨lS_137, mH_total.1, mH_total.2.1, mH_total.2.2.1, mH_total.2.2.2.1, mH_total.2.2.2.2, ⟨by decide, by decide⟩⟩
theorem kS_tether_81 : CkS S_tether 81 S_isWithin 3 := ⟨lS_81, mS_isWithin.1, mS_isWithin.2.1, mS_isWithin.2.2.1, mS_isWithin.2.2.2, ⟨by decide, by decide⟩⟩
theorem kS_tether_61 : CkV S_tether 61 S_finding 1 := ⟨lS_61, mS_finding.1, mS_finding.2.1, mS_finding.2.2.1, mS_finding.2.2.2.1, mS_finding.2.2.2.2, ⟨by decide, by decide⟩⟩
theorem kS_tether_168 : CkS S_tether 168 JI_bitCount 1 := ⟨lS_168, mJI_bitCount.1, mJI_bitCount.2.1, mJI_bitCount.2.2.1, mJI_bitCount.2.2.2, ⟨by decide, by decide⟩⟩
theorem kS_tether_171 : CkV S_tether 171 S_keepsNear 2 := ⟨lS_171, mS_keepsNear.1, mS_keepsNear.2.1, mS_keepsNear.2.2.1, mS_keepsNear.2.2.2.1, mS_keepsNear.2.2.2.2, ⟨by decide, by decide⟩⟩
theorem kS_keepsNear_151 : CkV S_keepsNear 151 H_become 1 := ⟨lS_151, mH_become.1, mH_become.2.1, mH_become.2.2.1, mH_become.2.2.2.1, mH_become.2.2.2.2, ⟨by decide, by decide⟩⟩
theorem kS_keepsNear_244 : CkV S_keepsNear 244 H_passHour 1 := ⟨lS_244, mH_passHour.1, mH_passHour.2.1, mH_passHour.2.2.1, mH_passHour.2.2.2.1, mH_passHour.2.2.2.2, ⟨by decide, by decide⟩⟩
theorem kS_keepsNear_141 : CkV S_keepsNear 141 H_farSheep 0 := ⟨lS_141, mH_farSheep.1, mH_farSheep.2.1, mH_farSheep.2.2.1, mH_farSheep.2.2.2.1, mH_farSheep.2.2.2.2, ⟨by decide, by decide⟩⟩
theorem kS_fits_174 : CkS S_fits 174 S_isSheet 1 := ⟨lS_174, mS_isSheet.1, mS_isSheet.2.1, mS_isSheet.2.2.1, mS_isSheet.2.2.2, ⟨by decide, by decide⟩⟩
theorem kS_fits_61 : CkV S_fits 61 S_finding 1 := ⟨lS_61, mS_finding.1, mS_finding.2.1, mS_finding.2.2.1, mS_finding.2.2.2.1, mS_finding.2.2.2.2, ⟨by decide, by decide⟩⟩
theorem kS_fits_177 : CkV S_fits 177 E_isMissing 0 := ⟨lS_177, mE_isMissing.1, mE_isMissing.2.1, mE_isMissing.2.2.1, mE_isMissing.2.2.2.1, mE_isMissing.2.2.2.2, ⟨by decide, by decide⟩⟩
theorem kS_fits_100 : CkV S_fits 100 H_has 1 := ⟨lS_100, mH_has.1, mH_has.2.1, mH_has.2.2.1, mH_has.2.2.2.1, mH_has.2.2.2.2, ⟨by decide, by decide⟩⟩
theorem kS_fits_151 : CkV S_fits 151 H_become 1 := ⟨lS_151, mH_become.1, mH_become.2.1, mH_become.2.2.1, mH_become.2.2.2.1, mH_become.2.2.2.2, ⟨by decide, by decide⟩⟩
theorem kS_fits_180 : CkV S_fits 180 S_keeperGoesAsTold 1 := ⟨lS_180, mS_keeperGoesAsTold.1, mS_keeperGoesAsTold.2.1, mS_keeperGoesAsTold.2.2.1, mS_keeperGoesAsTold.2.2.2.1, mS_keeperGoesAsTold.2.2.2.2, ⟨by decide, by decide⟩⟩
theorem kS_isSheet_81 : CkS S_isSheet 81 S_isWithin 3 := ⟨lS_81, mS_isWithin.1, mS_isWithin.2.1, mS_isWithin.2.2.1, mS_isWithin.2.2.2, ⟨by decide, by decide⟩⟩
theorem kS_keeperGoesAsTold_250 : CkV S_keeperGoesAsTold 250 E_allows 2 := ⟨lS_250, mE_allows.1, mE_allows.2.1, mE_allows.2.2.1, mE_allows.2.2.2.1, mE_allows.2.2.2.2, ⟨by decide, by decide⟩⟩
theorem kS_keeperGoesAsTold_134 : CkV S_keeperGoesAsTold 134 H_passHours 1 := ⟨lS_134, mH_passHours.1, mH_passHours.2.1, mH_passHours.2.2.1, mH_passHours.2.2.2.1, mH_passHours.2.2.2.2, ⟨by decide, by decide⟩⟩
theorem kS_kinds_174 : CkS S_kinds 174 S_isSheet 1 := ⟨lS_174, mS_isSheet.1, mS_isSheet.2.1, mS_isSheet.2.2.1, mS_isSheet.2.2.2, ⟨by decide, by decide⟩⟩
theorem kS_kinds_61 : CkV S_kinds 61 S_finding 1 := ⟨lS_61, mS_finding.1, mS_finding.2.1, mS_finding.2.2.1, mS_finding.2.2.2.1, mS_finding.2.2.2.2, ⟨by decide, by decide⟩⟩
theorem kS_kinds_177 : CkV S_kinds 177 E_isMissing 0 := ⟨lS_177, mE_isMissing.1, mE_isMissing.2.1, mE_isMissing.2.2.1, mE_isMissing.2.2.2.1, mE_isMissing.2.2.2.2, ⟨by decide, by decide⟩⟩
theorem kS_kinds_100 : CkV S_kinds 100 H_has 1 := ⟨lS_100, mH_has.1, mH_has.2.1, mH_has.2.2.1, mH_has.2.2.2.1, mH_has.2.2.2.2, ⟨by decide, by decide⟩⟩
theorem kS_kinds_151 : CkV S_kinds 151 H_become 1 := ⟨lS_151, mH_become.1, mH_become.2.1, mH_become.2.2.1, mH_become.2.2.2.1, mH_become.2.2.2.2, ⟨by decide, by decide⟩⟩
theorem kS_kinds_184 : CkV S_kinds 184 S_sheepGoesAsTold 2 := ⟨lS_184, mS_sheepGoesAsTold.1, mS_sheepGoesAsTold.2.1, mS_sheepGoesAsTold.2.2.1, mS_sheepGoesAsTold.2.2.2.1, mS_sheepGoesAsTold.2.2.2.2, ⟨by decide, by decide⟩⟩
theorem kS_sheepGoesAsTold_250 : CkV S_sheepGoesAsTold 250 E_allows 2 := ⟨lS_250, mE_allows.1, mE_allows.2.1, mE_allows.2.2.1, mE_allows.2.2.2.1, mE_allows.2.2.2.2, ⟨by decide, by decide⟩⟩
theorem kS_sheepGoesAsTold_134 : CkV S_sheepGoesAsTold 134 H_passHours 1 := ⟨lS_134, mH_passHours.1, mH_passHours.2.1, mH_passHours.2.2.1, mH_passHours.2.2.2.1, mH_passHours.2.2.2.2, ⟨by decide, by decide⟩⟩
theorem kS_nights_81 : CkS S_nights 81 S_isWithin 3 := ⟨lS_81, mS_isWithin.1, mS_isWithin.2.1, mS_isWithin.2.2.1, mS_isWithin.2.2.2, ⟨by decide, by decide⟩⟩
theorem kS_nights_61 : CkV S_nights 61 S_finding 1 := ⟨lS_61, mS_finding.1, mS_finding.2.1, mS_finding.2.2.1, mS_finding.2.2.2.1, mS_finding.2.2.2.2, ⟨by decide, by decide⟩⟩
theorem kS_nights_188 : CkV S_nights 188 S_draw 0 := ⟨lS_188, mS_draw.1, mS_draw.2.1, mS_draw.2.2.1, mS_draw.2.2.2.1, mS_draw.2.2.2.2, ⟨by decide, by decide⟩⟩
theorem kS_nights_134 : CkV S_nights 134 H_passHours 1 := ⟨lS_134, mH_passHours.1, mH_passHours.2.1, mH_passHours.2.2.1, mH_passHours.2.2.2.1, mH_passHours.2.2.2.2, ⟨by decide, by decide⟩⟩
theorem kS_nights_137 : CkV S_nights 137 H_total 1 := ⟨lS_137, mH_total.1, mH_total.2.1, mH_total.2.2.1, mH_total.2.2.2.1, mH_total.2.2.2.2, ⟨by decide, by decide⟩⟩
theorem kS_odds_100 : CkV S_odds 100 H_has 1 := ⟨lS_100, mH_has.1, mH_has.2.1, mH_has.2.2.1, mH_has.2.2.2.1, mH_has.2.2.2.2, ⟨by decide, by decide⟩⟩
theorem kS_odds_81 : CkS S_odds 81 S_isWithin 3 := ⟨lS_81, mS_isWithin.1, mS_isWithin.2.1, mS_isWithin.2.2.1, mS_isWithin.2.2.2, ⟨by decide, by decide⟩⟩
theorem kS_odds_61 : CkV S_odds 61 S_finding 1 := ⟨lS_61, mS_finding.1, mS_finding.2.1, mS_finding.2.2.1, mS_finding.2.2.2.1, mS_finding.2.2.2.2, ⟨by decide, by decide⟩⟩
theorem kS_odds_191 : CkV S_odds 191 H_cellsOutOfReachOf 1 := ⟨lS_191, mH_cellsOutOfReachOf.1, mH_cellsOutOfReachOf.2.1, mH_cellsOutOfReachOf.2.2.1, mH_cellsOutOfReachOf.2.2.2.1, mH_cellsOutOfReachOf.2.2.2.2, ⟨by decide, by decide⟩⟩
theorem kS_odds_194 : CkS S_odds 194 S_power 2 := ⟨lS_194, mS_power.1, mS_power.2.1, mS_power.2.2.1, mS_power.2.2.2, ⟨by decide, by decide⟩⟩
theorem kH_cellsOutOfReachOf_79 : CkN H_cellsOutOfReachOf 79 S_distance 2 := ⟨⟨_, lH_79⟩, mS_distance.1, mS_distance.2.1, mS_distance.2.2.1, mS_distance.2.2.2, ⟨by decide, by decide⟩⟩
theorem kS_feed_81 : CkS S_feed 81 S_isWithin 3 := ⟨lS_81, mS_isWithin.1, mS_isWithin.2.1, mS_isWithin.2.2.1, mS_isWithin.2.2.2, ⟨by decide, by decide⟩⟩
theorem kS_feed_61 : CkV S_feed 61 S_finding 1 := ⟨lS_61, mS_finding.1, mS_finding.2.1, mS_finding.2.2.1, mS_finding.2.2.2.1, mS_finding.2.2.2.2, ⟨by decide, by decide⟩⟩
theorem kS_feed_198 : CkV S_feed 198 T_hasRoomFor 1 := ⟨lS_198, mT_hasRoomFor.1, mT_hasRoomFor.2.1, mT_hasRoomFor.2.2.1, mT_hasRoomFor.2.2.2.1, mT_hasRoomFor.2.2.2.2, ⟨by decide, by decide⟩⟩
theorem kS_feed_201 : CkV S_feed 201 T_append 1 := ⟨lS_201, mT_append.1, mT_append.2.1, mT_append.2.2.1, mT_append.2.2.2.1, mT_append.2.2.2.2, ⟨by decide, by decide⟩⟩
theorem kT_append_28 : CkV T_append 28 T_hasRoomFor 1 := ⟨lT_28, mT_hasRoomFor.1, mT_hasRoomFor.2.1, mT_hasRoomFor.2.2.1, mT_hasRoomFor.2.2.2.1, mT_hasRoomFor.2.2.2.2, ⟨by decide, by decide⟩⟩
theorem kS_text_151 : CkV S_text 151 H_become 1 := ⟨lS_151, mH_become.1, mH_become.2.1, mH_become.2.2.1, mH_become.2.2.2.1, mH_become.2.2.2.2, ⟨by decide, by decide⟩⟩
theorem kS_text_207 : CkV S_text 207 T_readOnto 1 := ⟨lS_207, mT_readOnto.1, mT_readOnto.2.1, mT_readOnto.2.2.1, mT_readOnto.2.2.2.1, mT_readOnto.2.2.2.2, ⟨by decide, by decide⟩⟩
theorem kT_readOnto_32 : CkV T_readOnto 32 T_nextToken 0 := ⟨lT_32, mT_nextToken.1, mT_nextToken.2.1, mT_nextToken.2.2.1, mT_nextToken.2.2.2.1, mT_nextToken.2.2.2.2, ⟨by decide, by decide⟩⟩
theorem kT_readOnto_35 : CkV T_readOnto 35 T_readItem 1 := ⟨lT_35, mT_readItem.1, mT_readItem.2.1, mT_readItem.2.2.1, mT_readItem.2.2.2.1, mT_readItem.2.2.2.2, ⟨by decide, by decide⟩⟩
theorem kT_nextToken_135 : CkV T_nextToken 135 T_tokenAt 1 := ⟨lT_135, mT_tokenAt.1, mT_tokenAt.2.1, mT_tokenAt.2.2.1, mT_tokenAt.2.2.2.1, mT_tokenAt.2.2.2.2, ⟨by decide, by decide⟩⟩
theorem kT_nextToken_138 : CkS T_nextToken 138 T_isLong 1 := ⟨lT_138, mT_isLong.1, mT_isLong.2.1, mT_isLong.2.2.1, mT_isLong.2.2.2, ⟨by decide, by decide⟩⟩
theorem kT_readItem_39 : CkV T_readItem 39 T_kindOfWord 0 := ⟨lT_39, mT_kindOfWord.1, mT_kindOfWord.2.1, mT_kindOfWord.2.2.1, mT_kindOfWord.2.2.2.1, mT_kindOfWord.2.2.2.2, ⟨by decide, by decide⟩⟩
theorem kT_readItem_43 : CkV T_readItem 43 T_readSheep 2 := ⟨lT_43, mT_readSheep.1, mT_readSheep.2.1, mT_readSheep.2.2.1, mT_readSheep.2.2.2.1, mT_readSheep.2.2.2.2, ⟨by decide, by decide⟩⟩
theorem kT_readItem_49 : CkV T_readItem 49 T_skipWord 1 := ⟨lT_49, mT_skipWord.1, mT_skipWord.2.1, mT_skipWord.2.2.1, mT_skipWord.2.2.2.1, mT_skipWord.2.2.2.2, ⟨by decide, by decide⟩⟩
theorem kT_readItem_53 : CkV T_readItem 53 T_readFold 1 := ⟨lT_53, mT_readFold.1, mT_readFold.2.1, mT_readFold.2.2.1, mT_readFold.2.2.2.1, mT_readFold.2.2.2.2, ⟨by decide, by decide⟩⟩
theorem kT_readItem_58 : CkV T_readItem 58 T_readKeeper 1 := ⟨lT_58, mT_readKeeper.1, mT_readKeeper.2.1, mT_readKeeper.2.2.1, mT_readKeeper.2.2.2.1, mT_readKeeper.2.2.2.2, ⟨by decide, by decide⟩⟩
theorem kT_readItem_63 : CkV T_readItem 63 T_readWolf 1 := ⟨lT_63, mT_readWolf.1, mT_readWolf.2.1, mT_readWolf.2.2.1, mT_readWolf.2.2.2.1, mT_readWolf.2.2.2.2, ⟨by decide, by decide⟩⟩
theorem kT_kindOfWord_101 : CkS T_kindOfWord 101 T_nameOf 1 := ⟨lT_101, mT_nameOf.1, mT_nameOf.2.1, mT_nameOf.2.2.1, mT_nameOf.2.2.2, ⟨by decide, by decide⟩⟩
theorem kT_kindOfWord_105 : CkV T_kindOfWord 105 T_isWord 1 := ⟨lT_105, mT_isWord.1, mT_isWord.2.1, mT_isWord.2.2.1, mT_isWord.2.2.2.1, mT_isWord.2.2.2.2, ⟨by decide, by decide⟩⟩
theorem kT_isWord_122 : CkV T_isWord 122 JS_length 0 := ⟨lT_122, mJS_length.1, mJS_length.2.1, mJS_length.2.2.1, mJS_length.2.2.2.1, mJS_length.2.2.2.2, ⟨by decide, by decide⟩⟩
theorem kT_isWord_126 : CkV T_isWord 126 JS_charAt 1 := ⟨lT_126, mJS_charAt.1, mJS_charAt.2.1, mJS_charAt.2.2.1, mJS_charAt.2.2.2.1, mJS_charAt.2.2.2.2, ⟨by decide, by decide⟩⟩
theorem kJS_length_335 : CkV JS_length 335 JS_coder 0 := ⟨lJS_335, mJS_coder.1, mJS_coder.2.1, mJS_coder.2.2.1, mJS_coder.2.2.2.1, mJS_coder.2.2.2.2, ⟨by decide, by decide⟩⟩
theorem kJS_charAt_492 : CkV JS_charAt 492 JS_isLatin1 0 := ⟨lJS_492, mJS_isLatin1.1, mJS_isLatin1.2.1, mJS_isLatin1.2.2.1, mJS_isLatin1.2.2.2.1, mJS_isLatin1.2.2.2.2, ⟨by decide, by decide⟩⟩
theorem kJS_charAt_495 : CkS JS_charAt 495 JL_charAt 2 := ⟨lJS_495, mJL_charAt.1, mJL_charAt.2.1, mJL_charAt.2.2.1, mJL_charAt.2.2.2, ⟨by decide, by decide⟩⟩
theorem kJL_charAt_9 : CkS JL_charAt 9 JS_checkIndex 2 := ⟨lJL_9, mJS_checkIndex.1, mJS_checkIndex.2.1, mJS_checkIndex.2.2.1, mJS_checkIndex.2.2.2, ⟨by decide, by decide⟩⟩
theorem kJS_checkIndex_1059 : CkS JS_checkIndex 1059 JP_checkIndex 3 := ⟨lJS_1059, mJP_checkIndex.1, mJP_checkIndex.2.1, mJP_checkIndex.2.2.1, mJP_checkIndex.2.2.2, ⟨by decide, by decide⟩⟩
theorem kT_readSheep_66 : CkV T_readSheep 66 H_add 2 := ⟨lT_66, mH_add.1, mH_add.2.1, mH_add.2.2.1, mH_add.2.2.2.1, mH_add.2.2.2.2, ⟨by decide, by decide⟩⟩
theorem kT_readSheep_32 : CkV T_readSheep 32 T_nextToken 0 := ⟨lT_32, mT_nextToken.1, mT_nextToken.2.1, mT_nextToken.2.2.1, mT_nextToken.2.2.2.1, mT_nextToken.2.2.2.2, ⟨by decide, by decide⟩⟩
theorem kT_readSheep_49 : CkV T_readSheep 49 T_skipWord 1 := ⟨lT_49, mT_skipWord.1, mT_skipWord.2.1, mT_skipWord.2.2.1, mT_skipWord.2.2.2.1, mT_skipWord.2.2.2.2, ⟨by decide, by decide⟩⟩
theorem kT_readSheep_74 : CkV T_readSheep 74 T_takeNumber 1 := ⟨lT_74, mT_takeNumber.1, mT_takeNumber.2.1, mT_takeNumber.2.2.1, mT_takeNumber.2.2.2.1, mT_takeNumber.2.2.2.2, ⟨by decide, by decide⟩⟩
theorem kT_skipWord_105 : CkV T_skipWord 105 T_isWord 1 := ⟨lT_105, mT_isWord.1, mT_isWord.2.1, mT_isWord.2.2.1, mT_isWord.2.2.2.1, mT_isWord.2.2.2.2, ⟨by decide, by decide⟩⟩
theorem kT_skipWord_32 : CkV T_skipWord 32 T_nextToken 0 := ⟨lT_32, mT_nextToken.1, mT_nextToken.2.1, mT_nextToken.2.2.1, mT_nextToken.2.2.2.1, mT_nextToken.2.2.2.2, ⟨by decide, by decide⟩⟩
theorem kT_takeNumber_130 : CkS T_takeNumber 130 JM_min 2 := ⟨lT_130, mJM_min.1, mJM_min.2.1, mJM_min.2.2.1, mJM_min.2.2.2, ⟨by decide, by decide⟩⟩
theorem kT_takeNumber_32 : CkV T_takeNumber 32 T_nextToken 0 := ⟨lT_32, mT_nextToken.1, mT_nextToken.2.1, mT_nextToken.2.2.1, mT_nextToken.2.2.2.1, mT_nextToken.2.2.2.2, ⟨by decide, by decide⟩⟩
theorem kT_readFold_74 : CkV T_readFold 74 T_takeNumber 1 := ⟨lT_74, mT_takeNumber.1, mT_takeNumber.2.1, mT_takeNumber.2.2.1, mT_takeNumber.2.2.2.1, mT_takeNumber.2.2.2.2, ⟨by decide, by decide⟩⟩
theorem kT_readKeeper_74 : CkV T_readKeeper 74 T_takeNumber 1 := ⟨lT_74, mT_takeNumber.1, mT_takeNumber.2.1, mT_takeNumber.2.2.1, mT_takeNumber.2.2.2.1, mT_takeNumber.2.2.2.2, ⟨by decide, by decide⟩⟩
theorem kT_readKeeper_91 : CkV T_readKeeper 91 H_moveKeeper 1 := ⟨lT_91, mH_moveKeeper.1, mH_moveKeeper.2.1, mH_moveKeeper.2.2.1, mH_moveKeeper.2.2.2.1, mH_moveKeeper.2.2.2.2, ⟨by decide, by decide⟩⟩
theorem kT_readWolf_74 : CkV T_readWolf 74 T_takeNumber 1 := ⟨lT_74, mT_takeNumber.1, mT_takeNumber.2.1, mT_takeNumber.2.2.1, mT_takeNumber.2.2.2.1, mT_takeNumber.2.2.2.2, ⟨by decide, by decide⟩⟩
theorem kT_readWolf_49 : CkV T_readWolf 49 T_skipWord 1 := ⟨lT_49, mT_skipWord.1, mT_skipWord.2.1, mT_skipWord.2.2.1, mT_skipWord.2.2.2.1, mT_skipWord.2.2.2.2, ⟨by decide, by decide⟩⟩
theorem kS_hold_211 : CkS S_hold 211 S_isSpot 1 := ⟨lS_211, mS_isSpot.1, mS_isSpot.2.1, mS_isSpot.2.2.1, mS_isSpot.2.2.2, ⟨by decide, by decide⟩⟩
theorem kS_hold_100 : CkV S_hold 100 H_has 1 := ⟨lS_100, mH_has.1, mH_has.2.1, mH_has.2.2.1, mH_has.2.2.2.1, mH_has.2.2.2.2, ⟨by decide, by decide⟩⟩
theorem kS_hold_61 : CkV S_hold 61 S_finding 1 := ⟨lS_61, mS_finding.1, mS_finding.2.1, mS_finding.2.2.1, mS_finding.2.2.2.1, mS_finding.2.2.2.2, ⟨by decide, by decide⟩⟩
theorem kS_isSpot_81 : CkS S_isSpot 81 S_isWithin 3 := ⟨lS_81, mS_isWithin.1, mS_isWithin.2.1, mS_isWithin.2.2.1, mS_isWithin.2.2.2, ⟨by decide, by decide⟩⟩
theorem kS_as_211 : CkS S_as 211 S_isSpot 1 := ⟨lS_211, mS_isSpot.1, mS_isSpot.2.1, mS_isSpot.2.2.1, mS_isSpot.2.2.2, ⟨by decide, by decide⟩⟩
theorem kS_as_85 : CkS S_as 85 S_isKind 1 := ⟨lS_85, mS_isKind.1, mS_isKind.2.1, mS_isKind.2.2.1, mS_isKind.2.2.2, ⟨by decide, by decide⟩⟩
theorem kS_as_61 : CkV S_as 61 S_finding 1 := ⟨lS_61, mS_finding.1, mS_finding.2.1, mS_finding.2.2.1, mS_finding.2.2.2.1, mS_finding.2.2.2.2, ⟨by decide, by decide⟩⟩
theorem kS_as_100 : CkV S_as 100 H_has 1 := ⟨lS_100, mH_has.1, mH_has.2.1, mH_has.2.2.1, mH_has.2.2.2.1, mH_has.2.2.2.2, ⟨by decide, by decide⟩⟩
theorem kS_as_214 : CkS S_as 214 S_isUnder 2 := ⟨lS_214, mS_isUnder.1, mS_isUnder.2.1, mS_isUnder.2.2.1, mS_isUnder.2.2.2, ⟨by decide, by decide⟩⟩
theorem kS_isUnder_254 : CkS S_isUnder 254 S_kindAbove 1 := ⟨lS_254, mS_kindAbove.1, mS_kindAbove.2.1, mS_kindAbove.2.2.1, mS_kindAbove.2.2.2, ⟨by decide, by decide⟩⟩
theorem kS_sheet_174 : CkS S_sheet 174 S_isSheet 1 := ⟨lS_174, mS_isSheet.1, mS_isSheet.2.1, mS_isSheet.2.2.1, mS_isSheet.2.2.2, ⟨by decide, by decide⟩⟩
theorem kS_sheet_61 : CkV S_sheet 61 S_finding 1 := ⟨lS_61, mS_finding.1, mS_finding.2.1, mS_finding.2.2.1, mS_finding.2.2.2.1, mS_finding.2.2.2.2, ⟨by decide, by decide⟩⟩
theorem kS_sheet_217 : CkV S_sheet 217 E_begin 2 := ⟨lS_217, mE_begin.1, mE_begin.2.1, mE_begin.2.2.1, mE_begin.2.2.2.1, mE_begin.2.2.2.2, ⟨by decide, by decide⟩⟩
theorem kS_write_174 : CkS S_write 174 S_isSheet 1 := ⟨lS_174, mS_isSheet.1, mS_isSheet.2.1, mS_isSheet.2.2.1, mS_isSheet.2.2.2, ⟨by decide, by decide⟩⟩
theorem kS_write_61 : CkV S_write 61 S_finding 1 := ⟨lS_61, mS_finding.1, mS_finding.2.1, mS_finding.2.2.1, mS_finding.2.2.2.1, mS_finding.2.2.2.2, ⟨by decide, by decide⟩⟩
theorem kS_write_177 : CkV S_write 177 E_isMissing 0 := ⟨lS_177, mE_isMissing.1, mE_isMissing.2.1, mE_isMissing.2.2.1, mE_isMissing.2.2.2.1, mE_isMissing.2.2.2.2, ⟨by decide, by decide⟩⟩
theorem kS_write_81 : CkS S_write 81 S_isWithin 3 := ⟨lS_81, mS_isWithin.1, mS_isWithin.2.1, mS_isWithin.2.2.1, mS_isWithin.2.2.2, ⟨by decide, by decide⟩⟩
theorem kS_write_222 : CkV S_write 222 E_put 2 := ⟨lS_222, mE_put.1, mE_put.2.1, mE_put.2.2.1, mE_put.2.2.2.1, mE_put.2.2.2.2, ⟨by decide, by decide⟩⟩
theorem kS_copy_174 : CkS S_copy 174 S_isSheet 1 := ⟨lS_174, mS_isSheet.1, mS_isSheet.2.1, mS_isSheet.2.2.1, mS_isSheet.2.2.2, ⟨by decide, by decide⟩⟩
theorem kS_copy_61 : CkV S_copy 61 S_finding 1 := ⟨lS_61, mS_finding.1, mS_finding.2.1, mS_finding.2.2.1, mS_finding.2.2.2.1, mS_finding.2.2.2.2, ⟨by decide, by decide⟩⟩
theorem kS_copy_177 : CkV S_copy 177 E_isMissing 0 := ⟨lS_177, mE_isMissing.1, mE_isMissing.2.1, mE_isMissing.2.2.1, mE_isMissing.2.2.2.1, mE_isMissing.2.2.2.2, ⟨by decide, by decide⟩⟩
theorem kS_copy_228 : CkV S_copy 228 E_hasRun 2 := ⟨lS_228, mE_hasRun.1, mE_hasRun.2.1, mE_hasRun.2.2.1, mE_hasRun.2.2.2.1, mE_hasRun.2.2.2.2, ⟨by decide, by decide⟩⟩
theorem kS_load_174 : CkS S_load 174 S_isSheet 1 := ⟨lS_174, mS_isSheet.1, mS_isSheet.2.1, mS_isSheet.2.2.1, mS_isSheet.2.2.2, ⟨by decide, by decide⟩⟩
theorem kS_load_61 : CkV S_load 61 S_finding 1 := ⟨lS_61, mS_finding.1, mS_finding.2.1, mS_finding.2.2.1, mS_finding.2.2.2.1, mS_finding.2.2.2.2, ⟨by decide, by decide⟩⟩
theorem kS_load_177 : CkV S_load 177 E_isMissing 0 := ⟨lS_177, mE_isMissing.1, mE_isMissing.2.1, mE_isMissing.2.2.1, mE_isMissing.2.2.2.1, mE_isMissing.2.2.2.2, ⟨by decide, by decide⟩⟩
theorem kS_load_100 : CkV S_load 100 H_has 1 := ⟨lS_100, mH_has.1, mH_has.2.1, mH_has.2.2.1, mH_has.2.2.2.1, mH_has.2.2.2.2, ⟨by decide, by decide⟩⟩
theorem kS_load_81 : CkS S_load 81 S_isWithin 3 := ⟨lS_81, mS_isWithin.1, mS_isWithin.2.1, mS_isWithin.2.2.1, mS_isWithin.2.2.2, ⟨by decide, by decide⟩⟩
theorem kS_judge_174 : CkS S_judge 174 S_isSheet 1 := ⟨lS_174, mS_isSheet.1, mS_isSheet.2.1, mS_isSheet.2.2.1, mS_isSheet.2.2.2, ⟨by decide, by decide⟩⟩
theorem kS_judge_61 : CkV S_judge 61 S_finding 1 := ⟨lS_61, mS_finding.1, mS_finding.2.1, mS_finding.2.2.1, mS_finding.2.2.2.1, mS_finding.2.2.2.2, ⟨by decide, by decide⟩⟩
theorem kS_judge_177 : CkV S_judge 177 E_isMissing 0 := ⟨lS_177, mE_isMissing.1, mE_isMissing.2.1, mE_isMissing.2.2.1, mE_isMissing.2.2.2.1, mE_isMissing.2.2.2.2, ⟨by decide, by decide⟩⟩
theorem kS_judge_100 : CkV S_judge 100 H_has 1 := ⟨lS_100, mH_has.1, mH_has.2.1, mH_has.2.2.1, mH_has.2.2.2.1, mH_has.2.2.2.2, ⟨by decide, by decide⟩⟩
theorem kS_image_151 : CkV S_image 151 H_become 1 := ⟨lS_151, mH_become.1, mH_become.2.1, mH_become.2.2.1, mH_become.2.2.2.1, mH_become.2.2.2.2, ⟨by decide, by decide⟩⟩
theorem kS_undo_61 : CkV S_undo 61 S_finding 1 := ⟨lS_61, mS_finding.1, mS_finding.2.1, mS_finding.2.2.1, mS_finding.2.2.2.1, mS_finding.2.2.2.2, ⟨by decide, by decide⟩⟩
theorem kS_undo_151 : CkV S_undo 151 H_become 1 := ⟨lS_151, mH_become.1, mH_become.2.1, mH_become.2.2.1, mH_become.2.2.2.1, mH_become.2.2.2.2, ⟨by decide, by decide⟩⟩
theorem kS_count_137 : CkV S_count 137 H_total 1 := ⟨lS_137, mH_total.1, mH_total.2.1, mH_total.2.2.1, mH_total.2.2.2.1, mH_total.2.2.2.2, ⟨by decide, by decide⟩⟩
theorem kS_count_240 : CkV S_count 240 S_spotsInUse 0 := ⟨lS_240, mS_spotsInUse.1, mS_spotsInUse.2.1, mS_spotsInUse.2.2.1, mS_spotsInUse.2.2.2.1, mS_spotsInUse.2.2.2.2, ⟨by decide, by decide⟩⟩
theorem kS_count_61 : CkV S_count 61 S_finding 1 := ⟨lS_61, mS_finding.1, mS_finding.2.1, mS_finding.2.2.1, mS_finding.2.2.2.1, mS_finding.2.2.2.2, ⟨by decide, by decide⟩⟩
theorem kS_status_81 : CkS S_status 81 S_isWithin 3 := ⟨lS_81, mS_isWithin.1, mS_isWithin.2.1, mS_isWithin.2.2.1, mS_isWithin.2.2.2, ⟨by decide, by decide⟩⟩
theorem kS_status_61 : CkV S_status 61 S_finding 1 := ⟨lS_61, mS_finding.1, mS_finding.2.1, mS_finding.2.2.1, mS_finding.2.2.2.1, mS_finding.2.2.2.2, ⟨by decide, by decide⟩⟩
theorem kQ_set_79 : CkS Q_set 79 Q_within 3 := ⟨lQ_79, mQ_within.1, mQ_within.2.1, mQ_within.2.2.1, mQ_within.2.2.2, ⟨by decide, by decide⟩⟩
theorem kQ_set_91 : CkS Q_set 91 Q_isCell 1 := ⟨lQ_91, mQ_isCell.1, mQ_isCell.2.1, mQ_isCell.2.2.1, mQ_isCell.2.2.2, ⟨by decide, by decide⟩⟩
theorem kQ_set_75 : CkV Q_set 75 Q_finding 1 := ⟨lQ_75, mQ_finding.1, mQ_finding.2.1, mQ_finding.2.2.1, mQ_finding.2.2.2.1, mQ_finding.2.2.2.2, ⟨by decide, by decide⟩⟩
theorem kQ_set_95 : CkV Q_set 95 Q_keeperTo 1 := ⟨lQ_95, mQ_keeperTo.1, mQ_keeperTo.2.1, mQ_keeperTo.2.2.1, mQ_keeperTo.2.2.2.1, mQ_keeperTo.2.2.2.2, ⟨by decide, by decide⟩⟩
theorem kQ_set_98 : CkV Q_set 98 Q_become 2 := ⟨lQ_98, mQ_become.1, mQ_become.2.1, mQ_become.2.2.1, mQ_become.2.2.2.1, mQ_become.2.2.2.2, ⟨by decide, by decide⟩⟩
theorem kQ_isCell_79 : CkS Q_isCell 79 Q_within 3 := ⟨lQ_79, mQ_within.1, mQ_within.2.1, mQ_within.2.2.1, mQ_within.2.2.2, ⟨by decide, by decide⟩⟩
theorem kQ_keeperTo_87 : CkV Q_keeperTo 87 Q_keeperAt 1 := ⟨lQ_87, mQ_keeperAt.1, mQ_keeperAt.2.1, mQ_keeperAt.2.2.1, mQ_keeperAt.2.2.2.1, mQ_keeperAt.2.2.2.2, ⟨by decide, by decide⟩⟩
theorem kQ_keeperAt_83 : CkS Q_keeperAt 83 Q_sheepAt 2 := ⟨lQ_83, mQ_sheepAt.1, mQ_sheepAt.2.1, mQ_sheepAt.2.2.1, mQ_sheepAt.2.2.2, ⟨by decide, by decide⟩⟩
theorem kQ_hill_79 : CkS Q_hill 79 Q_within 3 := ⟨lQ_79, mQ_within.1, mQ_within.2.1, mQ_within.2.2.1, mQ_within.2.2.2, ⟨by decide, by decide⟩⟩
theorem kQ_hill_75 : CkV Q_hill 75 Q_finding 1 := ⟨lQ_75, mQ_finding.1, mQ_finding.2.1, mQ_finding.2.2.1, mQ_finding.2.2.2.1, mQ_finding.2.2.2.2, ⟨by decide, by decide⟩⟩
theorem kQ_sheep_101 : CkS Q_sheep 101 Q_isKind 1 := ⟨lQ_101, mQ_isKind.1, mQ_isKind.2.1, mQ_isKind.2.2.1, mQ_isKind.2.2.2, ⟨by decide, by decide⟩⟩
theorem kQ_sheep_91 : CkS Q_sheep 91 Q_isCell 1 := ⟨lQ_91, mQ_isCell.1, mQ_isCell.2.1, mQ_isCell.2.2.1, mQ_isCell.2.2.2, ⟨by decide, by decide⟩⟩
theorem kQ_sheep_75 : CkV Q_sheep 75 Q_finding 1 := ⟨lQ_75, mQ_finding.1, mQ_finding.2.1, mQ_finding.2.2.1, mQ_finding.2.2.2.1, mQ_finding.2.2.2.2, ⟨by decide, by decide⟩⟩
theorem kQ_sheep_105 : CkV Q_sheep 105 Q_comes 2 := ⟨lQ_105, mQ_comes.1, mQ_comes.2.1, mQ_comes.2.2.1, mQ_comes.2.2.2.1, mQ_comes.2.2.2.2, ⟨by decide, by decide⟩⟩
theorem kQ_isKind_79 : CkS Q_isKind 79 Q_within 3 := ⟨lQ_79, mQ_within.1, mQ_within.2.1, mQ_within.2.2.1, mQ_within.2.2.2, ⟨by decide, by decide⟩⟩
theorem kQ_comes_83 : CkS Q_comes 83 Q_sheepAt 2 := ⟨lQ_83, mQ_sheepAt.1, mQ_sheepAt.2.1, mQ_sheepAt.2.2.1, mQ_sheepAt.2.2.2, ⟨by decide, by decide⟩⟩
theorem kQ_of_119 : CkV Q_of 119 Q_isSheep 1 := ⟨lQ_119, mQ_isSheep.1, mQ_isSheep.2.1, mQ_isSheep.2.2.1, mQ_isSheep.2.2.2.1, mQ_isSheep.2.2.2.2, ⟨by decide, by decide⟩⟩
theorem kQ_of_79 : CkS Q_of 79 Q_within 3 := ⟨lQ_79, mQ_within.1, mQ_within.2.1, mQ_within.2.2.1, mQ_within.2.2.2, ⟨by decide, by decide⟩⟩
theorem kQ_of_75 : CkV Q_of 75 Q_finding 1 := ⟨lQ_75, mQ_finding.1, mQ_finding.2.1, mQ_finding.2.2.1, mQ_finding.2.2.2.1, mQ_finding.2.2.2.2, ⟨by decide, by decide⟩⟩
theorem kQ_of_122 : CkV Q_of 122 Q_far 1 := ⟨lQ_122, mQ_far.1, mQ_far.2.1, mQ_far.2.2.1, mQ_far.2.2.2.1, mQ_far.2.2.2.2, ⟨by decide, by decide⟩⟩
theorem kQ_of_125 : CkV Q_of 125 Q_strays 1 := ⟨lQ_125, mQ_strays.1, mQ_strays.2.1, mQ_strays.2.2.1, mQ_strays.2.2.2.1, mQ_strays.2.2.2.2, ⟨by decide, by decide⟩⟩
theorem kQ_of_128 : CkV Q_of 128 Q_fears 1 := ⟨lQ_128, mQ_fears.1, mQ_fears.2.1, mQ_fears.2.2.1, mQ_fears.2.2.2.1, mQ_fears.2.2.2.2, ⟨by decide, by decide⟩⟩
theorem kQ_of_131 : CkV Q_of 131 Q_calms 1 := ⟨lQ_131, mQ_calms.1, mQ_calms.2.1, mQ_calms.2.2.1, mQ_calms.2.2.2.1, mQ_calms.2.2.2.2, ⟨by decide, by decide⟩⟩
theorem kQ_of_134 : CkV Q_of 134 Q_light 1 := ⟨lQ_134, mQ_light.1, mQ_light.2.1, mQ_light.2.2.1, mQ_light.2.2.2.1, mQ_light.2.2.2.2, ⟨by decide, by decide⟩⟩
theorem kQ_of_108 : CkV Q_of 108 Q_sheepIs 2 := ⟨lQ_108, mQ_sheepIs.1, mQ_sheepIs.2.1, mQ_sheepIs.2.2.1, mQ_sheepIs.2.2.2.1, mQ_sheepIs.2.2.2.2, ⟨by decide, by decide⟩⟩
theorem kQ_isSheep_79 : CkS Q_isSheep 79 Q_within 3 := ⟨lQ_79, mQ_within.1, mQ_within.2.1, mQ_within.2.2.1, mQ_within.2.2.2, ⟨by decide, by decide⟩⟩
theorem kQ_far_108 : CkV Q_far 108 Q_sheepIs 2 := ⟨lQ_108, mQ_sheepIs.1, mQ_sheepIs.2.1, mQ_sheepIs.2.2.1, mQ_sheepIs.2.2.2.1, mQ_sheepIs.2.2.2.2, ⟨by decide, by decide⟩⟩
theorem kQ_far_111 : CkS Q_far 111 JM_abs 1 := ⟨lQ_111, mJM_abs.1, mJM_abs.2.1, mJM_abs.2.2.1, mJM_abs.2.2.2, ⟨by decide, by decide⟩⟩
theorem kQ_sheepIs_83 : CkS Q_sheepIs 83 Q_sheepAt 2 := ⟨lQ_83, mQ_sheepAt.1, mQ_sheepAt.2.1, mQ_sheepAt.2.2.1, mQ_sheepAt.2.2.2, ⟨by decide, by decide⟩⟩
theorem kQ_strays_108 : CkV Q_strays 108 Q_sheepIs 2 := ⟨lQ_108, mQ_sheepIs.1, mQ_sheepIs.2.1, mQ_sheepIs.2.2.1, mQ_sheepIs.2.2.2.1, mQ_sheepIs.2.2.2.2, ⟨by decide, by decide⟩⟩
theorem kQ_strays_116 : CkV Q_strays 116 Q_isAlone 1 := ⟨lQ_116, mQ_isAlone.1, mQ_isAlone.2.1, mQ_isAlone.2.2.1, mQ_isAlone.2.2.2.1, mQ_isAlone.2.2.2.2, ⟨by decide, by decide⟩⟩
theorem kQ_isAlone_108 : CkV Q_isAlone 108 Q_sheepIs 2 := ⟨lQ_108, mQ_sheepIs.1, mQ_sheepIs.2.1, mQ_sheepIs.2.2.1, mQ_sheepIs.2.2.2.1, mQ_sheepIs.2.2.2.2, ⟨by decide, by decide⟩⟩
theorem kQ_fears_108 : CkV Q_fears 108 Q_sheepIs 2 := ⟨lQ_108, mQ_sheepIs.1, mQ_sheepIs.2.1, mQ_sheepIs.2.2.1, mQ_sheepIs.2.2.2.1, mQ_sheepIs.2.2.2.2, ⟨by decide, by decide⟩⟩
theorem kQ_calms_108 : CkV Q_calms 108 Q_sheepIs 2 := ⟨lQ_108, mQ_sheepIs.1, mQ_sheepIs.2.1, mQ_sheepIs.2.2.1, mQ_sheepIs.2.2.2.1, mQ_sheepIs.2.2.2.2, ⟨by decide, by decide⟩⟩
theorem kQ_light_108 : CkV Q_light 108 Q_sheepIs 2 := ⟨lQ_108, mQ_sheepIs.1, mQ_sheepIs.2.1, mQ_sheepIs.2.2.1, mQ_sheepIs.2.2.2.1, mQ_sheepIs.2.2.2.2, ⟨by decide, by decide⟩⟩
theorem kQ_change_119 : CkV Q_change 119 Q_isSheep 1 := ⟨lQ_119, mQ_isSheep.1, mQ_isSheep.2.1, mQ_isSheep.2.2.1, mQ_isSheep.2.2.2.1, mQ_isSheep.2.2.2.2, ⟨by decide, by decide⟩⟩
theorem kQ_change_137 : CkS Q_change 137 Q_isField 2 := ⟨lQ_137, mQ_isField.1, mQ_isField.2.1, mQ_isField.2.2.1, mQ_isField.2.2.2, ⟨by decide, by decide⟩⟩
theorem kQ_change_75 : CkV Q_change 75 Q_finding 1 := ⟨lQ_75, mQ_finding.1, mQ_finding.2.1, mQ_finding.2.2.1, mQ_finding.2.2.2.1, mQ_finding.2.2.2.2, ⟨by decide, by decide⟩⟩
theorem kQ_change_83 : CkS Q_change 83 Q_sheepAt 2 := ⟨lQ_83, mQ_sheepAt.1, mQ_sheepAt.2.1, mQ_sheepAt.2.2.1, mQ_sheepAt.2.2.2, ⟨by decide, by decide⟩⟩
theorem kQ_change_98 : CkV Q_change 98 Q_become 2 := ⟨lQ_98, mQ_become.1, mQ_become.2.1, mQ_become.2.2.1, mQ_become.2.2.2.1, mQ_become.2.2.2.2, ⟨by decide, by decide⟩⟩
theorem kQ_isField_101 : CkS Q_isField 101 Q_isKind 1 := ⟨lQ_101, mQ_isKind.1, mQ_isKind.2.1, mQ_isKind.2.2.1, mQ_isKind.2.2.2, ⟨by decide, by decide⟩⟩
theorem kQ_isField_91 : CkS Q_isField 91 Q_isCell 1 := ⟨lQ_91, mQ_isCell.1, mQ_isCell.2.1, mQ_isCell.2.2.1, mQ_isCell.2.2.2, ⟨by decide, by decide⟩⟩
theorem kQ_isField_79 : CkS Q_isField 79 Q_within 3 := ⟨lQ_79, mQ_within.1, mQ_within.2.1, mQ_within.2.2.1, mQ_within.2.2.2, ⟨by decide, by decide⟩⟩
theorem kQ_drop_142 : CkV Q_drop 142 Q_orNone 1 := ⟨lQ_142, mQ_orNone.1, mQ_orNone.2.1, mQ_orNone.2.2.1, mQ_orNone.2.2.2.1, mQ_orNone.2.2.2.2, ⟨by decide, by decide⟩⟩
theorem kQ_orNone_75 : CkV Q_orNone 75 Q_finding 1 := ⟨lQ_75, mQ_finding.1, mQ_finding.2.1, mQ_finding.2.2.1, mQ_finding.2.2.2.1, mQ_finding.2.2.2.2, ⟨by decide, by decide⟩⟩
theorem kQ_who_91 : CkS Q_who 91 Q_isCell 1 := ⟨lQ_91, mQ_isCell.1, mQ_isCell.2.1, mQ_isCell.2.2.1, mQ_isCell.2.2.2, ⟨by decide, by decide⟩⟩
theorem kQ_who_145 : CkV Q_who 145 Q_setAt 1 := ⟨lQ_145, mQ_setAt.1, mQ_setAt.2.1, mQ_setAt.2.2.1, mQ_setAt.2.2.2.1, mQ_setAt.2.2.2.2, ⟨by decide, by decide⟩⟩
theorem kQ_who_75 : CkV Q_who 75 Q_finding 1 := ⟨lQ_75, mQ_finding.1, mQ_finding.2.1, mQ_finding.2.2.1, mQ_finding.2.2.2.1, mQ_finding.2.2.2.2, ⟨by decide, by decide⟩⟩
theorem kQ_setAt_108 : CkV Q_setAt 108 Q_sheepIs 2 := ⟨lQ_108, mQ_sheepIs.1, mQ_sheepIs.2.1, mQ_sheepIs.2.2.1, mQ_sheepIs.2.2.2.1, mQ_sheepIs.2.2.2.2, ⟨by decide, by decide⟩⟩
theorem kQ_go_79 : CkS Q_go 79 Q_within 3 := ⟨lQ_79, mQ_within.1, mQ_within.2.1, mQ_within.2.2.1, mQ_within.2.2.2, ⟨by decide, by decide⟩⟩
theorem kQ_go_75 : CkV Q_go 75 Q_finding 1 := ⟨lQ_75, mQ_finding.1, mQ_finding.2.1, mQ_finding.2.2.1, mQ_finding.2.2.2.1, mQ_finding.2.2.2.2, ⟨by decide, by decide⟩⟩
theorem kQ_go_191 : CkV Q_go 191 Q_hoursGo 1 := ⟨lQ_191, mQ_hoursGo.1, mQ_hoursGo.2.1, mQ_hoursGo.2.2.1, mQ_hoursGo.2.2.2.1, mQ_hoursGo.2.2.2.2, ⟨by decide, by decide⟩⟩
theorem kQ_go_194 : CkV Q_go 194 Q_sumOf 1 := ⟨lQ_194, mQ_sumOf.1, mQ_sumOf.2.1, mQ_sumOf.2.2.1, mQ_sumOf.2.2.2.1, mQ_sumOf.2.2.2.2, ⟨by decide, by decide⟩⟩
theorem kQ_hoursGo_187 : CkV Q_hoursGo 187 Q_hour 0 := ⟨lQ_187, mQ_hour.1, mQ_hour.2.1, mQ_hour.2.2.1, mQ_hour.2.2.2.1, mQ_hour.2.2.2.2, ⟨by decide, by decide⟩⟩
theorem kQ_hour_175 : CkV Q_hour 175 Q_sheepGo 0 := ⟨lQ_175, mQ_sheepGo.1, mQ_sheepGo.2.1, mQ_sheepGo.2.2.1, mQ_sheepGo.2.2.2.1, mQ_sheepGo.2.2.2.2, ⟨by decide, by decide⟩⟩
theorem kQ_hour_178 : CkV Q_hour 178 Q_wolfGoes 0 := ⟨lQ_178, mQ_wolfGoes.1, mQ_wolfGoes.2.1, mQ_wolfGoes.2.2.1, mQ_wolfGoes.2.2.2.1, mQ_wolfGoes.2.2.2.2, ⟨by decide, by decide⟩⟩
theorem kQ_hour_181 : CkV Q_hour 181 Q_carries 0 := ⟨lQ_181, mQ_carries.1, mQ_carries.2.1, mQ_carries.2.2.1, mQ_carries.2.2.2.1, mQ_carries.2.2.2.2, ⟨by decide, by decide⟩⟩
theorem kQ_hour_184 : CkV Q_hour 184 Q_seeks 0 := ⟨lQ_184, mQ_seeks.1, mQ_seeks.2.1, mQ_seeks.2.2.1, mQ_seeks.2.2.2.1, mQ_seeks.2.2.2.2, ⟨by decide, by decide⟩⟩
theorem kQ_hour_83 : CkS Q_hour 83 Q_sheepAt 2 := ⟨lQ_83, mQ_sheepAt.1, mQ_sheepAt.2.1, mQ_sheepAt.2.2.1, mQ_sheepAt.2.2.2, ⟨by decide, by decide⟩⟩
theorem kQ_hour_122 : CkV Q_hour 122 Q_far 1 := ⟨lQ_122, mQ_far.1, mQ_far.2.1, mQ_far.2.2.1, mQ_far.2.2.2.1, mQ_far.2.2.2.2, ⟨by decide, by decide⟩⟩
theorem kQ_hour_108 : CkV Q_hour 108 Q_sheepIs 2 := ⟨lQ_108, mQ_sheepIs.1, mQ_sheepIs.2.1, mQ_sheepIs.2.2.1, mQ_sheepIs.2.2.2.1, mQ_sheepIs.2.2.2.2, ⟨by decide, by decide⟩⟩
theorem kQ_hour_148 : CkS Q_hour 148 JM_min 2 := ⟨lQ_148, mJM_min.1, mJM_min.2.1, mJM_min.2.2.1, mJM_min.2.2.2, ⟨by decide, by decide⟩⟩
theorem kQ_hour_131 : CkV Q_hour 131 Q_calms 1 := ⟨lQ_131, mQ_calms.1, mQ_calms.2.1, mQ_calms.2.2.1, mQ_calms.2.2.2.1, mQ_calms.2.2.2.2, ⟨by decide, by decide⟩⟩
theorem kQ_hour_151 : CkS Q_hour 151 JM_max 2 := ⟨lQ_151, mJM_max.1, mJM_max.2.1, mJM_max.2.2.1, mJM_max.2.2.2, ⟨by decide, by decide⟩⟩
theorem kQ_sheepGo_125 : CkV Q_sheepGo 125 Q_strays 1 := ⟨lQ_125, mQ_strays.1, mQ_strays.2.1, mQ_strays.2.2.1, mQ_strays.2.2.2.1, mQ_strays.2.2.2.2, ⟨by decide, by decide⟩⟩
theorem kQ_sheepGo_108 : CkV Q_sheepGo 108 Q_sheepIs 2 := ⟨lQ_108, mQ_sheepIs.1, mQ_sheepIs.2.1, mQ_sheepIs.2.2.1, mQ_sheepIs.2.2.2.1, mQ_sheepIs.2.2.2.2, ⟨by decide, by decide⟩⟩
theorem kQ_sheepGo_158 : CkS Q_sheepGo 158 Q_hasBit 2 := ⟨lQ_158, mQ_hasBit.1, mQ_hasBit.2.1, mQ_hasBit.2.2.1, mQ_hasBit.2.2.2, ⟨by decide, by decide⟩⟩
theorem kQ_sheepGo_83 : CkS Q_sheepGo 83 Q_sheepAt 2 := ⟨lQ_83, mQ_sheepAt.1, mQ_sheepAt.2.1, mQ_sheepAt.2.2.1, mQ_sheepAt.2.2.2, ⟨by decide, by decide⟩⟩
theorem kQ_sheepGo_161 : CkS Q_sheepGo 161 Q_towards 3 := ⟨lQ_161, mQ_towards.1, mQ_towards.2.1, mQ_towards.2.2.1, mQ_towards.2.2.2, ⟨by decide, by decide⟩⟩
theorem kQ_sheepGo_165 : CkV Q_sheepGo 165 Q_awayFrom 2 := ⟨lQ_165, mQ_awayFrom.1, mQ_awayFrom.2.1, mQ_awayFrom.2.2.1, mQ_awayFrom.2.2.2.1, mQ_awayFrom.2.2.2.2, ⟨by decide, by decide⟩⟩
theorem kQ_towards_148 : CkS Q_towards 148 JM_min 2 := ⟨lQ_148, mJM_min.1, mJM_min.2.1, mJM_min.2.2.1, mJM_min.2.2.2, ⟨by decide, by decide⟩⟩
theorem kQ_towards_151 : CkS Q_towards 151 JM_max 2 := ⟨lQ_151, mJM_max.1, mJM_max.2.1, mJM_max.2.2.1, mJM_max.2.2.2, ⟨by decide, by decide⟩⟩
theorem kQ_awayFrom_148 : CkS Q_awayFrom 148 JM_min 2 := ⟨lQ_148, mJM_min.1, mJM_min.2.1, mJM_min.2.2.1, mJM_min.2.2.2, ⟨by decide, by decide⟩⟩
theorem kQ_awayFrom_151 : CkS Q_awayFrom 151 JM_max 2 := ⟨lQ_151, mJM_max.1, mJM_max.2.1, mJM_max.2.2.1, mJM_max.2.2.2, ⟨by decide, by decide⟩⟩
theorem kQ_wolfGoes_111 : CkS Q_wolfGoes 111 JM_abs 1 := ⟨lQ_111, mJM_abs.1, mJM_abs.2.1, mJM_abs.2.2.1, mJM_abs.2.2.2, ⟨by decide, by decide⟩⟩
theorem kQ_wolfGoes_168 : CkV Q_wolfGoes 168 Q_nearest 0 := ⟨lQ_168, mQ_nearest.1, mQ_nearest.2.1, mQ_nearest.2.2.1, mQ_nearest.2.2.2.1, mQ_nearest.2.2.2.2, ⟨by decide, by decide⟩⟩
theorem kQ_wolfGoes_108 : CkV Q_wolfGoes 108 Q_sheepIs 2 := ⟨lQ_108, mQ_sheepIs.1, mQ_sheepIs.2.1, mQ_sheepIs.2.2.1, mQ_sheepIs.2.2.2.1, mQ_sheepIs.2.2.2.2, ⟨by decide, by decide⟩⟩
theorem kQ_wolfGoes_161 : CkS Q_wolfGoes 161 Q_towards 3 := ⟨lQ_161, mQ_towards.1, mQ_towards.2.1, mQ_towards.2.2.1, mQ_towards.2.2.2, ⟨by decide, by decide⟩⟩
theorem kQ_wolfGoes_128 : CkV Q_wolfGoes 128 Q_fears 1 := ⟨lQ_128, mQ_fears.1, mQ_fears.2.1, mQ_fears.2.2.1, mQ_fears.2.2.2.1, mQ_fears.2.2.2.2, ⟨by decide, by decide⟩⟩
theorem kQ_wolfGoes_83 : CkS Q_wolfGoes 83 Q_sheepAt 2 := ⟨lQ_83, mQ_sheepAt.1, mQ_sheepAt.2.1, mQ_sheepAt.2.2.1, mQ_sheepAt.2.2.2, ⟨by decide, by decide⟩⟩
theorem kQ_wolfGoes_148 : CkS Q_wolfGoes 148 JM_min 2 := ⟨lQ_148, mJM_min.1, mJM_min.2.1, mJM_min.2.2.1, mJM_min.2.2.2, ⟨by decide, by decide⟩⟩
theorem kQ_nearest_108 : CkV Q_nearest 108 Q_sheepIs 2 := ⟨lQ_108, mQ_sheepIs.1, mQ_sheepIs.2.1, mQ_sheepIs.2.2.1, mQ_sheepIs.2.2.2.1, mQ_sheepIs.2.2.2.2, ⟨by decide, by decide⟩⟩
theorem kQ_nearest_111 : CkS Q_nearest 111 JM_abs 1 := ⟨lQ_111, mJM_abs.1, mJM_abs.2.1, mJM_abs.2.2.1, mJM_abs.2.2.2, ⟨by decide, by decide⟩⟩
theorem kQ_nearest_148 : CkS Q_nearest 148 JM_min 2 := ⟨lQ_148, mJM_min.1, mJM_min.2.1, mJM_min.2.2.1, mJM_min.2.2.2, ⟨by decide, by decide⟩⟩
theorem kQ_carries_134 : CkV Q_carries 134 Q_light 1 := ⟨lQ_134, mQ_light.1, mQ_light.2.1, mQ_light.2.2.1, mQ_light.2.2.2.1, mQ_light.2.2.2.2, ⟨by decide, by decide⟩⟩
theorem kQ_carries_161 : CkS Q_carries 161 Q_towards 3 := ⟨lQ_161, mQ_towards.1, mQ_towards.2.1, mQ_towards.2.2.1, mQ_towards.2.2.2, ⟨by decide, by decide⟩⟩
theorem kQ_carries_87 : CkV Q_carries 87 Q_keeperAt 1 := ⟨lQ_87, mQ_keeperAt.1, mQ_keeperAt.2.1, mQ_keeperAt.2.2.1, mQ_keeperAt.2.2.2.1, mQ_keeperAt.2.2.2.2, ⟨by decide, by decide⟩⟩
theorem kQ_carries_83 : CkS Q_carries 83 Q_sheepAt 2 := ⟨lQ_83, mQ_sheepAt.1, mQ_sheepAt.2.1, mQ_sheepAt.2.2.1, mQ_sheepAt.2.2.2, ⟨by decide, by decide⟩⟩
theorem kQ_carries_108 : CkV Q_carries 108 Q_sheepIs 2 := ⟨lQ_108, mQ_sheepIs.1, mQ_sheepIs.2.1, mQ_sheepIs.2.2.1, mQ_sheepIs.2.2.2.1, mQ_sheepIs.2.2.2.2, ⟨by decide, by decide⟩⟩
theorem kQ_carries_148 : CkS Q_carries 148 JM_min 2 := ⟨lQ_148, mJM_min.1, mJM_min.2.1, mJM_min.2.2.1, mJM_min.2.2.2, ⟨by decide, by decide⟩⟩
theorem kQ_seeks_172 : CkV Q_seeks 172 Q_sought 0 := ⟨lQ_172, mQ_sought.1, mQ_sought.2.1, mQ_sought.2.2.1, mQ_sought.2.2.2.1, mQ_sought.2.2.2.2, ⟨by decide, by decide⟩⟩
theorem kQ_seeks_108 : CkV Q_seeks 108 Q_sheepIs 2 := ⟨lQ_108, mQ_sheepIs.1, mQ_sheepIs.2.1, mQ_sheepIs.2.2.1, mQ_sheepIs.2.2.2.1, mQ_sheepIs.2.2.2.2, ⟨by decide, by decide⟩⟩
theorem kQ_seeks_161 : CkS Q_seeks 161 Q_towards 3 := ⟨lQ_161, mQ_towards.1, mQ_towards.2.1, mQ_towards.2.2.1, mQ_towards.2.2.2, ⟨by decide, by decide⟩⟩
theorem kQ_sought_122 : CkV Q_sought 122 Q_far 1 := ⟨lQ_122, mQ_far.1, mQ_far.2.1, mQ_far.2.2.1, mQ_far.2.2.2.1, mQ_far.2.2.2.2, ⟨by decide, by decide⟩⟩
theorem kQ_sought_151 : CkS Q_sought 151 JM_max 2 := ⟨lQ_151, mJM_max.1, mJM_max.2.1, mJM_max.2.2.1, mJM_max.2.2.2, ⟨by decide, by decide⟩⟩
theorem kQ_sumOf_108 : CkV Q_sumOf 108 Q_sheepIs 2 := ⟨lQ_108, mQ_sheepIs.1, mQ_sheepIs.2.1, mQ_sheepIs.2.2.1, mQ_sheepIs.2.2.2.1, mQ_sheepIs.2.2.2.2, ⟨by decide, by decide⟩⟩
theorem kQ_now_197 : CkV Q_now 197 Q_lostSet 0 := ⟨lQ_197, mQ_lostSet.1, mQ_lostSet.2.1, mQ_lostSet.2.2.1, mQ_lostSet.2.2.2.1, mQ_lostSet.2.2.2.2, ⟨by decide, by decide⟩⟩
theorem kQ_now_194 : CkV Q_now 194 Q_sumOf 1 := ⟨lQ_194, mQ_sumOf.1, mQ_sumOf.2.1, mQ_sumOf.2.2.1, mQ_sumOf.2.2.2.1, mQ_sumOf.2.2.2.2, ⟨by decide, by decide⟩⟩
theorem kQ_now_172 : CkV Q_now 172 Q_sought 0 := ⟨lQ_172, mQ_sought.1, mQ_sought.2.1, mQ_sought.2.2.1, mQ_sought.2.2.2.1, mQ_sought.2.2.2.2, ⟨by decide, by decide⟩⟩
theorem kQ_now_145 : CkV Q_now 145 Q_setAt 1 := ⟨lQ_145, mQ_setAt.1, mQ_setAt.2.1, mQ_setAt.2.2.1, mQ_setAt.2.2.2.1, mQ_setAt.2.2.2.2, ⟨by decide, by decide⟩⟩
theorem kQ_now_200 : CkV Q_now 200 Q_mostAfraid 0 := ⟨lQ_200, mQ_mostAfraid.1, mQ_mostAfraid.2.1, mQ_mostAfraid.2.2.1, mQ_mostAfraid.2.2.2.1, mQ_mostAfraid.2.2.2.2, ⟨by decide, by decide⟩⟩
theorem kQ_now_75 : CkV Q_now 75 Q_finding 1 := ⟨lQ_75, mQ_finding.1, mQ_finding.2.1, mQ_finding.2.2.1, mQ_finding.2.2.2.1, mQ_finding.2.2.2.2, ⟨by decide, by decide⟩⟩
theorem kQ_lostSet_122 : CkV Q_lostSet 122 Q_far 1 := ⟨lQ_122, mQ_far.1, mQ_far.2.1, mQ_far.2.2.1, mQ_far.2.2.2.1, mQ_far.2.2.2.2, ⟨by decide, by decide⟩⟩
theorem kQ_mostAfraid_108 : CkV Q_mostAfraid 108 Q_sheepIs 2 := ⟨lQ_108, mQ_sheepIs.1, mQ_sheepIs.2.1, mQ_sheepIs.2.2.1, mQ_sheepIs.2.2.2.1, mQ_sheepIs.2.2.2.2, ⟨by decide, by decide⟩⟩
theorem kQ_mostAfraid_151 : CkS Q_mostAfraid 151 JM_max 2 := ⟨lQ_151, mJM_max.1, mJM_max.2.1, mJM_max.2.2.1, mJM_max.2.2.2, ⟨by decide, by decide⟩⟩
theorem kQ_ahead_119 : CkV Q_ahead 119 Q_isSheep 1 := ⟨lQ_119, mQ_isSheep.1, mQ_isSheep.2.1, mQ_isSheep.2.2.1, mQ_isSheep.2.2.2.1, mQ_isSheep.2.2.2.2, ⟨by decide, by decide⟩⟩
theorem kQ_ahead_79 : CkS Q_ahead 79 Q_within 3 := ⟨lQ_79, mQ_within.1, mQ_within.2.1, mQ_within.2.2.1, mQ_within.2.2.2, ⟨by decide, by decide⟩⟩
theorem kQ_ahead_83 : CkS Q_ahead 83 Q_sheepAt 2 := ⟨lQ_83, mQ_sheepAt.1, mQ_sheepAt.2.1, mQ_sheepAt.2.2.1, mQ_sheepAt.2.2.2, ⟨by decide, by decide⟩⟩
theorem kQ_ahead_206 : CkV Q_ahead 206 Q_behind 2 := ⟨lQ_206, mQ_behind.1, mQ_behind.2.1, mQ_behind.2.2.1, mQ_behind.2.2.2.1, mQ_behind.2.2.2.2, ⟨by decide, by decide⟩⟩
theorem kQ_ahead_75 : CkV Q_ahead 75 Q_finding 1 := ⟨lQ_75, mQ_finding.1, mQ_finding.2.1, mQ_finding.2.2.1, mQ_finding.2.2.2.1, mQ_finding.2.2.2.2, ⟨by decide, by decide⟩⟩
theorem kQ_behind_70 : CkS Q_behind 70 Q_copyRow 2 := ⟨lQ_70, mQ_copyRow.1, mQ_copyRow.2.1, mQ_copyRow.2.2.1, mQ_copyRow.2.2.2, ⟨by decide, by decide⟩⟩
theorem kQ_behind_191 : CkV Q_behind 191 Q_hoursGo 1 := ⟨lQ_191, mQ_hoursGo.1, mQ_hoursGo.2.1, mQ_hoursGo.2.2.1, mQ_hoursGo.2.2.2.1, mQ_hoursGo.2.2.2.2, ⟨by decide, by decide⟩⟩
theorem kQ_behind_203 : CkV Q_behind 203 Q_putBack 1 := ⟨lQ_203, mQ_putBack.1, mQ_putBack.2.1, mQ_putBack.2.2.1, mQ_putBack.2.2.2.1, mQ_putBack.2.2.2.2, ⟨by decide, by decide⟩⟩
theorem kQ_putBack_70 : CkS Q_putBack 70 Q_copyRow 2 := ⟨lQ_70, mQ_copyRow.1, mQ_copyRow.2.1, mQ_copyRow.2.2.1, mQ_copyRow.2.2.2, ⟨by decide, by decide⟩⟩
theorem kQ_later_79 : CkS Q_later 79 Q_within 3 := ⟨lQ_79, mQ_within.1, mQ_within.2.1, mQ_within.2.2.1, mQ_within.2.2.2, ⟨by decide, by decide⟩⟩
theorem kQ_later_206 : CkV Q_later 206 Q_behind 2 := ⟨lQ_206, mQ_behind.1, mQ_behind.2.1, mQ_behind.2.2.1, mQ_behind.2.2.2.1, mQ_behind.2.2.2.2, ⟨by decide, by decide⟩⟩
theorem kQ_later_75 : CkV Q_later 75 Q_finding 1 := ⟨lQ_75, mQ_finding.1, mQ_finding.2.1, mQ_finding.2.2.1, mQ_finding.2.2.2.1, mQ_finding.2.2.2.2, ⟨by decide, by decide⟩⟩
theorem kQ_when_119 : CkV Q_when 119 Q_isSheep 1 := ⟨lQ_119, mQ_isSheep.1, mQ_isSheep.2.1, mQ_isSheep.2.2.1, mQ_isSheep.2.2.2.1, mQ_isSheep.2.2.2.2, ⟨by decide, by decide⟩⟩
theorem kQ_when_79 : CkS Q_when 79 Q_within 3 := ⟨lQ_79, mQ_within.1, mQ_within.2.1, mQ_within.2.2.1, mQ_within.2.2.2, ⟨by decide, by decide⟩⟩
theorem kQ_when_209 : CkV Q_when 209 Q_whenIs 3 := ⟨lQ_209, mQ_whenIs.1, mQ_whenIs.2.1, mQ_whenIs.2.2.1, mQ_whenIs.2.2.2.1, mQ_whenIs.2.2.2.2, ⟨by decide, by decide⟩⟩
theorem kQ_when_75 : CkV Q_when 75 Q_finding 1 := ⟨lQ_75, mQ_finding.1, mQ_finding.2.1, mQ_finding.2.2.1, mQ_finding.2.2.2.1, mQ_finding.2.2.2.2, ⟨by decide, by decide⟩⟩
theorem kQ_whenIs_70 : CkS Q_whenIs 70 Q_copyRow 2 := ⟨lQ_70, mQ_copyRow.1, mQ_copyRow.2.1, mQ_copyRow.2.2.1, mQ_copyRow.2.2.2, ⟨by decide, by decide⟩⟩
theorem kQ_whenIs_108 : CkV Q_whenIs 108 Q_sheepIs 2 := ⟨lQ_108, mQ_sheepIs.1, mQ_sheepIs.2.1, mQ_sheepIs.2.2.1, mQ_sheepIs.2.2.2.1, mQ_sheepIs.2.2.2.2, ⟨by decide, by decide⟩⟩
theorem kQ_whenIs_187 : CkV Q_whenIs 187 Q_hour 0 := ⟨lQ_187, mQ_hour.1, mQ_hour.2.1, mQ_hour.2.2.1, mQ_hour.2.2.2.1, mQ_hour.2.2.2.2, ⟨by decide, by decide⟩⟩
theorem kQ_whenIs_203 : CkV Q_whenIs 203 Q_putBack 1 := ⟨lQ_203, mQ_putBack.1, mQ_putBack.2.1, mQ_putBack.2.2.1, mQ_putBack.2.2.2.1, mQ_putBack.2.2.2.2, ⟨by decide, by decide⟩⟩
theorem kQ_whenIs_142 : CkV Q_whenIs 142 Q_orNone 1 := ⟨lQ_142, mQ_orNone.1, mQ_orNone.2.1, mQ_orNone.2.2.1, mQ_orNone.2.2.2.1, mQ_orNone.2.2.2.2, ⟨by decide, by decide⟩⟩
theorem kQ_home_70 : CkS Q_home 70 Q_copyRow 2 := ⟨lQ_70, mQ_copyRow.1, mQ_copyRow.2.1, mQ_copyRow.2.2.1, mQ_copyRow.2.2.2, ⟨by decide, by decide⟩⟩
theorem kQ_home_212 : CkV Q_home 212 Q_areHome 0 := ⟨lQ_212, mQ_areHome.1, mQ_areHome.2.1, mQ_areHome.2.2.1, mQ_areHome.2.2.2.1, mQ_areHome.2.2.2.2, ⟨by decide, by decide⟩⟩
theorem kQ_home_187 : CkV Q_home 187 Q_hour 0 := ⟨lQ_187, mQ_hour.1, mQ_hour.2.1, mQ_hour.2.2.1, mQ_hour.2.2.2.1, mQ_hour.2.2.2.2, ⟨by decide, by decide⟩⟩
theorem kQ_home_203 : CkV Q_home 203 Q_putBack 1 := ⟨lQ_203, mQ_putBack.1, mQ_putBack.2.1, mQ_putBack.2.2.1, mQ_putBack.2.2.2.1, mQ_putBack.2.2.2.2, ⟨by decide, by decide⟩⟩
theorem kQ_home_142 : CkV Q_home 142 Q_orNone 1 := ⟨lQ_142, mQ_orNone.1, mQ_orNone.2.1, mQ_orNone.2.2.1, mQ_orNone.2.2.2.1, mQ_orNone.2.2.2.2, ⟨by decide, by decide⟩⟩
theorem kQ_areHome_145 : CkV Q_areHome 145 Q_setAt 1 := ⟨lQ_145, mQ_setAt.1, mQ_setAt.2.1, mQ_setAt.2.2.1, mQ_setAt.2.2.2.1, mQ_setAt.2.2.2.2, ⟨by decide, by decide⟩⟩
theorem kQ_panic_119 : CkV Q_panic 119 Q_isSheep 1 := ⟨lQ_119, mQ_isSheep.1, mQ_isSheep.2.1, mQ_isSheep.2.2.1, mQ_isSheep.2.2.2.1, mQ_isSheep.2.2.2.2, ⟨by decide, by decide⟩⟩
theorem kQ_panic_79 : CkS Q_panic 79 Q_within 3 := ⟨lQ_79, mQ_within.1, mQ_within.2.1, mQ_within.2.2.1, mQ_within.2.2.2, ⟨by decide, by decide⟩⟩
theorem kQ_panic_209 : CkV Q_panic 209 Q_whenIs 3 := ⟨lQ_209, mQ_whenIs.1, mQ_whenIs.2.1, mQ_whenIs.2.2.1, mQ_whenIs.2.2.2.1, mQ_whenIs.2.2.2.2, ⟨by decide, by decide⟩⟩
theorem kQ_panic_75 : CkV Q_panic 75 Q_finding 1 := ⟨lQ_75, mQ_finding.1, mQ_finding.2.1, mQ_finding.2.2.1, mQ_finding.2.2.2.1, mQ_finding.2.2.2.2, ⟨by decide, by decide⟩⟩
theorem kQ_standFor_219 : CkS Q_standFor 219 Q_isThought 1 := ⟨lQ_219, mQ_isThought.1, mQ_isThought.2.1, mQ_isThought.2.2.1, mQ_isThought.2.2.2, ⟨by decide, by decide⟩⟩
theorem kQ_standFor_75 : CkV Q_standFor 75 Q_finding 1 := ⟨lQ_75, mQ_finding.1, mQ_finding.2.1, mQ_finding.2.2.1, mQ_finding.2.2.2.1, mQ_finding.2.2.2.2, ⟨by decide, by decide⟩⟩
theorem kQ_standFor_222 : CkV Q_standFor 222 Q_leastFor 3 := ⟨lQ_222, mQ_leastFor.1, mQ_leastFor.2.1, mQ_leastFor.2.2.1, mQ_leastFor.2.2.2.1, mQ_leastFor.2.2.2.2, ⟨by decide, by decide⟩⟩
theorem kQ_isThought_79 : CkS Q_isThought 79 Q_within 3 := ⟨lQ_79, mQ_within.1, mQ_within.2.1, mQ_within.2.2.1, mQ_within.2.2.2, ⟨by decide, by decide⟩⟩
theorem kQ_leastFor_216 : CkV Q_leastFor 216 Q_sumBehind 2 := ⟨lQ_216, mQ_sumBehind.1, mQ_sumBehind.2.1, mQ_sumBehind.2.2.1, mQ_sumBehind.2.2.2.1, mQ_sumBehind.2.2.2.2, ⟨by decide, by decide⟩⟩
theorem kQ_leastFor_148 : CkS Q_leastFor 148 JM_min 2 := ⟨lQ_148, mJM_min.1, mJM_min.2.1, mJM_min.2.2.1, mJM_min.2.2.2, ⟨by decide, by decide⟩⟩
theorem kQ_sumBehind_70 : CkS Q_sumBehind 70 Q_copyRow 2 := ⟨lQ_70, mQ_copyRow.1, mQ_copyRow.2.1, mQ_copyRow.2.2.1, mQ_copyRow.2.2.2, ⟨by decide, by decide⟩⟩
theorem kQ_sumBehind_191 : CkV Q_sumBehind 191 Q_hoursGo 1 := ⟨lQ_191, mQ_hoursGo.1, mQ_hoursGo.2.1, mQ_hoursGo.2.2.1, mQ_hoursGo.2.2.2.1, mQ_hoursGo.2.2.2.2, ⟨by decide, by decide⟩⟩
theorem kQ_sumBehind_194 : CkV Q_sumBehind 194 Q_sumOf 1 := ⟨lQ_194, mQ_sumOf.1, mQ_sumOf.2.1, mQ_sumOf.2.2.1, mQ_sumOf.2.2.2.1, mQ_sumOf.2.2.2.2, ⟨by decide, by decide⟩⟩
theorem kQ_sumBehind_203 : CkV Q_sumBehind 203 Q_putBack 1 := ⟨lQ_203, mQ_putBack.1, mQ_putBack.2.1, mQ_putBack.2.2.1, mQ_putBack.2.2.2.1, mQ_putBack.2.2.2.2, ⟨by decide, by decide⟩⟩
theorem kQ_foldFor_219 : CkS Q_foldFor 219 Q_isThought 1 := ⟨lQ_219, mQ_isThought.1, mQ_isThought.2.1, mQ_isThought.2.2.1, mQ_isThought.2.2.2, ⟨by decide, by decide⟩⟩
theorem kQ_foldFor_222 : CkV Q_foldFor 222 Q_leastFor 3 := ⟨lQ_222, mQ_leastFor.1, mQ_leastFor.2.1, mQ_leastFor.2.2.1, mQ_leastFor.2.2.2.1, mQ_leastFor.2.2.2.2, ⟨by decide, by decide⟩⟩
theorem kQ_foldFor_75 : CkV Q_foldFor 75 Q_finding 1 := ⟨lQ_75, mQ_finding.1, mQ_finding.2.1, mQ_finding.2.2.1, mQ_finding.2.2.2.1, mQ_finding.2.2.2.2, ⟨by decide, by decide⟩⟩
theorem kQ_kindFor_119 : CkV Q_kindFor 119 Q_isSheep 1 := ⟨lQ_119, mQ_isSheep.1, mQ_isSheep.2.1, mQ_isSheep.2.2.1, mQ_isSheep.2.2.2.1, mQ_isSheep.2.2.2.2, ⟨by decide, by decide⟩⟩
theorem kQ_kindFor_219 : CkS Q_kindFor 219 Q_isThought 1 := ⟨lQ_219, mQ_isThought.1, mQ_isThought.2.1, mQ_isThought.2.2.1, mQ_isThought.2.2.2, ⟨by decide, by decide⟩⟩
theorem kQ_kindFor_75 : CkV Q_kindFor 75 Q_finding 1 := ⟨lQ_75, mQ_finding.1, mQ_finding.2.1, mQ_finding.2.2.1, mQ_finding.2.2.2.1, mQ_finding.2.2.2.2, ⟨by decide, by decide⟩⟩
theorem kQ_kindFor_83 : CkS Q_kindFor 83 Q_sheepAt 2 := ⟨lQ_83, mQ_sheepAt.1, mQ_sheepAt.2.1, mQ_sheepAt.2.2.1, mQ_sheepAt.2.2.2, ⟨by decide, by decide⟩⟩
theorem kQ_kindFor_206 : CkV Q_kindFor 206 Q_behind 2 := ⟨lQ_206, mQ_behind.1, mQ_behind.2.1, mQ_behind.2.2.1, mQ_behind.2.2.2.1, mQ_behind.2.2.2.2, ⟨by decide, by decide⟩⟩
theorem kQ_kindFor_151 : CkS Q_kindFor 151 JM_max 2 := ⟨lQ_151, mJM_max.1, mJM_max.2.1, mJM_max.2.2.1, mJM_max.2.2.2, ⟨by decide, by decide⟩⟩
theorem kQ_paceFor_79 : CkS Q_paceFor 79 Q_within 3 := ⟨lQ_79, mQ_within.1, mQ_within.2.1, mQ_within.2.2.1, mQ_within.2.2.2, ⟨by decide, by decide⟩⟩
theorem kQ_paceFor_219 : CkS Q_paceFor 219 Q_isThought 1 := ⟨lQ_219, mQ_isThought.1, mQ_isThought.2.1, mQ_isThought.2.2.1, mQ_isThought.2.2.2, ⟨by decide, by decide⟩⟩
theorem kQ_paceFor_75 : CkV Q_paceFor 75 Q_finding 1 := ⟨lQ_75, mQ_finding.1, mQ_finding.2.1, mQ_finding.2.2.1, mQ_finding.2.2.2.1, mQ_finding.2.2.2.2, ⟨by decide, by decide⟩⟩
theorem kQ_paceFor_216 : CkV Q_paceFor 216 Q_sumBehind 2 := ⟨lQ_216, mQ_sumBehind.1, mQ_sumBehind.2.1, mQ_sumBehind.2.2.1, mQ_sumBehind.2.2.2.1, mQ_sumBehind.2.2.2.2, ⟨by decide, by decide⟩⟩
theorem kQ_paceFor_142 : CkV Q_paceFor 142 Q_orNone 1 := ⟨lQ_142, mQ_orNone.1, mQ_orNone.2.1, mQ_orNone.2.2.1, mQ_orNone.2.2.2.1, mQ_orNone.2.2.2.2, ⟨by decide, by decide⟩⟩
theorem kQ_tether_79 : CkS Q_tether 79 Q_within 3 := ⟨lQ_79, mQ_within.1, mQ_within.2.1, mQ_within.2.2.1, mQ_within.2.2.2, ⟨by decide, by decide⟩⟩
theorem kQ_tether_75 : CkV Q_tether 75 Q_finding 1 := ⟨lQ_75, mQ_finding.1, mQ_finding.2.1, mQ_finding.2.2.1, mQ_finding.2.2.2.1, mQ_finding.2.2.2.2, ⟨by decide, by decide⟩⟩
theorem kQ_tether_225 : CkV Q_tether 225 Q_areNear 2 := ⟨lQ_225, mQ_areNear.1, mQ_areNear.2.1, mQ_areNear.2.2.1, mQ_areNear.2.2.2.1, mQ_areNear.2.2.2.2, ⟨by decide, by decide⟩⟩
theorem kQ_tether_228 : CkS Q_tether 228 Q_bits 1 := ⟨lQ_228, mQ_bits.1, mQ_bits.2.1, mQ_bits.2.2.1, mQ_bits.2.2.2, ⟨by decide, by decide⟩⟩
theorem kQ_tether_142 : CkV Q_tether 142 Q_orNone 1 := ⟨lQ_142, mQ_orNone.1, mQ_orNone.2.1, mQ_orNone.2.2.1, mQ_orNone.2.2.2.1, mQ_orNone.2.2.2.2, ⟨by decide, by decide⟩⟩
theorem kQ_areNear_70 : CkS Q_areNear 70 Q_copyRow 2 := ⟨lQ_70, mQ_copyRow.1, mQ_copyRow.2.1, mQ_copyRow.2.2.1, mQ_copyRow.2.2.2, ⟨by decide, by decide⟩⟩
theorem kQ_areNear_191 : CkV Q_areNear 191 Q_hoursGo 1 := ⟨lQ_191, mQ_hoursGo.1, mQ_hoursGo.2.1, mQ_hoursGo.2.2.1, mQ_hoursGo.2.2.2.1, mQ_hoursGo.2.2.2.2, ⟨by decide, by decide⟩⟩
theorem kQ_areNear_197 : CkV Q_areNear 197 Q_lostSet 0 := ⟨lQ_197, mQ_lostSet.1, mQ_lostSet.2.1, mQ_lostSet.2.2.1, mQ_lostSet.2.2.2.1, mQ_lostSet.2.2.2.2, ⟨by decide, by decide⟩⟩
theorem kQ_fits_119 : CkV Q_fits 119 Q_isSheep 1 := ⟨lQ_119, mQ_isSheep.1, mQ_isSheep.2.1, mQ_isSheep.2.2.1, mQ_isSheep.2.2.2.1, mQ_isSheep.2.2.2.2, ⟨by decide, by decide⟩⟩
theorem kQ_fits_238 : CkV Q_fits 238 Q_lacks 2 := ⟨lQ_238, mQ_lacks.1, mQ_lacks.2.1, mQ_lacks.2.2.1, mQ_lacks.2.2.2.1, mQ_lacks.2.2.2.2, ⟨by decide, by decide⟩⟩
theorem kQ_fits_75 : CkV Q_fits 75 Q_finding 1 := ⟨lQ_75, mQ_finding.1, mQ_finding.2.1, mQ_finding.2.2.1, mQ_finding.2.2.2.1, mQ_finding.2.2.2.2, ⟨by decide, by decide⟩⟩
theorem kQ_fits_83 : CkS Q_fits 83 Q_sheepAt 2 := ⟨lQ_83, mQ_sheepAt.1, mQ_sheepAt.2.1, mQ_sheepAt.2.2.1, mQ_sheepAt.2.2.2, ⟨by decide, by decide⟩⟩
theorem kQ_fits_242 : CkV Q_fits 242 Q_valuesFor 4 := ⟨lQ_242, mQ_valuesFor.1, mQ_valuesFor.2.1, mQ_valuesFor.2.2.1, mQ_valuesFor.2.2.2.1, mQ_valuesFor.2.2.2.2, ⟨by decide, by decide⟩⟩
theorem kQ_lacks_231 : CkS Q_lacks 231 Q_isSheet 1 := ⟨lQ_231, mQ_isSheet.1, mQ_isSheet.2.1, mQ_isSheet.2.2.1, mQ_isSheet.2.2.2, ⟨by decide, by decide⟩⟩
theorem kQ_isSheet_79 : CkS Q_isSheet 79 Q_within 3 := ⟨lQ_79, mQ_within.1, mQ_within.2.1, mQ_within.2.2.1, mQ_within.2.2.2, ⟨by decide, by decide⟩⟩
theorem kQ_valuesFor_235 : CkV Q_valuesFor 235 Q_isToldWay 2 := ⟨lQ_235, mQ_isToldWay.1, mQ_isToldWay.2.1, mQ_isToldWay.2.2.1, mQ_isToldWay.2.2.2.1, mQ_isToldWay.2.2.2.2, ⟨by decide, by decide⟩⟩
theorem kQ_isToldWay_70 : CkS Q_isToldWay 70 Q_copyRow 2 := ⟨lQ_70, mQ_copyRow.1, mQ_copyRow.2.1, mQ_copyRow.2.2.1, mQ_copyRow.2.2.2, ⟨by decide, by decide⟩⟩
theorem kQ_isToldWay_187 : CkV Q_isToldWay 187 Q_hour 0 := ⟨lQ_187, mQ_hour.1, mQ_hour.2.1, mQ_hour.2.2.1, mQ_hour.2.2.2.1, mQ_hour.2.2.2.2, ⟨by decide, by decide⟩⟩
theorem kQ_kinds_119 : CkV Q_kinds 119 Q_isSheep 1 := ⟨lQ_119, mQ_isSheep.1, mQ_isSheep.2.1, mQ_isSheep.2.2.1, mQ_isSheep.2.2.2.1, mQ_isSheep.2.2.2.2, ⟨by decide, by decide⟩⟩
theorem kQ_kinds_238 : CkV Q_kinds 238 Q_lacks 2 := ⟨lQ_238, mQ_lacks.1, mQ_lacks.2.1, mQ_lacks.2.2.1, mQ_lacks.2.2.2.1, mQ_lacks.2.2.2.2, ⟨by decide, by decide⟩⟩
theorem kQ_kinds_75 : CkV Q_kinds 75 Q_finding 1 := ⟨lQ_75, mQ_finding.1, mQ_finding.2.1, mQ_finding.2.2.1, mQ_finding.2.2.2.1, mQ_finding.2.2.2.2, ⟨by decide, by decide⟩⟩
theorem kQ_kinds_83 : CkS Q_kinds 83 Q_sheepAt 2 := ⟨lQ_83, mQ_sheepAt.1, mQ_sheepAt.2.1, mQ_sheepAt.2.2.1, mQ_sheepAt.2.2.2, ⟨by decide, by decide⟩⟩
theorem kQ_kinds_242 : CkV Q_kinds 242 Q_valuesFor 4 := ⟨lQ_242, mQ_valuesFor.1, mQ_valuesFor.2.1, mQ_valuesFor.2.2.1, mQ_valuesFor.2.2.2.1, mQ_valuesFor.2.2.2.2, ⟨by decide, by decide⟩⟩
theorem kQ_nights_79 : CkS Q_nights 79 Q_within 3 := ⟨lQ_79, mQ_within.1, mQ_within.2.1, mQ_within.2.2.1, mQ_within.2.2.2, ⟨by decide, by decide⟩⟩
theorem kQ_nights_75 : CkV Q_nights 75 Q_finding 1 := ⟨lQ_75, mQ_finding.1, mQ_finding.2.1, mQ_finding.2.2.1, mQ_finding.2.2.2.1, mQ_finding.2.2.2.2, ⟨by decide, by decide⟩⟩
theorem kQ_nights_247 : CkV Q_nights 247 Q_drawn 0 := ⟨lQ_247, mQ_drawn.1, mQ_drawn.2.1, mQ_drawn.2.2.1, mQ_drawn.2.2.2.1, mQ_drawn.2.2.2.2, ⟨by decide, by decide⟩⟩
theorem kQ_nights_187 : CkV Q_nights 187 Q_hour 0 := ⟨lQ_187, mQ_hour.1, mQ_hour.2.1, mQ_hour.2.2.1, mQ_hour.2.2.2.1, mQ_hour.2.2.2.2, ⟨by decide, by decide⟩⟩
theorem kQ_nights_194 : CkV Q_nights 194 Q_sumOf 1 := ⟨lQ_194, mQ_sumOf.1, mQ_sumOf.2.1, mQ_sumOf.2.2.1, mQ_sumOf.2.2.2.1, mQ_sumOf.2.2.2.2, ⟨by decide, by decide⟩⟩
theorem kQ_odds_119 : CkV Q_odds 119 Q_isSheep 1 := ⟨lQ_119, mQ_isSheep.1, mQ_isSheep.2.1, mQ_isSheep.2.2.1, mQ_isSheep.2.2.2.1, mQ_isSheep.2.2.2.2, ⟨by decide, by decide⟩⟩
theorem kQ_odds_79 : CkS Q_odds 79 Q_within 3 := ⟨lQ_79, mQ_within.1, mQ_within.2.1, mQ_within.2.2.1, mQ_within.2.2.2, ⟨by decide, by decide⟩⟩
theorem kQ_odds_75 : CkV Q_odds 75 Q_finding 1 := ⟨lQ_75, mQ_finding.1, mQ_finding.2.1, mQ_finding.2.2.1, mQ_finding.2.2.2.1, mQ_finding.2.2.2.2, ⟨by decide, by decide⟩⟩
theorem kQ_odds_108 : CkV Q_odds 108 Q_sheepIs 2 := ⟨lQ_108, mQ_sheepIs.1, mQ_sheepIs.2.1, mQ_sheepIs.2.2.1, mQ_sheepIs.2.2.2.1, mQ_sheepIs.2.2.2.2, ⟨by decide, by decide⟩⟩
theorem kQ_odds_111 : CkS Q_odds 111 JM_abs 1 := ⟨lQ_111, mJM_abs.1, mJM_abs.2.1, mJM_abs.2.2.1, mJM_abs.2.2.2, ⟨by decide, by decide⟩⟩
theorem kQ_seed_98 : CkV Q_seed 98 Q_become 2 := ⟨lQ_98, mQ_become.1, mQ_become.2.1, mQ_become.2.2.1, mQ_become.2.2.2.1, mQ_become.2.2.2.2, ⟨by decide, by decide⟩⟩
theorem kQ_feed_79 : CkS Q_feed 79 Q_within 3 := ⟨lQ_79, mQ_within.1, mQ_within.2.1, mQ_within.2.2.1, mQ_within.2.2.2, ⟨by decide, by decide⟩⟩
theorem kQ_feed_75 : CkV Q_feed 75 Q_finding 1 := ⟨lQ_75, mQ_finding.1, mQ_finding.2.1, mQ_finding.2.2.1, mQ_finding.2.2.2.1, mQ_finding.2.2.2.2, ⟨by decide, by decide⟩⟩
theorem kQ_text_279 : CkV Q_text 279 Q_token 0 := ⟨lQ_279, mQ_token.1, mQ_token.2.1, mQ_token.2.2.1, mQ_token.2.2.2.1, mQ_token.2.2.2.2, ⟨by decide, by decide⟩⟩
theorem kQ_text_327 : CkV Q_text 327 Q_readItem 0 := ⟨lQ_327, mQ_readItem.1, mQ_readItem.2.1, mQ_readItem.2.2.1, mQ_readItem.2.2.2.1, mQ_readItem.2.2.2.2, ⟨by decide, by decide⟩⟩
theorem kQ_text_282 : CkV Q_text 282 Q_must 1 := ⟨lQ_282, mQ_must.1, mQ_must.2.1, mQ_must.2.2.1, mQ_must.2.2.2.1, mQ_must.2.2.2.2, ⟨by decide, by decide⟩⟩
theorem kQ_text_330 : CkV Q_text 330 Q_isToldSo 1 := ⟨lQ_330, mQ_isToldSo.1, mQ_isToldSo.2.1, mQ_isToldSo.2.2.1, mQ_isToldSo.2.2.2.1, mQ_isToldSo.2.2.2.2, ⟨by decide, by decide⟩⟩
theorem kQ_token_259 : CkV Q_token 259 Q_byteAt 1 := ⟨lQ_259, mQ_byteAt.1, mQ_byteAt.2.1, mQ_byteAt.2.2.1, mQ_byteAt.2.2.2.1, mQ_byteAt.2.2.2.2, ⟨by decide, by decide⟩⟩
theorem kQ_token_79 : CkS Q_token 79 Q_within 3 := ⟨lQ_79, mQ_within.1, mQ_within.2.1, mQ_within.2.2.1, mQ_within.2.2.2, ⟨by decide, by decide⟩⟩
theorem kQ_token_148 : CkS Q_token 148 JM_min 2 := ⟨lQ_148, mJM_min.1, mJM_min.2.1, mJM_min.2.2.1, mJM_min.2.2.2, ⟨by decide, by decide⟩⟩
theorem kQ_readItem_289 : CkV Q_readItem 289 Q_isWord 1 := ⟨lQ_289, mQ_isWord.1, mQ_isWord.2.1, mQ_isWord.2.2.1, mQ_isWord.2.2.2.1, mQ_isWord.2.2.2.2, ⟨by decide, by decide⟩⟩
theorem kQ_readItem_316 : CkV Q_readItem 316 Q_readSheep 1 := ⟨lQ_316, mQ_readSheep.1, mQ_readSheep.2.1, mQ_readSheep.2.2.1, mQ_readSheep.2.2.2.1, mQ_readSheep.2.2.2.2, ⟨by decide, by decide⟩⟩
theorem kQ_readItem_293 : CkV Q_readItem 293 Q_takesWord 1 := ⟨lQ_293, mQ_takesWord.1, mQ_takesWord.2.1, mQ_takesWord.2.2.1, mQ_takesWord.2.2.2.1, mQ_takesWord.2.2.2.2, ⟨by decide, by decide⟩⟩
theorem kQ_readItem_296 : CkV Q_readItem 296 Q_number 2 := ⟨lQ_296, mQ_number.1, mQ_number.2.1, mQ_number.2.2.1, mQ_number.2.2.2.1, mQ_number.2.2.2.2, ⟨by decide, by decide⟩⟩
theorem kQ_readItem_312 : CkV Q_readItem 312 Q_addItem 4 := ⟨lQ_312, mQ_addItem.1, mQ_addItem.2.1, mQ_addItem.2.2.1, mQ_addItem.2.2.2.1, mQ_addItem.2.2.2.2, ⟨by decide, by decide⟩⟩
theorem kQ_readItem_304 : CkV Q_readItem 304 Q_mayTell 3 := ⟨lQ_304, mQ_mayTell.1, mQ_mayTell.2.1, mQ_mayTell.2.2.1, mQ_mayTell.2.2.2.1, mQ_mayTell.2.2.2.2, ⟨by decide, by decide⟩⟩
theorem kQ_readItem_282 : CkV Q_readItem 282 Q_must 1 := ⟨lQ_282, mQ_must.1, mQ_must.2.1, mQ_must.2.2.1, mQ_must.2.2.2.1, mQ_must.2.2.2.2, ⟨by decide, by decide⟩⟩
theorem kQ_isWord_268 : CkV Q_isWord 268 JS_length 0 := ⟨lQ_268, mJS_length.1, mJS_length.2.1, mJS_length.2.2.1, mJS_length.2.2.2.1, mJS_length.2.2.2.2, ⟨by decide, by decide⟩⟩
theorem kQ_isWord_271 : CkV Q_isWord 271 JS_charAt 1 := ⟨lQ_271, mJS_charAt.1, mJS_charAt.2.1, mJS_charAt.2.2.1, mJS_charAt.2.2.2.1, mJS_charAt.2.2.2.2, ⟨by decide, by decide⟩⟩
theorem kQ_readSheep_282 : CkV Q_readSheep 282 Q_must 1 := ⟨lQ_282, mQ_must.1, mQ_must.2.1, mQ_must.2.2.1, mQ_must.2.2.2.1, mQ_must.2.2.2.2, ⟨by decide, by decide⟩⟩
theorem kQ_readSheep_304 : CkV Q_readSheep 304 Q_mayTell 3 := ⟨lQ_304, mQ_mayTell.1, mQ_mayTell.2.1, mQ_mayTell.2.2.1, mQ_mayTell.2.2.2.1, mQ_mayTell.2.2.2.2, ⟨by decide, by decide⟩⟩
theorem kQ_readSheep_312 : CkV Q_readSheep 312 Q_addItem 4 := ⟨lQ_312, mQ_addItem.1, mQ_addItem.2.1, mQ_addItem.2.2.1, mQ_addItem.2.2.2.1, mQ_addItem.2.2.2.2, ⟨by decide, by decide⟩⟩
theorem kQ_must_279 : CkV Q_must 279 Q_token 0 := ⟨lQ_279, mQ_token.1, mQ_token.2.1, mQ_token.2.2.1, mQ_token.2.2.2.1, mQ_token.2.2.2.2, ⟨by decide, by decide⟩⟩
theorem kQ_mayTell_293 : CkV Q_mayTell 293 Q_takesWord 1 := ⟨lQ_293, mQ_takesWord.1, mQ_takesWord.2.1, mQ_takesWord.2.2.1, mQ_takesWord.2.2.2.1, mQ_takesWord.2.2.2.2, ⟨by decide, by decide⟩⟩
theorem kQ_mayTell_296 : CkV Q_mayTell 296 Q_number 2 := ⟨lQ_296, mQ_number.1, mQ_number.2.1, mQ_number.2.2.1, mQ_number.2.2.2.1, mQ_number.2.2.2.2, ⟨by decide, by decide⟩⟩
theorem kQ_takesWord_289 : CkV Q_takesWord 289 Q_isWord 1 := ⟨lQ_289, mQ_isWord.1, mQ_isWord.2.1, mQ_isWord.2.2.1, mQ_isWord.2.2.2.1, mQ_isWord.2.2.2.2, ⟨by decide, by decide⟩⟩
theorem kQ_takesWord_282 : CkV Q_takesWord 282 Q_must 1 := ⟨lQ_282, mQ_must.1, mQ_must.2.1, mQ_must.2.2.1, mQ_must.2.2.2.1, mQ_must.2.2.2.2, ⟨by decide, by decide⟩⟩
theorem kQ_number_79 : CkS Q_number 79 Q_within 3 := ⟨lQ_79, mQ_within.1, mQ_within.2.1, mQ_within.2.2.1, mQ_within.2.2.2, ⟨by decide, by decide⟩⟩
theorem kQ_number_282 : CkV Q_number 282 Q_must 1 := ⟨lQ_282, mQ_must.1, mQ_must.2.1, mQ_must.2.2.1, mQ_must.2.2.2.1, mQ_must.2.2.2.2, ⟨by decide, by decide⟩⟩
theorem kQ_isToldSo_87 : CkV Q_isToldSo 87 Q_keeperAt 1 := ⟨lQ_87, mQ_keeperAt.1, mQ_keeperAt.2.1, mQ_keeperAt.2.2.1, mQ_keeperAt.2.2.2.1, mQ_keeperAt.2.2.2.2, ⟨by decide, by decide⟩⟩
theorem kQ_isToldSo_105 : CkV Q_isToldSo 105 Q_comes 2 := ⟨lQ_105, mQ_comes.1, mQ_comes.2.1, mQ_comes.2.2.1, mQ_comes.2.2.2.1, mQ_comes.2.2.2.2, ⟨by decide, by decide⟩⟩
theorem kQ_isToldSo_83 : CkS Q_isToldSo 83 Q_sheepAt 2 := ⟨lQ_83, mQ_sheepAt.1, mQ_sheepAt.2.1, mQ_sheepAt.2.2.1, mQ_sheepAt.2.2.2, ⟨by decide, by decide⟩⟩
theorem kQ_hold_333 : CkS Q_hold 333 Q_isSpot 1 := ⟨lQ_333, mQ_isSpot.1, mQ_isSpot.2.1, mQ_isSpot.2.2.1, mQ_isSpot.2.2.2, ⟨by decide, by decide⟩⟩
theorem kQ_hold_119 : CkV Q_hold 119 Q_isSheep 1 := ⟨lQ_119, mQ_isSheep.1, mQ_isSheep.2.1, mQ_isSheep.2.2.1, mQ_isSheep.2.2.2.1, mQ_isSheep.2.2.2.2, ⟨by decide, by decide⟩⟩
theorem kQ_hold_75 : CkV Q_hold 75 Q_finding 1 := ⟨lQ_75, mQ_finding.1, mQ_finding.2.1, mQ_finding.2.2.1, mQ_finding.2.2.2.1, mQ_finding.2.2.2.2, ⟨by decide, by decide⟩⟩
theorem kQ_isSpot_79 : CkS Q_isSpot 79 Q_within 3 := ⟨lQ_79, mQ_within.1, mQ_within.2.1, mQ_within.2.2.1, mQ_within.2.2.2, ⟨by decide, by decide⟩⟩
theorem kQ_as_333 : CkS Q_as 333 Q_isSpot 1 := ⟨lQ_333, mQ_isSpot.1, mQ_isSpot.2.1, mQ_isSpot.2.2.1, mQ_isSpot.2.2.2, ⟨by decide, by decide⟩⟩
theorem kQ_as_101 : CkS Q_as 101 Q_isKind 1 := ⟨lQ_101, mQ_isKind.1, mQ_isKind.2.1, mQ_isKind.2.2.1, mQ_isKind.2.2.2, ⟨by decide, by decide⟩⟩
theorem kQ_as_75 : CkV Q_as 75 Q_finding 1 := ⟨lQ_75, mQ_finding.1, mQ_finding.2.1, mQ_finding.2.2.1, mQ_finding.2.2.2.1, mQ_finding.2.2.2.2, ⟨by decide, by decide⟩⟩
theorem kQ_as_108 : CkV Q_as 108 Q_sheepIs 2 := ⟨lQ_108, mQ_sheepIs.1, mQ_sheepIs.2.1, mQ_sheepIs.2.2.1, mQ_sheepIs.2.2.2.1, mQ_sheepIs.2.2.2.2, ⟨by decide, by decide⟩⟩
theorem kQ_as_336 : CkS Q_as 336 Q_isUnder 2 := ⟨lQ_336, mQ_isUnder.1, mQ_isUnder.2.1, mQ_isUnder.2.2.1, mQ_isUnder.2.2.2, ⟨by decide, by decide⟩⟩
theorem kQ_isUnder_344 : CkS Q_isUnder 344 Q_above 1 := ⟨lQ_344, mQ_above.1, mQ_above.2.1, mQ_above.2.2.1, mQ_above.2.2.2, ⟨by decide, by decide⟩⟩
theorem kQ_sheet_231 : CkS Q_sheet 231 Q_isSheet 1 := ⟨lQ_231, mQ_isSheet.1, mQ_isSheet.2.1, mQ_isSheet.2.2.1, mQ_isSheet.2.2.2, ⟨by decide, by decide⟩⟩
theorem kQ_sheet_75 : CkV Q_sheet 75 Q_finding 1 := ⟨lQ_75, mQ_finding.1, mQ_finding.2.1, mQ_finding.2.2.1, mQ_finding.2.2.2.1, mQ_finding.2.2.2.2, ⟨by decide, by decide⟩⟩
theorem kQ_write_231 : CkS Q_write 231 Q_isSheet 1 := ⟨lQ_231, mQ_isSheet.1, mQ_isSheet.2.1, mQ_isSheet.2.2.1, mQ_isSheet.2.2.2, ⟨by decide, by decide⟩⟩
theorem kQ_write_75 : CkV Q_write 75 Q_finding 1 := ⟨lQ_75, mQ_finding.1, mQ_finding.2.1, mQ_finding.2.2.1, mQ_finding.2.2.2.1, mQ_finding.2.2.2.2, ⟨by decide, by decide⟩⟩
theorem kQ_write_79 : CkS Q_write 79 Q_within 3 := ⟨lQ_79, mQ_within.1, mQ_within.2.1, mQ_within.2.2.1, mQ_within.2.2.2, ⟨by decide, by decide⟩⟩
theorem kQ_write_341 : CkS Q_write 341 Q_cutTo 2 := ⟨lQ_341, mQ_cutTo.1, mQ_cutTo.2.1, mQ_cutTo.2.2.1, mQ_cutTo.2.2.2, ⟨by decide, by decide⟩⟩
theorem kQ_copy_231 : CkS Q_copy 231 Q_isSheet 1 := ⟨lQ_231, mQ_isSheet.1, mQ_isSheet.2.1, mQ_isSheet.2.2.1, mQ_isSheet.2.2.2, ⟨by decide, by decide⟩⟩
theorem kQ_copy_75 : CkV Q_copy 75 Q_finding 1 := ⟨lQ_75, mQ_finding.1, mQ_finding.2.1, mQ_finding.2.2.1, mQ_finding.2.2.2.1, mQ_finding.2.2.2.2, ⟨by decide, by decide⟩⟩
theorem kQ_load_238 : CkV Q_load 238 Q_lacks 2 := ⟨lQ_238, mQ_lacks.1, mQ_lacks.2.1, mQ_lacks.2.2.1, mQ_lacks.2.2.2.1, mQ_lacks.2.2.2.2, ⟨by decide, by decide⟩⟩
theorem kQ_load_75 : CkV Q_load 75 Q_finding 1 := ⟨lQ_75, mQ_finding.1, mQ_finding.2.1, mQ_finding.2.2.1, mQ_finding.2.2.2.1, mQ_finding.2.2.2.2, ⟨by decide, by decide⟩⟩
theorem kQ_load_119 : CkV Q_load 119 Q_isSheep 1 := ⟨lQ_119, mQ_isSheep.1, mQ_isSheep.2.1, mQ_isSheep.2.2.1, mQ_isSheep.2.2.2.1, mQ_isSheep.2.2.2.2, ⟨by decide, by decide⟩⟩
theorem kQ_load_79 : CkS Q_load 79 Q_within 3 := ⟨lQ_79, mQ_within.1, mQ_within.2.1, mQ_within.2.2.1, mQ_within.2.2.2, ⟨by decide, by decide⟩⟩
theorem kQ_load_83 : CkS Q_load 83 Q_sheepAt 2 := ⟨lQ_83, mQ_sheepAt.1, mQ_sheepAt.2.1, mQ_sheepAt.2.2.1, mQ_sheepAt.2.2.2, ⟨by decide, by decide⟩⟩
theorem kQ_judge_238 : CkV Q_judge 238 Q_lacks 2 := ⟨lQ_238, mQ_lacks.1, mQ_lacks.2.1, mQ_lacks.2.2.1, mQ_lacks.2.2.2.1, mQ_lacks.2.2.2.2, ⟨by decide, by decide⟩⟩
theorem kQ_judge_75 : CkV Q_judge 75 Q_finding 1 := ⟨lQ_75, mQ_finding.1, mQ_finding.2.1, mQ_finding.2.2.1, mQ_finding.2.2.2.1, mQ_finding.2.2.2.2, ⟨by decide, by decide⟩⟩
theorem kQ_judge_119 : CkV Q_judge 119 Q_isSheep 1 := ⟨lQ_119, mQ_isSheep.1, mQ_isSheep.2.1, mQ_isSheep.2.2.1, mQ_isSheep.2.2.2.1, mQ_isSheep.2.2.2.2, ⟨by decide, by decide⟩⟩
theorem kQ_judge_108 : CkV Q_judge 108 Q_sheepIs 2 := ⟨lQ_108, mQ_sheepIs.1, mQ_sheepIs.2.1, mQ_sheepIs.2.2.1, mQ_sheepIs.2.2.2.1, mQ_sheepIs.2.2.2.2, ⟨by decide, by decide⟩⟩
theorem kQ_image_70 : CkS Q_image 70 Q_copyRow 2 := ⟨lQ_70, mQ_copyRow.1, mQ_copyRow.2.1, mQ_copyRow.2.2.1, mQ_copyRow.2.2.2, ⟨by decide, by decide⟩⟩
theorem kQ_undo_75 : CkV Q_undo 75 Q_finding 1 := ⟨lQ_75, mQ_finding.1, mQ_finding.2.1, mQ_finding.2.2.1, mQ_finding.2.2.2.1, mQ_finding.2.2.2.2, ⟨by decide, by decide⟩⟩
theorem kQ_undo_70 : CkS Q_undo 70 Q_copyRow 2 := ⟨lQ_70, mQ_copyRow.1, mQ_copyRow.2.1, mQ_copyRow.2.2.1, mQ_copyRow.2.2.2, ⟨by decide, by decide⟩⟩
theorem kQ_count_194 : CkV Q_count 194 Q_sumOf 1 := ⟨lQ_194, mQ_sumOf.1, mQ_sumOf.2.1, mQ_sumOf.2.2.1, mQ_sumOf.2.2.2.1, mQ_sumOf.2.2.2.2, ⟨by decide, by decide⟩⟩
theorem kQ_count_75 : CkV Q_count 75 Q_finding 1 := ⟨lQ_75, mQ_finding.1, mQ_finding.2.1, mQ_finding.2.2.1, mQ_finding.2.2.2.1, mQ_finding.2.2.2.2, ⟨by decide, by decide⟩⟩
theorem kQ_status_79 : CkS Q_status 79 Q_within 3 := ⟨lQ_79, mQ_within.1, mQ_within.2.1, mQ_within.2.2.1, mQ_within.2.2.2, ⟨by decide, by decide⟩⟩
theorem kQ_status_75 : CkV Q_status 75 Q_finding 1 := ⟨lQ_75, mQ_finding.1, mQ_finding.2.1, mQ_finding.2.2.1, mQ_finding.2.2.2.1, mQ_finding.2.2.2.2, ⟨by decide, by decide⟩⟩
end
section
theorem dS_init_0 : Dc S_init 0 (.aload_n 0) 1 1 := ⟨by decide +kernel, rfl⟩
theorem dS_init_1 : Dc S_init 1 (.invokespecial 3) 3 4 := ⟨by decide +kernel, rfl⟩
theorem dS_init_4 : Dc S_init 4 (.aload_n 0) 1 5 := ⟨by decide +kernel, rfl⟩
theorem dS_init_5 : Dc S_init 5 (.new 9) 3 8 := ⟨by decide +kernel, rfl⟩
theorem dS_init_8 : Dc S_init 8 (.dup) 1 9 := ⟨by decide +kernel, rfl⟩
theorem dS_init_9 : Dc S_init 9 (.invokespecial 11) 3 12 := ⟨by decide +kernel, rfl⟩
theorem dS_init_12 : Dc S_init 12 (.putfield 12) 3 15 := ⟨by decide +kernel, rfl⟩
theorem dS_init_15 : Dc S_init 15 (.aload_n 0) 1 16 := ⟨by decide +kernel, rfl⟩
theorem dS_init_16 : Dc S_init 16 (.new 9) 3 19 := ⟨by decide +kernel, rfl⟩
theorem dS_init_19 : Dc S_init 19 (.dup) 1 20 := ⟨by decide +kernel, rfl⟩
theorem dS_init_20 : Dc S_init 20 (.invokespecial 11) 3 23 := ⟨by decide +kernel, rfl⟩
theorem dS_init_23 : Dc S_init 23 (.putfield 16) 3 26 := ⟨by decide +kernel, rfl⟩
theorem dS_init_26 : Dc S_init 26 (.aload_n 0) 1 27 := ⟨by decide +kernel, rfl⟩
theorem dS_init_27 : Dc S_init 27 (.new 9) 3 30 := ⟨by decide +kernel, rfl⟩
theorem dS_init_30 : Dc S_init 30 (.dup) 1 31 := ⟨by decide +kernel, rfl⟩
theorem dS_init_31 : Dc S_init 31 (.invokespecial 11) 3 34 := ⟨by decide +kernel, rfl⟩
theorem dS_init_34 : Dc S_init 34 (.putfield 19) 3 37 := ⟨by decide +kernel, rfl⟩
theorem dS_init_37 : Dc S_init 37 (.aload_n 0) 1 38 := ⟨by decide +kernel, rfl⟩
theorem dS_init_38 : Dc S_init 38 (.iconst 0) 1 39 := ⟨by decide +kernel, rfl⟩
theorem dS_init_39 : Dc S_init 39 (.putfield 22) 3 42 := ⟨by decide +kernel, rfl⟩
theorem dS_init_42 : Dc S_init 42 (.aload_n 0) 1 43 := ⟨by decide +kernel, rfl⟩
theorem dS_init_43 : Dc S_init 43 (.bipush 10) 2 45 := ⟨by decide +kernel, rfl⟩
theorem dS_init_45 : Dc S_init 45 (.newarray .int) 2 47 := ⟨by decide +kernel, rfl⟩
theorem dS_init_47 : Dc S_init 47 (.putfield 26) 3 50 := ⟨by decide +kernel, rfl⟩
theorem dS_init_50 : Dc S_init 50 (.aload_n 0) 1 51 := ⟨by decide +kernel, rfl⟩
theorem dS_init_51 : Dc S_init 51 (.bipush 10) 2 53 := ⟨by decide +kernel, rfl⟩
theorem dS_init_53 : Dc S_init 53 (.newarray .int) 2 55 := ⟨by decide +kernel, rfl⟩
theorem dS_init_55 : Dc S_init 55 (.putfield 30) 3 58 := ⟨by decide +kernel, rfl⟩
theorem dS_init_58 : Dc S_init 58 (.aload_n 0) 1 59 := ⟨by decide +kernel, rfl⟩
theorem dS_init_59 : Dc S_init 59 (.iconst 1) 1 60 := ⟨by decide +kernel, rfl⟩
theorem dS_init_60 : Dc S_init 60 (.putfield 33) 3 63 := ⟨by decide +kernel, rfl⟩
theorem dS_init_63 : Dc S_init 63 (.aload_n 0) 1 64 := ⟨by decide +kernel, rfl⟩
theorem dS_init_64 : Dc S_init 64 (.iconst 1) 1 65 := ⟨by decide +kernel, rfl⟩
theorem dS_init_65 : Dc S_init 65 (.putfield 37) 3 68 := ⟨by decide +kernel, rfl⟩
theorem dS_init_68 : Dc S_init 68 (.aload_n 0) 1 69 := ⟨by decide +kernel, rfl⟩
theorem dS_init_69 : Dc S_init 69 (.new 40) 3 72 := ⟨by decide +kernel, rfl⟩
theorem dS_init_72 : Dc S_init 72 (.dup) 1 73 := ⟨by decide +kernel, rfl⟩
theorem dS_init_73 : Dc S_init 73 (.invokespecial 42) 3 76 := ⟨by decide +kernel, rfl⟩
theorem dS_init_76 : Dc S_init 76 (.putfield 43) 3 79 := ⟨by decide +kernel, rfl⟩
theorem dS_init_79 : Dc S_init 79 (.aload_n 0) 1 80 := ⟨by decide +kernel, rfl⟩
theorem dS_init_80 : Dc S_init 80 (.iconst 4) 1 81 := ⟨by decide +kernel, rfl⟩
theorem dS_init_81 : Dc S_init 81 (.anewarray 47) 3 84 := ⟨by decide +kernel, rfl⟩
theorem dS_init_84 : Dc S_init 84 (.dup) 1 85 := ⟨by decide +kernel, rfl⟩
theorem dS_init_85 : Dc S_init 85 (.iconst 0) 1 86 := ⟨by decide +kernel, rfl⟩
theorem dS_init_86 : Dc S_init 86 (.new 47) 3 89 := ⟨by decide +kernel, rfl⟩
theorem dS_init_89 : Dc S_init 89 (.dup) 1 90 := ⟨by decide +kernel, rfl⟩
theorem dS_init_90 : Dc S_init 90 (.invokespecial 49) 3 93 := ⟨by decide +kernel, rfl⟩
theorem dS_init_93 : Dc S_init 93 (.aastore) 1 94 := ⟨by decide +kernel, rfl⟩
theorem dS_init_94 : Dc S_init 94 (.dup) 1 95 := ⟨by decide +kernel, rfl⟩
theorem dS_init_95 : Dc S_init 95 (.iconst 1) 1 96 := ⟨by decide +kernel, rfl⟩
theorem dS_init_96 : Dc S_init 96 (.new 47) 3 99 := ⟨by decide +kernel, rfl⟩
theorem dS_init_99 : Dc S_init 99 (.dup) 1 100 := ⟨by decide +kernel, rfl⟩
theorem dS_init_100 : Dc S_init 100 (.invokespecial 49) 3 103 := ⟨by decide +kernel, rfl⟩
theorem dS_init_103 : Dc S_init 103 (.aastore) 1 104 := ⟨by decide +kernel, rfl⟩
theorem dS_init_104 : Dc S_init 104 (.dup) 1 105 := ⟨by decide +kernel, rfl⟩
theorem dS_init_105 : Dc S_init 105 (.iconst 2) 1 106 := ⟨by decide +kernel, rfl⟩
theorem dS_init_106 : Dc S_init 106 (.new 47) 3 109 := ⟨by decide +kernel, rfl⟩
theorem dS_init_109 : Dc S_init 109 (.dup) 1 110 := ⟨by decide +kernel, rfl⟩
theorem dS_init_110 : Dc S_init 110 (.invokespecial 49) 3 113 := ⟨by decide +kernel, rfl⟩
theorem dS_init_113 : Dc S_init 113 (.aastore) 1 114 := ⟨by decide +kernel, rfl⟩
theorem dS_init_114 : Dc S_init 114 (.dup) 1 115 := ⟨by decide +kernel, rfl⟩
theorem dS_init_115 : Dc S_init 115 (.iconst 3) 1 116 := ⟨by decide +kernel, rfl⟩
theorem dS_init_116 : Dc S_init 116 (.new 47) 3 119 := ⟨by decide +kernel, rfl⟩
theorem dS_init_119 : Dc S_init 119 (.dup) 1 120 := ⟨by decide +kernel, rfl⟩
theorem dS_init_120 : Dc S_init 120 (.invokespecial 49) 3 123 := ⟨by decide +kernel, rfl⟩
theorem dS_init_123 : Dc S_init 123 (.aastore) 1 124 := ⟨by decide +kernel, rfl⟩
theorem dS_init_124 : Dc S_init 124 (.putfield 50) 3 127 := ⟨by decide +kernel, rfl⟩
theorem dS_init_127 : Dc S_init 127 (.aload_n 0) 1 128 := ⟨by decide +kernel, rfl⟩
theorem dS_init_128 : Dc S_init 128 (.bipush 7) 2 130 := ⟨by decide +kernel, rfl⟩
theorem dS_init_130 : Dc S_init 130 (.newarray .int) 2 132 := ⟨by decide +kernel, rfl⟩
theorem dS_init_132 : Dc S_init 132 (.putfield 54) 3 135 := ⟨by decide +kernel, rfl⟩
theorem dS_init_135 : Dc S_init 135 (.iconst 0) 1 136 := ⟨by decide +kernel, rfl⟩
theorem dS_init_136 : Dc S_init 136 (.istore_n 1) 1 137 := ⟨by decide +kernel, rfl⟩
theorem dS_init_137 : Dc S_init 137 (.iload_n 1) 1 138 := ⟨by decide +kernel, rfl⟩
theorem dS_init_138 : Dc S_init 138 (.bipush 10) 2 140 := ⟨by decide +kernel, rfl⟩
theorem dS_init_140 : Dc S_init 140 (.if_icmp .ge 23) 3 143 := ⟨by decide +kernel, rfl⟩
theorem dS_init_143 : Dc S_init 143 (.aload_n 0) 1 144 := ⟨by decide +kernel, rfl⟩
theorem dS_init_144 : Dc S_init 144 (.getfield 26) 3 147 := ⟨by decide +kernel, rfl⟩
theorem dS_init_147 : Dc S_init 147 (.iload_n 1) 1 148 := ⟨by decide +kernel, rfl⟩
theorem dS_init_148 : Dc S_init 148 (.iconst (-1)) 1 149 := ⟨by decide +kernel, rfl⟩
theorem dS_init_149 : Dc S_init 149 (.iastore) 1 150 := ⟨by decide +kernel, rfl⟩
theorem dS_init_150 : Dc S_init 150 (.aload_n 0) 1 151 := ⟨by decide +kernel, rfl⟩
theorem dS_init_151 : Dc S_init 151 (.getfield 30) 3 154 := ⟨by decide +kernel, rfl⟩
theorem dS_init_154 : Dc S_init 154 (.iload_n 1) 1 155 := ⟨by decide +kernel, rfl⟩
theorem dS_init_155 : Dc S_init 155 (.iconst (-1)) 1 156 := ⟨by decide +kernel, rfl⟩
theorem dS_init_156 : Dc S_init 156 (.iastore) 1 157 := ⟨by decide +kernel, rfl⟩
theorem dS_init_157 : Dc S_init 157 (.iinc 1 1) 3 160 := ⟨by decide +kernel, rfl⟩
theorem dS_init_160 : Dc S_init 160 (.goto (-23)) 3 163 := ⟨by decide +kernel, rfl⟩
theorem dS_init_163 : Dc S_init 163 (.return_) 1 164 := ⟨by decide +kernel, rfl⟩
theorem dH_init_0 : Dc H_init 0 (.aload_n 0) 1 1 := ⟨by decide +kernel, rfl⟩
theorem dH_init_1 : Dc H_init 1 (.invokespecial 3) 3 4 := ⟨by decide +kernel, rfl⟩
theorem dH_init_4 : Dc H_init 4 (.aload_n 0) 1 5 := ⟨by decide +kernel, rfl⟩
theorem dH_init_5 : Dc H_init 5 (.iconst 0) 1 6 := ⟨by decide +kernel, rfl⟩
theorem dH_init_6 : Dc H_init 6 (.putfield 9) 3 9 := ⟨by decide +kernel, rfl⟩
theorem dH_init_9 : Dc H_init 9 (.aload_n 0) 1 10 := ⟨by decide +kernel, rfl⟩
theorem dH_init_10 : Dc H_init 10 (.iconst 0) 1 11 := ⟨by decide +kernel, rfl⟩
theorem dH_init_11 : Dc H_init 11 (.putfield 15) 3 14 := ⟨by decide +kernel, rfl⟩
theorem dH_init_14 : Dc H_init 14 (.aload_n 0) 1 15 := ⟨by decide +kernel, rfl⟩
theorem dH_init_15 : Dc H_init 15 (.iconst (-1)) 1 16 := ⟨by decide +kernel, rfl⟩
theorem dH_init_16 : Dc H_init 16 (.putfield 18) 3 19 := ⟨by decide +kernel, rfl⟩
theorem dH_init_19 : Dc H_init 19 (.aload_n 0) 1 20 := ⟨by decide +kernel, rfl⟩
theorem dH_init_20 : Dc H_init 20 (.iconst (-1)) 1 21 := ⟨by decide +kernel, rfl⟩
theorem dH_init_21 : Dc H_init 21 (.putfield 21) 3 24 := ⟨by decide +kernel, rfl⟩
theorem dH_init_24 : Dc H_init 24 (.aload_n 0) 1 25 := ⟨by decide +kernel, rfl⟩
theorem dH_init_25 : Dc H_init 25 (.iconst 1) 1 26 := ⟨by decide +kernel, rfl⟩
theorem dH_init_26 : Dc H_init 26 (.putfield 24) 3 29 := ⟨by decide +kernel, rfl⟩
theorem dH_init_29 : Dc H_init 29 (.aload_n 0) 1 30 := ⟨by decide +kernel, rfl⟩
theorem dH_init_30 : Dc H_init 30 (.iconst 0) 1 31 := ⟨by decide +kernel, rfl⟩
theorem dH_init_31 : Dc H_init 31 (.putfield 27) 3 34 := ⟨by decide +kernel, rfl⟩
theorem dH_init_34 : Dc H_init 34 (.aload_n 0) 1 35 := ⟨by decide +kernel, rfl⟩
theorem dH_init_35 : Dc H_init 35 (.iconst 0) 1 36 := ⟨by decide +kernel, rfl⟩
theorem dH_init_36 : Dc H_init 36 (.putfield 30) 3 39 := ⟨by decide +kernel, rfl⟩
theorem dH_init_39 : Dc H_init 39 (.aload_n 0) 1 40 := ⟨by decide +kernel, rfl⟩
theorem dH_init_40 : Dc H_init 40 (.bipush 8) 2 42 := ⟨by decide +kernel, rfl⟩
theorem dH_init_42 : Dc H_init 42 (.newarray .int) 2 44 := ⟨by decide +kernel, rfl⟩
theorem dH_init_44 : Dc H_init 44 (.putfield 33) 3 47 := ⟨by decide +kernel, rfl⟩
theorem dH_init_47 : Dc H_init 47 (.aload_n 0) 1 48 := ⟨by decide +kernel, rfl⟩
theorem dH_init_48 : Dc H_init 48 (.bipush 8) 2 50 := ⟨by decide +kernel, rfl⟩
theorem dH_init_50 : Dc H_init 50 (.newarray .int) 2 52 := ⟨by decide +kernel, rfl⟩
theorem dH_init_52 : Dc H_init 52 (.putfield 37) 3 55 := ⟨by decide +kernel, rfl⟩
theorem dH_init_55 : Dc H_init 55 (.aload_n 0) 1 56 := ⟨by decide +kernel, rfl⟩
theorem dH_init_56 : Dc H_init 56 (.bipush 8) 2 58 := ⟨by decide +kernel, rfl⟩
theorem dH_init_58 : Dc H_init 58 (.newarray .int) 2 60 := ⟨by decide +kernel, rfl⟩
theorem dH_init_60 : Dc H_init 60 (.putfield 40) 3 63 := ⟨by decide +kernel, rfl⟩
theorem dH_init_63 : Dc H_init 63 (.aload_n 0) 1 64 := ⟨by decide +kernel, rfl⟩
theorem dH_init_64 : Dc H_init 64 (.bipush 8) 2 66 := ⟨by decide +kernel, rfl⟩
theorem dH_init_66 : Dc H_init 66 (.newarray .int) 2 68 := ⟨by decide +kernel, rfl⟩
theorem dH_init_68 : Dc H_init 68 (.putfield 43) 3 71 := ⟨by decide +kernel, rfl⟩
theorem dH_init_71 : Dc H_init 71 (.aload_n 0) 1 72 := ⟨by decide +kernel, rfl⟩
theorem dH_init_72 : Dc H_init 72 (.bipush 8) 2 74 := ⟨by decide +kernel, rfl⟩
theorem dH_init_74 : Dc H_init 74 (.newarray .int) 2 76 := ⟨by decide +kernel, rfl⟩
theorem dH_init_76 : Dc H_init 76 (.putfield 46) 3 79 := ⟨by decide +kernel, rfl⟩
theorem dH_init_79 : Dc H_init 79 (.return_) 1 80 := ⟨by decide +kernel, rfl⟩
theorem dT_init_0 : Dc T_init 0 (.aload_n 0) 1 1 := ⟨by decide +kernel, rfl⟩
theorem dT_init_1 : Dc T_init 1 (.invokespecial 3) 3 4 := ⟨by decide +kernel, rfl⟩
theorem dT_init_4 : Dc T_init 4 (.aload_n 0) 1 5 := ⟨by decide +kernel, rfl⟩
theorem dT_init_5 : Dc T_init 5 (.bipush 120) 2 7 := ⟨by decide +kernel, rfl⟩
theorem dT_init_7 : Dc T_init 7 (.newarray .int) 2 9 := ⟨by decide +kernel, rfl⟩
theorem dT_init_9 : Dc T_init 9 (.putfield 9) 3 12 := ⟨by decide +kernel, rfl⟩
theorem dT_init_12 : Dc T_init 12 (.aload_n 0) 1 13 := ⟨by decide +kernel, rfl⟩
theorem dT_init_13 : Dc T_init 13 (.iconst 0) 1 14 := ⟨by decide +kernel, rfl⟩
theorem dT_init_14 : Dc T_init 14 (.putfield 15) 3 17 := ⟨by decide +kernel, rfl⟩
theorem dT_init_17 : Dc T_init 17 (.aload_n 0) 1 18 := ⟨by decide +kernel, rfl⟩
theorem dT_init_18 : Dc T_init 18 (.iconst 0) 1 19 := ⟨by decide +kernel, rfl⟩
theorem dT_init_19 : Dc T_init 19 (.putfield 19) 3 22 := ⟨by decide +kernel, rfl⟩
theorem dT_init_22 : Dc T_init 22 (.aload_n 0) 1 23 := ⟨by decide +kernel, rfl⟩
theorem dT_init_23 : Dc T_init 23 (.iconst 0) 1 24 := ⟨by decide +kernel, rfl⟩
theorem dT_init_24 : Dc T_init 24 (.putfield 22) 3 27 := ⟨by decide +kernel, rfl⟩
theorem dT_init_27 : Dc T_init 27 (.aload_n 0) 1 28 := ⟨by decide +kernel, rfl⟩
theorem dT_init_28 : Dc T_init 28 (.iconst 0) 1 29 := ⟨by decide +kernel, rfl⟩
theorem dT_init_29 : Dc T_init 29 (.putfield 25) 3 32 := ⟨by decide +kernel, rfl⟩
theorem dT_init_32 : Dc T_init 32 (.return_) 1 33 := ⟨by decide +kernel, rfl⟩
theorem dE_init_0 : Dc E_init 0 (.aload_n 0) 1 1 := ⟨by decide +kernel, rfl⟩
theorem dE_init_1 : Dc E_init 1 (.invokespecial 3) 3 4 := ⟨by decide +kernel, rfl⟩
theorem dE_init_4 : Dc E_init 4 (.aload_n 0) 1 5 := ⟨by decide +kernel, rfl⟩
theorem dE_init_5 : Dc E_init 5 (.iconst 0) 1 6 := ⟨by decide +kernel, rfl⟩
theorem dE_init_6 : Dc E_init 6 (.putfield 9) 3 9 := ⟨by decide +kernel, rfl⟩
theorem dE_init_9 : Dc E_init 9 (.aload_n 0) 1 10 := ⟨by decide +kernel, rfl⟩
theorem dE_init_10 : Dc E_init 10 (.iconst 0) 1 11 := ⟨by decide +kernel, rfl⟩
theorem dE_init_11 : Dc E_init 11 (.putfield 15) 3 14 := ⟨by decide +kernel, rfl⟩
theorem dE_init_14 : Dc E_init 14 (.aload_n 0) 1 15 := ⟨by decide +kernel, rfl⟩
theorem dE_init_15 : Dc E_init 15 (.bipush 40) 2 17 := ⟨by decide +kernel, rfl⟩
theorem dE_init_17 : Dc E_init 17 (.newarray .int) 2 19 := ⟨by decide +kernel, rfl⟩
theorem dE_init_19 : Dc E_init 19 (.putfield 18) 3 22 := ⟨by decide +kernel, rfl⟩
theorem dE_init_22 : Dc E_init 22 (.return_) 1 23 := ⟨by decide +kernel, rfl⟩
theorem dS_set_0 : Dc S_set 0 (.iload_n 1) 1 1 := ⟨by decide +kernel, rfl⟩
theorem dS_set_1 : Dc S_set 1 (.iload_n 2) 1 2 := ⟨by decide +kernel, rfl⟩
theorem dS_set_2 : Dc S_set 2 (.invokestatic 57) 3 5 := ⟨by decide +kernel, rfl⟩
theorem dS_set_5 : Dc S_set 5 (.ifCond .ne 9) 3 8 := ⟨by decide +kernel, rfl⟩
theorem dS_set_8 : Dc S_set 8 (.aload_n 0) 1 9 := ⟨by decide +kernel, rfl⟩
theorem dS_set_9 : Dc S_set 9 (.iconst 0) 1 10 := ⟨by decide +kernel, rfl⟩
theorem dS_set_10 : Dc S_set 10 (.invokevirtual 61) 3 13 := ⟨by decide +kernel, rfl⟩
theorem dS_set_13 : Dc S_set 13 (.ireturn) 1 14 := ⟨by decide +kernel, rfl⟩
theorem dS_set_14 : Dc S_set 14 (.aload_n 0) 1 15 := ⟨by decide +kernel, rfl⟩
theorem dS_set_15 : Dc S_set 15 (.getfield 12) 3 18 := ⟨by decide +kernel, rfl⟩
theorem dS_set_18 : Dc S_set 18 (.iload_n 1) 1 19 := ⟨by decide +kernel, rfl⟩
theorem dS_set_19 : Dc S_set 19 (.invokevirtual 65) 3 22 := ⟨by decide +kernel, rfl⟩
theorem dS_set_22 : Dc S_set 22 (.istore_n 3) 1 23 := ⟨by decide +kernel, rfl⟩
theorem dS_set_23 : Dc S_set 23 (.iload_n 1) 1 24 := ⟨by decide +kernel, rfl⟩
theorem dS_set_24 : Dc S_set 24 (.tableswitch 61 0 2 #[28, 39, 50]) 28 52 := ⟨by decide +kernel, rfl⟩
theorem dS_set_52 : Dc S_set 52 (.aload_n 0) 1 53 := ⟨by decide +kernel, rfl⟩
theorem dS_set_53 : Dc S_set 53 (.getfield 12) 3 56 := ⟨by decide +kernel, rfl⟩
theorem dS_set_56 : Dc S_set 56 (.iload_n 2) 1 57 := ⟨by decide +kernel, rfl⟩
theorem dS_set_57 : Dc S_set 57 (.putfield 68) 3 60 := ⟨by decide +kernel, rfl⟩
theorem dS_set_60 : Dc S_set 60 (.goto 33) 3 63 := ⟨by decide +kernel, rfl⟩
theorem dS_set_63 : Dc S_set 63 (.aload_n 0) 1 64 := ⟨by decide +kernel, rfl⟩
theorem dS_set_64 : Dc S_set 64 (.getfield 12) 3 67 := ⟨by decide +kernel, rfl⟩
theorem dS_set_67 : Dc S_set 67 (.iload_n 2) 1 68 := ⟨by decide +kernel, rfl⟩
theorem dS_set_68 : Dc S_set 68 (.invokevirtual 71) 3 71 := ⟨by decide +kernel, rfl⟩
theorem dS_set_71 : Dc S_set 71 (.goto 22) 3 74 := ⟨by decide +kernel, rfl⟩
theorem dS_set_74 : Dc S_set 74 (.aload_n 0) 1 75 := ⟨by decide +kernel, rfl⟩
theorem dS_set_75 : Dc S_set 75 (.getfield 12) 3 78 := ⟨by decide +kernel, rfl⟩
theorem dS_set_78 : Dc S_set 78 (.iload_n 2) 1 79 := ⟨by decide +kernel, rfl⟩
theorem dS_set_79 : Dc S_set 79 (.putfield 75) 3 82 := ⟨by decide +kernel, rfl⟩
theorem dS_set_82 : Dc S_set 82 (.goto 11) 3 85 := ⟨by decide +kernel, rfl⟩
theorem dS_set_85 : Dc S_set 85 (.aload_n 0) 1 86 := ⟨by decide +kernel, rfl⟩
theorem dS_set_86 : Dc S_set 86 (.getfield 12) 3 89 := ⟨by decide +kernel, rfl⟩
theorem dS_set_89 : Dc S_set 89 (.iload_n 2) 1 90 := ⟨by decide +kernel, rfl⟩
theorem dS_set_90 : Dc S_set 90 (.putfield 78) 3 93 := ⟨by decide +kernel, rfl⟩
theorem dS_set_93 : Dc S_set 93 (.iload_n 3) 1 94 := ⟨by decide +kernel, rfl⟩
theorem dS_set_94 : Dc S_set 94 (.ireturn) 1 95 := ⟨by decide +kernel, rfl⟩
theorem dS_canBeSet_0 : Dc S_canBeSet 0 (.iload_n 0) 1 1 := ⟨by decide +kernel, rfl⟩
theorem dS_canBeSet_1 : Dc S_canBeSet 1 (.tableswitch 61 0 3 #[31, 31, 36, 54]) 31 32 := ⟨by decide +kernel, rfl⟩
theorem dS_canBeSet_32 : Dc S_canBeSet 32 (.iload_n 1) 1 33 := ⟨by decide +kernel, rfl⟩
theorem dS_canBeSet_33 : Dc S_canBeSet 33 (.invokestatic 89) 3 36 := ⟨by decide +kernel, rfl⟩
theorem dS_canBeSet_36 : Dc S_canBeSet 36 (.ireturn) 1 37 := ⟨by decide +kernel, rfl⟩
theorem dS_canBeSet_37 : Dc S_canBeSet 37 (.iload_n 1) 1 38 := ⟨by decide +kernel, rfl⟩
theorem dS_canBeSet_38 : Dc S_canBeSet 38 (.invokestatic 89) 3 41 := ⟨by decide +kernel, rfl⟩
theorem dS_canBeSet_41 : Dc S_canBeSet 41 (.ifCond .ne 8) 3 44 := ⟨by decide +kernel, rfl⟩
theorem dS_canBeSet_44 : Dc S_canBeSet 44 (.iload_n 1) 1 45 := ⟨by decide +kernel, rfl⟩
theorem dS_canBeSet_45 : Dc S_canBeSet 45 (.iconst (-1)) 1 46 := ⟨by decide +kernel, rfl⟩
theorem dS_canBeSet_46 : Dc S_canBeSet 46 (.if_icmp .ne 7) 3 49 := ⟨by decide +kernel, rfl⟩
theorem dS_canBeSet_49 : Dc S_canBeSet 49 (.iconst 1) 1 50 := ⟨by decide +kernel, rfl⟩
theorem dS_canBeSet_50 : Dc S_canBeSet 50 (.goto 4) 3 53 := ⟨by decide +kernel, rfl⟩
theorem dS_canBeSet_53 : Dc S_canBeSet 53 (.iconst 0) 1 54 := ⟨by decide +kernel, rfl⟩
theorem dS_canBeSet_54 : Dc S_canBeSet 54 (.ireturn) 1 55 := ⟨by decide +kernel, rfl⟩
theorem dS_canBeSet_55 : Dc S_canBeSet 55 (.iload_n 1) 1 56 := ⟨by decide +kernel, rfl⟩
theorem dS_canBeSet_56 : Dc S_canBeSet 56 (.iconst 0) 1 57 := ⟨by decide +kernel, rfl⟩
theorem dS_canBeSet_57 : Dc S_canBeSet 57 (.iconst 5) 1 58 := ⟨by decide +kernel, rfl⟩
theorem dS_canBeSet_58 : Dc S_canBeSet 58 (.invokestatic 81) 3 61 := ⟨by decide +kernel, rfl⟩
theorem dS_canBeSet_61 : Dc S_canBeSet 61 (.ireturn) 1 62 := ⟨by decide +kernel, rfl⟩
theorem dS_canBeSet_62 : Dc S_canBeSet 62 (.iconst 0) 1 63 := ⟨by decide +kernel, rfl⟩
theorem dS_canBeSet_63 : Dc S_canBeSet 63 (.ireturn) 1 64 := ⟨by decide +kernel, rfl⟩
theorem dS_isCell_0 : Dc S_isCell 0 (.iload_n 0) 1 1 := ⟨by decide +kernel, rfl⟩
theorem dS_isCell_1 : Dc S_isCell 1 (.iconst 0) 1 2 := ⟨by decide +kernel, rfl⟩
theorem dS_isCell_2 : Dc S_isCell 2 (.bipush 15) 2 4 := ⟨by decide +kernel, rfl⟩
theorem dS_isCell_4 : Dc S_isCell 4 (.invokestatic 81) 3 7 := ⟨by decide +kernel, rfl⟩
theorem dS_isCell_7 : Dc S_isCell 7 (.ireturn) 1 8 := ⟨by decide +kernel, rfl⟩
theorem dS_isWithin_0 : Dc S_isWithin 0 (.iload_n 0) 1 1 := ⟨by decide +kernel, rfl⟩
theorem dS_isWithin_1 : Dc S_isWithin 1 (.iload_n 1) 1 2 := ⟨by decide +kernel, rfl⟩
theorem dS_isWithin_2 : Dc S_isWithin 2 (.if_icmp .lt 12) 3 5 := ⟨by decide +kernel, rfl⟩
theorem dS_isWithin_5 : Dc S_isWithin 5 (.iload_n 0) 1 6 := ⟨by decide +kernel, rfl⟩
theorem dS_isWithin_6 : Dc S_isWithin 6 (.iload_n 2) 1 7 := ⟨by decide +kernel, rfl⟩
theorem dS_isWithin_7 : Dc S_isWithin 7 (.if_icmp .gt 7) 3 10 := ⟨by decide +kernel, rfl⟩
theorem dS_isWithin_10 : Dc S_isWithin 10 (.iconst 1) 1 11 := ⟨by decide +kernel, rfl⟩
theorem dS_isWithin_11 : Dc S_isWithin 11 (.goto 4) 3 14 := ⟨by decide +kernel, rfl⟩
theorem dS_isWithin_14 : Dc S_isWithin 14 (.iconst 0) 1 15 := ⟨by decide +kernel, rfl⟩
theorem dS_isWithin_15 : Dc S_isWithin 15 (.ireturn) 1 16 := ⟨by decide +kernel, rfl⟩
theorem dS_finding_0 : Dc S_finding 0 (.aload_n 0) 1 1 := ⟨by decide +kernel, rfl⟩
theorem dS_finding_1 : Dc S_finding 1 (.getfield 54) 3 4 := ⟨by decide +kernel, rfl⟩
theorem dS_finding_4 : Dc S_finding 4 (.iload_n 1) 1 5 := ⟨by decide +kernel, rfl⟩
theorem dS_finding_5 : Dc S_finding 5 (.dup2) 1 6 := ⟨by decide +kernel, rfl⟩
theorem dS_finding_6 : Dc S_finding 6 (.iaload) 1 7 := ⟨by decide +kernel, rfl⟩
theorem dS_finding_7 : Dc S_finding 7 (.iconst 1) 1 8 := ⟨by decide +kernel, rfl⟩
theorem dS_finding_8 : Dc S_finding 8 (.iadd) 1 9 := ⟨by decide +kernel, rfl⟩
theorem dS_finding_9 : Dc S_finding 9 (.iastore) 1 10 := ⟨by decide +kernel, rfl⟩
theorem dS_finding_10 : Dc S_finding 10 (.ldc 243) 2 12 := ⟨by decide +kernel, rfl⟩
theorem dS_finding_12 : Dc S_finding 12 (.iload_n 1) 1 13 := ⟨by decide +kernel, rfl⟩
theorem dS_finding_13 : Dc S_finding 13 (.isub) 1 14 := ⟨by decide +kernel, rfl⟩
theorem dS_finding_14 : Dc S_finding 14 (.ireturn) 1 15 := ⟨by decide +kernel, rfl⟩
theorem dH_feature_0 : Dc H_feature 0 (.iload_n 1) 1 1 := ⟨by decide +kernel, rfl⟩
theorem dH_feature_1 : Dc H_feature 1 (.tableswitch 51 0 3 #[31, 36, 41, 46]) 31 32 := ⟨by decide +kernel, rfl⟩
theorem dH_feature_32 : Dc H_feature 32 (.aload_n 0) 1 33 := ⟨by decide +kernel, rfl⟩
theorem dH_feature_33 : Dc H_feature 33 (.getfield 9) 3 36 := ⟨by decide +kernel, rfl⟩
theorem dH_feature_36 : Dc H_feature 36 (.ireturn) 1 37 := ⟨by decide +kernel, rfl⟩
theorem dH_feature_37 : Dc H_feature 37 (.aload_n 0) 1 38 := ⟨by decide +kernel, rfl⟩
theorem dH_feature_38 : Dc H_feature 38 (.getfield 15) 3 41 := ⟨by decide +kernel, rfl⟩
theorem dH_feature_41 : Dc H_feature 41 (.ireturn) 1 42 := ⟨by decide +kernel, rfl⟩
theorem dH_feature_42 : Dc H_feature 42 (.aload_n 0) 1 43 := ⟨by decide +kernel, rfl⟩
theorem dH_feature_43 : Dc H_feature 43 (.getfield 21) 3 46 := ⟨by decide +kernel, rfl⟩
theorem dH_feature_46 : Dc H_feature 46 (.ireturn) 1 47 := ⟨by decide +kernel, rfl⟩
theorem dH_feature_47 : Dc H_feature 47 (.aload_n 0) 1 48 := ⟨by decide +kernel, rfl⟩
theorem dH_feature_48 : Dc H_feature 48 (.getfield 24) 3 51 := ⟨by decide +kernel, rfl⟩
theorem dH_feature_51 : Dc H_feature 51 (.ireturn) 1 52 := ⟨by decide +kernel, rfl⟩
theorem dH_feature_52 : Dc H_feature 52 (.aload_n 0) 1 53 := ⟨by decide +kernel, rfl⟩
theorem dH_feature_53 : Dc H_feature 53 (.getfield 18) 3 56 := ⟨by decide +kernel, rfl⟩
theorem dH_feature_56 : Dc H_feature 56 (.ireturn) 1 57 := ⟨by decide +kernel, rfl⟩
theorem dH_moveKeeper_0 : Dc H_moveKeeper 0 (.aload_n 0) 1 1 := ⟨by decide +kernel, rfl⟩
theorem dH_moveKeeper_1 : Dc H_moveKeeper 1 (.iload_n 1) 1 2 := ⟨by decide +kernel, rfl⟩
theorem dH_moveKeeper_2 : Dc H_moveKeeper 2 (.putfield 15) 3 5 := ⟨by decide +kernel, rfl⟩
theorem dH_moveKeeper_5 : Dc H_moveKeeper 5 (.aload_n 0) 1 6 := ⟨by decide +kernel, rfl⟩
theorem dH_moveKeeper_6 : Dc H_moveKeeper 6 (.aload_n 0) 1 7 := ⟨by decide +kernel, rfl⟩
theorem dH_moveKeeper_7 : Dc H_moveKeeper 7 (.getfield 18) 3 10 := ⟨by decide +kernel, rfl⟩
theorem dH_moveKeeper_10 : Dc H_moveKeeper 10 (.invokevirtual 59) 3 13 := ⟨by decide +kernel, rfl⟩
theorem dH_moveKeeper_13 : Dc H_moveKeeper 13 (.ifCond .eq 13) 3 16 := ⟨by decide +kernel, rfl⟩
theorem dH_moveKeeper_16 : Dc H_moveKeeper 16 (.aload_n 0) 1 17 := ⟨by decide +kernel, rfl⟩
theorem dH_moveKeeper_17 : Dc H_moveKeeper 17 (.getfield 37) 3 20 := ⟨by decide +kernel, rfl⟩
theorem dH_moveKeeper_20 : Dc H_moveKeeper 20 (.aload_n 0) 1 21 := ⟨by decide +kernel, rfl⟩
theorem dH_moveKeeper_21 : Dc H_moveKeeper 21 (.getfield 18) 3 24 := ⟨by decide +kernel, rfl⟩
theorem dH_moveKeeper_24 : Dc H_moveKeeper 24 (.iload_n 1) 1 25 := ⟨by decide +kernel, rfl⟩
theorem dH_moveKeeper_25 : Dc H_moveKeeper 25 (.iastore) 1 26 := ⟨by decide +kernel, rfl⟩
theorem dH_moveKeeper_26 : Dc H_moveKeeper 26 (.return_) 1 27 := ⟨by decide +kernel, rfl⟩
theorem dH_has_0 : Dc H_has 0 (.iload_n 1) 1 1 := ⟨by decide +kernel, rfl⟩
theorem dH_has_1 : Dc H_has 1 (.ifCond .lt 15) 3 4 := ⟨by decide +kernel, rfl⟩
theorem dH_has_4 : Dc H_has 4 (.iload_n 1) 1 5 := ⟨by decide +kernel, rfl⟩
theorem dH_has_5 : Dc H_has 5 (.aload_n 0) 1 6 := ⟨by decide +kernel, rfl⟩
theorem dH_has_6 : Dc H_has 6 (.getfield 30) 3 9 := ⟨by decide +kernel, rfl⟩
theorem dH_has_9 : Dc H_has 9 (.if_icmp .ge 7) 3 12 := ⟨by decide +kernel, rfl⟩
theorem dH_has_12 : Dc H_has 12 (.iconst 1) 1 13 := ⟨by decide +kernel, rfl⟩
theorem dH_has_13 : Dc H_has 13 (.goto 4) 3 16 := ⟨by decide +kernel, rfl⟩
theorem dH_has_16 : Dc H_has 16 (.iconst 0) 1 17 := ⟨by decide +kernel, rfl⟩
theorem dH_has_17 : Dc H_has 17 (.ireturn) 1 18 := ⟨by decide +kernel, rfl⟩
theorem dS_hill_0 : Dc S_hill 0 (.iload_n 1) 1 1 := ⟨by decide +kernel, rfl⟩
theorem dS_hill_1 : Dc S_hill 1 (.iconst 0) 1 2 := ⟨by decide +kernel, rfl⟩
theorem dS_hill_2 : Dc S_hill 2 (.iconst 4) 1 3 := ⟨by decide +kernel, rfl⟩
theorem dS_hill_3 : Dc S_hill 3 (.invokestatic 81) 3 6 := ⟨by decide +kernel, rfl⟩
theorem dS_hill_6 : Dc S_hill 6 (.ifCond .ne 9) 3 9 := ⟨by decide +kernel, rfl⟩
theorem dS_hill_9 : Dc S_hill 9 (.aload_n 0) 1 10 := ⟨by decide +kernel, rfl⟩
theorem dS_hill_10 : Dc S_hill 10 (.iconst 0) 1 11 := ⟨by decide +kernel, rfl⟩
theorem dS_hill_11 : Dc S_hill 11 (.invokevirtual 61) 3 14 := ⟨by decide +kernel, rfl⟩
theorem dS_hill_14 : Dc S_hill 14 (.ireturn) 1 15 := ⟨by decide +kernel, rfl⟩
theorem dS_hill_15 : Dc S_hill 15 (.aload_n 0) 1 16 := ⟨by decide +kernel, rfl⟩
theorem dS_hill_16 : Dc S_hill 16 (.getfield 12) 3 19 := ⟨by decide +kernel, rfl⟩
theorem dS_hill_19 : Dc S_hill 19 (.iload_n 1) 1 20 := ⟨by decide +kernel, rfl⟩
theorem dS_hill_20 : Dc S_hill 20 (.invokevirtual 65) 3 23 := ⟨by decide +kernel, rfl⟩
theorem dS_hill_23 : Dc S_hill 23 (.ireturn) 1 24 := ⟨by decide +kernel, rfl⟩
theorem dS_sheep_0 : Dc S_sheep 0 (.iload_n 1) 1 1 := ⟨by decide +kernel, rfl⟩
theorem dS_sheep_1 : Dc S_sheep 1 (.invokestatic 85) 3 4 := ⟨by decide +kernel, rfl⟩
theorem dS_sheep_4 : Dc S_sheep 4 (.ifCond .eq 10) 3 7 := ⟨by decide +kernel, rfl⟩
theorem dS_sheep_7 : Dc S_sheep 7 (.iload_n 2) 1 8 := ⟨by decide +kernel, rfl⟩
theorem dS_sheep_8 : Dc S_sheep 8 (.invokestatic 89) 3 11 := ⟨by decide +kernel, rfl⟩
theorem dS_sheep_11 : Dc S_sheep 11 (.ifCond .ne 9) 3 14 := ⟨by decide +kernel, rfl⟩
theorem dS_sheep_14 : Dc S_sheep 14 (.aload_n 0) 1 15 := ⟨by decide +kernel, rfl⟩
theorem dS_sheep_15 : Dc S_sheep 15 (.iconst 0) 1 16 := ⟨by decide +kernel, rfl⟩
theorem dS_sheep_16 : Dc S_sheep 16 (.invokevirtual 61) 3 19 := ⟨by decide +kernel, rfl⟩
theorem dS_sheep_19 : Dc S_sheep 19 (.ireturn) 1 20 := ⟨by decide +kernel, rfl⟩
theorem dS_sheep_20 : Dc S_sheep 20 (.aload_n 0) 1 21 := ⟨by decide +kernel, rfl⟩
theorem dS_sheep_21 : Dc S_sheep 21 (.getfield 12) 3 24 := ⟨by decide +kernel, rfl⟩
theorem dS_sheep_24 : Dc S_sheep 24 (.invokevirtual 92) 3 27 := ⟨by decide +kernel, rfl⟩
theorem dS_sheep_27 : Dc S_sheep 27 (.ifCond .eq 9) 3 30 := ⟨by decide +kernel, rfl⟩
theorem dS_sheep_30 : Dc S_sheep 30 (.aload_n 0) 1 31 := ⟨by decide +kernel, rfl⟩
theorem dS_sheep_31 : Dc S_sheep 31 (.iconst 1) 1 32 := ⟨by decide +kernel, rfl⟩
theorem dS_sheep_32 : Dc S_sheep 32 (.invokevirtual 61) 3 35 := ⟨by decide +kernel, rfl⟩
theorem dS_sheep_35 : Dc S_sheep 35 (.ireturn) 1 36 := ⟨by decide +kernel, rfl⟩
theorem dS_sheep_36 : Dc S_sheep 36 (.aload_n 0) 1 37 := ⟨by decide +kernel, rfl⟩
theorem dS_sheep_37 : Dc S_sheep 37 (.getfield 12) 3 40 := ⟨by decide +kernel, rfl⟩
theorem dS_sheep_40 : Dc S_sheep 40 (.iload_n 1) 1 41 := ⟨by decide +kernel, rfl⟩
theorem dS_sheep_41 : Dc S_sheep 41 (.iload_n 2) 1 42 := ⟨by decide +kernel, rfl⟩
theorem dS_sheep_42 : Dc S_sheep 42 (.invokevirtual 96) 3 45 := ⟨by decide +kernel, rfl⟩
theorem dS_sheep_45 : Dc S_sheep 45 (.ireturn) 1 46 := ⟨by decide +kernel, rfl⟩
theorem dS_isKind_0 : Dc S_isKind 0 (.iload_n 0) 1 1 := ⟨by decide +kernel, rfl⟩
theorem dS_isKind_1 : Dc S_isKind 1 (.iconst 0) 1 2 := ⟨by decide +kernel, rfl⟩
theorem dS_isKind_2 : Dc S_isKind 2 (.bipush 6) 2 4 := ⟨by decide +kernel, rfl⟩
theorem dS_isKind_4 : Dc S_isKind 4 (.invokestatic 81) 3 7 := ⟨by decide +kernel, rfl⟩
theorem dS_isKind_7 : Dc S_isKind 7 (.ireturn) 1 8 := ⟨by decide +kernel, rfl⟩
theorem dH_isFull_0 : Dc H_isFull 0 (.aload_n 0) 1 1 := ⟨by decide +kernel, rfl⟩
theorem dH_isFull_1 : Dc H_isFull 1 (.getfield 30) 3 4 := ⟨by decide +kernel, rfl⟩
theorem dH_isFull_4 : Dc H_isFull 4 (.bipush 8) 2 6 := ⟨by decide +kernel, rfl⟩
theorem dH_isFull_6 : Dc H_isFull 6 (.if_icmp .lt 7) 3 9 := ⟨by decide +kernel, rfl⟩
theorem dH_isFull_9 : Dc H_isFull 9 (.iconst 1) 1 10 := ⟨by decide +kernel, rfl⟩
theorem dH_isFull_10 : Dc H_isFull 10 (.goto 4) 3 13 := ⟨by decide +kernel, rfl⟩
theorem dH_isFull_13 : Dc H_isFull 13 (.iconst 0) 1 14 := ⟨by decide +kernel, rfl⟩
theorem dH_isFull_14 : Dc H_isFull 14 (.ireturn) 1 15 := ⟨by decide +kernel, rfl⟩
theorem dH_add_0 : Dc H_add 0 (.aload_n 0) 1 1 := ⟨by decide +kernel, rfl⟩
theorem dH_add_1 : Dc H_add 1 (.invokevirtual 55) 3 4 := ⟨by decide +kernel, rfl⟩
theorem dH_add_4 : Dc H_add 4 (.ifCond .eq 5) 3 7 := ⟨by decide +kernel, rfl⟩
theorem dH_add_7 : Dc H_add 7 (.iconst (-1)) 1 8 := ⟨by decide +kernel, rfl⟩
theorem dH_add_8 : Dc H_add 8 (.ireturn) 1 9 := ⟨by decide +kernel, rfl⟩
theorem dH_add_9 : Dc H_add 9 (.aload_n 0) 1 10 := ⟨by decide +kernel, rfl⟩
theorem dH_add_10 : Dc H_add 10 (.getfield 30) 3 13 := ⟨by decide +kernel, rfl⟩
theorem dH_add_13 : Dc H_add 13 (.istore_n 3) 1 14 := ⟨by decide +kernel, rfl⟩
theorem dH_add_14 : Dc H_add 14 (.aload_n 0) 1 15 := ⟨by decide +kernel, rfl⟩
theorem dH_add_15 : Dc H_add 15 (.getfield 33) 3 18 := ⟨by decide +kernel, rfl⟩
theorem dH_add_18 : Dc H_add 18 (.iload_n 3) 1 19 := ⟨by decide +kernel, rfl⟩
theorem dH_add_19 : Dc H_add 19 (.iload_n 1) 1 20 := ⟨by decide +kernel, rfl⟩
theorem dH_add_20 : Dc H_add 20 (.iastore) 1 21 := ⟨by decide +kernel, rfl⟩
theorem dH_add_21 : Dc H_add 21 (.aload_n 0) 1 22 := ⟨by decide +kernel, rfl⟩
theorem dH_add_22 : Dc H_add 22 (.getfield 37) 3 25 := ⟨by decide +kernel, rfl⟩
theorem dH_add_25 : Dc H_add 25 (.iload_n 3) 1 26 := ⟨by decide +kernel, rfl⟩
theorem dH_add_26 : Dc H_add 26 (.iload_n 2) 1 27 := ⟨by decide +kernel, rfl⟩
theorem dH_add_27 : Dc H_add 27 (.iastore) 1 28 := ⟨by decide +kernel, rfl⟩
theorem dH_add_28 : Dc H_add 28 (.aload_n 0) 1 29 := ⟨by decide +kernel, rfl⟩
theorem dH_add_29 : Dc H_add 29 (.getfield 40) 3 32 := ⟨by decide +kernel, rfl⟩
theorem dH_add_32 : Dc H_add 32 (.iload_n 3) 1 33 := ⟨by decide +kernel, rfl⟩
theorem dH_add_33 : Dc H_add 33 (.iconst 0) 1 34 := ⟨by decide +kernel, rfl⟩
theorem dH_add_34 : Dc H_add 34 (.iastore) 1 35 := ⟨by decide +kernel, rfl⟩
theorem dH_add_35 : Dc H_add 35 (.aload_n 0) 1 36 := ⟨by decide +kernel, rfl⟩
theorem dH_add_36 : Dc H_add 36 (.getfield 43) 3 39 := ⟨by decide +kernel, rfl⟩
theorem dH_add_39 : Dc H_add 39 (.iload_n 3) 1 40 := ⟨by decide +kernel, rfl⟩
theorem dH_add_40 : Dc H_add 40 (.iconst 0) 1 41 := ⟨by decide +kernel, rfl⟩
theorem dH_add_41 : Dc H_add 41 (.iastore) 1 42 := ⟨by decide +kernel, rfl⟩
theorem dH_add_42 : Dc H_add 42 (.aload_n 0) 1 43 := ⟨by decide +kernel, rfl⟩
theorem dH_add_43 : Dc H_add 43 (.getfield 46) 3 46 := ⟨by decide +kernel, rfl⟩
theorem dH_add_46 : Dc H_add 46 (.iload_n 3) 1 47 := ⟨by decide +kernel, rfl⟩
theorem dH_add_47 : Dc H_add 47 (.iconst 0) 1 48 := ⟨by decide +kernel, rfl⟩
theorem dH_add_48 : Dc H_add 48 (.iastore) 1 49 := ⟨by decide +kernel, rfl⟩
theorem dH_add_49 : Dc H_add 49 (.aload_n 0) 1 50 := ⟨by decide +kernel, rfl⟩
theorem dH_add_50 : Dc H_add 50 (.iload_n 3) 1 51 := ⟨by decide +kernel, rfl⟩
theorem dH_add_51 : Dc H_add 51 (.iconst 1) 1 52 := ⟨by decide +kernel, rfl⟩
theorem dH_add_52 : Dc H_add 52 (.iadd) 1 53 := ⟨by decide +kernel, rfl⟩
theorem dH_add_53 : Dc H_add 53 (.putfield 30) 3 56 := ⟨by decide +kernel, rfl⟩
theorem dH_add_56 : Dc H_add 56 (.iload_n 3) 1 57 := ⟨by decide +kernel, rfl⟩
theorem dH_add_57 : Dc H_add 57 (.ireturn) 1 58 := ⟨by decide +kernel, rfl⟩
theorem dS_of_0 : Dc S_of 0 (.aload_n 0) 1 1 := ⟨by decide +kernel, rfl⟩
theorem dS_of_1 : Dc S_of 1 (.getfield 12) 3 4 := ⟨by decide +kernel, rfl⟩
theorem dS_of_4 : Dc S_of 4 (.iload_n 1) 1 5 := ⟨by decide +kernel, rfl⟩
theorem dS_of_5 : Dc S_of 5 (.invokevirtual 100) 3 8 := ⟨by decide +kernel, rfl⟩
theorem dS_of_8 : Dc S_of 8 (.ifCond .eq 13) 3 11 := ⟨by decide +kernel, rfl⟩
theorem dS_of_11 : Dc S_of 11 (.iload_n 2) 1 12 := ⟨by decide +kernel, rfl⟩
theorem dS_of_12 : Dc S_of 12 (.iconst 0) 1 13 := ⟨by decide +kernel, rfl⟩
theorem dS_of_13 : Dc S_of 13 (.bipush 9) 2 15 := ⟨by decide +kernel, rfl⟩
theorem dS_of_15 : Dc S_of 15 (.invokestatic 81) 3 18 := ⟨by decide +kernel, rfl⟩
theorem dS_of_18 : Dc S_of 18 (.ifCond .ne 9) 3 21 := ⟨by decide +kernel, rfl⟩
theorem dS_of_21 : Dc S_of 21 (.aload_n 0) 1 22 := ⟨by decide +kernel, rfl⟩
theorem dS_of_22 : Dc S_of 22 (.iconst 0) 1 23 := ⟨by decide +kernel, rfl⟩
theorem dS_of_23 : Dc S_of 23 (.invokevirtual 61) 3 26 := ⟨by decide +kernel, rfl⟩
theorem dS_of_26 : Dc S_of 26 (.ireturn) 1 27 := ⟨by decide +kernel, rfl⟩
theorem dS_of_27 : Dc S_of 27 (.aload_n 0) 1 28 := ⟨by decide +kernel, rfl⟩
theorem dS_of_28 : Dc S_of 28 (.getfield 12) 3 31 := ⟨by decide +kernel, rfl⟩
theorem dS_of_31 : Dc S_of 31 (.iload_n 1) 1 32 := ⟨by decide +kernel, rfl⟩
theorem dS_of_32 : Dc S_of 32 (.iload_n 2) 1 33 := ⟨by decide +kernel, rfl⟩
theorem dS_of_33 : Dc S_of 33 (.invokevirtual 103) 3 36 := ⟨by decide +kernel, rfl⟩
theorem dS_of_36 : Dc S_of 36 (.ireturn) 1 37 := ⟨by decide +kernel, rfl⟩
theorem dH_trait_0 : Dc H_trait 0 (.iload_n 2) 1 1 := ⟨by decide +kernel, rfl⟩
theorem dH_trait_1 : Dc H_trait 1 (.tableswitch 118 0 8 #[51, 58, 65, 72, 79, 86, 92, 98, 108]) 51 52 := ⟨by decide +kernel, rfl⟩
theorem dH_trait_52 : Dc H_trait 52 (.aload_n 0) 1 53 := ⟨by decide +kernel, rfl⟩
theorem dH_trait_53 : Dc H_trait 53 (.getfield 33) 3 56 := ⟨by decide +kernel, rfl⟩
theorem dH_trait_56 : Dc H_trait 56 (.iload_n 1) 1 57 := ⟨by decide +kernel, rfl⟩
theorem dH_trait_57 : Dc H_trait 57 (.iaload) 1 58 := ⟨by decide +kernel, rfl⟩
theorem dH_trait_58 : Dc H_trait 58 (.ireturn) 1 59 := ⟨by decide +kernel, rfl⟩
theorem dH_trait_59 : Dc H_trait 59 (.aload_n 0) 1 60 := ⟨by decide +kernel, rfl⟩
theorem dH_trait_60 : Dc H_trait 60 (.getfield 37) 3 63 := ⟨by decide +kernel, rfl⟩
theorem dH_trait_63 : Dc H_trait 63 (.iload_n 1) 1 64 := ⟨by decide +kernel, rfl⟩
theorem dH_trait_64 : Dc H_trait 64 (.iaload) 1 65 := ⟨by decide +kernel, rfl⟩
theorem dH_trait_65 : Dc H_trait 65 (.ireturn) 1 66 := ⟨by decide +kernel, rfl⟩
theorem dH_trait_66 : Dc H_trait 66 (.aload_n 0) 1 67 := ⟨by decide +kernel, rfl⟩
theorem dH_trait_67 : Dc H_trait 67 (.getfield 40) 3 70 := ⟨by decide +kernel, rfl⟩
theorem dH_trait_70 : Dc H_trait 70 (.iload_n 1) 1 71 := ⟨by decide +kernel, rfl⟩
theorem dH_trait_71 : Dc H_trait 71 (.iaload) 1 72 := ⟨by decide +kernel, rfl⟩
theorem dH_trait_72 : Dc H_trait 72 (.ireturn) 1 73 := ⟨by decide +kernel, rfl⟩
theorem dH_trait_73 : Dc H_trait 73 (.aload_n 0) 1 74 := ⟨by decide +kernel, rfl⟩
theorem dH_trait_74 : Dc H_trait 74 (.getfield 43) 3 77 := ⟨by decide +kernel, rfl⟩
theorem dH_trait_77 : Dc H_trait 77 (.iload_n 1) 1 78 := ⟨by decide +kernel, rfl⟩
theorem dH_trait_78 : Dc H_trait 78 (.iaload) 1 79 := ⟨by decide +kernel, rfl⟩
theorem dH_trait_79 : Dc H_trait 79 (.ireturn) 1 80 := ⟨by decide +kernel, rfl⟩
theorem dH_trait_80 : Dc H_trait 80 (.aload_n 0) 1 81 := ⟨by decide +kernel, rfl⟩
theorem dH_trait_81 : Dc H_trait 81 (.getfield 46) 3 84 := ⟨by decide +kernel, rfl⟩
theorem dH_trait_84 : Dc H_trait 84 (.iload_n 1) 1 85 := ⟨by decide +kernel, rfl⟩
theorem dH_trait_85 : Dc H_trait 85 (.iaload) 1 86 := ⟨by decide +kernel, rfl⟩
theorem dH_trait_86 : Dc H_trait 86 (.ireturn) 1 87 := ⟨by decide +kernel, rfl⟩
theorem dH_trait_87 : Dc H_trait 87 (.aload_n 0) 1 88 := ⟨by decide +kernel, rfl⟩
theorem dH_trait_88 : Dc H_trait 88 (.iload_n 1) 1 89 := ⟨by decide +kernel, rfl⟩
theorem dH_trait_89 : Dc H_trait 89 (.invokevirtual 63) 3 92 := ⟨by decide +kernel, rfl⟩
theorem dH_trait_92 : Dc H_trait 92 (.ireturn) 1 93 := ⟨by decide +kernel, rfl⟩
theorem dH_trait_93 : Dc H_trait 93 (.aload_n 0) 1 94 := ⟨by decide +kernel, rfl⟩
theorem dH_trait_94 : Dc H_trait 94 (.iload_n 1) 1 95 := ⟨by decide +kernel, rfl⟩
theorem dH_trait_95 : Dc H_trait 95 (.invokevirtual 67) 3 98 := ⟨by decide +kernel, rfl⟩
theorem dH_trait_98 : Dc H_trait 98 (.ireturn) 1 99 := ⟨by decide +kernel, rfl⟩
theorem dH_trait_99 : Dc H_trait 99 (.aload_n 0) 1 100 := ⟨by decide +kernel, rfl⟩
theorem dH_trait_100 : Dc H_trait 100 (.getfield 33) 3 103 := ⟨by decide +kernel, rfl⟩
theorem dH_trait_103 : Dc H_trait 103 (.iload_n 1) 1 104 := ⟨by decide +kernel, rfl⟩
theorem dH_trait_104 : Dc H_trait 104 (.iaload) 1 105 := ⟨by decide +kernel, rfl⟩
theorem dH_trait_105 : Dc H_trait 105 (.invokestatic 70) 3 108 := ⟨by decide +kernel, rfl⟩
theorem dH_trait_108 : Dc H_trait 108 (.ireturn) 1 109 := ⟨by decide +kernel, rfl⟩
theorem dH_trait_109 : Dc H_trait 109 (.aload_n 0) 1 110 := ⟨by decide +kernel, rfl⟩
theorem dH_trait_110 : Dc H_trait 110 (.getfield 33) 3 113 := ⟨by decide +kernel, rfl⟩
theorem dH_trait_113 : Dc H_trait 113 (.iload_n 1) 1 114 := ⟨by decide +kernel, rfl⟩
theorem dH_trait_114 : Dc H_trait 114 (.iaload) 1 115 := ⟨by decide +kernel, rfl⟩
theorem dH_trait_115 : Dc H_trait 115 (.invokestatic 73) 3 118 := ⟨by decide +kernel, rfl⟩
theorem dH_trait_118 : Dc H_trait 118 (.ireturn) 1 119 := ⟨by decide +kernel, rfl⟩
theorem dH_trait_119 : Dc H_trait 119 (.aload_n 0) 1 120 := ⟨by decide +kernel, rfl⟩
theorem dH_trait_120 : Dc H_trait 120 (.getfield 33) 3 123 := ⟨by decide +kernel, rfl⟩
theorem dH_trait_123 : Dc H_trait 123 (.iload_n 1) 1 124 := ⟨by decide +kernel, rfl⟩
theorem dH_trait_124 : Dc H_trait 124 (.iaload) 1 125 := ⟨by decide +kernel, rfl⟩
theorem dH_trait_125 : Dc H_trait 125 (.invokestatic 76) 3 128 := ⟨by decide +kernel, rfl⟩
theorem dH_trait_128 : Dc H_trait 128 (.ireturn) 1 129 := ⟨by decide +kernel, rfl⟩
theorem dH_far_0 : Dc H_far 0 (.aload_n 0) 1 1 := ⟨by decide +kernel, rfl⟩
theorem dH_far_1 : Dc H_far 1 (.getfield 37) 3 4 := ⟨by decide +kernel, rfl⟩
theorem dH_far_4 : Dc H_far 4 (.iload_n 1) 1 5 := ⟨by decide +kernel, rfl⟩
theorem dH_far_5 : Dc H_far 5 (.iaload) 1 6 := ⟨by decide +kernel, rfl⟩
theorem dH_far_6 : Dc H_far 6 (.aload_n 0) 1 7 := ⟨by decide +kernel, rfl⟩
theorem dH_far_7 : Dc H_far 7 (.getfield 9) 3 10 := ⟨by decide +kernel, rfl⟩
theorem dH_far_10 : Dc H_far 10 (.invokestatic 79) 3 13 := ⟨by decide +kernel, rfl⟩
theorem dH_far_13 : Dc H_far 13 (.ireturn) 1 14 := ⟨by decide +kernel, rfl⟩
theorem dS_distance_0 : Dc S_distance 0 (.iload_n 0) 1 1 := ⟨by decide +kernel, rfl⟩
theorem dS_distance_1 : Dc S_distance 1 (.iload_n 1) 1 2 := ⟨by decide +kernel, rfl⟩
theorem dS_distance_2 : Dc S_distance 2 (.if_icmp .ge 9) 3 5 := ⟨by decide +kernel, rfl⟩
theorem dS_distance_5 : Dc S_distance 5 (.iload_n 1) 1 6 := ⟨by decide +kernel, rfl⟩
theorem dS_distance_6 : Dc S_distance 6 (.iload_n 0) 1 7 := ⟨by decide +kernel, rfl⟩
theorem dS_distance_7 : Dc S_distance 7 (.isub) 1 8 := ⟨by decide +kernel, rfl⟩
theorem dS_distance_8 : Dc S_distance 8 (.goto 6) 3 11 := ⟨by decide +kernel, rfl⟩
theorem dS_distance_11 : Dc S_distance 11 (.iload_n 0) 1 12 := ⟨by decide +kernel, rfl⟩
theorem dS_distance_12 : Dc S_distance 12 (.iload_n 1) 1 13 := ⟨by decide +kernel, rfl⟩
theorem dS_distance_13 : Dc S_distance 13 (.isub) 1 14 := ⟨by decide +kernel, rfl⟩
theorem dS_distance_14 : Dc S_distance 14 (.ireturn) 1 15 := ⟨by decide +kernel, rfl⟩
theorem dH_strays_0 : Dc H_strays 0 (.aload_n 0) 1 1 := ⟨by decide +kernel, rfl⟩
theorem dH_strays_1 : Dc H_strays 1 (.getfield 33) 3 4 := ⟨by decide +kernel, rfl⟩
theorem dH_strays_4 : Dc H_strays 4 (.iload_n 1) 1 5 := ⟨by decide +kernel, rfl⟩
theorem dH_strays_5 : Dc H_strays 5 (.iaload) 1 6 := ⟨by decide +kernel, rfl⟩
theorem dH_strays_6 : Dc H_strays 6 (.tableswitch 88 1 6 #[38, 44, 50, 58, 78, 80]) 38 44 := ⟨by decide +kernel, rfl⟩
theorem dH_strays_44 : Dc H_strays 44 (.aload_n 0) 1 45 := ⟨by decide +kernel, rfl⟩
theorem dH_strays_45 : Dc H_strays 45 (.iload_n 1) 1 46 := ⟨by decide +kernel, rfl⟩
theorem dH_strays_46 : Dc H_strays 46 (.invokevirtual 86) 3 49 := ⟨by decide +kernel, rfl⟩
theorem dH_strays_49 : Dc H_strays 49 (.ireturn) 1 50 := ⟨by decide +kernel, rfl⟩
theorem dH_strays_50 : Dc H_strays 50 (.aload_n 0) 1 51 := ⟨by decide +kernel, rfl⟩
theorem dH_strays_51 : Dc H_strays 51 (.iload_n 1) 1 52 := ⟨by decide +kernel, rfl⟩
theorem dH_strays_52 : Dc H_strays 52 (.invokevirtual 89) 3 55 := ⟨by decide +kernel, rfl⟩
theorem dH_strays_55 : Dc H_strays 55 (.ireturn) 1 56 := ⟨by decide +kernel, rfl⟩
theorem dH_strays_56 : Dc H_strays 56 (.iconst 2) 1 57 := ⟨by decide +kernel, rfl⟩
theorem dH_strays_57 : Dc H_strays 57 (.aload_n 0) 1 58 := ⟨by decide +kernel, rfl⟩
theorem dH_strays_58 : Dc H_strays 58 (.iload_n 1) 1 59 := ⟨by decide +kernel, rfl⟩
theorem dH_strays_59 : Dc H_strays 59 (.invokevirtual 89) 3 62 := ⟨by decide +kernel, rfl⟩
theorem dH_strays_62 : Dc H_strays 62 (.imul) 1 63 := ⟨by decide +kernel, rfl⟩
theorem dH_strays_63 : Dc H_strays 63 (.ireturn) 1 64 := ⟨by decide +kernel, rfl⟩
theorem dH_strays_64 : Dc H_strays 64 (.aload_n 0) 1 65 := ⟨by decide +kernel, rfl⟩
theorem dH_strays_65 : Dc H_strays 65 (.iload_n 1) 1 66 := ⟨by decide +kernel, rfl⟩
theorem dH_strays_66 : Dc H_strays 66 (.invokevirtual 92) 3 69 := ⟨by decide +kernel, rfl⟩
theorem dH_strays_69 : Dc H_strays 69 (.ifCond .eq 7) 3 72 := ⟨by decide +kernel, rfl⟩
theorem dH_strays_72 : Dc H_strays 72 (.iconst 0) 1 73 := ⟨by decide +kernel, rfl⟩
theorem dH_strays_73 : Dc H_strays 73 (.goto 10) 3 76 := ⟨by decide +kernel, rfl⟩
theorem dH_strays_76 : Dc H_strays 76 (.iconst 2) 1 77 := ⟨by decide +kernel, rfl⟩
theorem dH_strays_77 : Dc H_strays 77 (.aload_n 0) 1 78 := ⟨by decide +kernel, rfl⟩
theorem dH_strays_78 : Dc H_strays 78 (.iload_n 1) 1 79 := ⟨by decide +kernel, rfl⟩
theorem dH_strays_79 : Dc H_strays 79 (.invokevirtual 89) 3 82 := ⟨by decide +kernel, rfl⟩
theorem dH_strays_82 : Dc H_strays 82 (.imul) 1 83 := ⟨by decide +kernel, rfl⟩
theorem dH_strays_83 : Dc H_strays 83 (.ireturn) 1 84 := ⟨by decide +kernel, rfl⟩
theorem dH_strays_84 : Dc H_strays 84 (.iconst 2) 1 85 := ⟨by decide +kernel, rfl⟩
theorem dH_strays_85 : Dc H_strays 85 (.ireturn) 1 86 := ⟨by decide +kernel, rfl⟩
theorem dH_strays_86 : Dc H_strays 86 (.aload_n 0) 1 87 := ⟨by decide +kernel, rfl⟩
theorem dH_strays_87 : Dc H_strays 87 (.iload_n 1) 1 88 := ⟨by decide +kernel, rfl⟩
theorem dH_strays_88 : Dc H_strays 88 (.invokevirtual 86) 3 91 := ⟨by decide +kernel, rfl⟩
theorem dH_strays_91 : Dc H_strays 91 (.iconst 1) 1 92 := ⟨by decide +kernel, rfl⟩
theorem dH_strays_92 : Dc H_strays 92 (.isub) 1 93 := ⟨by decide +kernel, rfl⟩
theorem dH_strays_93 : Dc H_strays 93 (.ireturn) 1 94 := ⟨by decide +kernel, rfl⟩
theorem dH_strays_94 : Dc H_strays 94 (.aload_n 0) 1 95 := ⟨by decide +kernel, rfl⟩
theorem dH_strays_95 : Dc H_strays 95 (.invokevirtual 95) 3 98 := ⟨by decide +kernel, rfl⟩
theorem dH_strays_98 : Dc H_strays 98 (.ireturn) 1 99 := ⟨by decide +kernel, rfl⟩
theorem dH_straysAsRam_0 : Dc H_straysAsRam 0 (.aload_n 0) 1 1 := ⟨by decide +kernel, rfl⟩
theorem dH_straysAsRam_1 : Dc H_straysAsRam 1 (.getfield 40) 3 4 := ⟨by decide +kernel, rfl⟩
theorem dH_straysAsRam_4 : Dc H_straysAsRam 4 (.iload_n 1) 1 5 := ⟨by decide +kernel, rfl⟩
theorem dH_straysAsRam_5 : Dc H_straysAsRam 5 (.iaload) 1 6 := ⟨by decide +kernel, rfl⟩
theorem dH_straysAsRam_6 : Dc H_straysAsRam 6 (.bipush 50) 2 8 := ⟨by decide +kernel, rfl⟩
theorem dH_straysAsRam_8 : Dc H_straysAsRam 8 (.if_icmp .lt 12) 3 11 := ⟨by decide +kernel, rfl⟩
theorem dH_straysAsRam_11 : Dc H_straysAsRam 11 (.aload_n 0) 1 12 := ⟨by decide +kernel, rfl⟩
theorem dH_straysAsRam_12 : Dc H_straysAsRam 12 (.invokevirtual 95) 3 15 := ⟨by decide +kernel, rfl⟩
theorem dH_straysAsRam_15 : Dc H_straysAsRam 15 (.iconst 1) 1 16 := ⟨by decide +kernel, rfl⟩
theorem dH_straysAsRam_16 : Dc H_straysAsRam 16 (.iadd) 1 17 := ⟨by decide +kernel, rfl⟩
theorem dH_straysAsRam_17 : Dc H_straysAsRam 17 (.goto 7) 3 20 := ⟨by decide +kernel, rfl⟩
theorem dH_straysAsRam_20 : Dc H_straysAsRam 20 (.aload_n 0) 1 21 := ⟨by decide +kernel, rfl⟩
theorem dH_straysAsRam_21 : Dc H_straysAsRam 21 (.invokevirtual 95) 3 24 := ⟨by decide +kernel, rfl⟩
theorem dH_straysAsRam_24 : Dc H_straysAsRam 24 (.ireturn) 1 25 := ⟨by decide +kernel, rfl⟩
theorem dH_straysAsSheep_0 : Dc H_straysAsSheep 0 (.aload_n 0) 1 1 := ⟨by decide +kernel, rfl⟩
theorem dH_straysAsSheep_1 : Dc H_straysAsSheep 1 (.getfield 27) 3 4 := ⟨by decide +kernel, rfl⟩
theorem dH_straysAsSheep_4 : Dc H_straysAsSheep 4 (.iconst 3) 1 5 := ⟨by decide +kernel, rfl⟩
theorem dH_straysAsSheep_5 : Dc H_straysAsSheep 5 (.irem) 1 6 := ⟨by decide +kernel, rfl⟩
theorem dH_straysAsSheep_6 : Dc H_straysAsSheep 6 (.ifCond .ne 7) 3 9 := ⟨by decide +kernel, rfl⟩
theorem dH_straysAsSheep_9 : Dc H_straysAsSheep 9 (.iconst 1) 1 10 := ⟨by decide +kernel, rfl⟩
theorem dH_straysAsSheep_10 : Dc H_straysAsSheep 10 (.goto 4) 3 13 := ⟨by decide +kernel, rfl⟩
theorem dH_straysAsSheep_13 : Dc H_straysAsSheep 13 (.iconst 0) 1 14 := ⟨by decide +kernel, rfl⟩
theorem dH_straysAsSheep_14 : Dc H_straysAsSheep 14 (.ireturn) 1 15 := ⟨by decide +kernel, rfl⟩
theorem dH_straysAsEwe_0 : Dc H_straysAsEwe 0 (.aload_n 0) 1 1 := ⟨by decide +kernel, rfl⟩
theorem dH_straysAsEwe_1 : Dc H_straysAsEwe 1 (.getfield 40) 3 4 := ⟨by decide +kernel, rfl⟩
theorem dH_straysAsEwe_4 : Dc H_straysAsEwe 4 (.iload_n 1) 1 5 := ⟨by decide +kernel, rfl⟩
theorem dH_straysAsEwe_5 : Dc H_straysAsEwe 5 (.iaload) 1 6 := ⟨by decide +kernel, rfl⟩
theorem dH_straysAsEwe_6 : Dc H_straysAsEwe 6 (.bipush 30) 2 8 := ⟨by decide +kernel, rfl⟩
theorem dH_straysAsEwe_8 : Dc H_straysAsEwe 8 (.if_icmp .lt 7) 3 11 := ⟨by decide +kernel, rfl⟩
theorem dH_straysAsEwe_11 : Dc H_straysAsEwe 11 (.iconst (-1)) 1 12 := ⟨by decide +kernel, rfl⟩
theorem dH_straysAsEwe_12 : Dc H_straysAsEwe 12 (.goto 7) 3 15 := ⟨by decide +kernel, rfl⟩
theorem dH_straysAsEwe_15 : Dc H_straysAsEwe 15 (.aload_n 0) 1 16 := ⟨by decide +kernel, rfl⟩
theorem dH_straysAsEwe_16 : Dc H_straysAsEwe 16 (.invokevirtual 95) 3 19 := ⟨by decide +kernel, rfl⟩
theorem dH_straysAsEwe_19 : Dc H_straysAsEwe 19 (.ireturn) 1 20 := ⟨by decide +kernel, rfl⟩
theorem dH_hasCompany_0 : Dc H_hasCompany 0 (.aload_n 0) 1 1 := ⟨by decide +kernel, rfl⟩
theorem dH_hasCompany_1 : Dc H_hasCompany 1 (.aload_n 0) 1 2 := ⟨by decide +kernel, rfl⟩
theorem dH_hasCompany_2 : Dc H_hasCompany 2 (.getfield 37) 3 5 := ⟨by decide +kernel, rfl⟩
theorem dH_hasCompany_5 : Dc H_hasCompany 5 (.iload_n 1) 1 6 := ⟨by decide +kernel, rfl⟩
theorem dH_hasCompany_6 : Dc H_hasCompany 6 (.iaload) 1 7 := ⟨by decide +kernel, rfl⟩
theorem dH_hasCompany_7 : Dc H_hasCompany 7 (.invokevirtual 83) 3 10 := ⟨by decide +kernel, rfl⟩
theorem dH_hasCompany_10 : Dc H_hasCompany 10 (.iconst 1) 1 11 := ⟨by decide +kernel, rfl⟩
theorem dH_hasCompany_11 : Dc H_hasCompany 11 (.iload_n 1) 1 12 := ⟨by decide +kernel, rfl⟩
theorem dH_hasCompany_12 : Dc H_hasCompany 12 (.ishl) 1 13 := ⟨by decide +kernel, rfl⟩
theorem dH_hasCompany_13 : Dc H_hasCompany 13 (.if_icmp .eq 7) 3 16 := ⟨by decide +kernel, rfl⟩
theorem dH_hasCompany_16 : Dc H_hasCompany 16 (.iconst 1) 1 17 := ⟨by decide +kernel, rfl⟩
theorem dH_hasCompany_17 : Dc H_hasCompany 17 (.goto 4) 3 20 := ⟨by decide +kernel, rfl⟩
theorem dH_hasCompany_20 : Dc H_hasCompany 20 (.iconst 0) 1 21 := ⟨by decide +kernel, rfl⟩
theorem dH_hasCompany_21 : Dc H_hasCompany 21 (.ireturn) 1 22 := ⟨by decide +kernel, rfl⟩
theorem dH_sheepAt_0 : Dc H_sheepAt 0 (.iconst 0) 1 1 := ⟨by decide +kernel, rfl⟩
theorem dH_sheepAt_1 : Dc H_sheepAt 1 (.istore_n 2) 1 2 := ⟨by decide +kernel, rfl⟩
theorem dH_sheepAt_2 : Dc H_sheepAt 2 (.iconst 0) 1 3 := ⟨by decide +kernel, rfl⟩
theorem dH_sheepAt_3 : Dc H_sheepAt 3 (.istore_n 3) 1 4 := ⟨by decide +kernel, rfl⟩
theorem dH_sheepAt_4 : Dc H_sheepAt 4 (.iload_n 3) 1 5 := ⟨by decide +kernel, rfl⟩
theorem dH_sheepAt_5 : Dc H_sheepAt 5 (.aload_n 0) 1 6 := ⟨by decide +kernel, rfl⟩
theorem dH_sheepAt_6 : Dc H_sheepAt 6 (.getfield 30) 3 9 := ⟨by decide +kernel, rfl⟩
theorem dH_sheepAt_9 : Dc H_sheepAt 9 (.if_icmp .ge 25) 3 12 := ⟨by decide +kernel, rfl⟩
theorem dH_sheepAt_12 : Dc H_sheepAt 12 (.aload_n 0) 1 13 := ⟨by decide +kernel, rfl⟩
theorem dH_sheepAt_13 : Dc H_sheepAt 13 (.getfield 37) 3 16 := ⟨by decide +kernel, rfl⟩
theorem dH_sheepAt_16 : Dc H_sheepAt 16 (.iload_n 3) 1 17 := ⟨by decide +kernel, rfl⟩
theorem dH_sheepAt_17 : Dc H_sheepAt 17 (.iaload) 1 18 := ⟨by decide +kernel, rfl⟩
theorem dH_sheepAt_18 : Dc H_sheepAt 18 (.iload_n 1) 1 19 := ⟨by decide +kernel, rfl⟩
theorem dH_sheepAt_19 : Dc H_sheepAt 19 (.if_icmp .ne 9) 3 22 := ⟨by decide +kernel, rfl⟩
theorem dH_sheepAt_22 : Dc H_sheepAt 22 (.iload_n 2) 1 23 := ⟨by decide +kernel, rfl⟩
theorem dH_sheepAt_23 : Dc H_sheepAt 23 (.iconst 1) 1 24 := ⟨by decide +kernel, rfl⟩
theorem dH_sheepAt_24 : Dc H_sheepAt 24 (.iload_n 3) 1 25 := ⟨by decide +kernel, rfl⟩
theorem dH_sheepAt_25 : Dc H_sheepAt 25 (.ishl) 1 26 := ⟨by decide +kernel, rfl⟩
theorem dH_sheepAt_26 : Dc H_sheepAt 26 (.ior) 1 27 := ⟨by decide +kernel, rfl⟩
theorem dH_sheepAt_27 : Dc H_sheepAt 27 (.istore_n 2) 1 28 := ⟨by decide +kernel, rfl⟩
theorem dH_sheepAt_28 : Dc H_sheepAt 28 (.iinc 3 1) 3 31 := ⟨by decide +kernel, rfl⟩
theorem dH_sheepAt_31 : Dc H_sheepAt 31 (.goto (-27)) 3 34 := ⟨by decide +kernel, rfl⟩
theorem dH_sheepAt_34 : Dc H_sheepAt 34 (.iload_n 2) 1 35 := ⟨by decide +kernel, rfl⟩
theorem dH_sheepAt_35 : Dc H_sheepAt 35 (.ireturn) 1 36 := ⟨by decide +kernel, rfl⟩
theorem dS_fearsOf_0 : Dc S_fearsOf 0 (.iload_n 0) 1 1 := ⟨by decide +kernel, rfl⟩
theorem dS_fearsOf_1 : Dc S_fearsOf 1 (.tableswitch 49 1 6 #[39, 41, 44, 44, 47, 47]) 39 40 := ⟨by decide +kernel, rfl⟩
theorem dS_fearsOf_40 : Dc S_fearsOf 40 (.iconst 5) 1 41 := ⟨by decide +kernel, rfl⟩
theorem dS_fearsOf_41 : Dc S_fearsOf 41 (.ireturn) 1 42 := ⟨by decide +kernel, rfl⟩
theorem dS_fearsOf_42 : Dc S_fearsOf 42 (.bipush 20) 2 44 := ⟨by decide +kernel, rfl⟩
theorem dS_fearsOf_44 : Dc S_fearsOf 44 (.ireturn) 1 45 := ⟨by decide +kernel, rfl⟩
theorem dS_fearsOf_45 : Dc S_fearsOf 45 (.bipush 25) 2 47 := ⟨by decide +kernel, rfl⟩
theorem dS_fearsOf_47 : Dc S_fearsOf 47 (.ireturn) 1 48 := ⟨by decide +kernel, rfl⟩
theorem dS_fearsOf_48 : Dc S_fearsOf 48 (.iconst 0) 1 49 := ⟨by decide +kernel, rfl⟩
theorem dS_fearsOf_49 : Dc S_fearsOf 49 (.ireturn) 1 50 := ⟨by decide +kernel, rfl⟩
theorem dS_fearsOf_50 : Dc S_fearsOf 50 (.bipush 10) 2 52 := ⟨by decide +kernel, rfl⟩
theorem dS_fearsOf_52 : Dc S_fearsOf 52 (.ireturn) 1 53 := ⟨by decide +kernel, rfl⟩
theorem dS_calmsOf_0 : Dc S_calmsOf 0 (.iload_n 0) 1 1 := ⟨by decide +kernel, rfl⟩
theorem dS_calmsOf_1 : Dc S_calmsOf 1 (.lookupswitch 41 #[(1, 35), (4, 39), (6, 37)]) 35 36 := ⟨by decide +kernel, rfl⟩
theorem dS_calmsOf_36 : Dc S_calmsOf 36 (.iconst 2) 1 37 := ⟨by decide +kernel, rfl⟩
theorem dS_calmsOf_37 : Dc S_calmsOf 37 (.ireturn) 1 38 := ⟨by decide +kernel, rfl⟩
theorem dS_calmsOf_38 : Dc S_calmsOf 38 (.iconst 4) 1 39 := ⟨by decide +kernel, rfl⟩
theorem dS_calmsOf_39 : Dc S_calmsOf 39 (.ireturn) 1 40 := ⟨by decide +kernel, rfl⟩
theorem dS_calmsOf_40 : Dc S_calmsOf 40 (.iconst 0) 1 41 := ⟨by decide +kernel, rfl⟩
theorem dS_calmsOf_41 : Dc S_calmsOf 41 (.ireturn) 1 42 := ⟨by decide +kernel, rfl⟩
theorem dS_calmsOf_42 : Dc S_calmsOf 42 (.iconst 1) 1 43 := ⟨by decide +kernel, rfl⟩
theorem dS_calmsOf_43 : Dc S_calmsOf 43 (.ireturn) 1 44 := ⟨by decide +kernel, rfl⟩
theorem dS_lightOf_0 : Dc S_lightOf 0 (.iload_n 0) 1 1 := ⟨by decide +kernel, rfl⟩
theorem dS_lightOf_1 : Dc S_lightOf 1 (.tableswitch 45 1 6 #[39, 45, 41, 43, 39, 39]) 39 40 := ⟨by decide +kernel, rfl⟩
theorem dS_lightOf_40 : Dc S_lightOf 40 (.iconst 1) 1 41 := ⟨by decide +kernel, rfl⟩
theorem dS_lightOf_41 : Dc S_lightOf 41 (.ireturn) 1 42 := ⟨by decide +kernel, rfl⟩
theorem dS_lightOf_42 : Dc S_lightOf 42 (.iconst 3) 1 43 := ⟨by decide +kernel, rfl⟩
theorem dS_lightOf_43 : Dc S_lightOf 43 (.ireturn) 1 44 := ⟨by decide +kernel, rfl⟩
theorem dS_lightOf_44 : Dc S_lightOf 44 (.iconst 4) 1 45 := ⟨by decide +kernel, rfl⟩
theorem dS_lightOf_45 : Dc S_lightOf 45 (.ireturn) 1 46 := ⟨by decide +kernel, rfl⟩
theorem dS_lightOf_46 : Dc S_lightOf 46 (.iconst 2) 1 47 := ⟨by decide +kernel, rfl⟩
theorem dS_lightOf_47 : Dc S_lightOf 47 (.ireturn) 1 48 := ⟨by decide +kernel, rfl⟩
theorem dS_change_0 : Dc S_change 0 (.aload_n 0) 1 1 := ⟨by decide +kernel, rfl⟩
theorem dS_change_1 : Dc S_change 1 (.getfield 12) 3 4 := ⟨by decide +kernel, rfl⟩
theorem dS_change_4 : Dc S_change 4 (.iload_n 1) 1 5 := ⟨by decide +kernel, rfl⟩
theorem dS_change_5 : Dc S_change 5 (.invokevirtual 100) 3 8 := ⟨by decide +kernel, rfl⟩
theorem dS_change_8 : Dc S_change 8 (.ifCond .eq 11) 3 11 := ⟨by decide +kernel, rfl⟩
theorem dS_change_11 : Dc S_change 11 (.iload_n 2) 1 12 := ⟨by decide +kernel, rfl⟩
theorem dS_change_12 : Dc S_change 12 (.iload_n 3) 1 13 := ⟨by decide +kernel, rfl⟩
theorem dS_change_13 : Dc S_change 13 (.invokestatic 106) 3 16 := ⟨by decide +kernel, rfl⟩
theorem dS_change_16 : Dc S_change 16 (.ifCond .ne 9) 3 19 := ⟨by decide +kernel, rfl⟩
theorem dS_change_19 : Dc S_change 19 (.aload_n 0) 1 20 := ⟨by decide +kernel, rfl⟩
theorem dS_change_20 : Dc S_change 20 (.iconst 0) 1 21 := ⟨by decide +kernel, rfl⟩
theorem dS_change_21 : Dc S_change 21 (.invokevirtual 61) 3 24 := ⟨by decide +kernel, rfl⟩
theorem dS_change_24 : Dc S_change 24 (.ireturn) 1 25 := ⟨by decide +kernel, rfl⟩
theorem dS_change_25 : Dc S_change 25 (.iload_n 2) 1 26 := ⟨by decide +kernel, rfl⟩
theorem dS_change_26 : Dc S_change 26 (.iconst 1) 1 27 := ⟨by decide +kernel, rfl⟩
theorem dS_change_27 : Dc S_change 27 (.if_icmp .ne 20) 3 30 := ⟨by decide +kernel, rfl⟩
theorem dS_change_30 : Dc S_change 30 (.iload_n 1) 1 31 := ⟨by decide +kernel, rfl⟩
theorem dS_change_31 : Dc S_change 31 (.aload_n 0) 1 32 := ⟨by decide +kernel, rfl⟩
theorem dS_change_32 : Dc S_change 32 (.getfield 12) 3 35 := ⟨by decide +kernel, rfl⟩
theorem dS_change_35 : Dc S_change 35 (.getfield 109) 3 38 := ⟨by decide +kernel, rfl⟩
theorem dS_change_38 : Dc S_change 38 (.if_icmp .ne 9) 3 41 := ⟨by decide +kernel, rfl⟩
theorem dS_change_41 : Dc S_change 41 (.aload_n 0) 1 42 := ⟨by decide +kernel, rfl⟩
theorem dS_change_42 : Dc S_change 42 (.iconst 4) 1 43 := ⟨by decide +kernel, rfl⟩
theorem dS_change_43 : Dc S_change 43 (.invokevirtual 61) 3 46 := ⟨by decide +kernel, rfl⟩
theorem dS_change_46 : Dc S_change 46 (.ireturn) 1 47 := ⟨by decide +kernel, rfl⟩
theorem dS_change_47 : Dc S_change 47 (.aload_n 0) 1 48 := ⟨by decide +kernel, rfl⟩
theorem dS_change_48 : Dc S_change 48 (.getfield 12) 3 51 := ⟨by decide +kernel, rfl⟩
theorem dS_change_51 : Dc S_change 51 (.iload_n 1) 1 52 := ⟨by decide +kernel, rfl⟩
theorem dS_change_52 : Dc S_change 52 (.iload_n 2) 1 53 := ⟨by decide +kernel, rfl⟩
theorem dS_change_53 : Dc S_change 53 (.invokevirtual 103) 3 56 := ⟨by decide +kernel, rfl⟩
theorem dS_change_56 : Dc S_change 56 (.istore 4) 2 58 := ⟨by decide +kernel, rfl⟩
theorem dS_change_58 : Dc S_change 58 (.iload_n 2) 1 59 := ⟨by decide +kernel, rfl⟩
theorem dS_change_59 : Dc S_change 59 (.tableswitch 81 0 3 #[29, 42, 55, 68]) 29 88 := ⟨by decide +kernel, rfl⟩
theorem dS_change_88 : Dc S_change 88 (.aload_n 0) 1 89 := ⟨by decide +kernel, rfl⟩
theorem dS_change_89 : Dc S_change 89 (.getfield 12) 3 92 := ⟨by decide +kernel, rfl⟩
theorem dS_change_92 : Dc S_change 92 (.getfield 112) 3 95 := ⟨by decide +kernel, rfl⟩
theorem dS_change_95 : Dc S_change 95 (.iload_n 1) 1 96 := ⟨by decide +kernel, rfl⟩
theorem dS_change_96 : Dc S_change 96 (.iload_n 3) 1 97 := ⟨by decide +kernel, rfl⟩
theorem dS_change_97 : Dc S_change 97 (.iastore) 1 98 := ⟨by decide +kernel, rfl⟩
theorem dS_change_98 : Dc S_change 98 (.goto 52) 3 101 := ⟨by decide +kernel, rfl⟩
theorem dS_change_101 : Dc S_change 101 (.aload_n 0) 1 102 := ⟨by decide +kernel, rfl⟩
theorem dS_change_102 : Dc S_change 102 (.getfield 12) 3 105 := ⟨by decide +kernel, rfl⟩
theorem dS_change_105 : Dc S_change 105 (.getfield 115) 3 108 := ⟨by decide +kernel, rfl⟩
theorem dS_change_108 : Dc S_change 108 (.iload_n 1) 1 109 := ⟨by decide +kernel, rfl⟩
theorem dS_change_109 : Dc S_change 109 (.iload_n 3) 1 110 := ⟨by decide +kernel, rfl⟩
theorem dS_change_110 : Dc S_change 110 (.iastore) 1 111 := ⟨by decide +kernel, rfl⟩
theorem dS_change_111 : Dc S_change 111 (.goto 39) 3 114 := ⟨by decide +kernel, rfl⟩
theorem dS_change_114 : Dc S_change 114 (.aload_n 0) 1 115 := ⟨by decide +kernel, rfl⟩
theorem dS_change_115 : Dc S_change 115 (.getfield 12) 3 118 := ⟨by decide +kernel, rfl⟩
theorem dS_change_118 : Dc S_change 118 (.getfield 118) 3 121 := ⟨by decide +kernel, rfl⟩
theorem dS_change_121 : Dc S_change 121 (.iload_n 1) 1 122 := ⟨by decide +kernel, rfl⟩
theorem dS_change_122 : Dc S_change 122 (.iload_n 3) 1 123 := ⟨by decide +kernel, rfl⟩
theorem dS_change_123 : Dc S_change 123 (.iastore) 1 124 := ⟨by decide +kernel, rfl⟩
theorem dS_change_124 : Dc S_change 124 (.goto 26) 3 127 := ⟨by decide +kernel, rfl⟩
theorem dS_change_127 : Dc S_change 127 (.aload_n 0) 1 128 := ⟨by decide +kernel, rfl⟩
theorem dS_change_128 : Dc S_change 128 (.getfield 12) 3 131 := ⟨by decide +kernel, rfl⟩
theorem dS_change_131 : Dc S_change 131 (.getfield 121) 3 134 := ⟨by decide +kernel, rfl⟩
theorem dS_change_134 : Dc S_change 134 (.iload_n 1) 1 135 := ⟨by decide +kernel, rfl⟩
theorem dS_change_135 : Dc S_change 135 (.iload_n 3) 1 136 := ⟨by decide +kernel, rfl⟩
theorem dS_change_136 : Dc S_change 136 (.iastore) 1 137 := ⟨by decide +kernel, rfl⟩
theorem dS_change_137 : Dc S_change 137 (.goto 13) 3 140 := ⟨by decide +kernel, rfl⟩
theorem dS_change_140 : Dc S_change 140 (.aload_n 0) 1 141 := ⟨by decide +kernel, rfl⟩
theorem dS_change_141 : Dc S_change 141 (.getfield 12) 3 144 := ⟨by decide +kernel, rfl⟩
theorem dS_change_144 : Dc S_change 144 (.getfield 124) 3 147 := ⟨by decide +kernel, rfl⟩
theorem dS_change_147 : Dc S_change 147 (.iload_n 1) 1 148 := ⟨by decide +kernel, rfl⟩
theorem dS_change_148 : Dc S_change 148 (.iload_n 3) 1 149 := ⟨by decide +kernel, rfl⟩
theorem dS_change_149 : Dc S_change 149 (.iastore) 1 150 := ⟨by decide +kernel, rfl⟩
theorem dS_change_150 : Dc S_change 150 (.iload 4) 2 152 := ⟨by decide +kernel, rfl⟩
theorem dS_change_152 : Dc S_change 152 (.ireturn) 1 153 := ⟨by decide +kernel, rfl⟩
theorem dS_canBeChanged_0 : Dc S_canBeChanged 0 (.iload_n 0) 1 1 := ⟨by decide +kernel, rfl⟩
theorem dS_canBeChanged_1 : Dc S_canBeChanged 1 (.tableswitch 71 0 4 #[35, 40, 45, 53, 62]) 35 36 := ⟨by decide +kernel, rfl⟩
theorem dS_canBeChanged_36 : Dc S_canBeChanged 36 (.iload_n 1) 1 37 := ⟨by decide +kernel, rfl⟩
theorem dS_canBeChanged_37 : Dc S_canBeChanged 37 (.invokestatic 85) 3 40 := ⟨by decide +kernel, rfl⟩
theorem dS_canBeChanged_40 : Dc S_canBeChanged 40 (.ireturn) 1 41 := ⟨by decide +kernel, rfl⟩
theorem dS_canBeChanged_41 : Dc S_canBeChanged 41 (.iload_n 1) 1 42 := ⟨by decide +kernel, rfl⟩
theorem dS_canBeChanged_42 : Dc S_canBeChanged 42 (.invokestatic 89) 3 45 := ⟨by decide +kernel, rfl⟩
theorem dS_canBeChanged_45 : Dc S_canBeChanged 45 (.ireturn) 1 46 := ⟨by decide +kernel, rfl⟩
theorem dS_canBeChanged_46 : Dc S_canBeChanged 46 (.iload_n 1) 1 47 := ⟨by decide +kernel, rfl⟩
theorem dS_canBeChanged_47 : Dc S_canBeChanged 47 (.iconst 0) 1 48 := ⟨by decide +kernel, rfl⟩
theorem dS_canBeChanged_48 : Dc S_canBeChanged 48 (.bipush 99) 2 50 := ⟨by decide +kernel, rfl⟩
theorem dS_canBeChanged_50 : Dc S_canBeChanged 50 (.invokestatic 81) 3 53 := ⟨by decide +kernel, rfl⟩
theorem dS_canBeChanged_53 : Dc S_canBeChanged 53 (.ireturn) 1 54 := ⟨by decide +kernel, rfl⟩
theorem dS_canBeChanged_54 : Dc S_canBeChanged 54 (.iload_n 1) 1 55 := ⟨by decide +kernel, rfl⟩
theorem dS_canBeChanged_55 : Dc S_canBeChanged 55 (.iconst 0) 1 56 := ⟨by decide +kernel, rfl⟩
theorem dS_canBeChanged_56 : Dc S_canBeChanged 56 (.sipush 9999) 3 59 := ⟨by decide +kernel, rfl⟩
theorem dS_canBeChanged_59 : Dc S_canBeChanged 59 (.invokestatic 81) 3 62 := ⟨by decide +kernel, rfl⟩
theorem dS_canBeChanged_62 : Dc S_canBeChanged 62 (.ireturn) 1 63 := ⟨by decide +kernel, rfl⟩
theorem dS_canBeChanged_63 : Dc S_canBeChanged 63 (.iload_n 1) 1 64 := ⟨by decide +kernel, rfl⟩
theorem dS_canBeChanged_64 : Dc S_canBeChanged 64 (.iconst 0) 1 65 := ⟨by decide +kernel, rfl⟩
theorem dS_canBeChanged_65 : Dc S_canBeChanged 65 (.sipush 9999) 3 68 := ⟨by decide +kernel, rfl⟩
theorem dS_canBeChanged_68 : Dc S_canBeChanged 68 (.invokestatic 81) 3 71 := ⟨by decide +kernel, rfl⟩
theorem dS_canBeChanged_71 : Dc S_canBeChanged 71 (.ireturn) 1 72 := ⟨by decide +kernel, rfl⟩
theorem dS_canBeChanged_72 : Dc S_canBeChanged 72 (.iconst 0) 1 73 := ⟨by decide +kernel, rfl⟩
theorem dS_canBeChanged_73 : Dc S_canBeChanged 73 (.ireturn) 1 74 := ⟨by decide +kernel, rfl⟩
theorem dS_drop_0 : Dc S_drop 0 (.aload_n 0) 1 1 := ⟨by decide +kernel, rfl⟩
theorem dS_drop_1 : Dc S_drop 1 (.getfield 12) 3 4 := ⟨by decide +kernel, rfl⟩
theorem dS_drop_4 : Dc S_drop 4 (.getfield 109) 3 7 := ⟨by decide +kernel, rfl⟩
theorem dS_drop_7 : Dc S_drop 7 (.iconst (-1)) 1 8 := ⟨by decide +kernel, rfl⟩
theorem dS_drop_8 : Dc S_drop 8 (.if_icmp .ne 9) 3 11 := ⟨by decide +kernel, rfl⟩
theorem dS_drop_11 : Dc S_drop 11 (.aload_n 0) 1 12 := ⟨by decide +kernel, rfl⟩
theorem dS_drop_12 : Dc S_drop 12 (.iconst 3) 1 13 := ⟨by decide +kernel, rfl⟩
theorem dS_drop_13 : Dc S_drop 13 (.invokevirtual 61) 3 16 := ⟨by decide +kernel, rfl⟩
theorem dS_drop_16 : Dc S_drop 16 (.ireturn) 1 17 := ⟨by decide +kernel, rfl⟩
theorem dS_drop_17 : Dc S_drop 17 (.aload_n 0) 1 18 := ⟨by decide +kernel, rfl⟩
theorem dS_drop_18 : Dc S_drop 18 (.getfield 12) 3 21 := ⟨by decide +kernel, rfl⟩
theorem dS_drop_21 : Dc S_drop 21 (.getfield 109) 3 24 := ⟨by decide +kernel, rfl⟩
theorem dS_drop_24 : Dc S_drop 24 (.istore_n 1) 1 25 := ⟨by decide +kernel, rfl⟩
theorem dS_drop_25 : Dc S_drop 25 (.aload_n 0) 1 26 := ⟨by decide +kernel, rfl⟩
theorem dS_drop_26 : Dc S_drop 26 (.getfield 12) 3 29 := ⟨by decide +kernel, rfl⟩
theorem dS_drop_29 : Dc S_drop 29 (.iconst (-1)) 1 30 := ⟨by decide +kernel, rfl⟩
theorem dS_drop_30 : Dc S_drop 30 (.putfield 109) 3 33 := ⟨by decide +kernel, rfl⟩
theorem dS_drop_33 : Dc S_drop 33 (.iload_n 1) 1 34 := ⟨by decide +kernel, rfl⟩
theorem dS_drop_34 : Dc S_drop 34 (.ireturn) 1 35 := ⟨by decide +kernel, rfl⟩
theorem dS_who_0 : Dc S_who 0 (.iload_n 1) 1 1 := ⟨by decide +kernel, rfl⟩
theorem dS_who_1 : Dc S_who 1 (.invokestatic 89) 3 4 := ⟨by decide +kernel, rfl⟩
theorem dS_who_4 : Dc S_who 4 (.ifCond .ne 9) 3 7 := ⟨by decide +kernel, rfl⟩
theorem dS_who_7 : Dc S_who 7 (.aload_n 0) 1 8 := ⟨by decide +kernel, rfl⟩
theorem dS_who_8 : Dc S_who 8 (.iconst 0) 1 9 := ⟨by decide +kernel, rfl⟩
theorem dS_who_9 : Dc S_who 9 (.invokevirtual 61) 3 12 := ⟨by decide +kernel, rfl⟩
theorem dS_who_12 : Dc S_who 12 (.ireturn) 1 13 := ⟨by decide +kernel, rfl⟩
theorem dS_who_13 : Dc S_who 13 (.aload_n 0) 1 14 := ⟨by decide +kernel, rfl⟩
theorem dS_who_14 : Dc S_who 14 (.getfield 12) 3 17 := ⟨by decide +kernel, rfl⟩
theorem dS_who_17 : Dc S_who 17 (.iload_n 1) 1 18 := ⟨by decide +kernel, rfl⟩
theorem dS_who_18 : Dc S_who 18 (.invokevirtual 127) 3 21 := ⟨by decide +kernel, rfl⟩
theorem dS_who_21 : Dc S_who 21 (.ireturn) 1 22 := ⟨by decide +kernel, rfl⟩
theorem dS_go_0 : Dc S_go 0 (.iload_n 1) 1 1 := ⟨by decide +kernel, rfl⟩
theorem dS_go_1 : Dc S_go 1 (.iconst 1) 1 2 := ⟨by decide +kernel, rfl⟩
theorem dS_go_2 : Dc S_go 2 (.bipush 60) 2 4 := ⟨by decide +kernel, rfl⟩
theorem dS_go_4 : Dc S_go 4 (.invokestatic 81) 3 7 := ⟨by decide +kernel, rfl⟩
theorem dS_go_7 : Dc S_go 7 (.ifCond .ne 9) 3 10 := ⟨by decide +kernel, rfl⟩
theorem dS_go_10 : Dc S_go 10 (.aload_n 0) 1 11 := ⟨by decide +kernel, rfl⟩
theorem dS_go_11 : Dc S_go 11 (.iconst 0) 1 12 := ⟨by decide +kernel, rfl⟩
theorem dS_go_12 : Dc S_go 12 (.invokevirtual 61) 3 15 := ⟨by decide +kernel, rfl⟩
theorem dS_go_15 : Dc S_go 15 (.ireturn) 1 16 := ⟨by decide +kernel, rfl⟩
theorem dS_go_16 : Dc S_go 16 (.aload_n 0) 1 17 := ⟨by decide +kernel, rfl⟩
theorem dS_go_17 : Dc S_go 17 (.getfield 12) 3 20 := ⟨by decide +kernel, rfl⟩
theorem dS_go_20 : Dc S_go 20 (.getfield 130) 3 23 := ⟨by decide +kernel, rfl⟩
theorem dS_go_23 : Dc S_go 23 (.ldc 133) 2 25 := ⟨by decide +kernel, rfl⟩
theorem dS_go_25 : Dc S_go 25 (.iload_n 1) 1 26 := ⟨by decide +kernel, rfl⟩
theorem dS_go_26 : Dc S_go 26 (.isub) 1 27 := ⟨by decide +kernel, rfl⟩
theorem dS_go_27 : Dc S_go 27 (.if_icmp .le 9) 3 30 := ⟨by decide +kernel, rfl⟩
theorem dS_go_30 : Dc S_go 30 (.aload_n 0) 1 31 := ⟨by decide +kernel, rfl⟩
theorem dS_go_31 : Dc S_go 31 (.iconst 4) 1 32 := ⟨by decide +kernel, rfl⟩
theorem dS_go_32 : Dc S_go 32 (.invokevirtual 61) 3 35 := ⟨by decide +kernel, rfl⟩
theorem dS_go_35 : Dc S_go 35 (.ireturn) 1 36 := ⟨by decide +kernel, rfl⟩
theorem dS_go_36 : Dc S_go 36 (.aload_n 0) 1 37 := ⟨by decide +kernel, rfl⟩
theorem dS_go_37 : Dc S_go 37 (.getfield 12) 3 40 := ⟨by decide +kernel, rfl⟩
theorem dS_go_40 : Dc S_go 40 (.iload_n 1) 1 41 := ⟨by decide +kernel, rfl⟩
theorem dS_go_41 : Dc S_go 41 (.invokevirtual 134) 3 44 := ⟨by decide +kernel, rfl⟩
theorem dS_go_44 : Dc S_go 44 (.aload_n 0) 1 45 := ⟨by decide +kernel, rfl⟩
theorem dS_go_45 : Dc S_go 45 (.getfield 12) 3 48 := ⟨by decide +kernel, rfl⟩
theorem dS_go_48 : Dc S_go 48 (.aload_n 0) 1 49 := ⟨by decide +kernel, rfl⟩
theorem dS_go_49 : Dc S_go 49 (.getfield 12) 3 52 := ⟨by decide +kernel, rfl⟩
theorem dS_go_52 : Dc S_go 52 (.getfield 124) 3 55 := ⟨by decide +kernel, rfl⟩
theorem dS_go_55 : Dc S_go 55 (.invokevirtual 137) 3 58 := ⟨by decide +kernel, rfl⟩
theorem dS_go_58 : Dc S_go 58 (.ireturn) 1 59 := ⟨by decide +kernel, rfl⟩
theorem dH_passHours_0 : Dc H_passHours 0 (.iconst 0) 1 1 := ⟨by decide +kernel, rfl⟩
theorem dH_passHours_1 : Dc H_passHours 1 (.istore_n 2) 1 2 := ⟨by decide +kernel, rfl⟩
theorem dH_passHours_2 : Dc H_passHours 2 (.iload_n 2) 1 3 := ⟨by decide +kernel, rfl⟩
theorem dH_passHours_3 : Dc H_passHours 3 (.iload_n 1) 1 4 := ⟨by decide +kernel, rfl⟩
theorem dH_passHours_4 : Dc H_passHours 4 (.if_icmp .ge 14) 3 7 := ⟨by decide +kernel, rfl⟩
theorem dH_passHours_7 : Dc H_passHours 7 (.aload_n 0) 1 8 := ⟨by decide +kernel, rfl⟩
theorem dH_passHours_8 : Dc H_passHours 8 (.iconst 0) 1 9 := ⟨by decide +kernel, rfl⟩
theorem dH_passHours_9 : Dc H_passHours 9 (.invokevirtual 99) 3 12 := ⟨by decide +kernel, rfl⟩
theorem dH_passHours_12 : Dc H_passHours 12 (.iinc 2 1) 3 15 := ⟨by decide +kernel, rfl⟩
theorem dH_passHours_15 : Dc H_passHours 15 (.goto (-13)) 3 18 := ⟨by decide +kernel, rfl⟩
theorem dH_passHours_18 : Dc H_passHours 18 (.return_) 1 19 := ⟨by decide +kernel, rfl⟩
theorem dH_passHour_0 : Dc H_passHour 0 (.aload_n 0) 1 1 := ⟨by decide +kernel, rfl⟩
theorem dH_passHour_1 : Dc H_passHour 1 (.iload_n 1) 1 2 := ⟨by decide +kernel, rfl⟩
theorem dH_passHour_2 : Dc H_passHour 2 (.invokevirtual 103) 3 5 := ⟨by decide +kernel, rfl⟩
theorem dH_passHour_5 : Dc H_passHour 5 (.aload_n 0) 1 6 := ⟨by decide +kernel, rfl⟩
theorem dH_passHour_6 : Dc H_passHour 6 (.invokevirtual 106) 3 9 := ⟨by decide +kernel, rfl⟩
theorem dH_passHour_9 : Dc H_passHour 9 (.aload_n 0) 1 10 := ⟨by decide +kernel, rfl⟩
theorem dH_passHour_10 : Dc H_passHour 10 (.invokevirtual 109) 3 13 := ⟨by decide +kernel, rfl⟩
theorem dH_passHour_13 : Dc H_passHour 13 (.aload_n 0) 1 14 := ⟨by decide +kernel, rfl⟩
theorem dH_passHour_14 : Dc H_passHour 14 (.invokevirtual 112) 3 17 := ⟨by decide +kernel, rfl⟩
theorem dH_passHour_17 : Dc H_passHour 17 (.aload_n 0) 1 18 := ⟨by decide +kernel, rfl⟩
theorem dH_passHour_18 : Dc H_passHour 18 (.aload_n 0) 1 19 := ⟨by decide +kernel, rfl⟩
theorem dH_passHour_19 : Dc H_passHour 19 (.getfield 27) 3 22 := ⟨by decide +kernel, rfl⟩
theorem dH_passHour_22 : Dc H_passHour 22 (.iconst 1) 1 23 := ⟨by decide +kernel, rfl⟩
theorem dH_passHour_23 : Dc H_passHour 23 (.iadd) 1 24 := ⟨by decide +kernel, rfl⟩
theorem dH_passHour_24 : Dc H_passHour 24 (.ldc 115) 2 26 := ⟨by decide +kernel, rfl⟩
theorem dH_passHour_26 : Dc H_passHour 26 (.invokestatic 116) 3 29 := ⟨by decide +kernel, rfl⟩
theorem dH_passHour_29 : Dc H_passHour 29 (.putfield 27) 3 32 := ⟨by decide +kernel, rfl⟩
theorem dH_passHour_32 : Dc H_passHour 32 (.return_) 1 33 := ⟨by decide +kernel, rfl⟩
theorem dH_strayAll_0 : Dc H_strayAll 0 (.iconst 0) 1 1 := ⟨by decide +kernel, rfl⟩
theorem dH_strayAll_1 : Dc H_strayAll 1 (.istore_n 2) 1 2 := ⟨by decide +kernel, rfl⟩
theorem dH_strayAll_2 : Dc H_strayAll 2 (.iload_n 2) 1 3 := ⟨by decide +kernel, rfl⟩
theorem dH_strayAll_3 : Dc H_strayAll 3 (.aload_n 0) 1 4 := ⟨by decide +kernel, rfl⟩
theorem dH_strayAll_4 : Dc H_strayAll 4 (.getfield 30) 3 7 := ⟨by decide +kernel, rfl⟩
theorem dH_strayAll_7 : Dc H_strayAll 7 (.if_icmp .ge 46) 3 10 := ⟨by decide +kernel, rfl⟩
theorem dH_strayAll_10 : Dc H_strayAll 10 (.iload_n 2) 1 11 := ⟨by decide +kernel, rfl⟩
theorem dH_strayAll_11 : Dc H_strayAll 11 (.aload_n 0) 1 12 := ⟨by decide +kernel, rfl⟩
theorem dH_strayAll_12 : Dc H_strayAll 12 (.getfield 18) 3 15 := ⟨by decide +kernel, rfl⟩
theorem dH_strayAll_15 : Dc H_strayAll 15 (.if_icmp .eq 32) 3 18 := ⟨by decide +kernel, rfl⟩
theorem dH_strayAll_18 : Dc H_strayAll 18 (.iload_n 1) 1 19 := ⟨by decide +kernel, rfl⟩
theorem dH_strayAll_19 : Dc H_strayAll 19 (.iconst 1) 1 20 := ⟨by decide +kernel, rfl⟩
theorem dH_strayAll_20 : Dc H_strayAll 20 (.iload_n 2) 1 21 := ⟨by decide +kernel, rfl⟩
theorem dH_strayAll_21 : Dc H_strayAll 21 (.ishl) 1 22 := ⟨by decide +kernel, rfl⟩
theorem dH_strayAll_22 : Dc H_strayAll 22 (.iand) 1 23 := ⟨by decide +kernel, rfl⟩
theorem dH_strayAll_23 : Dc H_strayAll 23 (.ifCond .ne 24) 3 26 := ⟨by decide +kernel, rfl⟩
theorem dH_strayAll_26 : Dc H_strayAll 26 (.aload_n 0) 1 27 := ⟨by decide +kernel, rfl⟩
theorem dH_strayAll_27 : Dc H_strayAll 27 (.getfield 37) 3 30 := ⟨by decide +kernel, rfl⟩
theorem dH_strayAll_30 : Dc H_strayAll 30 (.iload_n 2) 1 31 := ⟨by decide +kernel, rfl⟩
theorem dH_strayAll_31 : Dc H_strayAll 31 (.aload_n 0) 1 32 := ⟨by decide +kernel, rfl⟩
theorem dH_strayAll_32 : Dc H_strayAll 32 (.aload_n 0) 1 33 := ⟨by decide +kernel, rfl⟩
theorem dH_strayAll_33 : Dc H_strayAll 33 (.getfield 37) 3 36 := ⟨by decide +kernel, rfl⟩
theorem dH_strayAll_36 : Dc H_strayAll 36 (.iload_n 2) 1 37 := ⟨by decide +kernel, rfl⟩
theorem dH_strayAll_37 : Dc H_strayAll 37 (.iaload) 1 38 := ⟨by decide +kernel, rfl⟩
theorem dH_strayAll_38 : Dc H_strayAll 38 (.aload_n 0) 1 39 := ⟨by decide +kernel, rfl⟩
theorem dH_strayAll_39 : Dc H_strayAll 39 (.iload_n 2) 1 40 := ⟨by decide +kernel, rfl⟩
theorem dH_strayAll_40 : Dc H_strayAll 40 (.invokevirtual 67) 3 43 := ⟨by decide +kernel, rfl⟩
theorem dH_strayAll_43 : Dc H_strayAll 43 (.invokevirtual 121) 3 46 := ⟨by decide +kernel, rfl⟩
theorem dH_strayAll_46 : Dc H_strayAll 46 (.iastore) 1 47 := ⟨by decide +kernel, rfl⟩
theorem dH_strayAll_47 : Dc H_strayAll 47 (.iinc 2 1) 3 50 := ⟨by decide +kernel, rfl⟩
theorem dH_strayAll_50 : Dc H_strayAll 50 (.goto (-48)) 3 53 := ⟨by decide +kernel, rfl⟩
theorem dH_strayAll_53 : Dc H_strayAll 53 (.return_) 1 54 := ⟨by decide +kernel, rfl⟩
theorem dH_strayedFrom_0 : Dc H_strayedFrom 0 (.iload_n 2) 1 1 := ⟨by decide +kernel, rfl⟩
theorem dH_strayedFrom_1 : Dc H_strayedFrom 1 (.ifCond .ge 14) 3 4 := ⟨by decide +kernel, rfl⟩
theorem dH_strayedFrom_4 : Dc H_strayedFrom 4 (.iload_n 1) 1 5 := ⟨by decide +kernel, rfl⟩
theorem dH_strayedFrom_5 : Dc H_strayedFrom 5 (.aload_n 0) 1 6 := ⟨by decide +kernel, rfl⟩
theorem dH_strayedFrom_6 : Dc H_strayedFrom 6 (.getfield 9) 3 9 := ⟨by decide +kernel, rfl⟩
theorem dH_strayedFrom_9 : Dc H_strayedFrom 9 (.iload_n 2) 1 10 := ⟨by decide +kernel, rfl⟩
theorem dH_strayedFrom_10 : Dc H_strayedFrom 10 (.ineg) 1 11 := ⟨by decide +kernel, rfl⟩
theorem dH_strayedFrom_11 : Dc H_strayedFrom 11 (.invokestatic 124) 3 14 := ⟨by decide +kernel, rfl⟩
theorem dH_strayedFrom_14 : Dc H_strayedFrom 14 (.ireturn) 1 15 := ⟨by decide +kernel, rfl⟩
theorem dH_strayedFrom_15 : Dc H_strayedFrom 15 (.iload_n 1) 1 16 := ⟨by decide +kernel, rfl⟩
theorem dH_strayedFrom_16 : Dc H_strayedFrom 16 (.aload_n 0) 1 17 := ⟨by decide +kernel, rfl⟩
theorem dH_strayedFrom_17 : Dc H_strayedFrom 17 (.getfield 9) 3 20 := ⟨by decide +kernel, rfl⟩
theorem dH_strayedFrom_20 : Dc H_strayedFrom 20 (.if_icmp .gt 20) 3 23 := ⟨by decide +kernel, rfl⟩
theorem dH_strayedFrom_23 : Dc H_strayedFrom 23 (.iload_n 1) 1 24 := ⟨by decide +kernel, rfl⟩
theorem dH_strayedFrom_24 : Dc H_strayedFrom 24 (.aload_n 0) 1 25 := ⟨by decide +kernel, rfl⟩
theorem dH_strayedFrom_25 : Dc H_strayedFrom 25 (.getfield 9) 3 28 := ⟨by decide +kernel, rfl⟩
theorem dH_strayedFrom_28 : Dc H_strayedFrom 28 (.if_icmp .ne 16) 3 31 := ⟨by decide +kernel, rfl⟩
theorem dH_strayedFrom_31 : Dc H_strayedFrom 31 (.aload_n 0) 1 32 := ⟨by decide +kernel, rfl⟩
theorem dH_strayedFrom_32 : Dc H_strayedFrom 32 (.getfield 9) 3 35 := ⟨by decide +kernel, rfl⟩
theorem dH_strayedFrom_35 : Dc H_strayedFrom 35 (.bipush 15) 2 37 := ⟨by decide +kernel, rfl⟩
theorem dH_strayedFrom_37 : Dc H_strayedFrom 37 (.if_icmp .ge 7) 3 40 := ⟨by decide +kernel, rfl⟩
theorem dH_strayedFrom_40 : Dc H_strayedFrom 40 (.iconst 1) 1 41 := ⟨by decide +kernel, rfl⟩
theorem dH_strayedFrom_41 : Dc H_strayedFrom 41 (.goto 4) 3 44 := ⟨by decide +kernel, rfl⟩
theorem dH_strayedFrom_44 : Dc H_strayedFrom 44 (.iconst 0) 1 45 := ⟨by decide +kernel, rfl⟩
theorem dH_strayedFrom_45 : Dc H_strayedFrom 45 (.istore_n 3) 1 46 := ⟨by decide +kernel, rfl⟩
theorem dH_strayedFrom_46 : Dc H_strayedFrom 46 (.iload_n 3) 1 47 := ⟨by decide +kernel, rfl⟩
theorem dH_strayedFrom_47 : Dc H_strayedFrom 47 (.ifCond .eq 14) 3 50 := ⟨by decide +kernel, rfl⟩
theorem dH_strayedFrom_50 : Dc H_strayedFrom 50 (.iload_n 1) 1 51 := ⟨by decide +kernel, rfl⟩
theorem dH_strayedFrom_51 : Dc H_strayedFrom 51 (.iload_n 2) 1 52 := ⟨by decide +kernel, rfl⟩
theorem dH_strayedFrom_52 : Dc H_strayedFrom 52 (.iadd) 1 53 := ⟨by decide +kernel, rfl⟩
theorem dH_strayedFrom_53 : Dc H_strayedFrom 53 (.bipush 15) 2 55 := ⟨by decide +kernel, rfl⟩
theorem dH_strayedFrom_55 : Dc H_strayedFrom 55 (.invokestatic 116) 3 58 := ⟨by decide +kernel, rfl⟩
theorem dH_strayedFrom_58 : Dc H_strayedFrom 58 (.goto 10) 3 61 := ⟨by decide +kernel, rfl⟩
theorem dH_strayedFrom_61 : Dc H_strayedFrom 61 (.iload_n 1) 1 62 := ⟨by decide +kernel, rfl⟩
theorem dH_strayedFrom_62 : Dc H_strayedFrom 62 (.iload_n 2) 1 63 := ⟨by decide +kernel, rfl⟩
theorem dH_strayedFrom_63 : Dc H_strayedFrom 63 (.isub) 1 64 := ⟨by decide +kernel, rfl⟩
theorem dH_strayedFrom_64 : Dc H_strayedFrom 64 (.iconst 0) 1 65 := ⟨by decide +kernel, rfl⟩
theorem dH_strayedFrom_65 : Dc H_strayedFrom 65 (.invokestatic 128) 3 68 := ⟨by decide +kernel, rfl⟩
theorem dH_strayedFrom_68 : Dc H_strayedFrom 68 (.ireturn) 1 69 := ⟨by decide +kernel, rfl⟩
theorem dS_towards_0 : Dc S_towards 0 (.iload_n 0) 1 1 := ⟨by decide +kernel, rfl⟩
theorem dS_towards_1 : Dc S_towards 1 (.iload_n 1) 1 2 := ⟨by decide +kernel, rfl⟩
theorem dS_towards_2 : Dc S_towards 2 (.if_icmp .ge 13) 3 5 := ⟨by decide +kernel, rfl⟩
theorem dS_towards_5 : Dc S_towards 5 (.iload_n 0) 1 6 := ⟨by decide +kernel, rfl⟩
theorem dS_towards_6 : Dc S_towards 6 (.iload_n 2) 1 7 := ⟨by decide +kernel, rfl⟩
theorem dS_towards_7 : Dc S_towards 7 (.iadd) 1 8 := ⟨by decide +kernel, rfl⟩
theorem dS_towards_8 : Dc S_towards 8 (.iload_n 1) 1 9 := ⟨by decide +kernel, rfl⟩
theorem dS_towards_9 : Dc S_towards 9 (.invokestatic 257) 3 12 := ⟨by decide +kernel, rfl⟩
theorem dS_towards_12 : Dc S_towards 12 (.goto 10) 3 15 := ⟨by decide +kernel, rfl⟩
theorem dS_towards_15 : Dc S_towards 15 (.iload_n 0) 1 16 := ⟨by decide +kernel, rfl⟩
theorem dS_towards_16 : Dc S_towards 16 (.iload_n 2) 1 17 := ⟨by decide +kernel, rfl⟩
theorem dS_towards_17 : Dc S_towards 17 (.isub) 1 18 := ⟨by decide +kernel, rfl⟩
theorem dS_towards_18 : Dc S_towards 18 (.iload_n 1) 1 19 := ⟨by decide +kernel, rfl⟩
theorem dS_towards_19 : Dc S_towards 19 (.invokestatic 262) 3 22 := ⟨by decide +kernel, rfl⟩
theorem dS_towards_22 : Dc S_towards 22 (.ireturn) 1 23 := ⟨by decide +kernel, rfl⟩
theorem dJM_min_0 : Dc JM_min 0 (.iload_n 0) 1 1 := ⟨by decide +kernel, rfl⟩
theorem dJM_min_1 : Dc JM_min 1 (.iload_n 1) 1 2 := ⟨by decide +kernel, rfl⟩
theorem dJM_min_2 : Dc JM_min 2 (.if_icmp .gt 7) 3 5 := ⟨by decide +kernel, rfl⟩
theorem dJM_min_5 : Dc JM_min 5 (.iload_n 0) 1 6 := ⟨by decide +kernel, rfl⟩
theorem dJM_min_6 : Dc JM_min 6 (.goto 4) 3 9 := ⟨by decide +kernel, rfl⟩
theorem dJM_min_9 : Dc JM_min 9 (.iload_n 1) 1 10 := ⟨by decide +kernel, rfl⟩
theorem dJM_min_10 : Dc JM_min 10 (.ireturn) 1 11 := ⟨by decide +kernel, rfl⟩
theorem dJM_max_0 : Dc JM_max 0 (.iload_n 0) 1 1 := ⟨by decide +kernel, rfl⟩
theorem dJM_max_1 : Dc JM_max 1 (.iload_n 1) 1 2 := ⟨by decide +kernel, rfl⟩
theorem dJM_max_2 : Dc JM_max 2 (.if_icmp .lt 7) 3 5 := ⟨by decide +kernel, rfl⟩
theorem dJM_max_5 : Dc JM_max 5 (.iload_n 0) 1 6 := ⟨by decide +kernel, rfl⟩
theorem dJM_max_6 : Dc JM_max 6 (.goto 4) 3 9 := ⟨by decide +kernel, rfl⟩
theorem dJM_max_9 : Dc JM_max 9 (.iload_n 1) 1 10 := ⟨by decide +kernel, rfl⟩
theorem dJM_max_10 : Dc JM_max 10 (.ireturn) 1 11 := ⟨by decide +kernel, rfl⟩
theorem dH_prowl_0 : Dc H_prowl 0 (.aload_n 0) 1 1 := ⟨by decide +kernel, rfl⟩
theorem dH_prowl_1 : Dc H_prowl 1 (.getfield 21) 3 4 := ⟨by decide +kernel, rfl⟩
theorem dH_prowl_4 : Dc H_prowl 4 (.iconst (-1)) 1 5 := ⟨by decide +kernel, rfl⟩
theorem dH_prowl_5 : Dc H_prowl 5 (.if_icmp .eq 18) 3 8 := ⟨by decide +kernel, rfl⟩
theorem dH_prowl_8 : Dc H_prowl 8 (.aload_n 0) 1 9 := ⟨by decide +kernel, rfl⟩
theorem dH_prowl_9 : Dc H_prowl 9 (.getfield 21) 3 12 := ⟨by decide +kernel, rfl⟩
theorem dH_prowl_12 : Dc H_prowl 12 (.aload_n 0) 1 13 := ⟨by decide +kernel, rfl⟩
theorem dH_prowl_13 : Dc H_prowl 13 (.getfield 15) 3 16 := ⟨by decide +kernel, rfl⟩
theorem dH_prowl_16 : Dc H_prowl 16 (.invokestatic 79) 3 19 := ⟨by decide +kernel, rfl⟩
theorem dH_prowl_19 : Dc H_prowl 19 (.iconst 1) 1 20 := ⟨by decide +kernel, rfl⟩
theorem dH_prowl_20 : Dc H_prowl 20 (.if_icmp .gt 4) 3 23 := ⟨by decide +kernel, rfl⟩
theorem dH_prowl_23 : Dc H_prowl 23 (.return_) 1 24 := ⟨by decide +kernel, rfl⟩
theorem dH_prowl_24 : Dc H_prowl 24 (.aload_n 0) 1 25 := ⟨by decide +kernel, rfl⟩
theorem dH_prowl_25 : Dc H_prowl 25 (.invokevirtual 131) 3 28 := ⟨by decide +kernel, rfl⟩
theorem dH_prowl_28 : Dc H_prowl 28 (.istore_n 1) 1 29 := ⟨by decide +kernel, rfl⟩
theorem dH_prowl_29 : Dc H_prowl 29 (.iload_n 1) 1 30 := ⟨by decide +kernel, rfl⟩
theorem dH_prowl_30 : Dc H_prowl 30 (.iconst (-1)) 1 31 := ⟨by decide +kernel, rfl⟩
theorem dH_prowl_31 : Dc H_prowl 31 (.if_icmp .eq 24) 3 34 := ⟨by decide +kernel, rfl⟩
theorem dH_prowl_34 : Dc H_prowl 34 (.aload_n 0) 1 35 := ⟨by decide +kernel, rfl⟩
theorem dH_prowl_35 : Dc H_prowl 35 (.aload_n 0) 1 36 := ⟨by decide +kernel, rfl⟩
theorem dH_prowl_36 : Dc H_prowl 36 (.getfield 21) 3 39 := ⟨by decide +kernel, rfl⟩
theorem dH_prowl_39 : Dc H_prowl 39 (.aload_n 0) 1 40 := ⟨by decide +kernel, rfl⟩
theorem dH_prowl_40 : Dc H_prowl 40 (.getfield 37) 3 43 := ⟨by decide +kernel, rfl⟩
theorem dH_prowl_43 : Dc H_prowl 43 (.iload_n 1) 1 44 := ⟨by decide +kernel, rfl⟩
theorem dH_prowl_44 : Dc H_prowl 44 (.iaload) 1 45 := ⟨by decide +kernel, rfl⟩
theorem dH_prowl_45 : Dc H_prowl 45 (.aload_n 0) 1 46 := ⟨by decide +kernel, rfl⟩
theorem dH_prowl_46 : Dc H_prowl 46 (.getfield 24) 3 49 := ⟨by decide +kernel, rfl⟩
theorem dH_prowl_49 : Dc H_prowl 49 (.invokestatic 124) 3 52 := ⟨by decide +kernel, rfl⟩
theorem dH_prowl_52 : Dc H_prowl 52 (.putfield 21) 3 55 := ⟨by decide +kernel, rfl⟩
theorem dH_prowl_55 : Dc H_prowl 55 (.aload_n 0) 1 56 := ⟨by decide +kernel, rfl⟩
theorem dH_prowl_56 : Dc H_prowl 56 (.invokevirtual 134) 3 59 := ⟨by decide +kernel, rfl⟩
theorem dH_prowl_59 : Dc H_prowl 59 (.return_) 1 60 := ⟨by decide +kernel, rfl⟩
theorem dH_nearestToWolf_0 : Dc H_nearestToWolf 0 (.iconst (-1)) 1 1 := ⟨by decide +kernel, rfl⟩
theorem dH_nearestToWolf_1 : Dc H_nearestToWolf 1 (.istore_n 1) 1 2 := ⟨by decide +kernel, rfl⟩
theorem dH_nearestToWolf_2 : Dc H_nearestToWolf 2 (.bipush 16) 2 4 := ⟨by decide +kernel, rfl⟩
theorem dH_nearestToWolf_4 : Dc H_nearestToWolf 4 (.istore_n 2) 1 5 := ⟨by decide +kernel, rfl⟩
theorem dH_nearestToWolf_5 : Dc H_nearestToWolf 5 (.iconst 0) 1 6 := ⟨by decide +kernel, rfl⟩
theorem dH_nearestToWolf_6 : Dc H_nearestToWolf 6 (.istore_n 3) 1 7 := ⟨by decide +kernel, rfl⟩
theorem dH_nearestToWolf_7 : Dc H_nearestToWolf 7 (.iload_n 3) 1 8 := ⟨by decide +kernel, rfl⟩
theorem dH_nearestToWolf_8 : Dc H_nearestToWolf 8 (.aload_n 0) 1 9 := ⟨by decide +kernel, rfl⟩
theorem dH_nearestToWolf_9 : Dc H_nearestToWolf 9 (.getfield 30) 3 12 := ⟨by decide +kernel, rfl⟩
theorem dH_nearestToWolf_12 : Dc H_nearestToWolf 12 (.if_icmp .ge 50) 3 15 := ⟨by decide +kernel, rfl⟩
theorem dH_nearestToWolf_15 : Dc H_nearestToWolf 15 (.iload_n 3) 1 16 := ⟨by decide +kernel, rfl⟩
theorem dH_nearestToWolf_16 : Dc H_nearestToWolf 16 (.aload_n 0) 1 17 := ⟨by decide +kernel, rfl⟩
theorem dH_nearestToWolf_17 : Dc H_nearestToWolf 17 (.getfield 18) 3 20 := ⟨by decide +kernel, rfl⟩
theorem dH_nearestToWolf_20 : Dc H_nearestToWolf 20 (.if_icmp .eq 36) 3 23 := ⟨by decide +kernel, rfl⟩
theorem dH_nearestToWolf_23 : Dc H_nearestToWolf 23 (.aload_n 0) 1 24 := ⟨by decide +kernel, rfl⟩
theorem dH_nearestToWolf_24 : Dc H_nearestToWolf 24 (.getfield 37) 3 27 := ⟨by decide +kernel, rfl⟩
theorem dH_nearestToWolf_27 : Dc H_nearestToWolf 27 (.iload_n 3) 1 28 := ⟨by decide +kernel, rfl⟩
theorem dH_nearestToWolf_28 : Dc H_nearestToWolf 28 (.iaload) 1 29 := ⟨by decide +kernel, rfl⟩
theorem dH_nearestToWolf_29 : Dc H_nearestToWolf 29 (.aload_n 0) 1 30 := ⟨by decide +kernel, rfl⟩
theorem dH_nearestToWolf_30 : Dc H_nearestToWolf 30 (.getfield 21) 3 33 := ⟨by decide +kernel, rfl⟩
theorem dH_nearestToWolf_33 : Dc H_nearestToWolf 33 (.invokestatic 79) 3 36 := ⟨by decide +kernel, rfl⟩
theorem dH_nearestToWolf_36 : Dc H_nearestToWolf 36 (.iload_n 2) 1 37 := ⟨by decide +kernel, rfl⟩
theorem dH_nearestToWolf_37 : Dc H_nearestToWolf 37 (.if_icmp .ge 19) 3 40 := ⟨by decide +kernel, rfl⟩
theorem dH_nearestToWolf_40 : Dc H_nearestToWolf 40 (.aload_n 0) 1 41 := ⟨by decide +kernel, rfl⟩
theorem dH_nearestToWolf_41 : Dc H_nearestToWolf 41 (.getfield 37) 3 44 := ⟨by decide +kernel, rfl⟩
theorem dH_nearestToWolf_44 : Dc H_nearestToWolf 44 (.iload_n 3) 1 45 := ⟨by decide +kernel, rfl⟩
theorem dH_nearestToWolf_45 : Dc H_nearestToWolf 45 (.iaload) 1 46 := ⟨by decide +kernel, rfl⟩
theorem dH_nearestToWolf_46 : Dc H_nearestToWolf 46 (.aload_n 0) 1 47 := ⟨by decide +kernel, rfl⟩
theorem dH_nearestToWolf_47 : Dc H_nearestToWolf 47 (.getfield 21) 3 50 := ⟨by decide +kernel, rfl⟩
theorem dH_nearestToWolf_50 : Dc H_nearestToWolf 50 (.invokestatic 79) 3 53 := ⟨by decide +kernel, rfl⟩
theorem dH_nearestToWolf_53 : Dc H_nearestToWolf 53 (.istore_n 2) 1 54 := ⟨by decide +kernel, rfl⟩
theorem dH_nearestToWolf_54 : Dc H_nearestToWolf 54 (.iload_n 3) 1 55 := ⟨by decide +kernel, rfl⟩
theorem dH_nearestToWolf_55 : Dc H_nearestToWolf 55 (.istore_n 1) 1 56 := ⟨by decide +kernel, rfl⟩
theorem dH_nearestToWolf_56 : Dc H_nearestToWolf 56 (.iinc 3 1) 3 59 := ⟨by decide +kernel, rfl⟩
theorem dH_nearestToWolf_59 : Dc H_nearestToWolf 59 (.goto (-52)) 3 62 := ⟨by decide +kernel, rfl⟩
theorem dH_nearestToWolf_62 : Dc H_nearestToWolf 62 (.iload_n 1) 1 63 := ⟨by decide +kernel, rfl⟩
theorem dH_nearestToWolf_63 : Dc H_nearestToWolf 63 (.ireturn) 1 64 := ⟨by decide +kernel, rfl⟩
theorem dH_frighten_0 : Dc H_frighten 0 (.iconst 0) 1 1 := ⟨by decide +kernel, rfl⟩
theorem dH_frighten_1 : Dc H_frighten 1 (.istore_n 1) 1 2 := ⟨by decide +kernel, rfl⟩
theorem dH_frighten_2 : Dc H_frighten 2 (.iload_n 1) 1 3 := ⟨by decide +kernel, rfl⟩
theorem dH_frighten_3 : Dc H_frighten 3 (.aload_n 0) 1 4 := ⟨by decide +kernel, rfl⟩
theorem dH_frighten_4 : Dc H_frighten 4 (.getfield 30) 3 7 := ⟨by decide +kernel, rfl⟩
theorem dH_frighten_7 : Dc H_frighten 7 (.if_icmp .ge 61) 3 10 := ⟨by decide +kernel, rfl⟩
theorem dH_frighten_10 : Dc H_frighten 10 (.iload_n 1) 1 11 := ⟨by decide +kernel, rfl⟩
theorem dH_frighten_11 : Dc H_frighten 11 (.aload_n 0) 1 12 := ⟨by decide +kernel, rfl⟩
theorem dH_frighten_12 : Dc H_frighten 12 (.getfield 18) 3 15 := ⟨by decide +kernel, rfl⟩
theorem dH_frighten_15 : Dc H_frighten 15 (.if_icmp .eq 47) 3 18 := ⟨by decide +kernel, rfl⟩
theorem dH_frighten_18 : Dc H_frighten 18 (.aload_n 0) 1 19 := ⟨by decide +kernel, rfl⟩
theorem dH_frighten_19 : Dc H_frighten 19 (.getfield 37) 3 22 := ⟨by decide +kernel, rfl⟩
theorem dH_frighten_22 : Dc H_frighten 22 (.iload_n 1) 1 23 := ⟨by decide +kernel, rfl⟩
theorem dH_frighten_23 : Dc H_frighten 23 (.iaload) 1 24 := ⟨by decide +kernel, rfl⟩
theorem dH_frighten_24 : Dc H_frighten 24 (.aload_n 0) 1 25 := ⟨by decide +kernel, rfl⟩
theorem dH_frighten_25 : Dc H_frighten 25 (.getfield 21) 3 28 := ⟨by decide +kernel, rfl⟩
theorem dH_frighten_28 : Dc H_frighten 28 (.invokestatic 79) 3 31 := ⟨by decide +kernel, rfl⟩
theorem dH_frighten_31 : Dc H_frighten 31 (.iconst 2) 1 32 := ⟨by decide +kernel, rfl⟩
theorem dH_frighten_32 : Dc H_frighten 32 (.if_icmp .gt 30) 3 35 := ⟨by decide +kernel, rfl⟩
theorem dH_frighten_35 : Dc H_frighten 35 (.aload_n 0) 1 36 := ⟨by decide +kernel, rfl⟩
theorem dH_frighten_36 : Dc H_frighten 36 (.getfield 40) 3 39 := ⟨by decide +kernel, rfl⟩
theorem dH_frighten_39 : Dc H_frighten 39 (.iload_n 1) 1 40 := ⟨by decide +kernel, rfl⟩
theorem dH_frighten_40 : Dc H_frighten 40 (.aload_n 0) 1 41 := ⟨by decide +kernel, rfl⟩
theorem dH_frighten_41 : Dc H_frighten 41 (.getfield 40) 3 44 := ⟨by decide +kernel, rfl⟩
theorem dH_frighten_44 : Dc H_frighten 44 (.iload_n 1) 1 45 := ⟨by decide +kernel, rfl⟩
theorem dH_frighten_45 : Dc H_frighten 45 (.iaload) 1 46 := ⟨by decide +kernel, rfl⟩
theorem dH_frighten_46 : Dc H_frighten 46 (.aload_n 0) 1 47 := ⟨by decide +kernel, rfl⟩
theorem dH_frighten_47 : Dc H_frighten 47 (.getfield 33) 3 50 := ⟨by decide +kernel, rfl⟩
theorem dH_frighten_50 : Dc H_frighten 50 (.iload_n 1) 1 51 := ⟨by decide +kernel, rfl⟩
theorem dH_frighten_51 : Dc H_frighten 51 (.iaload) 1 52 := ⟨by decide +kernel, rfl⟩
theorem dH_frighten_52 : Dc H_frighten 52 (.invokestatic 70) 3 55 := ⟨by decide +kernel, rfl⟩
theorem dH_frighten_55 : Dc H_frighten 55 (.iadd) 1 56 := ⟨by decide +kernel, rfl⟩
theorem dH_frighten_56 : Dc H_frighten 56 (.bipush 99) 2 58 := ⟨by decide +kernel, rfl⟩
theorem dH_frighten_58 : Dc H_frighten 58 (.invokestatic 116) 3 61 := ⟨by decide +kernel, rfl⟩
theorem dH_frighten_61 : Dc H_frighten 61 (.iastore) 1 62 := ⟨by decide +kernel, rfl⟩
theorem dH_frighten_62 : Dc H_frighten 62 (.iinc 1 1) 3 65 := ⟨by decide +kernel, rfl⟩
theorem dH_frighten_65 : Dc H_frighten 65 (.goto (-63)) 3 68 := ⟨by decide +kernel, rfl⟩
theorem dH_frighten_68 : Dc H_frighten 68 (.return_) 1 69 := ⟨by decide +kernel, rfl⟩
theorem dH_tend_0 : Dc H_tend 0 (.aload_n 0) 1 1 := ⟨by decide +kernel, rfl⟩
theorem dH_tend_1 : Dc H_tend 1 (.aload_n 0) 1 2 := ⟨by decide +kernel, rfl⟩
theorem dH_tend_2 : Dc H_tend 2 (.getfield 18) 3 5 := ⟨by decide +kernel, rfl⟩
theorem dH_tend_5 : Dc H_tend 5 (.invokevirtual 59) 3 8 := ⟨by decide +kernel, rfl⟩
theorem dH_tend_8 : Dc H_tend 8 (.ifCond .eq 10) 3 11 := ⟨by decide +kernel, rfl⟩
theorem dH_tend_11 : Dc H_tend 11 (.aload_n 0) 1 12 := ⟨by decide +kernel, rfl⟩
theorem dH_tend_12 : Dc H_tend 12 (.invokevirtual 137) 3 15 := ⟨by decide +kernel, rfl⟩
theorem dH_tend_15 : Dc H_tend 15 (.goto 7) 3 18 := ⟨by decide +kernel, rfl⟩
theorem dH_tend_18 : Dc H_tend 18 (.aload_n 0) 1 19 := ⟨by decide +kernel, rfl⟩
theorem dH_tend_19 : Dc H_tend 19 (.invokevirtual 140) 3 22 := ⟨by decide +kernel, rfl⟩
theorem dH_tend_22 : Dc H_tend 22 (.return_) 1 23 := ⟨by decide +kernel, rfl⟩
theorem dH_carryHome_0 : Dc H_carryHome 0 (.aload_n 0) 1 1 := ⟨by decide +kernel, rfl⟩
theorem dH_carryHome_1 : Dc H_carryHome 1 (.getfield 18) 3 4 := ⟨by decide +kernel, rfl⟩
theorem dH_carryHome_4 : Dc H_carryHome 4 (.istore_n 1) 1 5 := ⟨by decide +kernel, rfl⟩
theorem dH_carryHome_5 : Dc H_carryHome 5 (.aload_n 0) 1 6 := ⟨by decide +kernel, rfl⟩
theorem dH_carryHome_6 : Dc H_carryHome 6 (.aload_n 0) 1 7 := ⟨by decide +kernel, rfl⟩
theorem dH_carryHome_7 : Dc H_carryHome 7 (.getfield 15) 3 10 := ⟨by decide +kernel, rfl⟩
theorem dH_carryHome_10 : Dc H_carryHome 10 (.aload_n 0) 1 11 := ⟨by decide +kernel, rfl⟩
theorem dH_carryHome_11 : Dc H_carryHome 11 (.getfield 9) 3 14 := ⟨by decide +kernel, rfl⟩
theorem dH_carryHome_14 : Dc H_carryHome 14 (.aload_n 0) 1 15 := ⟨by decide +kernel, rfl⟩
theorem dH_carryHome_15 : Dc H_carryHome 15 (.getfield 33) 3 18 := ⟨by decide +kernel, rfl⟩
theorem dH_carryHome_18 : Dc H_carryHome 18 (.iload_n 1) 1 19 := ⟨by decide +kernel, rfl⟩
theorem dH_carryHome_19 : Dc H_carryHome 19 (.iaload) 1 20 := ⟨by decide +kernel, rfl⟩
theorem dH_carryHome_20 : Dc H_carryHome 20 (.invokestatic 76) 3 23 := ⟨by decide +kernel, rfl⟩
theorem dH_carryHome_23 : Dc H_carryHome 23 (.invokestatic 124) 3 26 := ⟨by decide +kernel, rfl⟩
theorem dH_carryHome_26 : Dc H_carryHome 26 (.invokevirtual 143) 3 29 := ⟨by decide +kernel, rfl⟩
theorem dH_carryHome_29 : Dc H_carryHome 29 (.aload_n 0) 1 30 := ⟨by decide +kernel, rfl⟩
theorem dH_carryHome_30 : Dc H_carryHome 30 (.getfield 15) 3 33 := ⟨by decide +kernel, rfl⟩
theorem dH_carryHome_33 : Dc H_carryHome 33 (.aload_n 0) 1 34 := ⟨by decide +kernel, rfl⟩
theorem dH_carryHome_34 : Dc H_carryHome 34 (.getfield 9) 3 37 := ⟨by decide +kernel, rfl⟩
theorem dH_carryHome_37 : Dc H_carryHome 37 (.if_icmp .ne 35) 3 40 := ⟨by decide +kernel, rfl⟩
theorem dH_carryHome_40 : Dc H_carryHome 40 (.aload_n 0) 1 41 := ⟨by decide +kernel, rfl⟩
theorem dH_carryHome_41 : Dc H_carryHome 41 (.getfield 46) 3 44 := ⟨by decide +kernel, rfl⟩
theorem dH_carryHome_44 : Dc H_carryHome 44 (.iload_n 1) 1 45 := ⟨by decide +kernel, rfl⟩
theorem dH_carryHome_45 : Dc H_carryHome 45 (.aload_n 0) 1 46 := ⟨by decide +kernel, rfl⟩
theorem dH_carryHome_46 : Dc H_carryHome 46 (.getfield 46) 3 49 := ⟨by decide +kernel, rfl⟩
theorem dH_carryHome_49 : Dc H_carryHome 49 (.iload_n 1) 1 50 := ⟨by decide +kernel, rfl⟩
theorem dH_carryHome_50 : Dc H_carryHome 50 (.iaload) 1 51 := ⟨by decide +kernel, rfl⟩
theorem dH_carryHome_51 : Dc H_carryHome 51 (.iconst 1) 1 52 := ⟨by decide +kernel, rfl⟩
theorem dH_carryHome_52 : Dc H_carryHome 52 (.iadd) 1 53 := ⟨by decide +kernel, rfl⟩
theorem dH_carryHome_53 : Dc H_carryHome 53 (.sipush 9999) 3 56 := ⟨by decide +kernel, rfl⟩
theorem dH_carryHome_56 : Dc H_carryHome 56 (.invokestatic 116) 3 59 := ⟨by decide +kernel, rfl⟩
theorem dH_carryHome_59 : Dc H_carryHome 59 (.iastore) 1 60 := ⟨by decide +kernel, rfl⟩
theorem dH_carryHome_60 : Dc H_carryHome 60 (.aload_n 0) 1 61 := ⟨by decide +kernel, rfl⟩
theorem dH_carryHome_61 : Dc H_carryHome 61 (.getfield 40) 3 64 := ⟨by decide +kernel, rfl⟩
theorem dH_carryHome_64 : Dc H_carryHome 64 (.iload_n 1) 1 65 := ⟨by decide +kernel, rfl⟩
theorem dH_carryHome_65 : Dc H_carryHome 65 (.iconst 0) 1 66 := ⟨by decide +kernel, rfl⟩
theorem dH_carryHome_66 : Dc H_carryHome 66 (.iastore) 1 67 := ⟨by decide +kernel, rfl⟩
theorem dH_carryHome_67 : Dc H_carryHome 67 (.aload_n 0) 1 68 := ⟨by decide +kernel, rfl⟩
theorem dH_carryHome_68 : Dc H_carryHome 68 (.iconst (-1)) 1 69 := ⟨by decide +kernel, rfl⟩
theorem dH_carryHome_69 : Dc H_carryHome 69 (.putfield 18) 3 72 := ⟨by decide +kernel, rfl⟩
theorem dH_carryHome_72 : Dc H_carryHome 72 (.return_) 1 73 := ⟨by decide +kernel, rfl⟩
theorem dH_seek_0 : Dc H_seek 0 (.aload_n 0) 1 1 := ⟨by decide +kernel, rfl⟩
theorem dH_seek_1 : Dc H_seek 1 (.invokevirtual 146) 3 4 := ⟨by decide +kernel, rfl⟩
theorem dH_seek_4 : Dc H_seek 4 (.istore_n 1) 1 5 := ⟨by decide +kernel, rfl⟩
theorem dH_seek_5 : Dc H_seek 5 (.iload_n 1) 1 6 := ⟨by decide +kernel, rfl⟩
theorem dH_seek_6 : Dc H_seek 6 (.iconst (-1)) 1 7 := ⟨by decide +kernel, rfl⟩
theorem dH_seek_7 : Dc H_seek 7 (.if_icmp .ne 20) 3 10 := ⟨by decide +kernel, rfl⟩
theorem dH_seek_10 : Dc H_seek 10 (.aload_n 0) 1 11 := ⟨by decide +kernel, rfl⟩
theorem dH_seek_11 : Dc H_seek 11 (.aload_n 0) 1 12 := ⟨by decide +kernel, rfl⟩
theorem dH_seek_12 : Dc H_seek 12 (.getfield 15) 3 15 := ⟨by decide +kernel, rfl⟩
theorem dH_seek_15 : Dc H_seek 15 (.aload_n 0) 1 16 := ⟨by decide +kernel, rfl⟩
theorem dH_seek_16 : Dc H_seek 16 (.getfield 9) 3 19 := ⟨by decide +kernel, rfl⟩
theorem dH_seek_19 : Dc H_seek 19 (.iconst 2) 1 20 := ⟨by decide +kernel, rfl⟩
theorem dH_seek_20 : Dc H_seek 20 (.invokestatic 124) 3 23 := ⟨by decide +kernel, rfl⟩
theorem dH_seek_23 : Dc H_seek 23 (.putfield 15) 3 26 := ⟨by decide +kernel, rfl⟩
theorem dH_seek_26 : Dc H_seek 26 (.return_) 1 27 := ⟨by decide +kernel, rfl⟩
theorem dH_seek_27 : Dc H_seek 27 (.aload_n 0) 1 28 := ⟨by decide +kernel, rfl⟩
theorem dH_seek_28 : Dc H_seek 28 (.aload_n 0) 1 29 := ⟨by decide +kernel, rfl⟩
theorem dH_seek_29 : Dc H_seek 29 (.getfield 15) 3 32 := ⟨by decide +kernel, rfl⟩
theorem dH_seek_32 : Dc H_seek 32 (.aload_n 0) 1 33 := ⟨by decide +kernel, rfl⟩
theorem dH_seek_33 : Dc H_seek 33 (.getfield 37) 3 36 := ⟨by decide +kernel, rfl⟩
theorem dH_seek_36 : Dc H_seek 36 (.iload_n 1) 1 37 := ⟨by decide +kernel, rfl⟩
theorem dH_seek_37 : Dc H_seek 37 (.iaload) 1 38 := ⟨by decide +kernel, rfl⟩
theorem dH_seek_38 : Dc H_seek 38 (.iconst 2) 1 39 := ⟨by decide +kernel, rfl⟩
theorem dH_seek_39 : Dc H_seek 39 (.invokestatic 124) 3 42 := ⟨by decide +kernel, rfl⟩
theorem dH_seek_42 : Dc H_seek 42 (.putfield 15) 3 45 := ⟨by decide +kernel, rfl⟩
theorem dH_seek_45 : Dc H_seek 45 (.aload_n 0) 1 46 := ⟨by decide +kernel, rfl⟩
theorem dH_seek_46 : Dc H_seek 46 (.getfield 15) 3 49 := ⟨by decide +kernel, rfl⟩
theorem dH_seek_49 : Dc H_seek 49 (.aload_n 0) 1 50 := ⟨by decide +kernel, rfl⟩
theorem dH_seek_50 : Dc H_seek 50 (.getfield 37) 3 53 := ⟨by decide +kernel, rfl⟩
theorem dH_seek_53 : Dc H_seek 53 (.iload_n 1) 1 54 := ⟨by decide +kernel, rfl⟩
theorem dH_seek_54 : Dc H_seek 54 (.iaload) 1 55 := ⟨by decide +kernel, rfl⟩
theorem dH_seek_55 : Dc H_seek 55 (.if_icmp .ne 8) 3 58 := ⟨by decide +kernel, rfl⟩
theorem dH_seek_58 : Dc H_seek 58 (.aload_n 0) 1 59 := ⟨by decide +kernel, rfl⟩
theorem dH_seek_59 : Dc H_seek 59 (.iload_n 1) 1 60 := ⟨by decide +kernel, rfl⟩
theorem dH_seek_60 : Dc H_seek 60 (.putfield 18) 3 63 := ⟨by decide +kernel, rfl⟩
theorem dH_seek_63 : Dc H_seek 63 (.return_) 1 64 := ⟨by decide +kernel, rfl⟩
theorem dH_sought_0 : Dc H_sought 0 (.iconst (-1)) 1 1 := ⟨by decide +kernel, rfl⟩
theorem dH_sought_1 : Dc H_sought 1 (.istore_n 1) 1 2 := ⟨by decide +kernel, rfl⟩
theorem dH_sought_2 : Dc H_sought 2 (.iconst 2) 1 3 := ⟨by decide +kernel, rfl⟩
theorem dH_sought_3 : Dc H_sought 3 (.istore_n 2) 1 4 := ⟨by decide +kernel, rfl⟩
theorem dH_sought_4 : Dc H_sought 4 (.iconst 0) 1 5 := ⟨by decide +kernel, rfl⟩
theorem dH_sought_5 : Dc H_sought 5 (.istore_n 3) 1 6 := ⟨by decide +kernel, rfl⟩
theorem dH_sought_6 : Dc H_sought 6 (.iload_n 3) 1 7 := ⟨by decide +kernel, rfl⟩
theorem dH_sought_7 : Dc H_sought 7 (.aload_n 0) 1 8 := ⟨by decide +kernel, rfl⟩
theorem dH_sought_8 : Dc H_sought 8 (.getfield 30) 3 11 := ⟨by decide +kernel, rfl⟩
theorem dH_sought_11 : Dc H_sought 11 (.if_icmp .ge 26) 3 14 := ⟨by decide +kernel, rfl⟩
theorem dH_sought_14 : Dc H_sought 14 (.aload_n 0) 1 15 := ⟨by decide +kernel, rfl⟩
theorem dH_sought_15 : Dc H_sought 15 (.iload_n 3) 1 16 := ⟨by decide +kernel, rfl⟩
theorem dH_sought_16 : Dc H_sought 16 (.invokevirtual 63) 3 19 := ⟨by decide +kernel, rfl⟩
theorem dH_sought_19 : Dc H_sought 19 (.iload_n 2) 1 20 := ⟨by decide +kernel, rfl⟩
theorem dH_sought_20 : Dc H_sought 20 (.if_icmp .le 11) 3 23 := ⟨by decide +kernel, rfl⟩
theorem dH_sought_23 : Dc H_sought 23 (.aload_n 0) 1 24 := ⟨by decide +kernel, rfl⟩
theorem dH_sought_24 : Dc H_sought 24 (.iload_n 3) 1 25 := ⟨by decide +kernel, rfl⟩
theorem dH_sought_25 : Dc H_sought 25 (.invokevirtual 63) 3 28 := ⟨by decide +kernel, rfl⟩
theorem dH_sought_28 : Dc H_sought 28 (.istore_n 2) 1 29 := ⟨by decide +kernel, rfl⟩
theorem dH_sought_29 : Dc H_sought 29 (.iload_n 3) 1 30 := ⟨by decide +kernel, rfl⟩
theorem dH_sought_30 : Dc H_sought 30 (.istore_n 1) 1 31 := ⟨by decide +kernel, rfl⟩
theorem dH_sought_31 : Dc H_sought 31 (.iinc 3 1) 3 34 := ⟨by decide +kernel, rfl⟩
theorem dH_sought_34 : Dc H_sought 34 (.goto (-28)) 3 37 := ⟨by decide +kernel, rfl⟩
theorem dH_sought_37 : Dc H_sought 37 (.iload_n 1) 1 38 := ⟨by decide +kernel, rfl⟩
theorem dH_sought_38 : Dc H_sought 38 (.ireturn) 1 39 := ⟨by decide +kernel, rfl⟩
theorem dH_settle_0 : Dc H_settle 0 (.iconst 0) 1 1 := ⟨by decide +kernel, rfl⟩
theorem dH_settle_1 : Dc H_settle 1 (.istore_n 1) 1 2 := ⟨by decide +kernel, rfl⟩
theorem dH_settle_2 : Dc H_settle 2 (.iload_n 1) 1 3 := ⟨by decide +kernel, rfl⟩
theorem dH_settle_3 : Dc H_settle 3 (.aload_n 0) 1 4 := ⟨by decide +kernel, rfl⟩
theorem dH_settle_4 : Dc H_settle 4 (.getfield 30) 3 7 := ⟨by decide +kernel, rfl⟩
theorem dH_settle_7 : Dc H_settle 7 (.if_icmp .ge 72) 3 10 := ⟨by decide +kernel, rfl⟩
theorem dH_settle_10 : Dc H_settle 10 (.aload_n 0) 1 11 := ⟨by decide +kernel, rfl⟩
theorem dH_settle_11 : Dc H_settle 11 (.getfield 43) 3 14 := ⟨by decide +kernel, rfl⟩
theorem dH_settle_14 : Dc H_settle 14 (.iload_n 1) 1 15 := ⟨by decide +kernel, rfl⟩
theorem dH_settle_15 : Dc H_settle 15 (.aload_n 0) 1 16 := ⟨by decide +kernel, rfl⟩
theorem dH_settle_16 : Dc H_settle 16 (.getfield 37) 3 19 := ⟨by decide +kernel, rfl⟩
theorem dH_settle_19 : Dc H_settle 19 (.iload_n 1) 1 20 := ⟨by decide +kernel, rfl⟩
theorem dH_settle_20 : Dc H_settle 20 (.iaload) 1 21 := ⟨by decide +kernel, rfl⟩
theorem dH_settle_21 : Dc H_settle 21 (.aload_n 0) 1 22 := ⟨by decide +kernel, rfl⟩
theorem dH_settle_22 : Dc H_settle 22 (.getfield 9) 3 25 := ⟨by decide +kernel, rfl⟩
theorem dH_settle_25 : Dc H_settle 25 (.if_icmp .ne 7) 3 28 := ⟨by decide +kernel, rfl⟩
theorem dH_settle_28 : Dc H_settle 28 (.iconst 0) 1 29 := ⟨by decide +kernel, rfl⟩
theorem dH_settle_29 : Dc H_settle 29 (.goto 17) 3 32 := ⟨by decide +kernel, rfl⟩
theorem dH_settle_32 : Dc H_settle 32 (.aload_n 0) 1 33 := ⟨by decide +kernel, rfl⟩
theorem dH_settle_33 : Dc H_settle 33 (.getfield 43) 3 36 := ⟨by decide +kernel, rfl⟩
theorem dH_settle_36 : Dc H_settle 36 (.iload_n 1) 1 37 := ⟨by decide +kernel, rfl⟩
theorem dH_settle_37 : Dc H_settle 37 (.iaload) 1 38 := ⟨by decide +kernel, rfl⟩
theorem dH_settle_38 : Dc H_settle 38 (.iconst 1) 1 39 := ⟨by decide +kernel, rfl⟩
theorem dH_settle_39 : Dc H_settle 39 (.iadd) 1 40 := ⟨by decide +kernel, rfl⟩
theorem dH_settle_40 : Dc H_settle 40 (.sipush 9999) 3 43 := ⟨by decide +kernel, rfl⟩
theorem dH_settle_43 : Dc H_settle 43 (.invokestatic 116) 3 46 := ⟨by decide +kernel, rfl⟩
theorem dH_settle_46 : Dc H_settle 46 (.iastore) 1 47 := ⟨by decide +kernel, rfl⟩
theorem dH_settle_47 : Dc H_settle 47 (.aload_n 0) 1 48 := ⟨by decide +kernel, rfl⟩
theorem dH_settle_48 : Dc H_settle 48 (.getfield 40) 3 51 := ⟨by decide +kernel, rfl⟩
theorem dH_settle_51 : Dc H_settle 51 (.iload_n 1) 1 52 := ⟨by decide +kernel, rfl⟩
theorem dH_settle_52 : Dc H_settle 52 (.aload_n 0) 1 53 := ⟨by decide +kernel, rfl⟩
theorem dH_settle_53 : Dc H_settle 53 (.getfield 40) 3 56 := ⟨by decide +kernel, rfl⟩
theorem dH_settle_56 : Dc H_settle 56 (.iload_n 1) 1 57 := ⟨by decide +kernel, rfl⟩
theorem dH_settle_57 : Dc H_settle 57 (.iaload) 1 58 := ⟨by decide +kernel, rfl⟩
theorem dH_settle_58 : Dc H_settle 58 (.aload_n 0) 1 59 := ⟨by decide +kernel, rfl⟩
theorem dH_settle_59 : Dc H_settle 59 (.getfield 33) 3 62 := ⟨by decide +kernel, rfl⟩
theorem dH_settle_62 : Dc H_settle 62 (.iload_n 1) 1 63 := ⟨by decide +kernel, rfl⟩
theorem dH_settle_63 : Dc H_settle 63 (.iaload) 1 64 := ⟨by decide +kernel, rfl⟩
theorem dH_settle_64 : Dc H_settle 64 (.invokestatic 73) 3 67 := ⟨by decide +kernel, rfl⟩
theorem dH_settle_67 : Dc H_settle 67 (.isub) 1 68 := ⟨by decide +kernel, rfl⟩
theorem dH_settle_68 : Dc H_settle 68 (.iconst 0) 1 69 := ⟨by decide +kernel, rfl⟩
theorem dH_settle_69 : Dc H_settle 69 (.invokestatic 128) 3 72 := ⟨by decide +kernel, rfl⟩
theorem dH_settle_72 : Dc H_settle 72 (.iastore) 1 73 := ⟨by decide +kernel, rfl⟩
theorem dH_settle_73 : Dc H_settle 73 (.iinc 1 1) 3 76 := ⟨by decide +kernel, rfl⟩
theorem dH_settle_76 : Dc H_settle 76 (.goto (-74)) 3 79 := ⟨by decide +kernel, rfl⟩
theorem dH_settle_79 : Dc H_settle 79 (.return_) 1 80 := ⟨by decide +kernel, rfl⟩
theorem dH_total_0 : Dc H_total 0 (.iconst 0) 1 1 := ⟨by decide +kernel, rfl⟩
theorem dH_total_1 : Dc H_total 1 (.istore_n 2) 1 2 := ⟨by decide +kernel, rfl⟩
theorem dH_total_2 : Dc H_total 2 (.iconst 0) 1 3 := ⟨by decide +kernel, rfl⟩
theorem dH_total_3 : Dc H_total 3 (.istore_n 3) 1 4 := ⟨by decide +kernel, rfl⟩
theorem dH_total_4 : Dc H_total 4 (.iload_n 3) 1 5 := ⟨by decide +kernel, rfl⟩
theorem dH_total_5 : Dc H_total 5 (.aload_n 0) 1 6 := ⟨by decide +kernel, rfl⟩
theorem dH_total_6 : Dc H_total 6 (.getfield 30) 3 9 := ⟨by decide +kernel, rfl⟩
theorem dH_total_9 : Dc H_total 9 (.if_icmp .ge 15) 3 12 := ⟨by decide +kernel, rfl⟩
theorem dH_total_12 : Dc H_total 12 (.iload_n 2) 1 13 := ⟨by decide +kernel, rfl⟩
theorem dH_total_13 : Dc H_total 13 (.aload_n 1) 1 14 := ⟨by decide +kernel, rfl⟩
theorem dH_total_14 : Dc H_total 14 (.iload_n 3) 1 15 := ⟨by decide +kernel, rfl⟩
theorem dH_total_15 : Dc H_total 15 (.iaload) 1 16 := ⟨by decide +kernel, rfl⟩
theorem dH_total_16 : Dc H_total 16 (.iadd) 1 17 := ⟨by decide +kernel, rfl⟩
theorem dH_total_17 : Dc H_total 17 (.istore_n 2) 1 18 := ⟨by decide +kernel, rfl⟩
theorem dH_total_18 : Dc H_total 18 (.iinc 3 1) 3 21 := ⟨by decide +kernel, rfl⟩
theorem dH_total_21 : Dc H_total 21 (.goto (-17)) 3 24 := ⟨by decide +kernel, rfl⟩
theorem dH_total_24 : Dc H_total 24 (.iload_n 2) 1 25 := ⟨by decide +kernel, rfl⟩
theorem dH_total_25 : Dc H_total 25 (.ireturn) 1 26 := ⟨by decide +kernel, rfl⟩
theorem dS_now_0 : Dc S_now 0 (.iload_n 1) 1 1 := ⟨by decide +kernel, rfl⟩
theorem dS_now_1 : Dc S_now 1 (.tableswitch 139 0 7 #[47, 55, 63, 78, 93, 108, 116, 131]) 47 48 := ⟨by decide +kernel, rfl⟩
theorem dS_now_48 : Dc S_now 48 (.aload_n 0) 1 49 := ⟨by decide +kernel, rfl⟩
theorem dS_now_49 : Dc S_now 49 (.getfield 12) 3 52 := ⟨by decide +kernel, rfl⟩
theorem dS_now_52 : Dc S_now 52 (.getfield 130) 3 55 := ⟨by decide +kernel, rfl⟩
theorem dS_now_55 : Dc S_now 55 (.ireturn) 1 56 := ⟨by decide +kernel, rfl⟩
theorem dS_now_56 : Dc S_now 56 (.aload_n 0) 1 57 := ⟨by decide +kernel, rfl⟩
theorem dS_now_57 : Dc S_now 57 (.getfield 12) 3 60 := ⟨by decide +kernel, rfl⟩
theorem dS_now_60 : Dc S_now 60 (.invokevirtual 141) 3 63 := ⟨by decide +kernel, rfl⟩
theorem dS_now_63 : Dc S_now 63 (.ireturn) 1 64 := ⟨by decide +kernel, rfl⟩
theorem dS_now_64 : Dc S_now 64 (.aload_n 0) 1 65 := ⟨by decide +kernel, rfl⟩
theorem dS_now_65 : Dc S_now 65 (.getfield 12) 3 68 := ⟨by decide +kernel, rfl⟩
theorem dS_now_68 : Dc S_now 68 (.aload_n 0) 1 69 := ⟨by decide +kernel, rfl⟩
theorem dS_now_69 : Dc S_now 69 (.getfield 12) 3 72 := ⟨by decide +kernel, rfl⟩
theorem dS_now_72 : Dc S_now 72 (.getfield 118) 3 75 := ⟨by decide +kernel, rfl⟩
theorem dS_now_75 : Dc S_now 75 (.invokevirtual 137) 3 78 := ⟨by decide +kernel, rfl⟩
theorem dS_now_78 : Dc S_now 78 (.ireturn) 1 79 := ⟨by decide +kernel, rfl⟩
theorem dS_now_79 : Dc S_now 79 (.aload_n 0) 1 80 := ⟨by decide +kernel, rfl⟩
theorem dS_now_80 : Dc S_now 80 (.getfield 12) 3 83 := ⟨by decide +kernel, rfl⟩
theorem dS_now_83 : Dc S_now 83 (.aload_n 0) 1 84 := ⟨by decide +kernel, rfl⟩
theorem dS_now_84 : Dc S_now 84 (.getfield 12) 3 87 := ⟨by decide +kernel, rfl⟩
theorem dS_now_87 : Dc S_now 87 (.getfield 124) 3 90 := ⟨by decide +kernel, rfl⟩
theorem dS_now_90 : Dc S_now 90 (.invokevirtual 137) 3 93 := ⟨by decide +kernel, rfl⟩
theorem dS_now_93 : Dc S_now 93 (.ireturn) 1 94 := ⟨by decide +kernel, rfl⟩
theorem dS_now_94 : Dc S_now 94 (.aload_n 0) 1 95 := ⟨by decide +kernel, rfl⟩
theorem dS_now_95 : Dc S_now 95 (.getfield 12) 3 98 := ⟨by decide +kernel, rfl⟩
theorem dS_now_98 : Dc S_now 98 (.aload_n 0) 1 99 := ⟨by decide +kernel, rfl⟩
theorem dS_now_99 : Dc S_now 99 (.getfield 12) 3 102 := ⟨by decide +kernel, rfl⟩
theorem dS_now_102 : Dc S_now 102 (.getfield 121) 3 105 := ⟨by decide +kernel, rfl⟩
theorem dS_now_105 : Dc S_now 105 (.invokevirtual 137) 3 108 := ⟨by decide +kernel, rfl⟩
theorem dS_now_108 : Dc S_now 108 (.ireturn) 1 109 := ⟨by decide +kernel, rfl⟩
theorem dS_now_109 : Dc S_now 109 (.aload_n 0) 1 110 := ⟨by decide +kernel, rfl⟩
theorem dS_now_110 : Dc S_now 110 (.getfield 12) 3 113 := ⟨by decide +kernel, rfl⟩
theorem dS_now_113 : Dc S_now 113 (.invokevirtual 145) 3 116 := ⟨by decide +kernel, rfl⟩
theorem dS_now_116 : Dc S_now 116 (.ireturn) 1 117 := ⟨by decide +kernel, rfl⟩
theorem dS_now_117 : Dc S_now 117 (.aload_n 0) 1 118 := ⟨by decide +kernel, rfl⟩
theorem dS_now_118 : Dc S_now 118 (.getfield 12) 3 121 := ⟨by decide +kernel, rfl⟩
theorem dS_now_121 : Dc S_now 121 (.aload_n 0) 1 122 := ⟨by decide +kernel, rfl⟩
theorem dS_now_122 : Dc S_now 122 (.getfield 12) 3 125 := ⟨by decide +kernel, rfl⟩
theorem dS_now_125 : Dc S_now 125 (.getfield 68) 3 128 := ⟨by decide +kernel, rfl⟩
theorem dS_now_128 : Dc S_now 128 (.invokevirtual 127) 3 131 := ⟨by decide +kernel, rfl⟩
theorem dS_now_131 : Dc S_now 131 (.ireturn) 1 132 := ⟨by decide +kernel, rfl⟩
theorem dS_now_132 : Dc S_now 132 (.aload_n 0) 1 133 := ⟨by decide +kernel, rfl⟩
theorem dS_now_133 : Dc S_now 133 (.getfield 12) 3 136 := ⟨by decide +kernel, rfl⟩
theorem dS_now_136 : Dc S_now 136 (.invokevirtual 148) 3 139 := ⟨by decide +kernel, rfl⟩
theorem dS_now_139 : Dc S_now 139 (.ireturn) 1 140 := ⟨by decide +kernel, rfl⟩
theorem dS_now_140 : Dc S_now 140 (.aload_n 0) 1 141 := ⟨by decide +kernel, rfl⟩
theorem dS_now_141 : Dc S_now 141 (.iconst 0) 1 142 := ⟨by decide +kernel, rfl⟩
theorem dS_now_142 : Dc S_now 142 (.invokevirtual 61) 3 145 := ⟨by decide +kernel, rfl⟩
theorem dS_now_145 : Dc S_now 145 (.ireturn) 1 146 := ⟨by decide +kernel, rfl⟩
theorem dH_farSheep_0 : Dc H_farSheep 0 (.iconst 0) 1 1 := ⟨by decide +kernel, rfl⟩
theorem dH_farSheep_1 : Dc H_farSheep 1 (.istore_n 1) 1 2 := ⟨by decide +kernel, rfl⟩
theorem dH_farSheep_2 : Dc H_farSheep 2 (.iconst 0) 1 3 := ⟨by decide +kernel, rfl⟩
theorem dH_farSheep_3 : Dc H_farSheep 3 (.istore_n 2) 1 4 := ⟨by decide +kernel, rfl⟩
theorem dH_farSheep_4 : Dc H_farSheep 4 (.iload_n 2) 1 5 := ⟨by decide +kernel, rfl⟩
theorem dH_farSheep_5 : Dc H_farSheep 5 (.aload_n 0) 1 6 := ⟨by decide +kernel, rfl⟩
theorem dH_farSheep_6 : Dc H_farSheep 6 (.getfield 30) 3 9 := ⟨by decide +kernel, rfl⟩
theorem dH_farSheep_9 : Dc H_farSheep 9 (.if_icmp .ge 24) 3 12 := ⟨by decide +kernel, rfl⟩
theorem dH_farSheep_12 : Dc H_farSheep 12 (.aload_n 0) 1 13 := ⟨by decide +kernel, rfl⟩
theorem dH_farSheep_13 : Dc H_farSheep 13 (.iload_n 2) 1 14 := ⟨by decide +kernel, rfl⟩
theorem dH_farSheep_14 : Dc H_farSheep 14 (.invokevirtual 63) 3 17 := ⟨by decide +kernel, rfl⟩
theorem dH_farSheep_17 : Dc H_farSheep 17 (.iconst 3) 1 18 := ⟨by decide +kernel, rfl⟩
theorem dH_farSheep_18 : Dc H_farSheep 18 (.if_icmp .lt 9) 3 21 := ⟨by decide +kernel, rfl⟩
theorem dH_farSheep_21 : Dc H_farSheep 21 (.iload_n 1) 1 22 := ⟨by decide +kernel, rfl⟩
theorem dH_farSheep_22 : Dc H_farSheep 22 (.iconst 1) 1 23 := ⟨by decide +kernel, rfl⟩
theorem dH_farSheep_23 : Dc H_farSheep 23 (.iload_n 2) 1 24 := ⟨by decide +kernel, rfl⟩
theorem dH_farSheep_24 : Dc H_farSheep 24 (.ishl) 1 25 := ⟨by decide +kernel, rfl⟩
theorem dH_farSheep_25 : Dc H_farSheep 25 (.ior) 1 26 := ⟨by decide +kernel, rfl⟩
theorem dH_farSheep_26 : Dc H_farSheep 26 (.istore_n 1) 1 27 := ⟨by decide +kernel, rfl⟩
theorem dH_farSheep_27 : Dc H_farSheep 27 (.iinc 2 1) 3 30 := ⟨by decide +kernel, rfl⟩
theorem dH_farSheep_30 : Dc H_farSheep 30 (.goto (-26)) 3 33 := ⟨by decide +kernel, rfl⟩
theorem dH_farSheep_33 : Dc H_farSheep 33 (.iload_n 1) 1 34 := ⟨by decide +kernel, rfl⟩
theorem dH_farSheep_34 : Dc H_farSheep 34 (.ireturn) 1 35 := ⟨by decide +kernel, rfl⟩
theorem dH_mostAfraid_0 : Dc H_mostAfraid 0 (.iconst (-1)) 1 1 := ⟨by decide +kernel, rfl⟩
theorem dH_mostAfraid_1 : Dc H_mostAfraid 1 (.istore_n 1) 1 2 := ⟨by decide +kernel, rfl⟩
theorem dH_mostAfraid_2 : Dc H_mostAfraid 2 (.iconst (-1)) 1 3 := ⟨by decide +kernel, rfl⟩
theorem dH_mostAfraid_3 : Dc H_mostAfraid 3 (.istore_n 2) 1 4 := ⟨by decide +kernel, rfl⟩
theorem dH_mostAfraid_4 : Dc H_mostAfraid 4 (.iconst 0) 1 5 := ⟨by decide +kernel, rfl⟩
theorem dH_mostAfraid_5 : Dc H_mostAfraid 5 (.istore_n 3) 1 6 := ⟨by decide +kernel, rfl⟩
theorem dH_mostAfraid_6 : Dc H_mostAfraid 6 (.iload_n 3) 1 7 := ⟨by decide +kernel, rfl⟩
theorem dH_mostAfraid_7 : Dc H_mostAfraid 7 (.aload_n 0) 1 8 := ⟨by decide +kernel, rfl⟩
theorem dH_mostAfraid_8 : Dc H_mostAfraid 8 (.getfield 30) 3 11 := ⟨by decide +kernel, rfl⟩
theorem dH_mostAfraid_11 : Dc H_mostAfraid 11 (.if_icmp .ge 28) 3 14 := ⟨by decide +kernel, rfl⟩
theorem dH_mostAfraid_14 : Dc H_mostAfraid 14 (.aload_n 0) 1 15 := ⟨by decide +kernel, rfl⟩
theorem dH_mostAfraid_15 : Dc H_mostAfraid 15 (.getfield 40) 3 18 := ⟨by decide +kernel, rfl⟩
theorem dH_mostAfraid_18 : Dc H_mostAfraid 18 (.iload_n 3) 1 19 := ⟨by decide +kernel, rfl⟩
theorem dH_mostAfraid_19 : Dc H_mostAfraid 19 (.iaload) 1 20 := ⟨by decide +kernel, rfl⟩
theorem dH_mostAfraid_20 : Dc H_mostAfraid 20 (.iload_n 2) 1 21 := ⟨by decide +kernel, rfl⟩
theorem dH_mostAfraid_21 : Dc H_mostAfraid 21 (.if_icmp .le 12) 3 24 := ⟨by decide +kernel, rfl⟩
theorem dH_mostAfraid_24 : Dc H_mostAfraid 24 (.aload_n 0) 1 25 := ⟨by decide +kernel, rfl⟩
theorem dH_mostAfraid_25 : Dc H_mostAfraid 25 (.getfield 40) 3 28 := ⟨by decide +kernel, rfl⟩
theorem dH_mostAfraid_28 : Dc H_mostAfraid 28 (.iload_n 3) 1 29 := ⟨by decide +kernel, rfl⟩
theorem dH_mostAfraid_29 : Dc H_mostAfraid 29 (.iaload) 1 30 := ⟨by decide +kernel, rfl⟩
theorem dH_mostAfraid_30 : Dc H_mostAfraid 30 (.istore_n 2) 1 31 := ⟨by decide +kernel, rfl⟩
theorem dH_mostAfraid_31 : Dc H_mostAfraid 31 (.iload_n 3) 1 32 := ⟨by decide +kernel, rfl⟩
theorem dH_mostAfraid_32 : Dc H_mostAfraid 32 (.istore_n 1) 1 33 := ⟨by decide +kernel, rfl⟩
theorem dH_mostAfraid_33 : Dc H_mostAfraid 33 (.iinc 3 1) 3 36 := ⟨by decide +kernel, rfl⟩
theorem dH_mostAfraid_36 : Dc H_mostAfraid 36 (.goto (-30)) 3 39 := ⟨by decide +kernel, rfl⟩
theorem dH_mostAfraid_39 : Dc H_mostAfraid 39 (.iload_n 1) 1 40 := ⟨by decide +kernel, rfl⟩
theorem dH_mostAfraid_40 : Dc H_mostAfraid 40 (.ireturn) 1 41 := ⟨by decide +kernel, rfl⟩
theorem dS_ahead_0 : Dc S_ahead 0 (.aload_n 0) 1 1 := ⟨by decide +kernel, rfl⟩
theorem dS_ahead_1 : Dc S_ahead 1 (.getfield 12) 3 4 := ⟨by decide +kernel, rfl⟩
theorem dS_ahead_4 : Dc S_ahead 4 (.iload_n 1) 1 5 := ⟨by decide +kernel, rfl⟩
theorem dS_ahead_5 : Dc S_ahead 5 (.invokevirtual 100) 3 8 := ⟨by decide +kernel, rfl⟩
theorem dS_ahead_8 : Dc S_ahead 8 (.ifCond .eq 22) 3 11 := ⟨by decide +kernel, rfl⟩
theorem dS_ahead_11 : Dc S_ahead 11 (.iload_n 2) 1 12 := ⟨by decide +kernel, rfl⟩
theorem dS_ahead_12 : Dc S_ahead 12 (.iconst 1) 1 13 := ⟨by decide +kernel, rfl⟩
theorem dS_ahead_13 : Dc S_ahead 13 (.iconst 4) 1 14 := ⟨by decide +kernel, rfl⟩
theorem dS_ahead_14 : Dc S_ahead 14 (.invokestatic 81) 3 17 := ⟨by decide +kernel, rfl⟩
theorem dS_ahead_17 : Dc S_ahead 17 (.ifCond .eq 13) 3 20 := ⟨by decide +kernel, rfl⟩
theorem dS_ahead_20 : Dc S_ahead 20 (.iload_n 3) 1 21 := ⟨by decide +kernel, rfl⟩
theorem dS_ahead_21 : Dc S_ahead 21 (.iconst 0) 1 22 := ⟨by decide +kernel, rfl⟩
theorem dS_ahead_22 : Dc S_ahead 22 (.bipush 100) 2 24 := ⟨by decide +kernel, rfl⟩
theorem dS_ahead_24 : Dc S_ahead 24 (.invokestatic 81) 3 27 := ⟨by decide +kernel, rfl⟩
theorem dS_ahead_27 : Dc S_ahead 27 (.ifCond .ne 9) 3 30 := ⟨by decide +kernel, rfl⟩
theorem dS_ahead_30 : Dc S_ahead 30 (.aload_n 0) 1 31 := ⟨by decide +kernel, rfl⟩
theorem dS_ahead_31 : Dc S_ahead 31 (.iconst 0) 1 32 := ⟨by decide +kernel, rfl⟩
theorem dS_ahead_32 : Dc S_ahead 32 (.invokevirtual 61) 3 35 := ⟨by decide +kernel, rfl⟩
theorem dS_ahead_35 : Dc S_ahead 35 (.ireturn) 1 36 := ⟨by decide +kernel, rfl⟩
theorem dS_ahead_36 : Dc S_ahead 36 (.aload_n 0) 1 37 := ⟨by decide +kernel, rfl⟩
theorem dS_ahead_37 : Dc S_ahead 37 (.getfield 16) 3 40 := ⟨by decide +kernel, rfl⟩
theorem dS_ahead_40 : Dc S_ahead 40 (.aload_n 0) 1 41 := ⟨by decide +kernel, rfl⟩
theorem dS_ahead_41 : Dc S_ahead 41 (.getfield 12) 3 44 := ⟨by decide +kernel, rfl⟩
theorem dS_ahead_44 : Dc S_ahead 44 (.invokevirtual 151) 3 47 := ⟨by decide +kernel, rfl⟩
theorem dS_ahead_47 : Dc S_ahead 47 (.aload_n 0) 1 48 := ⟨by decide +kernel, rfl⟩
theorem dS_ahead_48 : Dc S_ahead 48 (.getfield 16) 3 51 := ⟨by decide +kernel, rfl⟩
theorem dS_ahead_51 : Dc S_ahead 51 (.iload_n 3) 1 52 := ⟨by decide +kernel, rfl⟩
theorem dS_ahead_52 : Dc S_ahead 52 (.invokevirtual 134) 3 55 := ⟨by decide +kernel, rfl⟩
theorem dS_ahead_55 : Dc S_ahead 55 (.aload_n 0) 1 56 := ⟨by decide +kernel, rfl⟩
theorem dS_ahead_56 : Dc S_ahead 56 (.getfield 16) 3 59 := ⟨by decide +kernel, rfl⟩
theorem dS_ahead_59 : Dc S_ahead 59 (.iload_n 1) 1 60 := ⟨by decide +kernel, rfl⟩
theorem dS_ahead_60 : Dc S_ahead 60 (.iload_n 2) 1 61 := ⟨by decide +kernel, rfl⟩
theorem dS_ahead_61 : Dc S_ahead 61 (.invokevirtual 103) 3 64 := ⟨by decide +kernel, rfl⟩
theorem dS_ahead_64 : Dc S_ahead 64 (.ireturn) 1 65 := ⟨by decide +kernel, rfl⟩
theorem dH_become_0 : Dc H_become 0 (.aload_n 0) 1 1 := ⟨by decide +kernel, rfl⟩
theorem dH_become_1 : Dc H_become 1 (.aload_n 1) 1 2 := ⟨by decide +kernel, rfl⟩
theorem dH_become_2 : Dc H_become 2 (.getfield 9) 3 5 := ⟨by decide +kernel, rfl⟩
theorem dH_become_5 : Dc H_become 5 (.putfield 9) 3 8 := ⟨by decide +kernel, rfl⟩
theorem dH_become_8 : Dc H_become 8 (.aload_n 0) 1 9 := ⟨by decide +kernel, rfl⟩
theorem dH_become_9 : Dc H_become 9 (.aload_n 1) 1 10 := ⟨by decide +kernel, rfl⟩
theorem dH_become_10 : Dc H_become 10 (.getfield 15) 3 13 := ⟨by decide +kernel, rfl⟩
theorem dH_become_13 : Dc H_become 13 (.putfield 15) 3 16 := ⟨by decide +kernel, rfl⟩
theorem dH_become_16 : Dc H_become 16 (.aload_n 0) 1 17 := ⟨by decide +kernel, rfl⟩
theorem dH_become_17 : Dc H_become 17 (.aload_n 1) 1 18 := ⟨by decide +kernel, rfl⟩
theorem dH_become_18 : Dc H_become 18 (.getfield 18) 3 21 := ⟨by decide +kernel, rfl⟩
theorem dH_become_21 : Dc H_become 21 (.putfield 18) 3 24 := ⟨by decide +kernel, rfl⟩
theorem dH_become_24 : Dc H_become 24 (.aload_n 0) 1 25 := ⟨by decide +kernel, rfl⟩
theorem dH_become_25 : Dc H_become 25 (.aload_n 1) 1 26 := ⟨by decide +kernel, rfl⟩
theorem dH_become_26 : Dc H_become 26 (.getfield 21) 3 29 := ⟨by decide +kernel, rfl⟩
theorem dH_become_29 : Dc H_become 29 (.putfield 21) 3 32 := ⟨by decide +kernel, rfl⟩
theorem dH_become_32 : Dc H_become 32 (.aload_n 0) 1 33 := ⟨by decide +kernel, rfl⟩
theorem dH_become_33 : Dc H_become 33 (.aload_n 1) 1 34 := ⟨by decide +kernel, rfl⟩
theorem dH_become_34 : Dc H_become 34 (.getfield 24) 3 37 := ⟨by decide +kernel, rfl⟩
theorem dH_become_37 : Dc H_become 37 (.putfield 24) 3 40 := ⟨by decide +kernel, rfl⟩
theorem dH_become_40 : Dc H_become 40 (.aload_n 0) 1 41 := ⟨by decide +kernel, rfl⟩
theorem dH_become_41 : Dc H_become 41 (.aload_n 1) 1 42 := ⟨by decide +kernel, rfl⟩
theorem dH_become_42 : Dc H_become 42 (.getfield 27) 3 45 := ⟨by decide +kernel, rfl⟩
theorem dH_become_45 : Dc H_become 45 (.putfield 27) 3 48 := ⟨by decide +kernel, rfl⟩
theorem dH_become_48 : Dc H_become 48 (.aload_n 0) 1 49 := ⟨by decide +kernel, rfl⟩
theorem dH_become_49 : Dc H_become 49 (.aload_n 1) 1 50 := ⟨by decide +kernel, rfl⟩
theorem dH_become_50 : Dc H_become 50 (.getfield 30) 3 53 := ⟨by decide +kernel, rfl⟩
theorem dH_become_53 : Dc H_become 53 (.putfield 30) 3 56 := ⟨by decide +kernel, rfl⟩
theorem dH_become_56 : Dc H_become 56 (.aload_n 1) 1 57 := ⟨by decide +kernel, rfl⟩
theorem dH_become_57 : Dc H_become 57 (.getfield 33) 3 60 := ⟨by decide +kernel, rfl⟩
theorem dH_become_60 : Dc H_become 60 (.iconst 0) 1 61 := ⟨by decide +kernel, rfl⟩
theorem dH_become_61 : Dc H_become 61 (.aload_n 0) 1 62 := ⟨by decide +kernel, rfl⟩
theorem dH_become_62 : Dc H_become 62 (.getfield 33) 3 65 := ⟨by decide +kernel, rfl⟩
theorem dH_become_65 : Dc H_become 65 (.iconst 0) 1 66 := ⟨by decide +kernel, rfl⟩
theorem dH_become_66 : Dc H_become 66 (.bipush 8) 2 68 := ⟨by decide +kernel, rfl⟩
theorem dH_become_68 : Dc H_become 68 (.invokestatic 49) 3 71 := ⟨by decide +kernel, rfl⟩
theorem dH_become_71 : Dc H_become 71 (.aload_n 1) 1 72 := ⟨by decide +kernel, rfl⟩
theorem dH_become_72 : Dc H_become 72 (.getfield 37) 3 75 := ⟨by decide +kernel, rfl⟩
theorem dH_become_75 : Dc H_become 75 (.iconst 0) 1 76 := ⟨by decide +kernel, rfl⟩
theorem dH_become_76 : Dc H_become 76 (.aload_n 0) 1 77 := ⟨by decide +kernel, rfl⟩
theorem dH_become_77 : Dc H_become 77 (.getfield 37) 3 80 := ⟨by decide +kernel, rfl⟩
theorem dH_become_80 : Dc H_become 80 (.iconst 0) 1 81 := ⟨by decide +kernel, rfl⟩
theorem dH_become_81 : Dc H_become 81 (.bipush 8) 2 83 := ⟨by decide +kernel, rfl⟩
theorem dH_become_83 : Dc H_become 83 (.invokestatic 49) 3 86 := ⟨by decide +kernel, rfl⟩
theorem dH_become_86 : Dc H_become 86 (.aload_n 1) 1 87 := ⟨by decide +kernel, rfl⟩
theorem dH_become_87 : Dc H_become 87 (.getfield 40) 3 90 := ⟨by decide +kernel, rfl⟩
theorem dH_become_90 : Dc H_become 90 (.iconst 0) 1 91 := ⟨by decide +kernel, rfl⟩
theorem dH_become_91 : Dc H_become 91 (.aload_n 0) 1 92 := ⟨by decide +kernel, rfl⟩
theorem dH_become_92 : Dc H_become 92 (.getfield 40) 3 95 := ⟨by decide +kernel, rfl⟩
theorem dH_become_95 : Dc H_become 95 (.iconst 0) 1 96 := ⟨by decide +kernel, rfl⟩
theorem dH_become_96 : Dc H_become 96 (.bipush 8) 2 98 := ⟨by decide +kernel, rfl⟩
theorem dH_become_98 : Dc H_become 98 (.invokestatic 49) 3 101 := ⟨by decide +kernel, rfl⟩
theorem dH_become_101 : Dc H_become 101 (.aload_n 1) 1 102 := ⟨by decide +kernel, rfl⟩
theorem dH_become_102 : Dc H_become 102 (.getfield 43) 3 105 := ⟨by decide +kernel, rfl⟩
theorem dH_become_105 : Dc H_become 105 (.iconst 0) 1 106 := ⟨by decide +kernel, rfl⟩
theorem dH_become_106 : Dc H_become 106 (.aload_n 0) 1 107 := ⟨by decide +kernel, rfl⟩
theorem dH_become_107 : Dc H_become 107 (.getfield 43) 3 110 := ⟨by decide +kernel, rfl⟩
theorem dH_become_110 : Dc H_become 110 (.iconst 0) 1 111 := ⟨by decide +kernel, rfl⟩
theorem dH_become_111 : Dc H_become 111 (.bipush 8) 2 113 := ⟨by decide +kernel, rfl⟩
theorem dH_become_113 : Dc H_become 113 (.invokestatic 49) 3 116 := ⟨by decide +kernel, rfl⟩
theorem dH_become_116 : Dc H_become 116 (.aload_n 1) 1 117 := ⟨by decide +kernel, rfl⟩
theorem dH_become_117 : Dc H_become 117 (.getfield 46) 3 120 := ⟨by decide +kernel, rfl⟩
theorem dH_become_120 : Dc H_become 120 (.iconst 0) 1 121 := ⟨by decide +kernel, rfl⟩
theorem dH_become_121 : Dc H_become 121 (.aload_n 0) 1 122 := ⟨by decide +kernel, rfl⟩
theorem dH_become_122 : Dc H_become 122 (.getfield 46) 3 125 := ⟨by decide +kernel, rfl⟩
theorem dH_become_125 : Dc H_become 125 (.iconst 0) 1 126 := ⟨by decide +kernel, rfl⟩
theorem dH_become_126 : Dc H_become 126 (.bipush 8) 2 128 := ⟨by decide +kernel, rfl⟩
theorem dH_become_128 : Dc H_become 128 (.invokestatic 49) 3 131 := ⟨by decide +kernel, rfl⟩
theorem dH_become_131 : Dc H_become 131 (.return_) 1 132 := ⟨by decide +kernel, rfl⟩
theorem dS_later_0 : Dc S_later 0 (.iload_n 1) 1 1 := ⟨by decide +kernel, rfl⟩
theorem dS_later_1 : Dc S_later 1 (.iconst 1) 1 2 := ⟨by decide +kernel, rfl⟩
theorem dS_later_2 : Dc S_later 2 (.if_icmp .eq 13) 3 5 := ⟨by decide +kernel, rfl⟩
theorem dS_later_5 : Dc S_later 5 (.iload_n 1) 1 6 := ⟨by decide +kernel, rfl⟩
theorem dS_later_6 : Dc S_later 6 (.iconst 2) 1 7 := ⟨by decide +kernel, rfl⟩
theorem dS_later_7 : Dc S_later 7 (.if_icmp .eq 8) 3 10 := ⟨by decide +kernel, rfl⟩
theorem dS_later_10 : Dc S_later 10 (.iload_n 1) 1 11 := ⟨by decide +kernel, rfl⟩
theorem dS_later_11 : Dc S_later 11 (.iconst 4) 1 12 := ⟨by decide +kernel, rfl⟩
theorem dS_later_12 : Dc S_later 12 (.if_icmp .ne 13) 3 15 := ⟨by decide +kernel, rfl⟩
theorem dS_later_15 : Dc S_later 15 (.iload_n 2) 1 16 := ⟨by decide +kernel, rfl⟩
theorem dS_later_16 : Dc S_later 16 (.iconst 0) 1 17 := ⟨by decide +kernel, rfl⟩
theorem dS_later_17 : Dc S_later 17 (.bipush 100) 2 19 := ⟨by decide +kernel, rfl⟩
theorem dS_later_19 : Dc S_later 19 (.invokestatic 81) 3 22 := ⟨by decide +kernel, rfl⟩
theorem dS_later_22 : Dc S_later 22 (.ifCond .ne 9) 3 25 := ⟨by decide +kernel, rfl⟩
theorem dS_later_25 : Dc S_later 25 (.aload_n 0) 1 26 := ⟨by decide +kernel, rfl⟩
theorem dS_later_26 : Dc S_later 26 (.iconst 0) 1 27 := ⟨by decide +kernel, rfl⟩
theorem dS_later_27 : Dc S_later 27 (.invokevirtual 61) 3 30 := ⟨by decide +kernel, rfl⟩
theorem dS_later_30 : Dc S_later 30 (.ireturn) 1 31 := ⟨by decide +kernel, rfl⟩
theorem dS_later_31 : Dc S_later 31 (.aload_n 0) 1 32 := ⟨by decide +kernel, rfl⟩
theorem dS_later_32 : Dc S_later 32 (.getfield 16) 3 35 := ⟨by decide +kernel, rfl⟩
theorem dS_later_35 : Dc S_later 35 (.aload_n 0) 1 36 := ⟨by decide +kernel, rfl⟩
theorem dS_later_36 : Dc S_later 36 (.getfield 12) 3 39 := ⟨by decide +kernel, rfl⟩
theorem dS_later_39 : Dc S_later 39 (.invokevirtual 151) 3 42 := ⟨by decide +kernel, rfl⟩
theorem dS_later_42 : Dc S_later 42 (.aload_n 0) 1 43 := ⟨by decide +kernel, rfl⟩
theorem dS_later_43 : Dc S_later 43 (.getfield 16) 3 46 := ⟨by decide +kernel, rfl⟩
theorem dS_later_46 : Dc S_later 46 (.iload_n 2) 1 47 := ⟨by decide +kernel, rfl⟩
theorem dS_later_47 : Dc S_later 47 (.invokevirtual 134) 3 50 := ⟨by decide +kernel, rfl⟩
theorem dS_later_50 : Dc S_later 50 (.aload_n 0) 1 51 := ⟨by decide +kernel, rfl⟩
theorem dS_later_51 : Dc S_later 51 (.getfield 16) 3 54 := ⟨by decide +kernel, rfl⟩
theorem dS_later_54 : Dc S_later 54 (.iload_n 1) 1 55 := ⟨by decide +kernel, rfl⟩
theorem dS_later_55 : Dc S_later 55 (.invokevirtual 65) 3 58 := ⟨by decide +kernel, rfl⟩
theorem dS_later_58 : Dc S_later 58 (.ireturn) 1 59 := ⟨by decide +kernel, rfl⟩
theorem dS_when_0 : Dc S_when 0 (.aload_n 0) 1 1 := ⟨by decide +kernel, rfl⟩
theorem dS_when_1 : Dc S_when 1 (.getfield 12) 3 4 := ⟨by decide +kernel, rfl⟩
theorem dS_when_4 : Dc S_when 4 (.iload_n 1) 1 5 := ⟨by decide +kernel, rfl⟩
theorem dS_when_5 : Dc S_when 5 (.invokevirtual 100) 3 8 := ⟨by decide +kernel, rfl⟩
theorem dS_when_8 : Dc S_when 8 (.ifCond .eq 14) 3 11 := ⟨by decide +kernel, rfl⟩
theorem dS_when_11 : Dc S_when 11 (.iload_n 2) 1 12 := ⟨by decide +kernel, rfl⟩
theorem dS_when_12 : Dc S_when 12 (.iconst 0) 1 13 := ⟨by decide +kernel, rfl⟩
theorem dS_when_13 : Dc S_when 13 (.sipush 9999) 3 16 := ⟨by decide +kernel, rfl⟩
theorem dS_when_16 : Dc S_when 16 (.invokestatic 81) 3 19 := ⟨by decide +kernel, rfl⟩
theorem dS_when_19 : Dc S_when 19 (.ifCond .ne 9) 3 22 := ⟨by decide +kernel, rfl⟩
theorem dS_when_22 : Dc S_when 22 (.aload_n 0) 1 23 := ⟨by decide +kernel, rfl⟩
theorem dS_when_23 : Dc S_when 23 (.iconst 0) 1 24 := ⟨by decide +kernel, rfl⟩
theorem dS_when_24 : Dc S_when 24 (.invokevirtual 61) 3 27 := ⟨by decide +kernel, rfl⟩
theorem dS_when_27 : Dc S_when 27 (.ireturn) 1 28 := ⟨by decide +kernel, rfl⟩
theorem dS_when_28 : Dc S_when 28 (.aload_n 0) 1 29 := ⟨by decide +kernel, rfl⟩
theorem dS_when_29 : Dc S_when 29 (.aload_n 0) 1 30 := ⟨by decide +kernel, rfl⟩
theorem dS_when_30 : Dc S_when 30 (.getfield 16) 3 33 := ⟨by decide +kernel, rfl⟩
theorem dS_when_33 : Dc S_when 33 (.getfield 124) 3 36 := ⟨by decide +kernel, rfl⟩
theorem dS_when_36 : Dc S_when 36 (.iload_n 1) 1 37 := ⟨by decide +kernel, rfl⟩
theorem dS_when_37 : Dc S_when 37 (.iload_n 2) 1 38 := ⟨by decide +kernel, rfl⟩
theorem dS_when_38 : Dc S_when 38 (.invokevirtual 155) 3 41 := ⟨by decide +kernel, rfl⟩
theorem dS_when_41 : Dc S_when 41 (.ireturn) 1 42 := ⟨by decide +kernel, rfl⟩
theorem dS_firstHourOfAtLeast_0 : Dc S_firstHourOfAtLeast 0 (.aload_n 0) 1 1 := ⟨by decide +kernel, rfl⟩
theorem dS_firstHourOfAtLeast_1 : Dc S_firstHourOfAtLeast 1 (.getfield 16) 3 4 := ⟨by decide +kernel, rfl⟩
theorem dS_firstHourOfAtLeast_4 : Dc S_firstHourOfAtLeast 4 (.aload_n 0) 1 5 := ⟨by decide +kernel, rfl⟩
theorem dS_firstHourOfAtLeast_5 : Dc S_firstHourOfAtLeast 5 (.getfield 12) 3 8 := ⟨by decide +kernel, rfl⟩
theorem dS_firstHourOfAtLeast_8 : Dc S_firstHourOfAtLeast 8 (.invokevirtual 151) 3 11 := ⟨by decide +kernel, rfl⟩
theorem dS_firstHourOfAtLeast_11 : Dc S_firstHourOfAtLeast 11 (.iconst 0) 1 12 := ⟨by decide +kernel, rfl⟩
theorem dS_firstHourOfAtLeast_12 : Dc S_firstHourOfAtLeast 12 (.istore 4) 2 14 := ⟨by decide +kernel, rfl⟩
theorem dS_firstHourOfAtLeast_14 : Dc S_firstHourOfAtLeast 14 (.iload 4) 2 16 := ⟨by decide +kernel, rfl⟩
theorem dS_firstHourOfAtLeast_16 : Dc S_firstHourOfAtLeast 16 (.sipush 200) 3 19 := ⟨by decide +kernel, rfl⟩
theorem dS_firstHourOfAtLeast_19 : Dc S_firstHourOfAtLeast 19 (.if_icmp .gt 27) 3 22 := ⟨by decide +kernel, rfl⟩
theorem dS_firstHourOfAtLeast_22 : Dc S_firstHourOfAtLeast 22 (.aload_n 1) 1 23 := ⟨by decide +kernel, rfl⟩
theorem dS_firstHourOfAtLeast_23 : Dc S_firstHourOfAtLeast 23 (.iload_n 2) 1 24 := ⟨by decide +kernel, rfl⟩
theorem dS_firstHourOfAtLeast_24 : Dc S_firstHourOfAtLeast 24 (.iaload) 1 25 := ⟨by decide +kernel, rfl⟩
theorem dS_firstHourOfAtLeast_25 : Dc S_firstHourOfAtLeast 25 (.iload_n 3) 1 26 := ⟨by decide +kernel, rfl⟩
theorem dS_firstHourOfAtLeast_26 : Dc S_firstHourOfAtLeast 26 (.if_icmp .lt 6) 3 29 := ⟨by decide +kernel, rfl⟩
theorem dS_firstHourOfAtLeast_29 : Dc S_firstHourOfAtLeast 29 (.iload 4) 2 31 := ⟨by decide +kernel, rfl⟩
theorem dS_firstHourOfAtLeast_31 : Dc S_firstHourOfAtLeast 31 (.ireturn) 1 32 := ⟨by decide +kernel, rfl⟩
theorem dS_firstHourOfAtLeast_32 : Dc S_firstHourOfAtLeast 32 (.aload_n 0) 1 33 := ⟨by decide +kernel, rfl⟩
theorem dS_firstHourOfAtLeast_33 : Dc S_firstHourOfAtLeast 33 (.getfield 16) 3 36 := ⟨by decide +kernel, rfl⟩
theorem dS_firstHourOfAtLeast_36 : Dc S_firstHourOfAtLeast 36 (.iconst 1) 1 37 := ⟨by decide +kernel, rfl⟩
theorem dS_firstHourOfAtLeast_37 : Dc S_firstHourOfAtLeast 37 (.invokevirtual 134) 3 40 := ⟨by decide +kernel, rfl⟩
theorem dS_firstHourOfAtLeast_40 : Dc S_firstHourOfAtLeast 40 (.iinc 4 1) 3 43 := ⟨by decide +kernel, rfl⟩
theorem dS_firstHourOfAtLeast_43 : Dc S_firstHourOfAtLeast 43 (.goto (-29)) 3 46 := ⟨by decide +kernel, rfl⟩
theorem dS_firstHourOfAtLeast_46 : Dc S_firstHourOfAtLeast 46 (.aload_n 0) 1 47 := ⟨by decide +kernel, rfl⟩
theorem dS_firstHourOfAtLeast_47 : Dc S_firstHourOfAtLeast 47 (.iconst 3) 1 48 := ⟨by decide +kernel, rfl⟩
theorem dS_firstHourOfAtLeast_48 : Dc S_firstHourOfAtLeast 48 (.invokevirtual 61) 3 51 := ⟨by decide +kernel, rfl⟩
theorem dS_firstHourOfAtLeast_51 : Dc S_firstHourOfAtLeast 51 (.ireturn) 1 52 := ⟨by decide +kernel, rfl⟩
theorem dS_home_0 : Dc S_home 0 (.aload_n 0) 1 1 := ⟨by decide +kernel, rfl⟩
theorem dS_home_1 : Dc S_home 1 (.getfield 16) 3 4 := ⟨by decide +kernel, rfl⟩
theorem dS_home_4 : Dc S_home 4 (.aload_n 0) 1 5 := ⟨by decide +kernel, rfl⟩
theorem dS_home_5 : Dc S_home 5 (.getfield 12) 3 8 := ⟨by decide +kernel, rfl⟩
theorem dS_home_8 : Dc S_home 8 (.invokevirtual 151) 3 11 := ⟨by decide +kernel, rfl⟩
theorem dS_home_11 : Dc S_home 11 (.iconst 0) 1 12 := ⟨by decide +kernel, rfl⟩
theorem dS_home_12 : Dc S_home 12 (.istore_n 1) 1 13 := ⟨by decide +kernel, rfl⟩
theorem dS_home_13 : Dc S_home 13 (.iload_n 1) 1 14 := ⟨by decide +kernel, rfl⟩
theorem dS_home_14 : Dc S_home 14 (.sipush 200) 3 17 := ⟨by decide +kernel, rfl⟩
theorem dS_home_17 : Dc S_home 17 (.if_icmp .gt 29) 3 20 := ⟨by decide +kernel, rfl⟩
theorem dS_home_20 : Dc S_home 20 (.aload_n 0) 1 21 := ⟨by decide +kernel, rfl⟩
theorem dS_home_21 : Dc S_home 21 (.getfield 16) 3 24 := ⟨by decide +kernel, rfl⟩
theorem dS_home_24 : Dc S_home 24 (.invokevirtual 159) 3 27 := ⟨by decide +kernel, rfl⟩
theorem dS_home_27 : Dc S_home 27 (.ifCond .eq 5) 3 30 := ⟨by decide +kernel, rfl⟩
theorem dS_home_30 : Dc S_home 30 (.iload_n 1) 1 31 := ⟨by decide +kernel, rfl⟩
theorem dS_home_31 : Dc S_home 31 (.ireturn) 1 32 := ⟨by decide +kernel, rfl⟩
theorem dS_home_32 : Dc S_home 32 (.aload_n 0) 1 33 := ⟨by decide +kernel, rfl⟩
theorem dS_home_33 : Dc S_home 33 (.getfield 16) 3 36 := ⟨by decide +kernel, rfl⟩
theorem dS_home_36 : Dc S_home 36 (.iconst 1) 1 37 := ⟨by decide +kernel, rfl⟩
theorem dS_home_37 : Dc S_home 37 (.invokevirtual 134) 3 40 := ⟨by decide +kernel, rfl⟩
theorem dS_home_40 : Dc S_home 40 (.iinc 1 1) 3 43 := ⟨by decide +kernel, rfl⟩
theorem dS_home_43 : Dc S_home 43 (.goto (-30)) 3 46 := ⟨by decide +kernel, rfl⟩
theorem dS_home_46 : Dc S_home 46 (.aload_n 0) 1 47 := ⟨by decide +kernel, rfl⟩
theorem dS_home_47 : Dc S_home 47 (.iconst 3) 1 48 := ⟨by decide +kernel, rfl⟩
theorem dS_home_48 : Dc S_home 48 (.invokevirtual 61) 3 51 := ⟨by decide +kernel, rfl⟩
theorem dS_home_51 : Dc S_home 51 (.ireturn) 1 52 := ⟨by decide +kernel, rfl⟩
theorem dH_allAtFold_0 : Dc H_allAtFold 0 (.aload_n 0) 1 1 := ⟨by decide +kernel, rfl⟩
theorem dH_allAtFold_1 : Dc H_allAtFold 1 (.aload_n 0) 1 2 := ⟨by decide +kernel, rfl⟩
theorem dH_allAtFold_2 : Dc H_allAtFold 2 (.getfield 9) 3 5 := ⟨by decide +kernel, rfl⟩
theorem dH_allAtFold_5 : Dc H_allAtFold 5 (.invokevirtual 83) 3 8 := ⟨by decide +kernel, rfl⟩
theorem dH_allAtFold_8 : Dc H_allAtFold 8 (.iconst 1) 1 9 := ⟨by decide +kernel, rfl⟩
theorem dH_allAtFold_9 : Dc H_allAtFold 9 (.aload_n 0) 1 10 := ⟨by decide +kernel, rfl⟩
theorem dH_allAtFold_10 : Dc H_allAtFold 10 (.getfield 30) 3 13 := ⟨by decide +kernel, rfl⟩
theorem dH_allAtFold_13 : Dc H_allAtFold 13 (.ishl) 1 14 := ⟨by decide +kernel, rfl⟩
theorem dH_allAtFold_14 : Dc H_allAtFold 14 (.iconst 1) 1 15 := ⟨by decide +kernel, rfl⟩
theorem dH_allAtFold_15 : Dc H_allAtFold 15 (.isub) 1 16 := ⟨by decide +kernel, rfl⟩
theorem dH_allAtFold_16 : Dc H_allAtFold 16 (.if_icmp .ne 7) 3 19 := ⟨by decide +kernel, rfl⟩
theorem dH_allAtFold_19 : Dc H_allAtFold 19 (.iconst 1) 1 20 := ⟨by decide +kernel, rfl⟩
theorem dH_allAtFold_20 : Dc H_allAtFold 20 (.goto 4) 3 23 := ⟨by decide +kernel, rfl⟩
theorem dH_allAtFold_23 : Dc H_allAtFold 23 (.iconst 0) 1 24 := ⟨by decide +kernel, rfl⟩
theorem dH_allAtFold_24 : Dc H_allAtFold 24 (.ireturn) 1 25 := ⟨by decide +kernel, rfl⟩
end
