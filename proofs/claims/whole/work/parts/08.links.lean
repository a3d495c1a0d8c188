theorem fH_9 : Fk "StraySheep$Hill" 9 1 0 (.int) false := ⟨_, _, _, _, ok1, by decide, LTm 94 (by decide +kernel) rfl, rfl, rfl⟩
theorem fS_68 : Fk "StraySheep" 68 1 0 (.int) false := ⟨_, _, _, _, ok1, by decide, LTm 95 (by decide +kernel) rfl, rfl, rfl⟩
theorem fT_89 : Fk "StraySheep$Tape" 89 1 0 (.int) false := ⟨_, _, _, _, ok1, by decide, LTm 96 (by decide +kernel) rfl, rfl, rfl⟩
theorem fH_15 : Fk "StraySheep$Hill" 15 1 1 (.int) false := ⟨_, _, _, _, ok1, by decide, LTm 97 (by decide +kernel) rfl, rfl, rfl⟩
theorem fS_247 : Fk "StraySheep" 247 1 1 (.int) false := ⟨_, _, _, _, ok1, by decide, LTm 98 (by decide +kernel) rfl, rfl, rfl⟩
theorem fH_18 : Fk "StraySheep$Hill" 18 1 2 (.int) false := ⟨_, _, _, _, ok1, by decide, LTm 99 (by decide +kernel) rfl, rfl, rfl⟩
theorem fS_109 : Fk "StraySheep" 109 1 2 (.int) false := ⟨_, _, _, _, ok1, by decide, LTm 100 (by decide +kernel) rfl, rfl, rfl⟩
theorem fH_21 : Fk "StraySheep$Hill" 21 1 3 (.int) false := ⟨_, _, _, _, ok1, by decide, LTm 101 (by decide +kernel) rfl, rfl, rfl⟩
theorem fS_75 : Fk "StraySheep" 75 1 3 (.int) false := ⟨_, _, _, _, ok1, by decide, LTm 102 (by decide +kernel) rfl, rfl, rfl⟩
theorem fT_95 : Fk "StraySheep$Tape" 95 1 3 (.int) false := ⟨_, _, _, _, ok1, by decide, LTm 103 (by decide +kernel) rfl, rfl, rfl⟩
theorem fH_24 : Fk "StraySheep$Hill" 24 1 4 (.int) false := ⟨_, _, _, _, ok1, by decide, LTm 104 (by decide +kernel) rfl, rfl, rfl⟩
theorem fS_78 : Fk "StraySheep" 78 1 4 (.int) false := ⟨_, _, _, _, ok1, by decide, LTm 105 (by decide +kernel) rfl, rfl, rfl⟩
theorem fT_99 : Fk "StraySheep$Tape" 99 1 4 (.int) false := ⟨_, _, _, _, ok1, by decide, LTm 106 (by decide +kernel) rfl, rfl, rfl⟩
theorem fH_27 : Fk "StraySheep$Hill" 27 1 5 (.int) false := ⟨_, _, _, _, ok1, by decide, LTm 107 (by decide +kernel) rfl, rfl, rfl⟩
theorem fS_130 : Fk "StraySheep" 130 1 5 (.int) false := ⟨_, _, _, _, ok1, by decide, LTm 108 (by decide +kernel) rfl, rfl, rfl⟩
theorem fH_30 : Fk "StraySheep$Hill" 30 1 6 (.int) false := ⟨_, _, _, _, ok1, by decide, LTm 109 (by decide +kernel) rfl, rfl, rfl⟩
theorem fS_166 : Fk "StraySheep" 166 1 6 (.int) false := ⟨_, _, _, _, ok1, by decide, LTm 110 (by decide +kernel) rfl, rfl, rfl⟩
theorem fH_33 : Fk "StraySheep$Hill" 33 1 7 (.array .int) true := ⟨_, _, _, _, ok1, by decide, LTm 111 (by decide +kernel) rfl, rfl, rfl⟩
theorem fS_112 : Fk "StraySheep" 112 1 7 (.array .int) true := ⟨_, _, _, _, ok1, by decide, LTm 112 (by decide +kernel) rfl, rfl, rfl⟩
theorem fH_37 : Fk "StraySheep$Hill" 37 1 8 (.array .int) true := ⟨_, _, _, _, ok1, by decide, LTm 113 (by decide +kernel) rfl, rfl, rfl⟩
theorem fT_78 : Fk "StraySheep$Tape" 78 1 8 (.array .int) true := ⟨_, _, _, _, ok1, by decide, LTm 114 (by decide +kernel) rfl, rfl, rfl⟩
theorem fS_115 : Fk "StraySheep" 115 1 8 (.array .int) true := ⟨_, _, _, _, ok1, by decide, LTm 115 (by decide +kernel) rfl, rfl, rfl⟩
theorem fH_40 : Fk "StraySheep$Hill" 40 1 9 (.array .int) true := ⟨_, _, _, _, ok1, by decide, LTm 116 (by decide +kernel) rfl, rfl, rfl⟩
theorem fT_83 : Fk "StraySheep$Tape" 83 1 9 (.array .int) true := ⟨_, _, _, _, ok1, by decide, LTm 117 (by decide +kernel) rfl, rfl, rfl⟩
theorem fS_118 : Fk "StraySheep" 118 1 9 (.array .int) true := ⟨_, _, _, _, ok1, by decide, LTm 118 (by decide +kernel) rfl, rfl, rfl⟩
theorem fH_43 : Fk "StraySheep$Hill" 43 1 10 (.array .int) true := ⟨_, _, _, _, ok1, by decide, LTm 119 (by decide +kernel) rfl, rfl, rfl⟩
theorem fT_87 : Fk "StraySheep$Tape" 87 1 10 (.array .int) true := ⟨_, _, _, _, ok1, by decide, LTm 120 (by decide +kernel) rfl, rfl, rfl⟩
theorem fS_121 : Fk "StraySheep" 121 1 10 (.array .int) true := ⟨_, _, _, _, ok1, by decide, LTm 121 (by decide +kernel) rfl, rfl, rfl⟩
theorem fH_46 : Fk "StraySheep$Hill" 46 1 11 (.array .int) true := ⟨_, _, _, _, ok1, by decide, LTm 122 (by decide +kernel) rfl, rfl, rfl⟩
theorem fS_124 : Fk "StraySheep" 124 1 11 (.array .int) true := ⟨_, _, _, _, ok1, by decide, LTm 123 (by decide +kernel) rfl, rfl, rfl⟩
theorem fT_9 : Fk "StraySheep$Tape" 9 3 0 (.array .int) true := ⟨_, _, _, _, ok3, by decide, LTm 156 (by decide +kernel) rfl, rfl, rfl⟩
theorem fT_15 : Fk "StraySheep$Tape" 15 3 1 (.int) false := ⟨_, _, _, _, ok3, by decide, LTm 157 (by decide +kernel) rfl, rfl, rfl⟩
theorem fS_207 : Fk "StraySheep" 207 3 1 (.int) false := ⟨_, _, _, _, ok3, by decide, LTm 158 (by decide +kernel) rfl, rfl, rfl⟩
theorem fT_19 : Fk "StraySheep$Tape" 19 3 2 (.int) false := ⟨_, _, _, _, ok3, by decide, LTm 159 (by decide +kernel) rfl, rfl, rfl⟩
theorem fT_22 : Fk "StraySheep$Tape" 22 3 3 (.int) false := ⟨_, _, _, _, ok3, by decide, LTm 160 (by decide +kernel) rfl, rfl, rfl⟩
theorem fT_25 : Fk "StraySheep$Tape" 25 3 4 (.int) false := ⟨_, _, _, _, ok3, by decide, LTm 161 (by decide +kernel) rfl, rfl, rfl⟩
theorem fE_9 : Fk "StraySheep$Sheet" 9 2 0 (.int) false := ⟨_, _, _, _, ok2, by decide, LTm 180 (by decide +kernel) rfl, rfl, rfl⟩
theorem fS_228 : Fk "StraySheep" 228 2 0 (.int) false := ⟨_, _, _, _, ok2, by decide, LTm 181 (by decide +kernel) rfl, rfl, rfl⟩
theorem fE_15 : Fk "StraySheep$Sheet" 15 2 1 (.int) false := ⟨_, _, _, _, ok2, by decide, LTm 182 (by decide +kernel) rfl, rfl, rfl⟩
theorem fS_224 : Fk "StraySheep" 224 2 1 (.int) false := ⟨_, _, _, _, ok2, by decide, LTm 183 (by decide +kernel) rfl, rfl, rfl⟩
theorem fE_18 : Fk "StraySheep$Sheet" 18 2 2 (.array .int) true := ⟨_, _, _, _, ok2, by decide, LTm 184 (by decide +kernel) rfl, rfl, rfl⟩
theorem fS_234 : Fk "StraySheep" 234 2 2 (.array .int) true := ⟨_, _, _, _, ok2, by decide, LTm 185 (by decide +kernel) rfl, rfl, rfl⟩
theorem fS_12 : Fk "StraySheep" 12 0 0 (.object "StraySheep$Hill") true := ⟨_, _, _, _, ok0, by decide, LTm 193 (by decide +kernel) rfl, rfl, rfl⟩
theorem fS_16 : Fk "StraySheep" 16 0 1 (.object "StraySheep$Hill") true := ⟨_, _, _, _, ok0, by decide, LTm 194 (by decide +kernel) rfl, rfl, rfl⟩
theorem fS_19 : Fk "StraySheep" 19 0 2 (.object "StraySheep$Hill") true := ⟨_, _, _, _, ok0, by decide, LTm 195 (by decide +kernel) rfl, rfl, rfl⟩
theorem fS_22 : Fk "StraySheep" 22 0 3 (.boolean) false := ⟨_, _, _, _, ok0, by decide, LTm 196 (by decide +kernel) rfl, rfl, rfl⟩
theorem fS_26 : Fk "StraySheep" 26 0 4 (.array .int) true := ⟨_, _, _, _, ok0, by decide, LTm 197 (by decide +kernel) rfl, rfl, rfl⟩
theorem fS_30 : Fk "StraySheep" 30 0 5 (.array .int) true := ⟨_, _, _, _, ok0, by decide, LTm 198 (by decide +kernel) rfl, rfl, rfl⟩
theorem fS_33 : Fk "StraySheep" 33 0 6 (.int) false := ⟨_, _, _, _, ok0, by decide, LTm 199 (by decide +kernel) rfl, rfl, rfl⟩
theorem fS_37 : Fk "StraySheep" 37 0 7 (.int) false := ⟨_, _, _, _, ok0, by decide, LTm 200 (by decide +kernel) rfl, rfl, rfl⟩
theorem fS_43 : Fk "StraySheep" 43 0 8 (.object "StraySheep$Tape") true := ⟨_, _, _, _, ok0, by decide, LTm 201 (by decide +kernel) rfl, rfl, rfl⟩
theorem fS_50 : Fk "StraySheep" 50 0 9 (.array (.object "StraySheep$Sheet")) true := ⟨_, _, _, _, ok0, by decide, LTm 202 (by decide +kernel) rfl, rfl, rfl⟩
theorem fS_54 : Fk "StraySheep" 54 0 10 (.array .int) true := ⟨_, _, _, _, ok0, by decide, LTm 203 (by decide +kernel) rfl, rfl, rfl⟩
theorem fS_246 : Cond.constant "StraySheep" 246 (-1000001) ∈ LT := LTm 244 (by decide +kernel) rfl
theorem fS_133 : Cond.constant "StraySheep" 133 (99999) ∈ LT := LTm 346 (by decide +kernel) rfl
theorem fH_115 : Cond.constant "StraySheep$Hill" 115 (99999) ∈ LT := LTm 407 (by decide +kernel) rfl
theorem fS_165 : Cond.constant "StraySheep" 165 (79993) ∈ LT := LTm 465 (by decide +kernel) rfl
theorem fJI_265 : Cond.constant "java/lang/Integer" 265 (1431655765) ∈ LT := LTm 485 (by decide +kernel) rfl
theorem fJI_266 : Cond.constant "java/lang/Integer" 266 (858993459) ∈ LT := LTm 486 (by decide +kernel) rfl
theorem fJI_267 : Cond.constant "java/lang/Integer" 267 (252645135) ∈ LT := LTm 487 (by decide +kernel) rfl
theorem fS_253 : Cond.constant "StraySheep" 253 (1103515245) ∈ LT := LTm 527 (by decide +kernel) rfl
theorem fT_108 : SW "StraySheep$Tape" 108 1 := List.mem_of_getElem? (i := 590) (by decide +kernel)
theorem fT_110 : SW "StraySheep$Tape" 110 2 := List.mem_of_getElem? (i := 591) (by decide +kernel)
theorem fT_112 : SW "StraySheep$Tape" 112 3 := List.mem_of_getElem? (i := 592) (by decide +kernel)
theorem fT_114 : SW "StraySheep$Tape" 114 4 := List.mem_of_getElem? (i := 593) (by decide +kernel)
theorem fT_116 : SW "StraySheep$Tape" 116 5 := List.mem_of_getElem? (i := 594) (by decide +kernel)
theorem fT_118 : SW "StraySheep$Tape" 118 6 := List.mem_of_getElem? (i := 595) (by decide +kernel)
theorem fT_120 : SW "StraySheep$Tape" 120 0 := List.mem_of_getElem? (i := 596) (by decide +kernel)
theorem fT_72 : SW "StraySheep$Tape" 72 10 := List.mem_of_getElem? (i := 654) (by decide +kernel)
theorem fT_81 : SW "StraySheep$Tape" 81 11 := List.mem_of_getElem? (i := 664) (by decide +kernel)
theorem fT_85 : SW "StraySheep$Tape" 85 12 := List.mem_of_getElem? (i := 665) (by decide +kernel)
theorem fT_47 : SW "StraySheep$Tape" 47 7 := List.mem_of_getElem? (i := 666) (by decide +kernel)
theorem fT_56 : SW "StraySheep$Tape" 56 8 := List.mem_of_getElem? (i := 671) (by decide +kernel)
theorem fT_61 : SW "StraySheep$Tape" 61 9 := List.mem_of_getElem? (i := 677) (by decide +kernel)
theorem fT_97 : SW "StraySheep$Tape" 97 13 := List.mem_of_getElem? (i := 682) (by decide +kernel)
theorem fQ_27 : SW "StraySheepModel" 27 0 := List.mem_of_getElem? (i := 766) (by decide +kernel)
theorem fQ_29 : SW "StraySheepModel" 29 1 := List.mem_of_getElem? (i := 767) (by decide +kernel)
theorem fQ_31 : SW "StraySheepModel" 31 2 := List.mem_of_getElem? (i := 768) (by decide +kernel)
theorem fQ_33 : SW "StraySheepModel" 33 3 := List.mem_of_getElem? (i := 769) (by decide +kernel)
theorem fQ_35 : SW "StraySheepModel" 35 4 := List.mem_of_getElem? (i := 770) (by decide +kernel)
theorem fQ_37 : SW "StraySheepModel" 37 5 := List.mem_of_getElem? (i := 771) (by decide +kernel)
theorem fQ_39 : SW "StraySheepModel" 39 6 := List.mem_of_getElem? (i := 772) (by decide +kernel)
theorem fQ_9 : Fk "StraySheepModel" 9 4 0 (.array .int) true := ⟨_, _, _, _, ok4, by decide, LTm 773 (by decide +kernel) rfl, rfl, rfl⟩
theorem fQ_13 : Fk "StraySheepModel" 13 4 1 (.array .int) true := ⟨_, _, _, _, ok4, by decide, LTm 774 (by decide +kernel) rfl, rfl, rfl⟩
theorem fQ_16 : Fk "StraySheepModel" 16 4 2 (.array .int) true := ⟨_, _, _, _, ok4, by decide, LTm 775 (by decide +kernel) rfl, rfl, rfl⟩
theorem fQ_347 : Fk "StraySheepModel" 347 4 3 (.boolean) false := ⟨_, _, _, _, ok4, by decide, LTm 776 (by decide +kernel) rfl, rfl, rfl⟩
theorem fQ_19 : Fk "StraySheepModel" 19 4 4 (.array .int) true := ⟨_, _, _, _, ok4, by decide, LTm 777 (by decide +kernel) rfl, rfl, rfl⟩
theorem fQ_154 : Fk "StraySheepModel" 154 4 5 (.int) false := ⟨_, _, _, _, ok4, by decide, LTm 778 (by decide +kernel) rfl, rfl, rfl⟩
theorem fQ_22 : Fk "StraySheepModel" 22 4 6 (.array .int) true := ⟨_, _, _, _, ok4, by decide, LTm 779 (by decide +kernel) rfl, rfl, rfl⟩
theorem fQ_250 : Fk "StraySheepModel" 250 4 7 (.int) false := ⟨_, _, _, _, ok4, by decide, LTm 780 (by decide +kernel) rfl, rfl, rfl⟩
theorem fQ_256 : Fk "StraySheepModel" 256 4 8 (.int) false := ⟨_, _, _, _, ok4, by decide, LTm 781 (by decide +kernel) rfl, rfl, rfl⟩
theorem fQ_253 : Fk "StraySheepModel" 253 4 9 (.int) false := ⟨_, _, _, _, ok4, by decide, LTm 782 (by decide +kernel) rfl, rfl, rfl⟩
theorem fQ_265 : Fk "StraySheepModel" 265 4 10 (.int) false := ⟨_, _, _, _, ok4, by decide, LTm 783 (by decide +kernel) rfl, rfl, rfl⟩
theorem fQ_262 : Fk "StraySheepModel" 262 4 11 (.int) false := ⟨_, _, _, _, ok4, by decide, LTm 784 (by decide +kernel) rfl, rfl, rfl⟩
theorem fQ_275 : Fk "StraySheepModel" 275 4 12 (.boolean) false := ⟨_, _, _, _, ok4, by decide, LTm 785 (by decide +kernel) rfl, rfl, rfl⟩
theorem fQ_41 : Fk "StraySheepModel" 41 4 13 (.array (.object "java/lang/String")) true := ⟨_, _, _, _, ok4, by decide, LTm 786 (by decide +kernel) rfl, rfl, rfl⟩
theorem fQ_45 : Fk "StraySheepModel" 45 4 14 (.array .int) true := ⟨_, _, _, _, ok4, by decide, LTm 787 (by decide +kernel) rfl, rfl, rfl⟩
theorem fQ_48 : Fk "StraySheepModel" 48 4 15 (.array .int) true := ⟨_, _, _, _, ok4, by decide, LTm 788 (by decide +kernel) rfl, rfl, rfl⟩
theorem fQ_51 : Fk "StraySheepModel" 51 4 16 (.array .int) true := ⟨_, _, _, _, ok4, by decide, LTm 789 (by decide +kernel) rfl, rfl, rfl⟩
theorem fQ_54 : Fk "StraySheepModel" 54 4 17 (.array .int) true := ⟨_, _, _, _, ok4, by decide, LTm 790 (by decide +kernel) rfl, rfl, rfl⟩
theorem fQ_286 : Fk "StraySheepModel" 286 4 18 (.int) false := ⟨_, _, _, _, ok4, by decide, LTm 791 (by decide +kernel) rfl, rfl, rfl⟩
theorem fQ_299 : Fk "StraySheepModel" 299 4 19 (.int) false := ⟨_, _, _, _, ok4, by decide, LTm 792 (by decide +kernel) rfl, rfl, rfl⟩
theorem fQ_57 : Fk "StraySheepModel" 57 4 20 (.array .int) true := ⟨_, _, _, _, ok4, by decide, LTm 793 (by decide +kernel) rfl, rfl, rfl⟩
theorem fQ_60 : Fk "StraySheepModel" 60 4 21 (.array .int) true := ⟨_, _, _, _, ok4, by decide, LTm 794 (by decide +kernel) rfl, rfl, rfl⟩
theorem fQ_63 : Fk "StraySheepModel" 63 4 22 (.array .int) true := ⟨_, _, _, _, ok4, by decide, LTm 795 (by decide +kernel) rfl, rfl, rfl⟩
theorem fQ_66 : Fk "StraySheepModel" 66 4 23 (.array .int) true := ⟨_, _, _, _, ok4, by decide, LTm 796 (by decide +kernel) rfl, rfl, rfl⟩
theorem fQ_69 : Cond.constant "StraySheepModel" 69 (-1000001) ∈ LT := LTm 856 (by decide +kernel) rfl
theorem fQ_104 : Cond.constant "StraySheepModel" 104 (-1000002) ∈ LT := LTm 887 (by decide +kernel) rfl
theorem fQ_141 : Cond.constant "StraySheepModel" 141 (-1000005) ∈ LT := LTm 938 (by decide +kernel) rfl
theorem fQ_74 : Cond.constant "StraySheepModel" 74 (-1000004) ∈ LT := LTm 947 (by decide +kernel) rfl
theorem fQ_190 : Cond.constant "StraySheepModel" 190 (99999) ∈ LT := LTm 960 (by decide +kernel) rfl
theorem fQ_234 : Cond.constant "StraySheepModel" 234 (-1000006) ∈ LT := LTm 1109 (by decide +kernel) rfl
theorem fQ_246 : Cond.constant "StraySheepModel" 246 (1103515245) ∈ LT := LTm 1130 (by decide +kernel) rfl
theorem fQ_302 : SW "StraySheepModel" 302 10 := List.mem_of_getElem? (i := 1177) (by decide +kernel)
theorem fQ_308 : SW "StraySheepModel" 308 11 := List.mem_of_getElem? (i := 1190) (by decide +kernel)
theorem fQ_310 : SW "StraySheepModel" 310 12 := List.mem_of_getElem? (i := 1191) (by decide +kernel)
theorem fQ_319 : SW "StraySheepModel" 319 7 := List.mem_of_getElem? (i := 1196) (by decide +kernel)
theorem fQ_321 : SW "StraySheepModel" 321 8 := List.mem_of_getElem? (i := 1197) (by decide +kernel)
theorem fQ_323 : SW "StraySheepModel" 323 9 := List.mem_of_getElem? (i := 1198) (by decide +kernel)
theorem fQ_325 : SW "StraySheepModel" 325 13 := List.mem_of_getElem? (i := 1199) (by decide +kernel)
theorem fQ_339 : Cond.constant "StraySheepModel" 339 (-1000003) ∈ LT := LTm 1221 (by decide +kernel) rfl
theorem fQ_340 : Cond.constant "StraySheepModel" 340 (-1000007) ∈ LT := LTm 1226 (by decide +kernel) rfl
theorem ini_S : Cond.initialized "StraySheep" ∈ LT := LTm 68 (by decide +kernel) rfl
theorem ini_H : Cond.initialized "StraySheep$Hill" ∈ LT := LTm 69 (by decide +kernel) rfl
theorem ini_E : Cond.initialized "StraySheep$Sheet" ∈ LT := LTm 71 (by decide +kernel) rfl
theorem ini_T : Cond.initialized "StraySheep$Tape" ∈ LT := LTm 70 (by decide +kernel) rfl
theorem ini_Q : Cond.initialized "StraySheepModel" ∈ LT := LTm 72 (by decide +kernel) rfl
theorem ini_JM : Cond.initialized "java/lang/Math" ∈ LT := LTm 73 (by decide +kernel) rfl
theorem ini_JS : Cond.initialized "java/lang/String" ∈ LT := LTm 76 (by decide +kernel) rfl
theorem ini_JL : Cond.initialized "java/lang/StringLatin1" ∈ LT := LTm 77 (by decide +kernel) rfl
theorem ini_JI : Cond.initialized "java/lang/Integer" ∈ LT := LTm 75 (by decide +kernel) rfl
theorem ini_JP : Cond.initialized "jdk/internal/util/Preconditions" ∈ LT := LTm 78 (by decide +kernel) rfl
theorem ini_sys : Cond.initialized "java/lang/System" ∈ LT := LTm 74 (by decide +kernel) rfl
theorem ac_nat : Cond.native arraycopyName ∈ LT := LTm 435 (by decide +kernel) rfl
theorem ac_st : Cond.static arraycopyName ∈ LT := LTm 434 (by decide +kernel) rfl
def MkS (M : MM) (na : Nat) : Prop := Cond.static M.1 ∈ LT ∧ Cond.initialized M.1.cls ∈ LT ∧ Cond.code M.1 M.2.1 M.2.2.1 M.2.2.2.1 ∈ LT ∧ (M.1.cls ≠ "java/lang/invoke/MethodHandle" ∧ M.1.cls ≠ "java/lang/invoke/VarHandle" ∧ (parseMethodDescriptor M.1.desc).map (fun d => d.parameters.length) = some na)
def MkV (M : MM) (na : Nat) : Prop := Cond.instanceMethod M.1 ∈ LT ∧ Cond.selects M.1.cls M.1 M.1 ∈ LT ∧ Cond.initialized M.1.cls ∈ LT ∧ Cond.code M.1 M.2.1 M.2.2.1 M.2.2.2.1 ∈ LT ∧ (M.1.cls ≠ "java/lang/invoke/MethodHandle" ∧ M.1.cls ≠ "java/lang/invoke/VarHandle" ∧ (parseMethodDescriptor M.1.desc).map (fun d => d.parameters.length) = some na)
set_option maxRecDepth 20000 in
theorem mS_set : MkV S_set 2 := ⟨LTm 228 (by decide +kernel) rfl, LTm 229 (by decide +kernel) rfl, ini_S, LTm 230 rfl rfl, ⟨by decide, by decide, by decide +kernel⟩⟩
set_option maxRecDepth 20000 in
theorem mS_canBeSet : MkS S_canBeSet 2 := ⟨LTm 232 (by decide +kernel) rfl, ini_S, LTm 233 rfl rfl, ⟨by decide, by decide, by decide +kernel⟩⟩
set_option maxRecDepth 20000 in
theorem mS_isCell : MkS S_isCell 1 := ⟨LTm 235 (by decide +kernel) rfl, ini_S, LTm 236 rfl rfl, ⟨by decide, by decide, by decide +kernel⟩⟩
set_option maxRecDepth 20000 in
theorem mS_isWithin : MkS S_isWithin 3 := ⟨LTm 238 (by decide +kernel) rfl, ini_S, LTm 239 rfl rfl, ⟨by decide, by decide, by decide +kernel⟩⟩
set_option maxRecDepth 20000 in
theorem mS_finding : MkV S_finding 1 := ⟨LTm 242 (by decide +kernel) rfl, LTm 0 (by decide +kernel) rfl, ini_S, LTm 243 rfl rfl, ⟨by decide, by decide, by decide +kernel⟩⟩
set_option maxRecDepth 20000 in
theorem mH_feature : MkV H_feature 1 := ⟨LTm 246 (by decide +kernel) rfl, LTm 247 (by decide +kernel) rfl, ini_H, LTm 248 rfl rfl, ⟨by decide, by decide, by decide +kernel⟩⟩
set_option maxRecDepth 20000 in
theorem mH_moveKeeper : MkV H_moveKeeper 1 := ⟨LTm 250 (by decide +kernel) rfl, LTm 251 (by decide +kernel) rfl, ini_H, LTm 252 rfl rfl, ⟨by decide, by decide, by decide +kernel⟩⟩
set_option maxRecDepth 20000 in
theorem mH_has : MkV H_has 1 := ⟨LTm 254 (by decide +kernel) rfl, LTm 255 (by decide +kernel) rfl, ini_H, LTm 256 rfl rfl, ⟨by decide, by decide, by decide +kernel⟩⟩
set_option maxRecDepth 20000 in
theorem mS_hill : MkV S_hill 1 := ⟨LTm 258 (by decide +kernel) rfl, LTm 259 (by decide +kernel) rfl, ini_S, LTm 260 rfl rfl, ⟨by decide, by decide, by decide +kernel⟩⟩
set_option maxRecDepth 20000 in
theorem mS_sheep : MkV S_sheep 2 := ⟨LTm 262 (by decide +kernel) rfl, LTm 263 (by decide +kernel) rfl, ini_S, LTm 264 rfl rfl, ⟨by decide, by decide, by decide +kernel⟩⟩
set_option maxRecDepth 20000 in
theorem mS_isKind : MkS S_isKind 1 := ⟨LTm 266 (by decide +kernel) rfl, ini_S, LTm 267 rfl rfl, ⟨by decide, by decide, by decide +kernel⟩⟩
set_option maxRecDepth 20000 in
theorem mH_isFull : MkV H_isFull 0 := ⟨LTm 269 (by decide +kernel) rfl, LTm 270 (by decide +kernel) rfl, ini_H, LTm 271 rfl rfl, ⟨by decide, by decide, by decide +kernel⟩⟩
set_option maxRecDepth 20000 in
theorem mH_add : MkV H_add 2 := ⟨LTm 273 (by decide +kernel) rfl, LTm 274 (by decide +kernel) rfl, ini_H, LTm 275 rfl rfl, ⟨by decide, by decide, by decide +kernel⟩⟩
set_option maxRecDepth 20000 in
theorem mS_of : MkV S_of 2 := ⟨LTm 278 (by decide +kernel) rfl, LTm 279 (by decide +kernel) rfl, ini_S, LTm 280 rfl rfl, ⟨by decide, by decide, by decide +kernel⟩⟩
set_option maxRecDepth 20000 in
theorem mH_trait : MkV H_trait 2 := ⟨LTm 283 (by decide +kernel) rfl, LTm 284 (by decide +kernel) rfl, ini_H, LTm 285 rfl rfl, ⟨by decide, by decide, by decide +kernel⟩⟩
set_option maxRecDepth 20000 in
theorem mH_far : MkV H_far 1 := ⟨LTm 287 (by decide +kernel) rfl, LTm 288 (by decide +kernel) rfl, ini_H, LTm 289 rfl rfl, ⟨by decide, by decide, by decide +kernel⟩⟩
set_option maxRecDepth 20000 in
theorem mS_distance : MkS S_distance 2 := ⟨LTm 291 (by decide +kernel) rfl, ini_S, LTm 292 rfl rfl, ⟨by decide, by decide, by decide +kernel⟩⟩
set_option maxRecDepth 20000 in
theorem mH_strays : MkV H_strays 1 := ⟨LTm 294 (by decide +kernel) rfl, LTm 295 (by decide +kernel) rfl, ini_H, LTm 296 rfl rfl, ⟨by decide, by decide, by decide +kernel⟩⟩
set_option maxRecDepth 20000 in
theorem mH_straysAsRam : MkV H_straysAsRam 1 := ⟨LTm 298 (by decide +kernel) rfl, LTm 299 (by decide +kernel) rfl, ini_H, LTm 300 rfl rfl, ⟨by decide, by decide, by decide +kernel⟩⟩
set_option maxRecDepth 20000 in
theorem mH_straysAsSheep : MkV H_straysAsSheep 0 := ⟨LTm 302 (by decide +kernel) rfl, LTm 303 (by decide +kernel) rfl, ini_H, LTm 304 rfl rfl, ⟨by decide, by decide, by decide +kernel⟩⟩
set_option maxRecDepth 20000 in
theorem mH_straysAsEwe : MkV H_straysAsEwe 1 := ⟨LTm 306 (by decide +kernel) rfl, LTm 307 (by decide +kernel) rfl, ini_H, LTm 308 rfl rfl, ⟨by decide, by decide, by decide +kernel⟩⟩
set_option maxRecDepth 20000 in
theorem mH_hasCompany : MkV H_hasCompany 1 := ⟨LTm 310 (by decide +kernel) rfl, LTm 311 (by decide +kernel) rfl, ini_H, LTm 312 rfl rfl, ⟨by decide, by decide, by decide +kernel⟩⟩
set_option maxRecDepth 20000 in
theorem mH_sheepAt : MkV H_sheepAt 1 := ⟨LTm 314 (by decide +kernel) rfl, LTm 315 (by decide +kernel) rfl, ini_H, LTm 316 rfl rfl, ⟨by decide, by decide, by decide +kernel⟩⟩
set_option maxRecDepth 20000 in
theorem mS_fearsOf : MkS S_fearsOf 1 := ⟨LTm 318 (by decide +kernel) rfl, ini_S, LTm 319 rfl rfl, ⟨by decide, by decide, by decide +kernel⟩⟩
set_option maxRecDepth 20000 in
theorem mS_calmsOf : MkS S_calmsOf 1 := ⟨LTm 321 (by decide +kernel) rfl, ini_S, LTm 322 rfl rfl, ⟨by decide, by decide, by decide +kernel⟩⟩
set_option maxRecDepth 20000 in
theorem mS_lightOf : MkS S_lightOf 1 := ⟨LTm 324 (by decide +kernel) rfl, ini_S, LTm 325 rfl rfl, ⟨by decide, by decide, by decide +kernel⟩⟩
set_option maxRecDepth 20000 in
theorem mS_change : MkV S_change 3 := ⟨LTm 327 (by decide +kernel) rfl, LTm 328 (by decide +kernel) rfl, ini_S, LTm 329 rfl rfl, ⟨by decide, by decide, by decide +kernel⟩⟩
set_option maxRecDepth 20000 in
theorem mS_canBeChanged : MkS S_canBeChanged 2 := ⟨LTm 331 (by decide +kernel) rfl, ini_S, LTm 332 rfl rfl, ⟨by decide, by decide, by decide +kernel⟩⟩
set_option maxRecDepth 20000 in
theorem mS_drop : MkV S_drop 0 := ⟨LTm 334 (by decide +kernel) rfl, LTm 335 (by decide +kernel) rfl, ini_S, LTm 336 rfl rfl, ⟨by decide, by decide, by decide +kernel⟩⟩
set_option maxRecDepth 20000 in
theorem mS_who : MkV S_who 1 := ⟨LTm 338 (by decide +kernel) rfl, LTm 339 (by decide +kernel) rfl, ini_S, LTm 340 rfl rfl, ⟨by decide, by decide, by decide +kernel⟩⟩
set_option maxRecDepth 20000 in
theorem mS_go : MkV S_go 1 := ⟨LTm 343 (by decide +kernel) rfl, LTm 344 (by decide +kernel) rfl, ini_S, LTm 345 rfl rfl, ⟨by decide, by decide, by decide +kernel⟩⟩
set_option maxRecDepth 20000 in
theorem mH_passHours : MkV H_passHours 1 := ⟨LTm 348 (by decide +kernel) rfl, LTm 349 (by decide +kernel) rfl, ini_H, LTm 350 rfl rfl, ⟨by decide, by decide, by decide +kernel⟩⟩
set_option maxRecDepth 20000 in
theorem mH_passHour : MkV H_passHour 1 := ⟨LTm 352 (by decide +kernel) rfl, LTm 353 (by decide +kernel) rfl, ini_H, LTm 354 rfl rfl, ⟨by decide, by decide, by decide +kernel⟩⟩
set_option maxRecDepth 20000 in
theorem mH_strayAll : MkV H_strayAll 1 := ⟨LTm 356 (by decide +kernel) rfl, LTm 357 (by decide +kernel) rfl, ini_H, LTm 358 rfl rfl, ⟨by decide, by decide, by decide +kernel⟩⟩
set_option maxRecDepth 20000 in
theorem mH_strayedFrom : MkV H_strayedFrom 2 := ⟨LTm 360 (by decide +kernel) rfl, LTm 361 (by decide +kernel) rfl, ini_H, LTm 362 rfl rfl, ⟨by decide, by decide, by decide +kernel⟩⟩
set_option maxRecDepth 20000 in
theorem mS_towards : MkS S_towards 3 := ⟨LTm 364 (by decide +kernel) rfl, ini_S, LTm 365 rfl rfl, ⟨by decide, by decide, by decide +kernel⟩⟩
set_option maxRecDepth 20000 in
theorem mJM_min : MkS JM_min 2 := ⟨LTm 367 (by decide +kernel) rfl, ini_JM, LTm 368 rfl rfl, ⟨by decide, by decide, by decide +kernel⟩⟩
set_option maxRecDepth 20000 in
theorem mJM_max : MkS JM_max 2 := ⟨LTm 370 (by decide +kernel) rfl, ini_JM, LTm 371 rfl rfl, ⟨by decide, by decide, by decide +kernel⟩⟩
set_option maxRecDepth 20000 in
theorem mH_prowl : MkV H_prowl 0 := ⟨LTm 375 (by decide +kernel) rfl, LTm 376 (by decide +kernel) rfl, ini_H, LTm 377 rfl rfl, ⟨by decide, by decide, by decide +kernel⟩⟩
set_option maxRecDepth 20000 in
theorem mH_nearestToWolf : MkV H_nearestToWolf 0 := ⟨LTm 379 (by decide +kernel) rfl, LTm 380 (by decide +kernel) rfl, ini_H, LTm 381 rfl rfl, ⟨by decide, by decide, by decide +kernel⟩⟩
set_option maxRecDepth 20000 in
theorem mH_frighten : MkV H_frighten 0 := ⟨LTm 383 (by decide +kernel) rfl, LTm 384 (by decide +kernel) rfl, ini_H, LTm 385 rfl rfl, ⟨by decide, by decide, by decide +kernel⟩⟩
set_option maxRecDepth 20000 in
theorem mH_tend : MkV H_tend 0 := ⟨LTm 387 (by decide +kernel) rfl, LTm 388 (by decide +kernel) rfl, ini_H, LTm 389 rfl rfl, ⟨by decide, by decide, by decide +kernel⟩⟩
set_option maxRecDepth 20000 in
theorem mH_carryHome : MkV H_carryHome 0 := ⟨LTm 391 (by decide +kernel) rfl, LTm 392 (by decide +kernel) rfl, ini_H, LTm 393 rfl rfl, ⟨by decide, by decide, by decide +kernel⟩⟩
set_option maxRecDepth 20000 in
theorem mH_seek : MkV H_seek 0 := ⟨LTm 396 (by decide +kernel) rfl, LTm 397 (by decide +kernel) rfl, ini_H, LTm 398 rfl rfl, ⟨by decide, by decide, by decide +kernel⟩⟩
set_option maxRecDepth 20000 in
theorem mH_sought : MkV H_sought 0 := ⟨LTm 400 (by decide +kernel) rfl, LTm 401 (by decide +kernel) rfl, ini_H, LTm 402 rfl rfl, ⟨by decide, by decide, by decide +kernel⟩⟩
set_option maxRecDepth 20000 in
theorem mH_settle : MkV H_settle 0 := ⟨LTm 404 (by decide +kernel) rfl, LTm 405 (by decide +kernel) rfl, ini_H, LTm 406 rfl rfl, ⟨by decide, by decide, by decide +kernel⟩⟩
set_option maxRecDepth 20000 in
theorem mH_total : MkV H_total 1 := ⟨LTm 409 (by decide +kernel) rfl, LTm 410 (by decide +kernel) rfl, ini_H, LTm 411 rfl rfl, ⟨by decide, by decide, by decide +kernel⟩⟩
set_option maxRecDepth 20000 in
theorem mS_now : MkV S_now 1 := ⟨LTm 413 (by decide +kernel) rfl, LTm 414 (by decide +kernel) rfl, ini_S, LTm 415 rfl rfl, ⟨by decide, by decide, by decide +kernel⟩⟩
set_option maxRecDepth 20000 in
theorem mH_farSheep : MkV H_farSheep 0 := ⟨LTm 417 (by decide +kernel) rfl, LTm 418 (by decide +kernel) rfl, ini_H, LTm 419 rfl rfl, ⟨by decide, by decide, by decide +kernel⟩⟩
set_option maxRecDepth 20000 in
theorem mH_mostAfraid : MkV H_mostAfraid 0 := ⟨LTm 422 (by decide +kernel) rfl, LTm 423 (by decide +kernel) rfl, ini_H, LTm 424 rfl rfl, ⟨by decide, by decide, by decide +kernel⟩⟩
set_option maxRecDepth 20000 in
theorem mS_ahead : MkV S_ahead 3 := ⟨LTm 426 (by decide +kernel) rfl, LTm 427 (by decide +kernel) rfl, ini_S, LTm 428 rfl rfl, ⟨by decide, by decide, by decide +kernel⟩⟩
set_option maxRecDepth 20000 in
theorem mH_become : MkV H_become 1 := ⟨LTm 430 (by decide +kernel) rfl, LTm 431 (by decide +kernel) rfl, ini_H, LTm 432 rfl rfl, ⟨by decide, by decide, by decide +kernel⟩⟩
set_option maxRecDepth 20000 in
theorem mS_later : MkV S_later 2 := ⟨LTm 437 (by decide +kernel) rfl, LTm 438 (by decide +kernel) rfl, ini_S, LTm 439 rfl rfl, ⟨by decide, by decide, by decide +kernel⟩⟩
set_option maxRecDepth 20000 in
theorem mS_when : MkV S_when 2 := ⟨LTm 441 (by decide +kernel) rfl, LTm 442 (by decide +kernel) rfl, ini_S, LTm 443 rfl rfl, ⟨by decide, by decide, by decide +kernel⟩⟩
set_option maxRecDepth 20000 in
theorem mS_firstHourOfAtLeast : MkV S_firstHourOfAtLeast 3 := ⟨LTm 446 (by decide +kernel) rfl, LTm 1 (by decide +kernel) rfl, ini_S, LTm 447 rfl rfl, ⟨by decide, by decide, by decide +kernel⟩⟩
set_option maxRecDepth 20000 in
theorem mS_home : MkV S_home 0 := ⟨LTm 450 (by decide +kernel) rfl, LTm 451 (by decide +kernel) rfl, ini_S, LTm 452 rfl rfl, ⟨by decide, by decide, by decide +kernel⟩⟩
set_option maxRecDepth 20000 in
theorem mH_allAtFold : MkV H_allAtFold 0 := ⟨LTm 454 (by decide +kernel) rfl, LTm 455 (by decide +kernel) rfl, ini_H, LTm 456 rfl rfl, ⟨by decide, by decide, by decide +kernel⟩⟩
set_option maxRecDepth 20000 in
theorem mS_panic : MkV S_panic 2 := ⟨LTm 458 (by decide +kernel) rfl, LTm 459 (by decide +kernel) rfl, ini_S, LTm 460 rfl rfl, ⟨by decide, by decide, by decide +kernel⟩⟩
set_option maxRecDepth 20000 in
theorem mS_standFor : MkV S_standFor 1 := ⟨LTm 462 (by decide +kernel) rfl, LTm 463 (by decide +kernel) rfl, ini_S, LTm 464 rfl rfl, ⟨by decide, by decide, by decide +kernel⟩⟩
set_option maxRecDepth 20000 in
theorem mS_foldFor : MkV S_foldFor 1 := ⟨LTm 467 (by decide +kernel) rfl, LTm 468 (by decide +kernel) rfl, ini_S, LTm 469 rfl rfl, ⟨by decide, by decide, by decide +kernel⟩⟩
set_option maxRecDepth 20000 in
theorem mS_kindFor : MkV S_kindFor 2 := ⟨LTm 471 (by decide +kernel) rfl, LTm 472 (by decide +kernel) rfl, ini_S, LTm 473 rfl rfl, ⟨by decide, by decide, by decide +kernel⟩⟩
set_option maxRecDepth 20000 in
theorem mS_paceFor : MkV S_paceFor 2 := ⟨LTm 475 (by decide +kernel) rfl, LTm 476 (by decide +kernel) rfl, ini_S, LTm 477 rfl rfl, ⟨by decide, by decide, by decide +kernel⟩⟩
set_option maxRecDepth 20000 in
theorem mS_tether : MkV S_tether 1 := ⟨LTm 479 (by decide +kernel) rfl, LTm 480 (by decide +kernel) rfl, ini_S, LTm 481 rfl rfl, ⟨by decide, by decide, by decide +kernel⟩⟩
set_option maxRecDepth 20000 in
theorem mJI_bitCount : MkS JI_bitCount 1 := ⟨LTm 483 (by decide +kernel) rfl, ini_JI, LTm 484 rfl rfl, ⟨by decide, by decide, by decide +kernel⟩⟩
set_option maxRecDepth 20000 in
theorem mS_keepsNear : MkV S_keepsNear 2 := ⟨LTm 490 (by decide +kernel) rfl, LTm 2 (by decide +kernel) rfl, ini_S, LTm 491 rfl rfl, ⟨by decide, by decide, by decide +kernel⟩⟩
set_option maxRecDepth 20000 in
theorem mS_fits : MkV S_fits 2 := ⟨LTm 493 (by decide +kernel) rfl, LTm 494 (by decide +kernel) rfl, ini_S, LTm 495 rfl rfl, ⟨by decide, by decide, by decide +kernel⟩⟩
set_option maxRecDepth 20000 in
theorem mS_isSheet : MkS S_isSheet 1 := ⟨LTm 497 (by decide +kernel) rfl, ini_S, LTm 498 rfl rfl, ⟨by decide, by decide, by decide +kernel⟩⟩
set_option maxRecDepth 20000 in
theorem mE_isMissing : MkV E_isMissing 0 := ⟨LTm 500 (by decide +kernel) rfl, LTm 501 (by decide +kernel) rfl, ini_E, LTm 502 rfl rfl, ⟨by decide, by decide, by decide +kernel⟩⟩
set_option maxRecDepth 20000 in
theorem mS_keeperGoesAsTold : MkV S_keeperGoesAsTold 1 := ⟨LTm 505 (by decide +kernel) rfl, LTm 3 (by decide +kernel) rfl, ini_S, LTm 506 rfl rfl, ⟨by decide, by decide, by decide +kernel⟩⟩
set_option maxRecDepth 20000 in
theorem mE_allows : MkV E_allows 2 := ⟨LTm 508 (by decide +kernel) rfl, LTm 509 (by decide +kernel) rfl, ini_E, LTm 510 rfl rfl, ⟨by decide, by decide, by decide +kernel⟩⟩
set_option maxRecDepth 20000 in
theorem mS_kinds : MkV S_kinds 2 := ⟨LTm 512 (by decide +kernel) rfl, LTm 513 (by decide +kernel) rfl, ini_S, LTm 514 rfl rfl, ⟨by decide, by decide, by decide +kernel⟩⟩
set_option maxRecDepth 20000 in
theorem mS_sheepGoesAsTold : MkV S_sheepGoesAsTold 2 := ⟨LTm 517 (by decide +kernel) rfl, LTm 4 (by decide +kernel) rfl, ini_S, LTm 518 rfl rfl, ⟨by decide, by decide, by decide +kernel⟩⟩
set_option maxRecDepth 20000 in
theorem mS_nights : MkV S_nights 1 := ⟨LTm 520 (by decide +kernel) rfl, LTm 521 (by decide +kernel) rfl, ini_S, LTm 522 rfl rfl, ⟨by decide, by decide, by decide +kernel⟩⟩
set_option maxRecDepth 20000 in
theorem mS_draw : MkV S_draw 0 := ⟨LTm 525 (by decide +kernel) rfl, LTm 5 (by decide +kernel) rfl, ini_S, LTm 526 rfl rfl, ⟨by decide, by decide, by decide +kernel⟩⟩
set_option maxRecDepth 20000 in
theorem mS_odds : MkV S_odds 3 := ⟨LTm 529 (by decide +kernel) rfl, LTm 530 (by decide +kernel) rfl, ini_S, LTm 531 rfl rfl, ⟨by decide, by decide, by decide +kernel⟩⟩
set_option maxRecDepth 20000 in
theorem mH_cellsOutOfReachOf : MkV H_cellsOutOfReachOf 1 := ⟨LTm 533 (by decide +kernel) rfl, LTm 534 (by decide +kernel) rfl, ini_H, LTm 535 rfl rfl, ⟨by decide, by decide, by decide +kernel⟩⟩
set_option maxRecDepth 20000 in
theorem mS_power : MkS S_power 2 := ⟨LTm 537 (by decide +kernel) rfl, ini_S, LTm 538 rfl rfl, ⟨by decide, by decide, by decide +kernel⟩⟩
set_option maxRecDepth 20000 in
theorem mS_seed : MkV S_seed 1 := ⟨LTm 540 (by decide +kernel) rfl, LTm 541 (by decide +kernel) rfl, ini_S, LTm 542 rfl rfl, ⟨by decide, by decide, by decide +kernel⟩⟩
set_option maxRecDepth 20000 in
theorem mS_feed : MkV S_feed 2 := ⟨LTm 544 (by decide +kernel) rfl, LTm 545 (by decide +kernel) rfl, ini_S, LTm 546 rfl rfl, ⟨by decide, by decide, by decide +kernel⟩⟩
set_option maxRecDepth 20000 in
theorem mT_hasRoomFor : MkV T_hasRoomFor 1 := ⟨LTm 548 (by decide +kernel) rfl, LTm 549 (by decide +kernel) rfl, ini_T, LTm 550 rfl rfl, ⟨by decide, by decide, by decide +kernel⟩⟩
set_option maxRecDepth 20000 in
theorem mT_append : MkV T_append 1 := ⟨LTm 552 (by decide +kernel) rfl, LTm 553 (by decide +kernel) rfl, ini_T, LTm 554 rfl rfl, ⟨by decide, by decide, by decide +kernel⟩⟩
set_option maxRecDepth 20000 in
theorem mS_wipe : MkV S_wipe 0 := ⟨LTm 557 (by decide +kernel) rfl, LTm 558 (by decide +kernel) rfl, ini_S, LTm 559 rfl rfl, ⟨by decide, by decide, by decide +kernel⟩⟩
set_option maxRecDepth 20000 in
theorem mS_text : MkV S_text 0 := ⟨LTm 561 (by decide +kernel) rfl, LTm 562 (by decide +kernel) rfl, ini_S, LTm 563 rfl rfl, ⟨by decide, by decide, by decide +kernel⟩⟩
set_option maxRecDepth 20000 in
theorem mT_readOnto : MkV T_readOnto 1 := ⟨LTm 565 (by decide +kernel) rfl, LTm 566 (by decide +kernel) rfl, ini_T, LTm 567 rfl rfl, ⟨by decide, by decide, by decide +kernel⟩⟩
set_option maxRecDepth 20000 in
theorem mT_nextToken : MkV T_nextToken 0 := ⟨LTm 570 (by decide +kernel) rfl, LTm 6 (by decide +kernel) rfl, ini_T, LTm 571 rfl rfl, ⟨by decide, by decide, by decide +kernel⟩⟩
set_option maxRecDepth 20000 in
theorem mT_tokenAt : MkV T_tokenAt 1 := ⟨LTm 574 (by decide +kernel) rfl, LTm 7 (by decide +kernel) rfl, ini_T, LTm 575 rfl rfl, ⟨by decide, by decide, by decide +kernel⟩⟩
set_option maxRecDepth 20000 in
theorem mT_isLong : MkS T_isLong 1 := ⟨LTm 577 (by decide +kernel) rfl, ini_T, LTm 578 rfl rfl, ⟨by decide, by decide, by decide +kernel⟩⟩
set_option maxRecDepth 20000 in
theorem mT_readItem : MkV T_readItem 1 := ⟨LTm 581 (by decide +kernel) rfl, LTm 8 (by decide +kernel) rfl, ini_T, LTm 582 rfl rfl, ⟨by decide, by decide, by decide +kernel⟩⟩
set_option maxRecDepth 20000 in
theorem mT_kindOfWord : MkV T_kindOfWord 0 := ⟨LTm 585 (by decide +kernel) rfl, LTm 9 (by decide +kernel) rfl, ini_T, LTm 586 rfl rfl, ⟨by decide, by decide, by decide +kernel⟩⟩
set_option maxRecDepth 20000 in
theorem mT_nameOf : MkS T_nameOf 1 := ⟨LTm 588 (by decide +kernel) rfl, ini_T, LTm 589 rfl rfl, ⟨by decide, by decide, by decide +kernel⟩⟩
set_option maxRecDepth 20000 in
theorem mT_isWord : MkV T_isWord 1 := ⟨LTm 599 (by decide +kernel) rfl, LTm 10 (by decide +kernel) rfl, ini_T, LTm 600 rfl rfl, ⟨by decide, by decide, by decide +kernel⟩⟩
set_option maxRecDepth 20000 in
theorem mJS_length : MkV JS_length 0 := ⟨LTm 602 (by decide +kernel) rfl, LTm 603 (by decide +kernel) rfl, ini_JS, LTm 604 rfl rfl, ⟨by decide, by decide, by decide +kernel⟩⟩
set_option maxRecDepth 20000 in
theorem mJS_coder : MkV JS_coder 0 := ⟨LTm 606 (by decide +kernel) rfl, LTm 607 (by decide +kernel) rfl, ini_JS, LTm 608 rfl rfl, ⟨by decide, by decide, by decide +kernel⟩⟩
set_option maxRecDepth 20000 in
theorem mJS_charAt : MkV JS_charAt 1 := ⟨LTm 612 (by decide +kernel) rfl, LTm 613 (by decide +kernel) rfl, ini_JS, LTm 614 rfl rfl, ⟨by decide, by decide, by decide +kernel⟩⟩
set_option maxRecDepth 20000 in
theorem mJS_isLatin1 : MkV JS_isLatin1 0 := ⟨LTm 616 (by decide +kernel) rfl, LTm 617 (by decide +kernel) rfl, ini_JS, LTm 618 rfl rfl, ⟨by decide, by decide, by decide +kernel⟩⟩
set_option maxRecDepth 20000 in
theorem mJL_charAt : MkS JL_charAt 2 := ⟨LTm 620 (by decide +kernel) rfl, ini_JL, LTm 621 rfl rfl, ⟨by decide, by decide, by decide +kernel⟩⟩
set_option maxRecDepth 20000 in
theorem mJS_checkIndex : MkS JS_checkIndex 2 := ⟨LTm 623 (by decide +kernel) rfl, ini_JS, LTm 624 rfl rfl, ⟨by decide, by decide, by decide +kernel⟩⟩
set_option maxRecDepth 20000 in
theorem mJP_checkIndex : MkS JP_checkIndex 3 := ⟨LTm 628 (by decide +kernel) rfl, ini_JP, LTm 629 rfl rfl, ⟨by decide, by decide, by decide +kernel⟩⟩
set_option maxRecDepth 20000 in
theorem mT_readSheep : MkV T_readSheep 2 := ⟨LTm 651 (by decide +kernel) rfl, LTm 11 (by decide +kernel) rfl, ini_T, LTm 652 rfl rfl, ⟨by decide, by decide, by decide +kernel⟩⟩
set_option maxRecDepth 20000 in
theorem mT_skipWord : MkV T_skipWord 1 := ⟨LTm 657 (by decide +kernel) rfl, LTm 12 (by decide +kernel) rfl, ini_T, LTm 658 rfl rfl, ⟨by decide, by decide, by decide +kernel⟩⟩
set_option maxRecDepth 20000 in
theorem mT_takeNumber : MkV T_takeNumber 1 := ⟨LTm 661 (by decide +kernel) rfl, LTm 13 (by decide +kernel) rfl, ini_T, LTm 662 rfl rfl, ⟨by decide, by decide, by decide +kernel⟩⟩
set_option maxRecDepth 20000 in
theorem mT_readFold : MkV T_readFold 1 := ⟨LTm 669 (by decide +kernel) rfl, LTm 14 (by decide +kernel) rfl, ini_T, LTm 670 rfl rfl, ⟨by decide, by decide, by decide +kernel⟩⟩
set_option maxRecDepth 20000 in
theorem mT_readKeeper : MkV T_readKeeper 1 := ⟨LTm 674 (by decide +kernel) rfl, LTm 15 (by decide +kernel) rfl, ini_T, LTm 675 rfl rfl, ⟨by decide, by decide, by decide +kernel⟩⟩
set_option maxRecDepth 20000 in
theorem mT_readWolf : MkV T_readWolf 1 := ⟨LTm 680 (by decide +kernel) rfl, LTm 16 (by decide +kernel) rfl, ini_T, LTm 681 rfl rfl, ⟨by decide, by decide, by decide +kernel⟩⟩
set_option maxRecDepth 20000 in
theorem mS_hold : MkV S_hold 2 := ⟨LTm 685 (by decide +kernel) rfl, LTm 686 (by decide +kernel) rfl, ini_S, LTm 687 rfl rfl, ⟨by decide, by decide, by decide +kernel⟩⟩
set_option maxRecDepth 20000 in
theorem mS_isSpot : MkS S_isSpot 1 := ⟨LTm 689 (by decide +kernel) rfl, ini_S, LTm 690 rfl rfl, ⟨by decide, by decide, by decide +kernel⟩⟩
set_option maxRecDepth 20000 in
theorem mS_as : MkV S_as 2 := ⟨LTm 692 (by decide +kernel) rfl, LTm 693 (by decide +kernel) rfl, ini_S, LTm 694 rfl rfl, ⟨by decide, by decide, by decide +kernel⟩⟩
set_option maxRecDepth 20000 in
theorem mS_isUnder : MkS S_isUnder 2 := ⟨LTm 696 (by decide +kernel) rfl, ini_S, LTm 697 rfl rfl, ⟨by decide, by decide, by decide +kernel⟩⟩
set_option maxRecDepth 20000 in
theorem mS_kindAbove : MkS S_kindAbove 1 := ⟨LTm 699 (by decide +kernel) rfl, ini_S, LTm 700 rfl rfl, ⟨by decide, by decide, by decide +kernel⟩⟩
set_option maxRecDepth 20000 in
theorem mS_sheet : MkV S_sheet 3 := ⟨LTm 702 (by decide +kernel) rfl, LTm 703 (by decide +kernel) rfl, ini_S, LTm 704 rfl rfl, ⟨by decide, by decide, by decide +kernel⟩⟩
set_option maxRecDepth 20000 in
theorem mE_begin : MkV E_begin 2 := ⟨LTm 706 (by decide +kernel) rfl, LTm 707 (by decide +kernel) rfl, ini_E, LTm 708 rfl rfl, ⟨by decide, by decide, by decide +kernel⟩⟩
set_option maxRecDepth 20000 in
theorem mS_write : MkV S_write 3 := ⟨LTm 710 (by decide +kernel) rfl, LTm 711 (by decide +kernel) rfl, ini_S, LTm 712 rfl rfl, ⟨by decide, by decide, by decide +kernel⟩⟩
set_option maxRecDepth 20000 in
theorem mE_put : MkV E_put 2 := ⟨LTm 714 (by decide +kernel) rfl, LTm 715 (by decide +kernel) rfl, ini_E, LTm 716 rfl rfl, ⟨by decide, by decide, by decide +kernel⟩⟩
set_option maxRecDepth 20000 in
theorem mS_copy : MkV S_copy 5 := ⟨LTm 718 (by decide +kernel) rfl, LTm 719 (by decide +kernel) rfl, ini_S, LTm 720 rfl rfl, ⟨by decide, by decide, by decide +kernel⟩⟩
set_option maxRecDepth 20000 in
theorem mE_hasRun : MkV E_hasRun 2 := ⟨LTm 722 (by decide +kernel) rfl, LTm 723 (by decide +kernel) rfl, ini_E, LTm 724 rfl rfl, ⟨by decide, by decide, by decide +kernel⟩⟩
set_option maxRecDepth 20000 in
theorem mS_load : MkV S_load 1 := ⟨LTm 727 (by decide +kernel) rfl, LTm 728 (by decide +kernel) rfl, ini_S, LTm 729 rfl rfl, ⟨by decide, by decide, by decide +kernel⟩⟩
set_option maxRecDepth 20000 in
theorem mS_judge : MkV S_judge 1 := ⟨LTm 731 (by decide +kernel) rfl, LTm 732 (by decide +kernel) rfl, ini_S, LTm 733 rfl rfl, ⟨by decide, by decide, by decide +kernel⟩⟩
set_option maxRecDepth 20000 in
theorem mS_image : MkV S_image 0 := ⟨LTm 735 (by decide +kernel) rfl, LTm 736 (by decide +kernel) rfl, ini_S, LTm 737 rfl rfl, ⟨by decide, by decide, by decide +kernel⟩⟩
set_option maxRecDepth 20000 in
theorem mS_undo : MkV S_undo 0 := ⟨LTm 739 (by decide +kernel) rfl, LTm 740 (by decide +kernel) rfl, ini_S, LTm 741 rfl rfl, ⟨by decide, by decide, by decide +kernel⟩⟩
set_option maxRecDepth 20000 in
theorem mS_tear : MkV S_tear 0 := ⟨LTm 743 (by decide +kernel) rfl, LTm 744 (by decide +kernel) rfl, ini_S, LTm 745 rfl rfl, ⟨by decide, by decide, by decide +kernel⟩⟩
set_option maxRecDepth 20000 in
theorem mS_count : MkV S_count 1 := ⟨LTm 747 (by decide +kernel) rfl, LTm 748 (by decide +kernel) rfl, ini_S, LTm 749 rfl rfl, ⟨by decide, by decide, by decide +kernel⟩⟩
set_option maxRecDepth 20000 in
theorem mS_spotsInUse : MkV S_spotsInUse 0 := ⟨LTm 752 (by decide +kernel) rfl, LTm 17 (by decide +kernel) rfl, ini_S, LTm 753 rfl rfl, ⟨by decide, by decide, by decide +kernel⟩⟩
set_option maxRecDepth 20000 in
theorem mS_status : MkV S_status 1 := ⟨LTm 755 (by decide +kernel) rfl, LTm 756 (by decide +kernel) rfl, ini_S, LTm 757 rfl rfl, ⟨by decide, by decide, by decide +kernel⟩⟩
set_option maxRecDepth 20000 in
theorem mQ_set : MkV Q_set 2 := ⟨LTm 847 (by decide +kernel) rfl, LTm 848 (by decide +kernel) rfl, ini_Q, LTm 849 rfl rfl, ⟨by decide, by decide, by decide +kernel⟩⟩
set_option maxRecDepth 20000 in
theorem mQ_within : MkS Q_within 3 := ⟨LTm 851 (by decide +kernel) rfl, ini_Q, LTm 852 rfl rfl, ⟨by decide, by decide, by decide +kernel⟩⟩
set_option maxRecDepth 20000 in
theorem mQ_isCell : MkS Q_isCell 1 := ⟨LTm 854 (by decide +kernel) rfl, ini_Q, LTm 855 rfl rfl, ⟨by decide, by decide, by decide +kernel⟩⟩
set_option maxRecDepth 20000 in
theorem mQ_finding : MkV Q_finding 1 := ⟨LTm 859 (by decide +kernel) rfl, LTm 18 (by decide +kernel) rfl, ini_Q, LTm 860 rfl rfl, ⟨by decide, by decide, by decide +kernel⟩⟩
set_option maxRecDepth 20000 in
theorem mQ_keeperTo : MkV Q_keeperTo 1 := ⟨LTm 863 (by decide +kernel) rfl, LTm 19 (by decide +kernel) rfl, ini_Q, LTm 864 rfl rfl, ⟨by decide, by decide, by decide +kernel⟩⟩
set_option maxRecDepth 20000 in
theorem mQ_keeperAt : MkV Q_keeperAt 1 := ⟨LTm 867 (by decide +kernel) rfl, LTm 20 (by decide +kernel) rfl, ini_Q, LTm 868 rfl rfl, ⟨by decide, by decide, by decide +kernel⟩⟩
set_option maxRecDepth 20000 in
theorem mQ_sheepAt : MkS Q_sheepAt 2 := ⟨LTm 870 (by decide +kernel) rfl, ini_Q, LTm 871 rfl rfl, ⟨by decide, by decide, by decide +kernel⟩⟩
set_option maxRecDepth 20000 in
theorem mQ_become : MkV Q_become 2 := ⟨LTm 874 (by decide +kernel) rfl, LTm 21 (by decide +kernel) rfl, ini_Q, LTm 875 rfl rfl, ⟨by decide, by decide, by decide +kernel⟩⟩
set_option maxRecDepth 20000 in
theorem mQ_hill : MkV Q_hill 1 := ⟨LTm 877 (by decide +kernel) rfl, LTm 878 (by decide +kernel) rfl, ini_Q, LTm 879 rfl rfl, ⟨by decide, by decide, by decide +kernel⟩⟩
set_option maxRecDepth 20000 in
theorem mQ_sheep : MkV Q_sheep 2 := ⟨LTm 881 (by decide +kernel) rfl, LTm 882 (by decide +kernel) rfl, ini_Q, LTm 883 rfl rfl, ⟨by decide, by decide, by decide +kernel⟩⟩
set_option maxRecDepth 20000 in
theorem mQ_isKind : MkS Q_isKind 1 := ⟨LTm 885 (by decide +kernel) rfl, ini_Q, LTm 886 rfl rfl, ⟨by decide, by decide, by decide +kernel⟩⟩
set_option maxRecDepth 20000 in
theorem mQ_comes : MkV Q_comes 2 := ⟨LTm 890 (by decide +kernel) rfl, LTm 22 (by decide +kernel) rfl, ini_Q, LTm 891 rfl rfl, ⟨by decide, by decide, by decide +kernel⟩⟩
set_option maxRecDepth 20000 in
theorem mQ_of : MkV Q_of 2 := ⟨LTm 893 (by decide +kernel) rfl, LTm 894 (by decide +kernel) rfl, ini_Q, LTm 895 rfl rfl, ⟨by decide, by decide, by decide +kernel⟩⟩
set_option maxRecDepth 20000 in
theorem mQ_isSheep : MkV Q_isSheep 1 := ⟨LTm 898 (by decide +kernel) rfl, LTm 23 (by decide +kernel) rfl, ini_Q, LTm 899 rfl rfl, ⟨by decide, by decide, by decide +kernel⟩⟩
set_option maxRecDepth 20000 in
theorem mQ_far : MkV Q_far 1 := ⟨LTm 902 (by decide +kernel) rfl, LTm 24 (by decide +kernel) rfl, ini_Q, LTm 903 rfl rfl, ⟨by decide, by decide, by decide +kernel⟩⟩
set_option maxRecDepth 20000 in
theorem mQ_sheepIs : MkV Q_sheepIs 2 := ⟨LTm 906 (by decide +kernel) rfl, LTm 25 (by decide +kernel) rfl, ini_Q, LTm 907 rfl rfl, ⟨by decide, by decide, by decide +kernel⟩⟩
set_option maxRecDepth 20000 in
theorem mJM_abs : MkS JM_abs 1 := ⟨LTm 909 (by decide +kernel) rfl, ini_JM, LTm 910 rfl rfl, ⟨by decide, by decide, by decide +kernel⟩⟩
set_option maxRecDepth 20000 in
theorem mQ_strays : MkV Q_strays 1 := ⟨LTm 913 (by decide +kernel) rfl, LTm 26 (by decide +kernel) rfl, ini_Q, LTm 914 rfl rfl, ⟨by decide, by decide, by decide +kernel⟩⟩
set_option maxRecDepth 20000 in
theorem mQ_isAlone : MkV Q_isAlone 1 := ⟨LTm 917 (by decide +kernel) rfl, LTm 27 (by decide +kernel) rfl, ini_Q, LTm 918 rfl rfl, ⟨by decide, by decide, by decide +kernel⟩⟩
set_option maxRecDepth 20000 in
theorem mQ_fears : MkV Q_fears 1 := ⟨LTm 921 (by decide +kernel) rfl, LTm 28 (by decide +kernel) rfl, ini_Q, LTm 922 rfl rfl, ⟨by decide, by decide, by decide +kernel⟩⟩
set_option maxRecDepth 20000 in
theorem mQ_calms : MkV Q_calms 1 := ⟨LTm 925 (by decide +kernel) rfl, LTm 29 (by decide +kernel) rfl, ini_Q, LTm 926 rfl rfl, ⟨by decide, by decide, by decide +kernel⟩⟩
set_option maxRecDepth 20000 in
theorem mQ_light : MkV Q_light 1 := ⟨LTm 929 (by decide +kernel) rfl, LTm 30 (by decide +kernel) rfl, ini_Q, LTm 930 rfl rfl, ⟨by decide, by decide, by decide +kernel⟩⟩
set_option maxRecDepth 20000 in
theorem mQ_change : MkV Q_change 3 := ⟨LTm 932 (by decide +kernel) rfl, LTm 933 (by decide +kernel) rfl, ini_Q, LTm 934 rfl rfl, ⟨by decide, by decide, by decide +kernel⟩⟩
set_option maxRecDepth 20000 in
theorem mQ_isField : MkS Q_isField 2 := ⟨LTm 936 (by decide +kernel) rfl, ini_Q, LTm 937 rfl rfl, ⟨by decide, by decide, by decide +kernel⟩⟩
set_option maxRecDepth 20000 in
theorem mQ_drop : MkV Q_drop 0 := ⟨LTm 940 (by decide +kernel) rfl, LTm 941 (by decide +kernel) rfl, ini_Q, LTm 942 rfl rfl, ⟨by decide, by decide, by decide +kernel⟩⟩
set_option maxRecDepth 20000 in
theorem mQ_orNone : MkV Q_orNone 1 := ⟨LTm 945 (by decide +kernel) rfl, LTm 31 (by decide +kernel) rfl, ini_Q, LTm 946 rfl rfl, ⟨by decide, by decide, by decide +kernel⟩⟩
set_option maxRecDepth 20000 in
theorem mQ_who : MkV Q_who 1 := ⟨LTm 949 (by decide +kernel) rfl, LTm 950 (by decide +kernel) rfl, ini_Q, LTm 951 rfl rfl, ⟨by decide, by decide, by decide +kernel⟩⟩
set_option maxRecDepth 20000 in
theorem mQ_setAt : MkV Q_setAt 1 := ⟨LTm 954 (by decide +kernel) rfl, LTm 32 (by decide +kernel) rfl, ini_Q, LTm 955 rfl rfl, ⟨by decide, by decide, by decide +kernel⟩⟩
set_option maxRecDepth 20000 in
theorem mQ_go : MkV Q_go 1 := ⟨LTm 957 (by decide +kernel) rfl, LTm 958 (by decide +kernel) rfl, ini_Q, LTm 959 rfl rfl, ⟨by decide, by decide, by decide +kernel⟩⟩
set_option maxRecDepth 20000 in
theorem mQ_hoursGo : MkV Q_hoursGo 1 := ⟨LTm 963 (by decide +kernel) rfl, LTm 33 (by decide +kernel) rfl, ini_Q, LTm 964 rfl rfl, ⟨by decide, by decide, by decide +kernel⟩⟩
set_option maxRecDepth 20000 in
theorem mQ_hour : MkV Q_hour 0 := ⟨LTm 967 (by decide +kernel) rfl, LTm 34 (by decide +kernel) rfl, ini_Q, LTm 968 rfl rfl, ⟨by decide, by decide, by decide +kernel⟩⟩
set_option maxRecDepth 20000 in
theorem mQ_sheepGo : MkV Q_sheepGo 0 := ⟨LTm 971 (by decide +kernel) rfl, LTm 35 (by decide +kernel) rfl, ini_Q, LTm 972 rfl rfl, ⟨by decide, by decide, by decide +kernel⟩⟩
set_option maxRecDepth 20000 in
theorem mQ_hasBit : MkS Q_hasBit 2 := ⟨LTm 974 (by decide +kernel) rfl, ini_Q, LTm 975 rfl rfl, ⟨by decide, by decide, by decide +kernel⟩⟩
set_option maxRecDepth 20000 in
theorem mQ_towards : MkS Q_towards 3 := ⟨LTm 977 (by decide +kernel) rfl, ini_Q, LTm 978 rfl rfl, ⟨by decide, by decide, by decide +kernel⟩⟩
set_option maxRecDepth 20000 in
theorem mQ_awayFrom : MkV Q_awayFrom 2 := ⟨LTm 983 (by decide +kernel) rfl, LTm 36 (by decide +kernel) rfl, ini_Q, LTm 984 rfl rfl, ⟨by decide, by decide, by decide +kernel⟩⟩
set_option maxRecDepth 20000 in
theorem mQ_wolfGoes : MkV Q_wolfGoes 0 := ⟨LTm 987 (by decide +kernel) rfl, LTm 37 (by decide +kernel) rfl, ini_Q, LTm 988 rfl rfl, ⟨by decide, by decide, by decide +kernel⟩⟩
set_option maxRecDepth 20000 in
theorem mQ_nearest : MkV Q_nearest 0 := ⟨LTm 991 (by decide +kernel) rfl, LTm 38 (by decide +kernel) rfl, ini_Q, LTm 992 rfl rfl, ⟨by decide, by decide, by decide +kernel⟩⟩
set_option maxRecDepth 20000 in
theorem mQ_carries : MkV Q_carries 0 := ⟨LTm 995 (by decide +kernel) rfl, LTm 39 (by decide +kernel) rfl, ini_Q, LTm 996 rfl rfl, ⟨by decide, by decide, by decide +kernel⟩⟩
set_option maxRecDepth 20000 in
theorem mQ_seeks : MkV Q_seeks 0 := ⟨LTm 999 (by decide +kernel) rfl, LTm 40 (by decide +kernel) rfl, ini_Q, LTm 1000 rfl rfl, ⟨by decide, by decide, by decide +kernel⟩⟩
set_option maxRecDepth 20000 in
theorem mQ_sought : MkV Q_sought 0 := ⟨LTm 1003 (by decide +kernel) rfl, LTm 41 (by decide +kernel) rfl, ini_Q, LTm 1004 rfl rfl, ⟨by decide, by decide, by decide +kernel⟩⟩
set_option maxRecDepth 20000 in
theorem mQ_sumOf : MkV Q_sumOf 1 := ⟨LTm 1007 (by decide +kernel) rfl, LTm 42 (by decide +kernel) rfl, ini_Q, LTm 1008 rfl rfl, ⟨by decide, by decide, by decide +kernel⟩⟩
set_option maxRecDepth 20000 in
theorem mQ_now : MkV Q_now 1 := ⟨LTm 1010 (by decide +kernel) rfl, LTm 1011 (by decide +kernel) rfl, ini_Q, LTm 1012 rfl rfl, ⟨by decide, by decide, by decide +kernel⟩⟩
set_option maxRecDepth 20000 in
theorem mQ_lostSet : MkV Q_lostSet 0 := ⟨LTm 1015 (by decide +kernel) rfl, LTm 43 (by decide +kernel) rfl, ini_Q, LTm 1016 rfl rfl, ⟨by decide, by decide, by decide +kernel⟩⟩
set_option maxRecDepth 20000 in
theorem mQ_mostAfraid : MkV Q_mostAfraid 0 := ⟨LTm 1019 (by decide +kernel) rfl, LTm 44 (by decide +kernel) rfl, ini_Q, LTm 1020 rfl rfl, ⟨by decide, by decide, by decide +kernel⟩⟩
set_option maxRecDepth 20000 in
theorem mQ_ahead : MkV Q_ahead 3 := ⟨LTm 1022 (by decide +kernel) rfl, LTm 1023 (by decide +kernel) rfl, ini_Q, LTm 1024 rfl rfl, ⟨by decide, by decide, by decide +kernel⟩⟩
set_option maxRecDepth 20000 in
theorem mQ_behind : MkV Q_behind 2 := ⟨LTm 1027 (by decide +kernel) rfl, LTm 45 (by decide +kernel) rfl, ini_Q, LTm 1028 rfl rfl, ⟨by decide, by decide, by decide +kernel⟩⟩
set_option maxRecDepth 20000 in
theorem mQ_copyRow : MkS Q_copyRow 2 := ⟨LTm 1030 (by decide +kernel) rfl, ini_Q, LTm 1031 rfl rfl, ⟨by decide, by decide, by decide +kernel⟩⟩
set_option maxRecDepth 20000 in
theorem mQ_putBack : MkV Q_putBack 1 := ⟨LTm 1034 (by decide +kernel) rfl, LTm 46 (by decide +kernel) rfl, ini_Q, LTm 1035 rfl rfl, ⟨by decide, by decide, by decide +kernel⟩⟩
set_option maxRecDepth 20000 in
theorem mQ_later : MkV Q_later 2 := ⟨LTm 1037 (by decide +kernel) rfl, LTm 1038 (by decide +kernel) rfl, ini_Q, LTm 1039 rfl rfl, ⟨by decide, by decide, by decide +kernel⟩⟩
set_option maxRecDepth 20000 in
theorem mQ_when : MkV Q_when 2 := ⟨LTm 1041 (by decide +kernel) rfl, LTm 1042 (by decide +kernel) rfl, ini_Q, LTm 1043 rfl rfl, ⟨by decide, by decide, by decide +kernel⟩⟩
set_option maxRecDepth 20000 in
theorem mQ_whenIs : MkV Q_whenIs 3 := ⟨LTm 1046 (by decide +kernel) rfl, LTm 47 (by decide +kernel) rfl, ini_Q, LTm 1047 rfl rfl, ⟨by decide, by decide, by decide +kernel⟩⟩
set_option maxRecDepth 20000 in
theorem mQ_home : MkV Q_home 0 := ⟨LTm 1049 (by decide +kernel) rfl, LTm 1050 (by decide +kernel) rfl, ini_Q, LTm 1051 rfl rfl, ⟨by decide, by decide, by decide +kernel⟩⟩
set_option maxRecDepth 20000 in
theorem mQ_areHome : MkV Q_areHome 0 := ⟨LTm 1054 (by decide +kernel) rfl, LTm 48 (by decide +kernel) rfl, ini_Q, LTm 1055 rfl rfl, ⟨by decide, by decide, by decide +kernel⟩⟩
set_option maxRecDepth 20000 in
theorem mQ_panic : MkV Q_panic 2 := ⟨LTm 1057 (by decide +kernel) rfl, LTm 1058 (by decide +kernel) rfl, ini_Q, LTm 1059 rfl rfl, ⟨by decide, by decide, by decide +kernel⟩⟩
set_option maxRecDepth 20000 in
theorem mQ_standFor : MkV Q_standFor 1 := ⟨LTm 1061 (by decide +kernel) rfl, LTm 1062 (by decide +kernel) rfl, ini_Q, LTm 1063 rfl rfl, ⟨by decide, by decide, by decide +kernel⟩⟩
set_option maxRecDepth 20000 in
theorem mQ_isThought : MkS Q_isThought 1 := ⟨LTm 1065 (by decide +kernel) rfl, ini_Q, LTm 1066 rfl rfl, ⟨by decide, by decide, by decide +kernel⟩⟩
set_option maxRecDepth 20000 in
theorem mQ_leastFor : MkV Q_leastFor 3 := ⟨LTm 1069 (by decide +kernel) rfl, LTm 49 (by decide +kernel) rfl, ini_Q, LTm 1070 rfl rfl, ⟨by decide, by decide, by decide +kernel⟩⟩
set_option maxRecDepth 20000 in
theorem mQ_sumBehind : MkV Q_sumBehind 2 := ⟨LTm 1073 (by decide +kernel) rfl, LTm 50 (by decide +kernel) rfl, ini_Q, LTm 1074 rfl rfl, ⟨by decide, by decide, by decide +kernel⟩⟩
set_option maxRecDepth 20000 in
theorem mQ_foldFor : MkV Q_foldFor 1 := ⟨LTm 1076 (by decide +kernel) rfl, LTm 1077 (by decide +kernel) rfl, ini_Q, LTm 1078 rfl rfl, ⟨by decide, by decide, by decide +kernel⟩⟩
set_option maxRecDepth 20000 in
theorem mQ_kindFor : MkV Q_kindFor 2 := ⟨LTm 1080 (by decide +kernel) rfl, LTm 1081 (by decide +kernel) rfl, ini_Q, LTm 1082 rfl rfl, ⟨by decide, by decide, by decide +kernel⟩⟩
set_option maxRecDepth 20000 in
theorem mQ_paceFor : MkV Q_paceFor 2 := ⟨LTm 1084 (by decide +kernel) rfl, LTm 1085 (by decide +kernel) rfl, ini_Q, LTm 1086 rfl rfl, ⟨by decide, by decide, by decide +kernel⟩⟩
set_option maxRecDepth 20000 in
theorem mQ_tether : MkV Q_tether 1 := ⟨LTm 1088 (by decide +kernel) rfl, LTm 1089 (by decide +kernel) rfl, ini_Q, LTm 1090 rfl rfl, ⟨by decide, by decide, by decide +kernel⟩⟩
set_option maxRecDepth 20000 in
theorem mQ_areNear : MkV Q_areNear 2 := ⟨LTm 1093 (by decide +kernel) rfl, LTm 51 (by decide +kernel) rfl, ini_Q, LTm 1094 rfl rfl, ⟨by decide, by decide, by decide +kernel⟩⟩
set_option maxRecDepth 20000 in
theorem mQ_bits : MkS Q_bits 1 := ⟨LTm 1096 (by decide +kernel) rfl, ini_Q, LTm 1097 rfl rfl, ⟨by decide, by decide, by decide +kernel⟩⟩
set_option maxRecDepth 20000 in
theorem mQ_fits : MkV Q_fits 2 := ⟨LTm 1099 (by decide +kernel) rfl, LTm 1100 (by decide +kernel) rfl, ini_Q, LTm 1101 rfl rfl, ⟨by decide, by decide, by decide +kernel⟩⟩
set_option maxRecDepth 20000 in
theorem mQ_lacks : MkV Q_lacks 2 := ⟨LTm 1104 (by decide +kernel) rfl, LTm 52 (by decide +kernel) rfl, ini_Q, LTm 1105 rfl rfl, ⟨by decide, by decide, by decide +kernel⟩⟩
set_option maxRecDepth 20000 in
theorem mQ_isSheet : MkS Q_isSheet 1 := ⟨LTm 1107 (by decide +kernel) rfl, ini_Q, LTm 1108 rfl rfl, ⟨by decide, by decide, by decide +kernel⟩⟩
set_option maxRecDepth 20000 in
theorem mQ_valuesFor : MkV Q_valuesFor 4 := ⟨LTm 1112 (by decide +kernel) rfl, LTm 53 (by decide +kernel) rfl, ini_Q, LTm 1113 rfl rfl, ⟨by decide, by decide, by decide +kernel⟩⟩
set_option maxRecDepth 20000 in
theorem mQ_isToldWay : MkV Q_isToldWay 2 := ⟨LTm 1116 (by decide +kernel) rfl, LTm 54 (by decide +kernel) rfl, ini_Q, LTm 1117 rfl rfl, ⟨by decide, by decide, by decide +kernel⟩⟩
set_option maxRecDepth 20000 in
theorem mQ_kinds : MkV Q_kinds 2 := ⟨LTm 1119 (by decide +kernel) rfl, LTm 1120 (by decide +kernel) rfl, ini_Q, LTm 1121 rfl rfl, ⟨by decide, by decide, by decide +kernel⟩⟩
set_option maxRecDepth 20000 in
theorem mQ_nights : MkV Q_nights 1 := ⟨LTm 1123 (by decide +kernel) rfl, LTm 1124 (by decide +kernel) rfl, ini_Q, LTm 1125 rfl rfl, ⟨by decide, by decide, by decide +kernel⟩⟩
set_option maxRecDepth 20000 in
theorem mQ_drawn : MkV Q_drawn 0 := ⟨LTm 1128 (by decide +kernel) rfl, LTm 55 (by decide +kernel) rfl, ini_Q, LTm 1129 rfl rfl, ⟨by decide, by decide, by decide +kernel⟩⟩
set_option maxRecDepth 20000 in
theorem mQ_odds : MkV Q_odds 3 := ⟨LTm 1132 (by decide +kernel) rfl, LTm 1133 (by decide +kernel) rfl, ini_Q, LTm 1134 rfl rfl, ⟨by decide, by decide, by decide +kernel⟩⟩
set_option maxRecDepth 20000 in
theorem mQ_seed : MkV Q_seed 1 := ⟨LTm 1136 (by decide +kernel) rfl, LTm 1137 (by decide +kernel) rfl, ini_Q, LTm 1138 rfl rfl, ⟨by decide, by decide, by decide +kernel⟩⟩
set_option maxRecDepth 20000 in
theorem mQ_feed : MkV Q_feed 2 := ⟨LTm 1140 (by decide +kernel) rfl, LTm 1141 (by decide +kernel) rfl, ini_Q, LTm 1142 rfl rfl, ⟨by decide, by decide, by decide +kernel⟩⟩
set_option maxRecDepth 20000 in
theorem mQ_wipe : MkV Q_wipe 0 := ⟨LTm 1144 (by decide +kernel) rfl, LTm 1145 (by decide +kernel) rfl, ini_Q, LTm 1146 rfl rfl, ⟨by decide, by decide, by decide +kernel⟩⟩
set_option maxRecDepth 20000 in
theorem mQ_text : MkV Q_text 0 := ⟨LTm 1148 (by decide +kernel) rfl, LTm 1149 (by decide +kernel) rfl, ini_Q, LTm 1150 rfl rfl, ⟨by decide, by decide, by decide +kernel⟩⟩
set_option maxRecDepth 20000 in
theorem mQ_token : MkV Q_token 0 := ⟨LTm 1153 (by decide +kernel) rfl, LTm 56 (by decide +kernel) rfl, ini_Q, LTm 1154 rfl rfl, ⟨by decide, by decide, by decide +kernel⟩⟩
set_option maxRecDepth 20000 in
theorem mQ_byteAt : MkV Q_byteAt 1 := ⟨LTm 1157 (by decide +kernel) rfl, LTm 57 (by decide +kernel) rfl, ini_Q, LTm 1158 rfl rfl, ⟨by decide, by decide, by decide +kernel⟩⟩
set_option maxRecDepth 20000 in
theorem mQ_readItem : MkV Q_readItem 0 := ⟨LTm 1161 (by decide +kernel) rfl, LTm 58 (by decide +kernel) rfl, ini_Q, LTm 1162 rfl rfl, ⟨by decide, by decide, by decide +kernel⟩⟩
set_option maxRecDepth 20000 in
theorem mQ_isWord : MkV Q_isWord 1 := ⟨LTm 1165 (by decide +kernel) rfl, LTm 59 (by decide +kernel) rfl, ini_Q, LTm 1166 rfl rfl, ⟨by decide, by decide, by decide +kernel⟩⟩
set_option maxRecDepth 20000 in
theorem mQ_readSheep : MkV Q_readSheep 1 := ⟨LTm 1171 (by decide +kernel) rfl, LTm 60 (by decide +kernel) rfl, ini_Q, LTm 1172 rfl rfl, ⟨by decide, by decide, by decide +kernel⟩⟩
set_option maxRecDepth 20000 in
theorem mQ_must : MkV Q_must 1 := ⟨LTm 1175 (by decide +kernel) rfl, LTm 61 (by decide +kernel) rfl, ini_Q, LTm 1176 rfl rfl, ⟨by decide, by decide, by decide +kernel⟩⟩
set_option maxRecDepth 20000 in
theorem mQ_mayTell : MkV Q_mayTell 3 := ⟨LTm 1180 (by decide +kernel) rfl, LTm 62 (by decide +kernel) rfl, ini_Q, LTm 1181 rfl rfl, ⟨by decide, by decide, by decide +kernel⟩⟩
set_option maxRecDepth 20000 in
theorem mQ_takesWord : MkV Q_takesWord 1 := ⟨LTm 1184 (by decide +kernel) rfl, LTm 63 (by decide +kernel) rfl, ini_Q, LTm 1185 rfl rfl, ⟨by decide, by decide, by decide +kernel⟩⟩
set_option maxRecDepth 20000 in
theorem mQ_number : MkV Q_number 2 := ⟨LTm 1188 (by decide +kernel) rfl, LTm 64 (by decide +kernel) rfl, ini_Q, LTm 1189 rfl rfl, ⟨by decide, by decide, by decide +kernel⟩⟩
set_option maxRecDepth 20000 in
theorem mQ_addItem : MkV Q_addItem 4 := ⟨LTm 1194 (by decide +kernel) rfl, LTm 65 (by decide +kernel) rfl, ini_Q, LTm 1195 rfl rfl, ⟨by decide, by decide, by decide +kernel⟩⟩
set_option maxRecDepth 20000 in
theorem mQ_isToldSo : MkV Q_isToldSo 1 := ⟨LTm 1202 (by decide +kernel) rfl, LTm 66 (by decide +kernel) rfl, ini_Q, LTm 1203 rfl rfl, ⟨by decide, by decide, by decide +kernel⟩⟩
set_option maxRecDepth 20000 in
theorem mQ_hold : MkV Q_hold 2 := ⟨LTm 1205 (by decide +kernel) rfl, LTm 1206 (by decide +kernel) rfl, ini_Q, LTm 1207 rfl rfl, ⟨by decide, by decide, by decide +kernel⟩⟩
set_option maxRecDepth 20000 in
theorem mQ_isSpot : MkS Q_isSpot 1 := ⟨LTm 1209 (by decide +kernel) rfl, ini_Q, LTm 1210 rfl rfl, ⟨by decide, by decide, by decide +kernel⟩⟩
set_option maxRecDepth 20000 in
theorem mQ_as : MkV Q_as 2 := ⟨LTm 1212 (by decide +kernel) rfl, LTm 1213 (by decide +kernel) rfl, ini_Q, LTm 1214 rfl rfl, ⟨by decide, by decide, by decide +kernel⟩⟩
set_option maxRecDepth 20000 in
theorem mQ_isUnder : MkS Q_isUnder 2 := ⟨LTm 1216 (by decide +kernel) rfl, ini_Q, LTm 1217 rfl rfl, ⟨by decide, by decide, by decide +kernel⟩⟩
set_option maxRecDepth 20000 in
theorem mQ_above : MkS Q_above 1 := ⟨LTm 1219 (by decide +kernel) rfl, ini_Q, LTm 1220 rfl rfl, ⟨by decide, by decide, by decide +kernel⟩⟩
set_option maxRecDepth 20000 in
theorem mQ_sheet : MkV Q_sheet 3 := ⟨LTm 1223 (by decide +kernel) rfl, LTm 1224 (by decide +kernel) rfl, ini_Q, LTm 1225 rfl rfl, ⟨by decide, by decide, by decide +kernel⟩⟩
set_option maxRecDepth 20000 in
theorem mQ_write : MkV Q_write 3 := ⟨LTm 1228 (by decide +kernel) rfl, LTm 1229 (by decide +kernel) rfl, ini_Q, LTm 1230 rfl rfl, ⟨by decide, by decide, by decide +kernel⟩⟩
set_option maxRecDepth 20000 in
theorem mQ_cutTo : MkS Q_cutTo 2 := ⟨LTm 1232 (by decide +kernel) rfl, ini_Q, LTm 1233 rfl rfl, ⟨by decide, by decide, by decide +kernel⟩⟩
set_option maxRecDepth 20000 in
theorem mQ_copy : MkV Q_copy 5 := ⟨LTm 1235 (by decide +kernel) rfl, LTm 1236 (by decide +kernel) rfl, ini_Q, LTm 1237 rfl rfl, ⟨by decide, by decide, by decide +kernel⟩⟩
set_option maxRecDepth 20000 in
theorem mQ_load : MkV Q_load 1 := ⟨LTm 1239 (by decide +kernel) rfl, LTm 1240 (by decide +kernel) rfl, ini_Q, LTm 1241 rfl rfl, ⟨by decide, by decide, by decide +kernel⟩⟩
set_option maxRecDepth 20000 in
theorem mQ_judge : MkV Q_judge 1 := ⟨LTm 1243 (by decide +kernel) rfl, LTm 1244 (by decide +kernel) rfl, ini_Q, LTm 1245 rfl rfl, ⟨by decide, by decide, by decide +kernel⟩⟩
set_option maxRecDepth 20000 in
theorem mQ_image : MkV Q_image 0 := ⟨LTm 1247 (by decide +kernel) rfl, LTm 1248 (by decide +kernel) rfl, ini_Q, LTm 1249 rfl rfl, ⟨by decide, by decide, by decide +kernel⟩⟩
set_option maxRecDepth 20000 in
theorem mQ_undo : MkV Q_undo 0 := ⟨LTm 1251 (by decide +kernel) rfl, LTm 1252 (by decide +kernel) rfl, ini_Q, LTm 1253 rfl rfl, ⟨by decide, by decide, by decide +kernel⟩⟩
set_option maxRecDepth 20000 in
theorem mQ_tear : MkV Q_tear 0 := ⟨LTm 1255 (by decide +kernel) rfl, LTm 1256 (by decide +kernel) rfl, ini_Q, LTm 1257 rfl rfl, ⟨by decide, by decide, by decide +kernel⟩⟩
set_option maxRecDepth 20000 in
theorem mQ_count : MkV Q_count 1 := ⟨LTm 1259 (by decide +kernel) rfl, LTm 1260 (by decide +kernel) rfl, ini_Q, LTm 1261 rfl rfl, ⟨by decide, by decide, by decide +kernel⟩⟩
set_option maxRecDepth 20000 in
theorem mQ_status : MkV Q_status 1 := ⟨LTm 1263 (by decide +kernel) rfl, LTm 1264 (by decide +kernel) rfl, ini_Q, LTm 1265 rfl rfl, ⟨by decide, by decide, by decide +kernel⟩⟩
theorem lS_57 : Cond.methodLink "StraySheep" 57 S_canBeSet.1 ∈ LT := LTm 231 (by decide +kernel) rfl
theorem lS_89 : Cond.methodLink "StraySheep" 89 S_isCell.1 ∈ LT := LTm 234 (by decide +kernel) rfl
theorem lS_81 : Cond.methodLink "StraySheep" 81 S_isWithin.1 ∈ LT := LTm 237 (by decide +kernel) rfl
theorem lS_61 : Cond.methodLink "StraySheep" 61 S_finding.1 ∈ LT := LTm 240 (by decide +kernel) rfl
theorem lS_65 : Cond.methodLink "StraySheep" 65 H_feature.1 ∈ LT := LTm 245 (by decide +kernel) rfl
theorem lS_71 : Cond.methodLink "StraySheep" 71 H_moveKeeper.1 ∈ LT := LTm 249 (by decide +kernel) rfl
theorem lH_59 : Cond.methodLink "StraySheep$Hill" 59 H_has.1 ∈ LT := LTm 253 (by decide +kernel) rfl
theorem lS_85 : Cond.methodLink "StraySheep" 85 S_isKind.1 ∈ LT := LTm 265 (by decide +kernel) rfl
theorem lS_92 : Cond.methodLink "StraySheep" 92 H_isFull.1 ∈ LT := LTm 268 (by decide +kernel) rfl
theorem lS_96 : Cond.methodLink "StraySheep" 96 H_add.1 ∈ LT := LTm 272 (by decide +kernel) rfl
theorem lH_55 : Cond.methodLink "StraySheep$Hill" 55 H_isFull.1 ∈ LT := LTm 276 (by decide +kernel) rfl
theorem lS_100 : Cond.methodLink "StraySheep" 100 H_has.1 ∈ LT := LTm 281 (by decide +kernel) rfl
theorem lS_103 : Cond.methodLink "StraySheep" 103 H_trait.1 ∈ LT := LTm 282 (by decide +kernel) rfl
theorem lH_63 : Cond.methodLink "StraySheep$Hill" 63 H_far.1 ∈ LT := LTm 286 (by decide +kernel) rfl
theorem lH_79 : Cond.methodLinkNest "StraySheep$Hill" 79 S_distance.1 "StraySheep" ∈ NW := List.mem_filter.mpr ⟨List.mem_of_getElem? (i := 290) (by decide +kernel), rfl⟩
theorem lH_67 : Cond.methodLink "StraySheep$Hill" 67 H_strays.1 ∈ LT := LTm 293 (by decide +kernel) rfl
theorem lH_86 : Cond.methodLink "StraySheep$Hill" 86 H_straysAsRam.1 ∈ LT := LTm 297 (by decide +kernel) rfl
theorem lH_95 : Cond.methodLink "StraySheep$Hill" 95 H_straysAsSheep.1 ∈ LT := LTm 301 (by decide +kernel) rfl
theorem lH_89 : Cond.methodLink "StraySheep$Hill" 89 H_straysAsEwe.1 ∈ LT := LTm 305 (by decide +kernel) rfl
theorem lH_92 : Cond.methodLink "StraySheep$Hill" 92 H_hasCompany.1 ∈ LT := LTm 309 (by decide +kernel) rfl
theorem lH_83 : Cond.methodLink "StraySheep$Hill" 83 H_sheepAt.1 ∈ LT := LTm 313 (by decide +kernel) rfl
theorem lH_70 : Cond.methodLinkNest "StraySheep$Hill" 70 S_fearsOf.1 "StraySheep" ∈ NW := List.mem_filter.mpr ⟨List.mem_of_getElem? (i := 317) (by decide +kernel), rfl⟩
theorem lH_73 : Cond.methodLinkNest "StraySheep$Hill" 73 S_calmsOf.1 "StraySheep" ∈ NW := List.mem_filter.mpr ⟨List.mem_of_getElem? (i := 320) (by decide +kernel), rfl⟩
theorem lH_76 : Cond.methodLinkNest "StraySheep$Hill" 76 S_lightOf.1 "StraySheep" ∈ NW := List.mem_filter.mpr ⟨List.mem_of_getElem? (i := 323) (by decide +kernel), rfl⟩
theorem lS_106 : Cond.methodLink "StraySheep" 106 S_canBeChanged.1 ∈ LT := LTm 330 (by decide +kernel) rfl
theorem lS_127 : Cond.methodLink "StraySheep" 127 H_sheepAt.1 ∈ LT := LTm 341 (by decide +kernel) rfl
theorem lS_134 : Cond.methodLink "StraySheep" 134 H_passHours.1 ∈ LT := LTm 347 (by decide +kernel) rfl
theorem lH_99 : Cond.methodLink "StraySheep$Hill" 99 H_passHour.1 ∈ LT := LTm 351 (by decide +kernel) rfl
theorem lH_103 : Cond.methodLink "StraySheep$Hill" 103 H_strayAll.1 ∈ LT := LTm 355 (by decide +kernel) rfl
theorem lH_121 : Cond.methodLink "StraySheep$Hill" 121 H_strayedFrom.1 ∈ LT := LTm 359 (by decide +kernel) rfl
theorem lH_124 : Cond.methodLinkNest "StraySheep$Hill" 124 S_towards.1 "StraySheep" ∈ NW := List.mem_filter.mpr ⟨List.mem_of_getElem? (i := 363) (by decide +kernel), rfl⟩
theorem lS_257 : Cond.methodLink "StraySheep" 257 JM_min.1 ∈ LT := LTm 366 (by decide +kernel) rfl
theorem lS_262 : Cond.methodLink "StraySheep" 262 JM_max.1 ∈ LT := LTm 369 (by decide +kernel) rfl
theorem lH_116 : Cond.methodLink "StraySheep$Hill" 116 JM_min.1 ∈ LT := LTm 372 (by decide +kernel) rfl
theorem lH_128 : Cond.methodLink "StraySheep$Hill" 128 JM_max.1 ∈ LT := LTm 373 (by decide +kernel) rfl
theorem lH_106 : Cond.methodLink "StraySheep$Hill" 106 H_prowl.1 ∈ LT := LTm 374 (by decide +kernel) rfl
theorem lH_131 : Cond.methodLink "StraySheep$Hill" 131 H_nearestToWolf.1 ∈ LT := LTm 378 (by decide +kernel) rfl
theorem lH_134 : Cond.methodLink "StraySheep$Hill" 134 H_frighten.1 ∈ LT := LTm 382 (by decide +kernel) rfl
theorem lH_109 : Cond.methodLink "StraySheep$Hill" 109 H_tend.1 ∈ LT := LTm 386 (by decide +kernel) rfl
theorem lH_137 : Cond.methodLink "StraySheep$Hill" 137 H_carryHome.1 ∈ LT := LTm 390 (by decide +kernel) rfl
theorem lH_143 : Cond.methodLink "StraySheep$Hill" 143 H_moveKeeper.1 ∈ LT := LTm 394 (by decide +kernel) rfl
theorem lH_140 : Cond.methodLink "StraySheep$Hill" 140 H_seek.1 ∈ LT := LTm 395 (by decide +kernel) rfl
theorem lH_146 : Cond.methodLink "StraySheep$Hill" 146 H_sought.1 ∈ LT := LTm 399 (by decide +kernel) rfl
theorem lH_112 : Cond.methodLink "StraySheep$Hill" 112 H_settle.1 ∈ LT := LTm 403 (by decide +kernel) rfl
theorem lS_137 : Cond.methodLink "StraySheep" 137 H_total.1 ∈ LT := LTm 408 (by decide +kernel) rfl
theorem lS_141 : Cond.methodLink "StraySheep" 141 H_farSheep.1 ∈ LT := LTm 416 (by decide +kernel) rfl
theorem lS_145 : Cond.methodLink "StraySheep" 145 H_sought.1 ∈ LT := LTm 420 (by decide +kernel) rfl
theorem lS_148 : Cond.methodLink "StraySheep" 148 H_mostAfraid.1 ∈ LT := LTm 421 (by decide +kernel) rfl
theorem lS_151 : Cond.methodLink "StraySheep" 151 H_become.1 ∈ LT := LTm 429 (by decide +kernel) rfl
theorem lH_49 : Cond.methodLink "StraySheep$Hill" 49 arraycopyName ∈ LT := LTm 433 (by decide +kernel) rfl
theorem lS_155 : Cond.methodLink "StraySheep" 155 S_firstHourOfAtLeast.1 ∈ LT := LTm 444 (by decide +kernel) rfl
theorem lS_162 : Cond.methodLink "StraySheep" 162 H_passHour.1 ∈ LT := LTm 448 (by decide +kernel) rfl
theorem lS_159 : Cond.methodLink "StraySheep" 159 H_allAtFold.1 ∈ LT := LTm 453 (by decide +kernel) rfl
theorem lS_169 : Cond.methodLink "StraySheep" 169 JI_bitCount.1 ∈ LT := LTm 482 (by decide +kernel) rfl
theorem lS_174 : Cond.methodLink "StraySheep" 174 S_keepsNear.1 ∈ LT := LTm 488 (by decide +kernel) rfl
theorem lS_177 : Cond.methodLink "StraySheep" 177 S_isSheet.1 ∈ LT := LTm 496 (by decide +kernel) rfl
theorem lS_180 : Cond.methodLink "StraySheep" 180 E_isMissing.1 ∈ LT := LTm 499 (by decide +kernel) rfl
theorem lS_183 : Cond.methodLink "StraySheep" 183 S_keeperGoesAsTold.1 ∈ LT := LTm 503 (by decide +kernel) rfl
theorem lS_250 : Cond.methodLink "StraySheep" 250 E_allows.1 ∈ LT := LTm 507 (by decide +kernel) rfl
theorem lS_187 : Cond.methodLink "StraySheep" 187 S_sheepGoesAsTold.1 ∈ LT := LTm 515 (by decide +kernel) rfl
theorem lS_191 : Cond.methodLink "StraySheep" 191 S_draw.1 ∈ LT := LTm 523 (by decide +kernel) rfl
theorem lS_194 : Cond.methodLink "StraySheep" 194 H_cellsOutOfReachOf.1 ∈ LT := LTm 532 (by decide +kernel) rfl
theorem lS_197 : Cond.methodLink "StraySheep" 197 S_power.1 ∈ LT := LTm 536 (by decide +kernel) rfl
theorem lS_201 : Cond.methodLink "StraySheep" 201 T_hasRoomFor.1 ∈ LT := LTm 547 (by decide +kernel) rfl
theorem lS_204 : Cond.methodLink "StraySheep" 204 T_append.1 ∈ LT := LTm 551 (by decide +kernel) rfl
theorem lT_28 : Cond.methodLink "StraySheep$Tape" 28 T_hasRoomFor.1 ∈ LT := LTm 555 (by decide +kernel) rfl
theorem lS_210 : Cond.methodLink "StraySheep" 210 T_readOnto.1 ∈ LT := LTm 564 (by decide +kernel) rfl
theorem lT_32 : Cond.methodLink "StraySheep$Tape" 32 T_nextToken.1 ∈ LT := LTm 568 (by decide +kernel) rfl
theorem lT_135 : Cond.methodLink "StraySheep$Tape" 135 T_tokenAt.1 ∈ LT := LTm 572 (by decide +kernel) rfl
theorem lT_138 : Cond.methodLink "StraySheep$Tape" 138 T_isLong.1 ∈ LT := LTm 576 (by decide +kernel) rfl
theorem lT_35 : Cond.methodLink "StraySheep$Tape" 35 T_readItem.1 ∈ LT := LTm 579 (by decide +kernel) rfl
theorem lT_39 : Cond.methodLink "StraySheep$Tape" 39 T_kindOfWord.1 ∈ LT := LTm 583 (by decide +kernel) rfl
theorem lT_101 : Cond.methodLink "StraySheep$Tape" 101 T_nameOf.1 ∈ LT := LTm 587 (by decide +kernel) rfl
theorem lT_105 : Cond.methodLink "StraySheep$Tape" 105 T_isWord.1 ∈ LT := LTm 597 (by decide +kernel) rfl
theorem lT_122 : Cond.methodLink "StraySheep$Tape" 122 JS_length.1 ∈ LT := LTm 601 (by decide +kernel) rfl
theorem lJS_335 : Cond.methodLink "java/lang/String" 335 JS_coder.1 ∈ LT := LTm 605 (by decide +kernel) rfl
theorem lT_126 : Cond.methodLink "StraySheep$Tape" 126 JS_charAt.1 ∈ LT := LTm 611 (by decide +kernel) rfl
theorem lJS_492 : Cond.methodLink "java/lang/String" 492 JS_isLatin1.1 ∈ LT := LTm 615 (by decide +kernel) rfl
theorem lJS_495 : Cond.methodLink "java/lang/String" 495 JL_charAt.1 ∈ LT := LTm 619 (by decide +kernel) rfl
theorem lJL_9 : Cond.methodLink "java/lang/StringLatin1" 9 JS_checkIndex.1 ∈ LT := LTm 622 (by decide +kernel) rfl
theorem lJS_1059 : Cond.methodLink "java/lang/String" 1059 JP_checkIndex.1 ∈ LT := LTm 627 (by decide +kernel) rfl
theorem lT_43 : Cond.methodLink "StraySheep$Tape" 43 T_readSheep.1 ∈ LT := LTm 649 (by decide +kernel) rfl
theorem lT_66 : Cond.methodLink "StraySheep$Tape" 66 H_add.1 ∈ LT := LTm 653 (by decide +kernel) rfl
theorem lT_49 : Cond.methodLink "StraySheep$Tape" 49 T_skipWord.1 ∈ LT := LTm 655 (by decide +kernel) rfl
theorem lT_74 : Cond.methodLink "StraySheep$Tape" 74 T_takeNumber.1 ∈ LT := LTm 659 (by decide +kernel) rfl
theorem lT_130 : Cond.methodLink "StraySheep$Tape" 130 JM_min.1 ∈ LT := LTm 663 (by decide +kernel) rfl
theorem lT_53 : Cond.methodLink "StraySheep$Tape" 53 T_readFold.1 ∈ LT := LTm 667 (by decide +kernel) rfl
theorem lT_58 : Cond.methodLink "StraySheep$Tape" 58 T_readKeeper.1 ∈ LT := LTm 672 (by decide +kernel) rfl
theorem lT_91 : Cond.methodLink "StraySheep$Tape" 91 H_moveKeeper.1 ∈ LT := LTm 676 (by decide +kernel) rfl
theorem lT_63 : Cond.methodLink "StraySheep$Tape" 63 T_readWolf.1 ∈ LT := LTm 678 (by decide +kernel) rfl
theorem lS_214 : Cond.methodLink "StraySheep" 214 S_isSpot.1 ∈ LT := LTm 688 (by decide +kernel) rfl
theorem lS_217 : Cond.methodLink "StraySheep" 217 S_isUnder.1 ∈ LT := LTm 695 (by decide +kernel) rfl
theorem lS_254 : Cond.methodLink "StraySheep" 254 S_kindAbove.1 ∈ LT := LTm 698 (by decide +kernel) rfl
theorem lS_220 : Cond.methodLink "StraySheep" 220 E_begin.1 ∈ LT := LTm 705 (by decide +kernel) rfl
theorem lS_225 : Cond.methodLink "StraySheep" 225 E_put.1 ∈ LT := LTm 713 (by decide +kernel) rfl
theorem lS_231 : Cond.methodLink "StraySheep" 231 E_hasRun.1 ∈ LT := LTm 721 (by decide +kernel) rfl
theorem lS_237 : Cond.methodLink "StraySheep" 237 arraycopyName ∈ LT := LTm 725 (by decide +kernel) rfl
theorem lS_243 : Cond.methodLink "StraySheep" 243 S_spotsInUse.1 ∈ LT := LTm 750 (by decide +kernel) rfl
theorem lQ_79 : Cond.methodLink "StraySheepModel" 79 Q_within.1 ∈ LT := LTm 850 (by decide +kernel) rfl
theorem lQ_91 : Cond.methodLink "StraySheepModel" 91 Q_isCell.1 ∈ LT := LTm 853 (by decide +kernel) rfl
theorem lQ_75 : Cond.methodLink "StraySheepModel" 75 Q_finding.1 ∈ LT := LTm 857 (by decide +kernel) rfl
theorem lQ_95 : Cond.methodLink "StraySheepModel" 95 Q_keeperTo.1 ∈ LT := LTm 861 (by decide +kernel) rfl
theorem lQ_87 : Cond.methodLink "StraySheepModel" 87 Q_keeperAt.1 ∈ LT := LTm 865 (by decide +kernel) rfl
theorem lQ_83 : Cond.methodLink "StraySheepModel" 83 Q_sheepAt.1 ∈ LT := LTm 869 (by decide +kernel) rfl
theorem lQ_98 : Cond.methodLink "StraySheepModel" 98 Q_become.1 ∈ LT := LTm 872 (by decide +kernel) rfl
theorem lQ_101 : Cond.methodLink "StraySheepModel" 101 Q_isKind.1 ∈ LT := LTm 884 (by decide +kernel) rfl
theorem lQ_105 : Cond.methodLink "StraySheepModel" 105 Q_comes.1 ∈ LT := LTm 888 (by decide +kernel) rfl
theorem lQ_119 : Cond.methodLink "StraySheepModel" 119 Q_isSheep.1 ∈ LT := LTm 896 (by decide +kernel) rfl
theorem lQ_122 : Cond.methodLink "StraySheepModel" 122 Q_far.1 ∈ LT := LTm 900 (by decide +kernel) rfl
theorem lQ_108 : Cond.methodLink "StraySheepModel" 108 Q_sheepIs.1 ∈ LT := LTm 904 (by decide +kernel) rfl
theorem lQ_111 : Cond.methodLink "StraySheepModel" 111 JM_abs.1 ∈ LT := LTm 908 (by decide +kernel) rfl
theorem lQ_125 : Cond.methodLink "StraySheepModel" 125 Q_strays.1 ∈ LT := LTm 911 (by decide +kernel) rfl
theorem lQ_116 : Cond.methodLink "StraySheepModel" 116 Q_isAlone.1 ∈ LT := LTm 915 (by decide +kernel) rfl
theorem lQ_128 : Cond.methodLink "StraySheepModel" 128 Q_fears.1 ∈ LT := LTm 919 (by decide +kernel) rfl
theorem lQ_131 : Cond.methodLink "StraySheepModel" 131 Q_calms.1 ∈ LT := LTm 923 (by decide +kernel) rfl
theorem lQ_134 : Cond.methodLink "StraySheepModel" 134 Q_light.1 ∈ LT := LTm 927 (by decide +kernel) rfl
theorem lQ_137 : Cond.methodLink "StraySheepModel" 137 Q_isField.1 ∈ LT := LTm 935 (by decide +kernel) rfl
theorem lQ_142 : Cond.methodLink "StraySheepModel" 142 Q_orNone.1 ∈ LT := LTm 943 (by decide +kernel) rfl
theorem lQ_145 : Cond.methodLink "StraySheepModel" 145 Q_setAt.1 ∈ LT := LTm 952 (by decide +kernel) rfl
theorem lQ_191 : Cond.methodLink "StraySheepModel" 191 Q_hoursGo.1 ∈ LT := LTm 961 (by decide +kernel) rfl
theorem lQ_187 : Cond.methodLink "StraySheepModel" 187 Q_hour.1 ∈ LT := LTm 965 (by decide +kernel) rfl
theorem lQ_175 : Cond.methodLink "StraySheepModel" 175 Q_sheepGo.1 ∈ LT := LTm 969 (by decide +kernel) rfl
theorem lQ_158 : Cond.methodLink "StraySheepModel" 158 Q_hasBit.1 ∈ LT := LTm 973 (by decide +kernel) rfl
theorem lQ_161 : Cond.methodLink "StraySheepModel" 161 Q_towards.1 ∈ LT := LTm 976 (by decide +kernel) rfl
theorem lQ_148 : Cond.methodLink "StraySheepModel" 148 JM_min.1 ∈ LT := LTm 979 (by decide +kernel) rfl
theorem lQ_151 : Cond.methodLink "StraySheepModel" 151 JM_max.1 ∈ LT := LTm 980 (by decide +kernel) rfl
theorem lQ_165 : Cond.methodLink "StraySheepModel" 165 Q_awayFrom.1 ∈ LT := LTm 981 (by decide +kernel) rfl
theorem lQ_178 : Cond.methodLink "StraySheepModel" 178 Q_wolfGoes.1 ∈ LT := LTm 985 (by decide +kernel) rfl
theorem lQ_168 : Cond.methodLink "StraySheepModel" 168 Q_nearest.1 ∈ LT := LTm 989 (by decide +kernel) rfl
theorem lQ_181 : Cond.methodLink "StraySheepModel" 181 Q_carries.1 ∈ LT := LTm 993 (by decide +kernel) rfl
theorem lQ_184 : Cond.methodLink "StraySheepModel" 184 Q_seeks.1 ∈ LT := LTm 997 (by decide +kernel) rfl
theorem lQ_172 : Cond.methodLink "StraySheepModel" 172 Q_sought.1 ∈ LT := LTm 1001 (by decide +kernel) rfl
theorem lQ_194 : Cond.methodLink "StraySheepModel" 194 Q_sumOf.1 ∈ LT := LTm 1005 (by decide +kernel) rfl
theorem lQ_197 : Cond.methodLink "StraySheepModel" 197 Q_lostSet.1 ∈ LT := LTm 1013 (by decide +kernel) rfl
theorem lQ_200 : Cond.methodLink "StraySheepModel" 200 Q_mostAfraid.1 ∈ LT := LTm 1017 (by decide +kernel) rfl
theorem lQ_206 : Cond.methodLink "StraySheepModel" 206 Q_behind.1 ∈ LT := LTm 1025 (by decide +kernel) rfl
theorem lQ_70 : Cond.methodLink "StraySheepModel" 70 Q_copyRow.1 ∈ LT := LTm 1029 (by decide +kernel) rfl
theorem lQ_203 : Cond.methodLink "StraySheepModel" 203 Q_putBack.1 ∈ LT := LTm 1032 (by decide +kernel) rfl
theorem lQ_209 : Cond.methodLink "StraySheepModel" 209 Q_whenIs.1 ∈ LT := LTm 1044 (by decide +kernel) rfl
theorem lQ_212 : Cond.methodLink "StraySheepModel" 212 Q_areHome.1 ∈ LT := LTm 1052 (by decide +kernel) rfl
theorem lQ_219 : Cond.methodLink "StraySheepModel" 219 Q_isThought.1 ∈ LT := LTm 1064 (by decide +kernel) rfl
theorem lQ_222 : Cond.methodLink "StraySheepModel" 222 Q_leastFor.1 ∈ LT := LTm 1067 (by decide +kernel) rfl
theorem lQ_216 : Cond.methodLink "StraySheepModel" 216 Q_sumBehind.1 ∈ LT := LTm 1071 (by decide +kernel) rfl
theorem lQ_225 : Cond.methodLink "StraySheepModel" 225 Q_areNear.1 ∈ LT := LTm 1091 (by decide +kernel) rfl
theorem lQ_228 : Cond.methodLink "StraySheepModel" 228 Q_bits.1 ∈ LT := LTm 1095 (by decide +kernel) rfl
theorem lQ_238 : Cond.methodLink "StraySheepModel" 238 Q_lacks.1 ∈ LT := LTm 1102 (by decide +kernel) rfl
theorem lQ_231 : Cond.methodLink "StraySheepModel" 231 Q_isSheet.1 ∈ LT := LTm 1106 (by decide +kernel) rfl
theorem lQ_242 : Cond.methodLink "StraySheepModel" 242 Q_valuesFor.1 ∈ LT := LTm 1110 (by decide +kernel) rfl
theorem lQ_235 : Cond.methodLink "StraySheepModel" 235 Q_isToldWay.1 ∈ LT := LTm 1114 (by decide +kernel) rfl
theorem lQ_247 : Cond.methodLink "StraySheepModel" 247 Q_drawn.1 ∈ LT := LTm 1126 (by decide +kernel) rfl
theorem lQ_279 : Cond.methodLink "StraySheepModel" 279 Q_token.1 ∈ LT := LTm 1151 (by decide +kernel) rfl
theorem lQ_259 : Cond.methodLink "StraySheepModel" 259 Q_byteAt.1 ∈ LT := LTm 1155 (by decide +kernel) rfl
theorem lQ_327 : Cond.methodLink "StraySheepModel" 327 Q_readItem.1 ∈ LT := LTm 1159 (by decide +kernel) rfl
theorem lQ_289 : Cond.methodLink "StraySheepModel" 289 Q_isWord.1 ∈ LT := LTm 1163 (by decide +kernel) rfl
theorem lQ_268 : Cond.methodLink "StraySheepModel" 268 JS_length.1 ∈ LT := LTm 1167 (by decide +kernel) rfl
theorem lQ_271 : Cond.methodLink "StraySheepModel" 271 JS_charAt.1 ∈ LT := LTm 1168 (by decide +kernel) rfl
theorem lQ_316 : Cond.methodLink "StraySheepModel" 316 Q_readSheep.1 ∈ LT := LTm 1169 (by decide +kernel) rfl
theorem lQ_282 : Cond.methodLink "StraySheepModel" 282 Q_must.1 ∈ LT := LTm 1173 (by decide +kernel) rfl
theorem lQ_304 : Cond.methodLink "StraySheepModel" 304 Q_mayTell.1 ∈ LT := LTm 1178 (by decide +kernel) rfl
theorem lQ_293 : Cond.methodLink "StraySheepModel" 293 Q_takesWord.1 ∈ LT := LTm 1182 (by decide +kernel) rfl
theorem lQ_296 : Cond.methodLink "StraySheepModel" 296 Q_number.1 ∈ LT := LTm 1186 (by decide +kernel) rfl
theorem lQ_312 : Cond.methodLink "StraySheepModel" 312 Q_addItem.1 ∈ LT := LTm 1192 (by decide +kernel) rfl
theorem lQ_330 : Cond.methodLink "StraySheepModel" 330 Q_isToldSo.1 ∈ LT := LTm 1200 (by decide +kernel) rfl
theorem lQ_333 : Cond.methodLink "StraySheepModel" 333 Q_isSpot.1 ∈ LT := LTm 1208 (by decide +kernel) rfl
theorem lQ_336 : Cond.methodLink "StraySheepModel" 336 Q_isUnder.1 ∈ LT := LTm 1215 (by decide +kernel) rfl
theorem lQ_344 : Cond.methodLink "StraySheepModel" 344 Q_above.1 ∈ LT := LTm 1218 (by decide +kernel) rfl
theorem lQ_341 : Cond.methodLink "StraySheepModel" 341 Q_cutTo.1 ∈ LT := LTm 1231 (by decide +kernel) rfl
theorem kS_set_57 : CkS S_set 57 S_canBeSet 2 := ⟨lS_57, mS_canBeSet.1, mS_canBeSet.2.1, mS_canBeSet.2.2.1, mS_canBeSet.2.2.2, ⟨by decide, by decide⟩⟩
theorem kS_set_61 : CkV S_set 61 S_finding 1 := ⟨lS_61, mS_finding.1, mS_finding.2.1, mS_finding.2.2.1, mS_finding.2.2.2.1, mS_finding.2.2.2.2, ⟨by decide, by decide⟩⟩
theorem kS_set_65 : CkV S_set 65 H_feature 1 := ⟨lS_65, mH_feature.1, mH_feature.2.1, mH_feature.2.2.1, mH_feature.2.2.2.1, mH_feature.2.2.2.2, ⟨by decide, by decide⟩⟩
theorem kS_set_71 : CkV S_set 71 H_moveKeeper 1 := ⟨lS_71, mH_moveKeeper.1, mH_moveKeeper.2.1, mH_moveKeeper.2.2.1, mH_moveKeeper.2.2.2.1, mH_moveKeeper.2.2.2.2, ⟨by decide, by decide⟩⟩
theorem kS_canBeSet_89 : CkS S_canBeSet 89 S_isCell 1 := ⟨lS_89, mS_isCell.1, mS_isCell.2.1, mS_isCell.2.2.1, mS_isCell.2.2.2, ⟨by decide, by decide⟩⟩
theorem kS_canBeSet_81 : CkS S_canBeSet 81 S_isWithin 3 := ⟨lS_81, mS_isWithin.1, mS_isWithin.2.1, mS_isWithin.2.2.1, mS_isWithin.2.2.2, ⟨by decide, by decide⟩⟩
theorem kS_isCell_81 : CkS S_isCell 81 S_isWithin 3 := ⟨lS_81, mS_isWithin.1, mS_isWithin.2.1, mS_isWithin.2.2.1, mS_isWithin.2.2.2, ⟨by decide, by decide⟩⟩
theorem kH_moveKeeper_59 : CkV H_moveKeeper 59 H_has 1 := ⟨lH_59, mH_has.1, mH_has.2.1, mH_has.2.2.1, mH_has.2.2.2.1, mH_has.2.2.2.2, ⟨by decide, by decide⟩⟩
theorem kS_hill_81 : CkS S_hill 81 S_isWithin 3 := ⟨lS_81, mS_isWithin.1, mS_isWithin.2.1, mS_isWithin.2.2.1, mS_isWithin.2.2.2, ⟨by decide, by decide⟩⟩
theorem kS_hill_61 : CkV S_hill 61 S_finding 1 := ⟨lS_61, mS_finding.1, mS_finding.2.1, mS_finding.2.2.1, mS_finding.2.2.2.1, mS_finding.2.2.2.2, ⟨by decide, by decide⟩⟩
theorem kS_hill_65 : CkV S_hill 65 H_feature 1 := ⟨lS_65, mH_feature.1, mH_feature.2.1, mH_feature.2.2.1, mH_feature.2.2.2.1, mH_feature.2.2.2.2, ⟨by decide, by decide⟩⟩
theorem kS_sheep_85 : CkS S_sheep 85 S_isKind 1 := ⟨lS_85, mS_isKind.1, mS_isKind.2.1, mS_isKind.2.2.1, mS_isKind.2.2.2, ⟨by decide, by decide⟩⟩
theorem kS_sheep_89 : CkS S_sheep 89 S_isCell 1 := ⟨lS_89, mS_isCell.1, mS_isCell.2.1, mS_isCell.2.2.1, mS_isCell.2.2.2, ⟨by decide, by decide⟩⟩
theorem kS_sheep_61 : CkV S_sheep 61 S_finding 1 := ⟨lS_61, mS_finding.1, mS_finding.2.1, mS_finding.2.2.1, mS_finding.2.2.2.1, mS_finding.2.2.2.2, ⟨by decide, by decide⟩⟩
theorem kS_sheep_92 : CkV S_sheep 92 H_isFull 0 := ⟨lS_92, mH_isFull.1, mH_isFull.2.1, mH_isFull.2.2.1, mH_isFull.2.2.2.1, mH_isFull.2.2.2.2, ⟨by decide, by decide⟩⟩
theorem kS_sheep_96 : CkV S_sheep 96 H_add 2 := ⟨lS_96, mH_add.1, mH_add.2.1, mH_add.2.2.1, mH_add.2.2.2.1, mH_add.2.2.2.2, ⟨by decide, by decide⟩⟩
theorem kS_isKind_81 : CkS S_isKind 81 S_isWithin 3 := ⟨lS_81, mS_isWithin.1, mS_isWithin.2.1, mS_isWithin.2.2.1, mS_isWithin.2.2.2, ⟨by decide, by decide⟩⟩
theorem kH_add_55 : CkV H_add 55 H_isFull 0 := ⟨lH_55, mH_isFull.1, mH_isFull.2.1, mH_isFull.2.2.1, mH_isFull.2.2.2.1, mH_isFull.2.2.2.2, ⟨by decide, by decide⟩⟩
theorem kS_of_100 : CkV S_of 100 H_has 1 := ⟨lS_100, mH_has.1, mH_has.2.1, mH_has.2.2.1, mH_has.2.2.2.1, mH_has.2.2.2.2, ⟨by decide, by decide⟩⟩
theorem kS_of_81 : CkS S_of 81 S_isWithin 3 := ⟨lS_81, mS_isWithin.1, mS_isWithin.2.1, mS_isWithin.2.2.1, mS_isWithin.2.2.2, ⟨by decide, by decide⟩⟩
theorem kS_of_61 : CkV S_of 61 S_finding 1 := ⟨lS_61, mS_finding.1, mS_finding.2.1, mS_finding.2.2.1, mS_finding.2.2.2.1, mS_finding.2.2.2.2, ⟨by decide, by decide⟩⟩
theorem kS_of_103 : CkV S_of 103 H_trait 2 := ⟨lS_103, mH_trait.1, mH_trait.2.1, mH_trait.2.2.1, mH_trait.2.2.2.1, mH_trait.2.2.2.2, ⟨by decide, by decide⟩⟩
theorem kH_trait_63 : CkV H_trait 63 H_far 1 := ⟨lH_63, mH_far.1, mH_far.2.1, mH_far.2.2.1, mH_far.2.2.2.1, mH_far.2.2.2.2, ⟨by decide, by decide⟩⟩
theorem kH_trait_67 : CkV H_trait 67 H_strays 1 := ⟨lH_67, mH_strays.1, mH_strays.2.1, mH_strays.2.2.1, mH_strays.2.2.2.1, mH_strays.2.2.2.2, ⟨by decide, by decide⟩⟩
theorem kH_trait_70 : CkN H_trait 70 S_fearsOf 1 := ⟨⟨_, lH_70⟩, mS_fearsOf.1, mS_fearsOf.2.1, mS_fearsOf.2.2.1, mS_fearsOf.2.2.2, ⟨by decide, by decide⟩⟩
theorem kH_trait_73 : CkN H_trait 73 S_calmsOf 1 := ⟨⟨_, lH_73⟩, mS_calmsOf.1, mS_calmsOf.2.1, mS_calmsOf.2.2.1, mS_calmsOf.2.2.2, ⟨by decide, by decide⟩⟩
theorem kH_trait_76 : CkN H_trait 76 S_lightOf 1 := ⟨⟨_, lH_76⟩, mS_lightOf.1, mS_lightOf.2.1, mS_lightOf.2.2.1, mS_lightOf.2.2.2, ⟨by decide, by decide⟩⟩
theorem kH_far_79 : CkN H_far 79 S_distance 2 := ⟨⟨_, lH_79⟩, mS_distance.1, mS_distance.2.1, mS_distance.2.2.1, mS_distance.2.2.2, ⟨by decide, by decide⟩⟩
theorem kH_strays_86 : CkV H_strays 86 H_straysAsRam 1 := ⟨lH_86, mH_straysAsRam.1, mH_straysAsRam.2.1, mH_straysAsRam.2.2.1, mH_straysAsRam.2.2.2.1, mH_straysAsRam.2.2.2.2, ⟨by decide, by decide⟩⟩
theorem kH_strays_89 : CkV H_strays 89 H_straysAsEwe 1 := ⟨lH_89, mH_straysAsEwe.1, mH_straysAsEwe.2.1, mH_straysAsEwe.2.2.1, mH_straysAsEwe.2.2.2.1, mH_straysAsEwe.2.2.2.2, ⟨by decide, by decide⟩⟩
theorem kH_strays_92 : CkV H_strays 92 H_hasCompany 1 := ⟨lH_92, mH_hasCompany.1, mH_hasCompany.2.1, mH_hasCompany.2.2.1, mH_hasCompany.2.2.2.1, mH_hasCompany.2.2.2.2, ⟨by decide, by decide⟩⟩
theorem kH_strays_95 : CkV H_strays 95 H_straysAsSheep 0 := ⟨lH_95, mH_straysAsSheep.1, mH_straysAsSheep.2.1, mH_straysAsSheep.2.2.1, mH_straysAsSheep.2.2.2.1, mH_straysAsSheep.2.2.2.2, ⟨by decide, by decide⟩⟩
theorem kH_straysAsRam_95 : CkV H_straysAsRam 95 H_straysAsSheep 0 := ⟨lH_95, mH_straysAsSheep.1, mH_straysAsSheep.2.1, mH_straysAsSheep.2.2.1, mH_straysAsSheep.2.2.2.1, mH_straysAsSheep.2.2.2.2, ⟨by decide, by decide⟩⟩
theorem kH_straysAsEwe_95 : CkV H_straysAsEwe 95 H_straysAsSheep 0 := ⟨lH_95, mH_straysAsSheep.1, mH_straysAsSheep.2.1, mH_straysAsSheep.2.2.1, mH_straysAsSheep.2.2.2.1, mH_straysAsSheep.2.2.2.2, ⟨by decide, by decide⟩⟩
theorem kH_hasCompany_83 : CkV H_hasCompany 83 H_sheepAt 1 := ⟨lH_83, mH_sheepAt.1, mH_sheepAt.2.1, mH_sheepAt.2.2.1, mH_sheepAt.2.2.2.1, mH_sheepAt.2.2.2.2, ⟨by decide, by decide⟩⟩
theorem kS_change_100 : CkV S_change 100 H_has 1 := ⟨lS_100, mH_has.1, mH_has.2.1, mH_has.2.2.1, mH_has.2.2.2.1, mH_has.2.2.2.2, ⟨by decide, by decide⟩⟩
theorem kS_change_106 : CkS S_change 106 S_canBeChanged 2 := ⟨lS_106, mS_canBeChanged.1, mS_canBeChanged.2.1, mS_canBeChanged.2.2.1, mS_canBeChanged.2.2.2, ⟨by decide, by decide⟩⟩
theorem kS_change_61 : CkV S_change 61 S_finding 1 := ⟨lS_61, mS_finding.1, mS_finding.2.1, mS_finding.2.2.1, mS_finding.2.2.2.1, mS_finding.2.2.2.2, ⟨by decide, by decide⟩⟩
theorem kS_change_103 : CkV S_change 103 H_trait 2 := ⟨lS_103, mH_trait.1, mH_trait.2.1, mH_trait.2.2.1, mH_trait.2.2.2.1, mH_trait.2.2.2.2, ⟨by decide, by decide⟩⟩
theorem kS_canBeChanged_85 : CkS S_canBeChanged 85 S_isKind 1 := ⟨lS_85, mS_isKind.1, mS_isKind.2.1, mS_isKind.2.2.1, mS_isKind.2.2.2, ⟨by decide, by decide⟩⟩
theorem kS_canBeChanged_89 : CkS S_canBeChanged 89 S_isCell 1 := ⟨lS_89, mS_isCell.1, mS_isCell.2.1, mS_isCell.2.2.1, mS_isCell.2.2.2, ⟨by decide, by decide⟩⟩
theorem kS_canBeChanged_81 : CkS S_canBeChanged 81 S_isWithin 3 := ⟨lS_81, mS_isWithin.1, mS_isWithin.2.1, mS_isWithin.2.2.1, mS_isWithin.2.2.2, ⟨by decide, by decide⟩⟩
theorem kS_drop_61 : CkV S_drop 61 S_finding 1 := ⟨lS_61, mS_finding.1, mS_finding.2.1, mS_finding.2.2.1, mS_finding.2.2.2.1, mS_finding.2.2.2.2, ⟨by decide, by decide⟩⟩
theorem kS_who_89 : CkS S_who 89 S_isCell 1 := ⟨lS_89, mS_isCell.1, mS_isCell.2.1, mS_isCell.2.2.1, mS_isCell.2.2.2, ⟨by decide, by decide⟩⟩
theorem kS_who_61 : CkV S_who 61 S_finding 1 := ⟨lS_61, mS_finding.1, mS_finding.2.1, mS_finding.2.2.1, mS_finding.2.2.2.1, mS_finding.2.2.2.2, ⟨by decide, by decide⟩⟩
theorem kS_who_127 : CkV S_who 127 H_sheepAt 1 := ⟨lS_127, mH_sheepAt.1, mH_sheepAt.2.1, mH_sheepAt.2.2.1, mH_sheepAt.2.2.2.1, mH_sheepAt.2.2.2.2, ⟨by decide, by decide⟩⟩
theorem kS_go_81 : CkS S_go 81 S_isWithin 3 := ⟨lS_81, mS_isWithin.1, mS_isWithin.2.1, mS_isWithin.2.2.1, mS_isWithin.2.2.2, ⟨by decide, by decide⟩⟩
theorem kS_go_61 : CkV S_go 61 S_finding 1 := ⟨lS_61, mS_finding.1, mS_finding.2.1, mS_finding.2.2.1, mS_finding.2.2.2.1, mS_finding.2.2.2.2, ⟨by decide, by decide⟩⟩
theorem kS_go_134 : CkV S_go 134 H_passHours 1 := ⟨lS_134, mH_passHours.1, mH_passHours.2.1, mH_passHours.2.2.1, mH_passHours.2.2.2.1, mH_passHours.2.2.2.2, ⟨by decide, by decide⟩⟩
theorem kS_go_137 : CkV S_go 137 H_total 1 := ⟨lS_137, mH_total.1, mH_total.2.1, mH_total.2.2.1, mH_total.2.2.2.1, mH_total.2.2.2.2, ⟨by decide, by decide⟩⟩
theorem kH_passHours_99 : CkV H_passHours 99 H_passHour 1 := ⟨lH_99, mH_passHour.1, mH_passHour.2.1, mH_passHour.2.2.1, mH_passHour.2.2.2.1, mH_passHour.2.2.2.2, ⟨by decide, by decide⟩⟩
theorem kH_passHour_103 : CkV H_passHour 103 H_strayAll 1 := ⟨lH_103, mH_strayAll.1, mH_strayAll.2.1, mH_strayAll.2.2.1, mH_strayAll.2.2.2.1, mH_strayAll.2.2.2.2, ⟨by decide, by decide⟩⟩
theorem kH_passHour_106 : CkV H_passHour 106 H_prowl 0 := ⟨lH_106, mH_prowl.1, mH_prowl.2.1, mH_prowl.2.2.1, mH_prowl.2.2.2.1, mH_prowl.2.2.2.2, ⟨by decide, by decide⟩⟩
theorem kH_passHour_109 : CkV H_passHour 109 H_tend 0 := ⟨lH_109, mH_tend.1, mH_tend.2.1, mH_tend.2.2.1, mH_tend.2.2.2.1, mH_tend.2.2.2.2, ⟨by decide, by decide⟩⟩
theorem kH_passHour_112 : CkV H_passHour 112 H_settle 0 := ⟨lH_112, mH_settle.1, mH_settle.2.1, mH_settle.2.2.1, mH_settle.2.2.2.1, mH_settle.2.2.2.2, ⟨by decide, by decide⟩⟩
theorem kH_passHour_116 : CkS H_passHour 116 JM_min 2 := ⟨lH_116, mJM_min.1, mJM_min.2.1, mJM_min.2.2.1, mJM_min.2.2.2, ⟨by decide, by decide⟩⟩
theorem kH_strayAll_67 : CkV H_strayAll 67 H_strays 1 := ⟨lH_67, mH_strays.1, mH_strays.2.1, mH_strays.2.2.1, mH_strays.2.2.2.1, mH_strays.2.2.2.2, ⟨by decide, by decide⟩⟩
theorem kH_strayAll_121 : CkV H_strayAll 121 H_strayedFrom 2 := ⟨lH_121, mH_strayedFrom.1, mH_strayedFrom.2.1, mH_strayedFrom.2.2.1, mH_strayedFrom.2.2.2.1, mH_strayedFrom.2.2.2.2, ⟨by decide, by decide⟩⟩
theorem kH_strayedFrom_124 : CkN H_strayedFrom 124 S_towards 3 := ⟨⟨_, lH_124⟩, mS_towards.1, mS_towards.2.1, mS_towards.2.2.1, mS_towards.2.2.2, ⟨by decide, by decide⟩⟩
theorem kH_strayedFrom_116 : CkS H_strayedFrom 116 JM_min 2 := ⟨lH_116, mJM_min.1, mJM_min.2.1, mJM_min.2.2.1, mJM_min.2.2.2, ⟨by decide, by decide⟩⟩
theorem kH_strayedFrom_128 : CkS H_strayedFrom 128 JM_max 2 := ⟨lH_128, mJM_max.1, mJM_max.2.1, mJM_max.2.2.1, mJM_max.2.2.2, ⟨by decide, by decide⟩⟩
theorem kS_towards_257 : CkS S_towards 257 JM_min 2 := ⟨lS_257, mJM_min.1, mJM_min.2.1, mJM_min.2.2.1, mJM_min.2.2.2, ⟨by decide, by decide⟩⟩
theorem kS_towards_262 : CkS S_towards 262 JM_max 2 := ⟨lS_262, mJM_max.1, mJM_max.2.1, mJM_max.2.2.1, mJM_max.2.2.2, ⟨by decide, by decide⟩⟩
theorem kH_prowl_79 : CkN H_prowl 79 S_distance 2 := ⟨⟨_, lH_79⟩, mS_distance.1, mS_distance.2.1, mS_distance.2.2.1, mS_distance.2.2.2, ⟨by decide, by decide⟩⟩
theorem kH_prowl_131 : CkV H_prowl 131 H_nearestToWolf 0 := ⟨lH_131, mH_nearestToWolf.1, mH_nearestToWolf.2.1, mH_nearestToWolf.2.2.1, mH_nearestToWolf.2.2.2.1, mH_nearestToWolf.2.2.2.2, ⟨by decide, by decide⟩⟩
theorem kH_prowl_124 : CkN H_prowl 124 S_towards 3 := ⟨⟨_, lH_124⟩, mS_towards.1, mS_towards.2.1, mS_towards.2.2.1, mS_towards.2.2.2, ⟨by decide, by decide⟩⟩
theorem kH_prowl_134 : CkV H_prowl 134 H_frighten 0 := ⟨lH_134, mH_frighten.1, mH_frighten.2.1, mH_frighten.2.2.1, mH_frighten.2.2.2.1, mH_frighten.2.2.2.2, ⟨by decide, by decide⟩⟩
theorem kH_nearestToWolf_79 : CkN H_nearestToWolf 79 S_distance 2 := ⟨⟨_, lH_79⟩, mS_distance.1, mS_distance.2.1, mS_distance.2.2.1, mS_distance.2.2.2, ⟨by decide, by decide⟩⟩
theorem kH_frighten_79 : CkN H_frighten 79 S_distance 2 := ⟨⟨_, lH_79⟩, mS_distance.1, mS_distance.2.1, mS_distance.2.2.1, mS_distance.2.2.2, ⟨by decide, by decide⟩⟩
theorem kH_frighten_70 : CkN H_frighten 70 S_fearsOf 1 := ⟨⟨_, lH_70⟩, mS_fearsOf.1, mS_fearsOf.2.1, mS_fearsOf.2.2.1, mS_fearsOf.2.2.2, ⟨by decide, by decide⟩⟩
theorem kH_frighten_116 : CkS H_frighten 116 JM_min 2 := ⟨lH_116, mJM_min.1, mJM_min.2.1, mJM_min.2.2.1, mJM_min.2.2.2, ⟨by decide, by decide⟩⟩
theorem kH_tend_59 : CkV H_tend 59 H_has 1 := ⟨lH_59, mH_has.1, mH_has.2.1, mH_has.2.2.1, mH_has.2.2.2.1, mH_has.2.2.2.2, ⟨by decide, by decide⟩⟩
theorem kH_tend_137 : CkV H_tend 137 H_carryHome 0 := ⟨lH_137, mH_carryHome.1, mH_carryHome.2.1, mH_carryHome.2.2.1, mH_carryHome.2.2.2.1, mH_carryHome.2.2.2.2, ⟨by decide, by decide⟩⟩
theorem kH_tend_140 : CkV H_tend 140 H_seek 0 := ⟨lH_140, mH_seek.1, mH_seek.2.1, mH_seek.2.2.1, mH_seek.2.2.2.1, mH_seek.2.2.2.2, ⟨by decide, by decide⟩⟩
theorem kH_carryHome_76 : CkN H_carryHome 76 S_lightOf 1 := ⟨⟨_, lH_76⟩, mS_lightOf.1, mS_lightOf.2.1, mS_lightOf.2.2.1, mS_lightOf.2.2.2, ⟨by decide, by decide⟩⟩
theorem kH_carryHome_124 : CkN H_carryHome 124 S_towards 3 := ⟨⟨_, lH_124⟩, mS_towards.1, mS_towards.2.1, mS_towards.2.2.1, mS_towards.2.2.2, ⟨by decide, by decide⟩⟩
theorem kH_carryHome_143 : CkV H_carryHome 143 H_moveKeeper 1 := ⟨lH_143, mH_moveKeeper.1, mH_moveKeeper.2.1, mH_moveKeeper.2.2.1, mH_moveKeeper.2.2.2.1, mH_moveKeeper.2.2.2.2, ⟨by decide, by decide⟩⟩
theorem kH_carryHome_116 : CkS H_carryHome 116 JM_min 2 := ⟨lH_116, mJM_min.1, mJM_min.2.1, mJM_min.2.2.1, mJM_min.2.2.2, ⟨by decide, by decide⟩⟩
theorem kH_seek_146 : CkV H_seek 146 H_sought 0 := ⟨lH_146, mH_sought.1, mH_sought.2.1, mH_sought.2.2.1, mH_sought.2.2.2.1, mH_sought.2.2.2.2, ⟨by decide, by decide⟩⟩
theorem kH_seek_124 : CkN H_seek 124 S_towards 3 := ⟨⟨_, lH_124⟩, mS_towards.1, mS_towards.2.1, mS_towards.2.2.1, mS_towards.2.2.2, ⟨by decide, by decide⟩⟩
theorem kH_sought_63 : CkV H_sought 63 H_far 1 := ⟨lH_63, mH_far.1, mH_far.2.1, mH_far.2.2.1, mH_far.2.2.2.1, mH_far.2.2.2.2, ⟨by decide, by decide⟩⟩
theorem kH_settle_116 : CkS H_settle 116 JM_min 2 := ⟨lH_116, mJM_min.1, mJM_min.2.1, mJM_min.2.2.1, mJM_min.2.2.2, ⟨by decide, by decide⟩⟩
theorem kH_settle_73 : CkN H_settle 73 S_calmsOf 1 := ⟨⟨_, lH_73⟩, mS_calmsOf.1, mS_calmsOf.2.1, mS_calmsOf.2.2.1, mS_calmsOf.2.2.2, ⟨by decide, by decide⟩⟩
theorem kH_settle_128 : CkS H_settle 128 JM_max 2 := ⟨lH_128, mJM_max.1, mJM_max.2.1, mJM_max.2.2.1, mJM_max.2.2.2, ⟨by decide, by decide⟩⟩
theorem kS_now_141 : CkV S_now 141 H_farSheep 0 := ⟨lS_141, mH_farSheep.1, mH_farSheep.2.1, mH_farSheep.2.2.1, mH_farSheep.2.2.2.1, mH_farSheep.2.2.2.2, ⟨by decide, by decide⟩⟩
theorem kS_now_137 : CkV S_now 137 H_total 1 := ⟨lS_137, mH_total.1, mH_total.2.1, mH_total.2.2.1, mH_total.2.2.2.1, mH_total.2.2.2.2, ⟨by decide, by decide⟩⟩
theorem kS_now_145 : CkV S_now 145 H_sought 0 := ⟨lS_145, mH_sought.1, mH_sought.2.1, mH_sought.2.2.1, mH_sought.2.2.2.1, mH_sought.2.2.2.2, ⟨by decide, by decide⟩⟩
theorem kS_now_127 : CkV S_now 127 H_sheepAt 1 := ⟨lS_127, mH_sheepAt.1, mH_sheepAt.2.1, mH_sheepAt.2.2.1, mH_sheepAt.2.2.2.1, mH_sheepAt.2.2.2.2, ⟨by decide, by decide⟩⟩
theorem kS_now_148 : CkV S_now 148 H_mostAfraid 0 := ⟨lS_148, mH_mostAfraid.1, mH_mostAfraid.2.1, mH_mostAfraid.2.2.1, mH_mostAfraid.2.2.2.1, mH_mostAfraid.2.2.2.2, ⟨by decide, by decide⟩⟩
theorem kS_now_61 : CkV S_now 61 S_finding 1 := ⟨lS_61, mS_finding.1, mS_finding.2.1, mS_finding.2.2.1, mS_finding.2.2.2.1, mS_finding.2.2.2.2, ⟨by decide, by decide⟩⟩
theorem kH_farSheep_63 : CkV H_farSheep 63 H_far 1 := ⟨lH_63, mH_far.1, mH_far.2.1, mH_far.2.2.1, mH_far.2.2.2.1, mH_far.2.2.2.2, ⟨by decide, by decide⟩⟩
theorem kS_ahead_100 : CkV S_ahead 100 H_has 1 := ⟨lS_100, mH_has.1, mH_has.2.1, mH_has.2.2.1, mH_has.2.2.2.1, mH_has.2.2.2.2, ⟨by decide, by decide⟩⟩
theorem kS_ahead_81 : CkS S_ahead 81 S_isWithin 3 := ⟨lS_81, mS_isWithin.1, mS_isWithin.2.1, mS_isWithin.2.2.1, mS_isWithin.2.2.2, ⟨by decide, by decide⟩⟩
theorem kS_ahead_61 : CkV S_ahead 61 S_finding 1 := ⟨lS_61, mS_finding.1, mS_finding.2.1, mS_finding.2.2.1, mS_finding.2.2.2.1, mS_finding.2.2.2.2, ⟨by decide, by decide⟩⟩
theorem kS_ahead_151 : CkV S_ahead 151 H_become 1 := ⟨lS_151, mH_become.1, mH_become.2.1, mH_become.2.2.1, mH_become.2.2.2.1, mH_become.2.2.2.2, ⟨by decide, by decide⟩⟩
theorem kS_ahead_134 : CkV S_ahead 134 H_passHours 1 := ⟨lS_134, mH_passHours.1, mH_passHours.2.1, mH_passHours.2.2.1, mH_passHours.2.2.2.1, mH_passHours.2.2.2.2, ⟨by decide, by decide⟩⟩
theorem kS_ahead_103 : CkV S_ahead 103 H_trait 2 := ⟨lS_103, mH_trait.1, mH_trait.2.1, mH_trait.2.2.1, mH_trait.2.2.2.1, mH_trait.2.2.2.2, ⟨by decide, by decide⟩⟩
theorem kS_later_81 : CkS S_later 81 S_isWithin 3 := ⟨lS_81, mS_isWithin.1, mS_isWithin.2.1, mS_isWithin.2.2.1, mS_isWithin.2.2.2, ⟨by decide, by decide⟩⟩
theorem kS_later_61 : CkV S_later 61 S_finding 1 := ⟨lS_61, mS_finding.1, mS_finding.2.1, mS_finding.2.2.1, mS_finding.2.2.2.1, mS_finding.2.2.2.2, ⟨by decide, by decide⟩⟩
theorem kS_later_151 : CkV S_later 151 H_become 1 := ⟨lS_151, mH_become.1, mH_become.2.1, mH_become.2.2.1, mH_become.2.2.2.1, mH_become.2.2.2.2, ⟨by decide, by decide⟩⟩
theorem kS_later_134 : CkV S_later 134 H_passHours 1 := ⟨lS_134, mH_passHours.1, mH_passHours.2.1, mH_passHours.2.2.1, mH_passHours.2.2.2.1, mH_passHours.2.2.2.2, ⟨by decide, by decide⟩⟩
theorem kS_later_65 : CkV S_later 65 H_feature 1 := ⟨lS_65, mH_feature.1, mH_feature.2.1, mH_feature.2.2.1, mH_feature.2.2.2.1, mH_feature.2.2.2.2, ⟨by decide, by decide⟩⟩
theorem kS_when_100 : CkV S_when 100 H_has 1 := ⟨lS_100, mH_has.1, mH_has.2.1, mH_has.2.2.1, mH_has.2.2.2.1, mH_has.2.2.2.2, ⟨by decide, by decide⟩⟩
theorem kS_when_81 : CkS S_when 81 S_isWithin 3 := ⟨lS_81, mS_isWithin.1, mS_isWithin.2.1, mS_isWithin.2.2.1, mS_isWithin.2.2.2, ⟨by decide, by decide⟩⟩
theorem kS_when_61 : CkV S_when 61 S_finding 1 := ⟨lS_61, mS_finding.1, mS_finding.2.1, mS_finding.2.2.1, mS_finding.2.2.2.1, mS_finding.2.2.2.2, ⟨by decide, by decide⟩⟩
theorem kS_when_155 : CkV S_when 155 S_firstHourOfAtLeast 3 := ⟨lS_155, mS_firstHourOfAtLeast.1, mS_firstHourOfAtLeast.2.1, mS_firstHourOfAtLeast.2.2.1, mS_firstHourOfAtLeast.2.2.2.1, mS_firstHourOfAtLeast.2.2.2.2, ⟨by decide, by decide⟩⟩
theorem kS_firstHourOfAtLeast_151 : CkV S_firstHourOfAtLeast 151 H_become 1 := ⟨lS_151, mH_become.1, mH_become.2.1, mH_become.2.2.1, mH_become.2.2.2.1, mH_become.2.2.2.2, ⟨by decide, by decide⟩⟩
theorem kS_firstHourOfAtLeast_162 : CkV S_firstHourOfAtLeast 162 H_passHour 1 := ⟨lS_162, mH_passHour.1, mH_passHour.2.1, mH_passHour.2.2.1, mH_passHour.2.2.2.1, mH_passHour.2.2.2.2, ⟨by decide, by decide⟩⟩
theorem kS_firstHourOfAtLeast_61 : CkV S_firstHourOfAtLeast 61 S_finding 1 := ⟨lS_61, mS_finding.1, mS_finding.2.1, mS_finding.2.2.1, mS_finding.2.2.2.1, mS_finding.2.2.2.2, ⟨by decide, by decide⟩⟩
theorem kS_home_151 : CkV S_home 151 H_become 1 := ⟨lS_151, mH_become.1, mH_become.2.1, mH_become.2.2.1, mH_become.2.2.2.1, mH_become.2.2.2.2, ⟨by decide, by decide⟩⟩
theorem kS_home_159 : CkV S_home 159 H_allAtFold 0 := ⟨lS_159, mH_allAtFold.1, mH_allAtFold.2.1, mH_allAtFold.2.2.1, mH_allAtFold.2.2.2.1, mH_allAtFold.2.2.2.2, ⟨by decide, by decide⟩⟩
theorem kS_home_162 : CkV S_home 162 H_passHour 1 := ⟨lS_162, mH_passHour.1, mH_passHour.2.1, mH_passHour.2.2.1, mH_passHour.2.2.2.1, mH_passHour.2.2.2.2, ⟨by decide, by decide⟩⟩
theorem kS_home_61 : CkV S_home 61 S_finding 1 := ⟨lS_61, mS_finding.1, mS_finding.2.1, mS_finding.2.2.1, mS_finding.2.2.2.1, mS_finding.2.2.2.2, ⟨by decide, by decide⟩⟩
theorem kH_allAtFold_83 : CkV H_allAtFold 83 H_sheepAt 1 := ⟨lH_83, mH_sheepAt.1, mH_sheepAt.2.1, mH_sheepAt.2.2.1, mH_sheepAt.2.2.2.1, mH_sheepAt.2.2.2.2, ⟨by decide, by decide⟩⟩
theorem kS_panic_100 : CkV S_panic 100 H_has 1 := ⟨lS_100, mH_has.1, mH_has.2.1, mH_has.2.2.1, mH_has.2.2.2.1, mH_has.2.2.2.2, ⟨by decide, by decide⟩⟩
theorem kS_panic_81 : CkS S_panic 81 S_isWithin 3 := ⟨lS_81, mS_isWithin.1, mS_isWithin.2.1, mS_isWithin.2.2.1, mS_isWithin.2.2.2, ⟨by decide, by decide⟩⟩
theorem kS_panic_61 : CkV S_panic 61 S_finding 1 := ⟨lS_61, mS_finding.1, mS_finding.2.1, mS_finding.2.2.1, mS_finding.2.2.2.1, mS_finding.2.2.2.2, ⟨by decide, by decide⟩⟩
theorem kS_panic_155 : CkV S_panic 155 S_firstHourOfAtLeast 3 := ⟨lS_155, mS_firstHourOfAtLeast.1, mS_firstHourOfAtLeast.2.1, mS_firstHourOfAtLeast.2.2.1, mS_firstHourOfAtLeast.2.2.2.1, mS_firstHourOfAtLeast.2.2.2.2, ⟨by decide, by decide⟩⟩
theorem kS_standFor_81 : CkS S_standFor 81 S_isWithin 3 := ⟨lS_81, mS_isWithin.1, mS_isWithin.2.1, mS_isWithin.2.2.1, mS_isWithin.2.2.2, ⟨by decide, by decide⟩⟩
theorem kS_standFor_61 : CkV S_standFor 61 S_finding 1 := ⟨lS_61, mS_finding.1, mS_finding.2.1, mS_finding.2.2.1, mS_finding.2.2.2.1, mS_finding.2.2.2.2, ⟨by decide, by decide⟩⟩
theorem kS_standFor_151 : CkV S_standFor 151 H_become 1 := ⟨lS_151, mH_become.1, mH_become.2.1, mH_become.2.2.1, mH_become.2.2.2.1, mH_become.2.2.2.2, ⟨by decide, by decide⟩⟩
theorem kS_standFor_71 : CkV S_standFor 71 H_moveKeeper 1 := ⟨lS_71, mH_moveKeeper.1, mH_moveKeeper.2.1, mH_moveKeeper.2.2.1, mH_moveKeeper.2.2.2.1, mH_moveKeeper.2.2.2.2, ⟨by decide, by decide⟩⟩
theorem kS_standFor_134 : CkV S_standFor 134 H_passHours 1 := ⟨lS_134, mH_passHours.1, mH_passHours.2.1, mH_passHours.2.2.1, mH_passHours.2.2.2.1, mH_passHours.2.2.2.2, ⟨by decide, by decide⟩⟩
theorem kS_standFor_137 : CkV S_standFor 137 H_total 1 := ⟨lS_137, mH_total.1, mH_total.2.1, mH_total.2.2.1, mH_total.2.2.2.1, mH_total.2.2.2.2, ⟨by decide, by decide⟩⟩
theorem kS_foldFor_81 : CkS S_foldFor 81 S_isWithin 3 := ⟨lS_81, mS_isWithin.1, mS_isWithin.2.1, mS_isWithin.2.2.1, mS_isWithin.2.2.2, ⟨by decide, by decide⟩⟩
theorem kS_foldFor_61 : CkV S_foldFor 61 S_finding 1 := ⟨lS_61, mS_finding.1, mS_finding.2.1, mS_finding.2.2.1, mS_finding.2.2.2.1, mS_finding.2.2.2.2, ⟨by decide, by decide⟩⟩
theorem kS_foldFor_151 : CkV S_foldFor 151 H_become 1 := ⟨lS_151, mH_become.1, mH_become.2.1, mH_become.2.2.1, mH_become.2.2.2.1, mH_become.2.2.2.2, ⟨by decide, by decide⟩⟩
theorem kS_foldFor_134 : CkV S_foldFor 134 H_passHours 1 := ⟨lS_134, mH_passHours.1, mH_passHours.2.1, mH_passHours.2.2.1, mH_passHours.2.2.2.1, mH_passHours.2.2.2.2, ⟨by decide, by decide⟩⟩
theorem kS_foldFor_137 : CkV S_foldFor 137 H_total 1 := ⟨lS_137, mH_total.1, mH_total.2.1, mH_total.2.2.1, mH_total.2.2.2.1, mH_total.2.2.2.2, ⟨by decide, by decide⟩⟩
theorem kS_kindFor_100 : CkV S_kindFor 100 H_has 1 := ⟨lS_100, mH_has.1, mH_has.2.1, mH_has.2.2.1, mH_has.2.2.2.1, mH_has.2.2.2.2, ⟨by decide, by decide⟩⟩
theorem kS_kindFor_81 : CkS S_kindFor 81 S_isWithin 3 := ⟨lS_81, mS_isWithin.1, mS_isWithin.2.1, mS_isWithin.2.2.1, mS_isWithin.2.2.2, ⟨by decide, by decide⟩⟩
theorem kS_kindFor_61 : CkV S_kindFor 61 S_finding 1 := ⟨lS_61, mS_finding.1, mS_finding.2.1, mS_finding.2.2.1, mS_finding.2.2.2.1, mS_finding.2.2.2.2, ⟨by decide, by decide⟩⟩
theorem kS_kindFor_151 : CkV S_kindFor 151 H_become 1 := ⟨lS_151, mH_become.1, mH_become.2.1, mH_become.2.2.1, mH_become.2.2.2.1, mH_become.2.2.2.2, ⟨by decide, by decide⟩⟩
theorem kS_kindFor_134 : CkV S_kindFor 134 H_passHours 1 := ⟨lS_134, mH_passHours.1, mH_passHours.2.1, mH_passHours.2.2.1, mH_passHours.2.2.2.1, mH_passHours.2.2.2.2, ⟨by decide, by decide⟩⟩
theorem kS_paceFor_81 : CkS S_paceFor 81 S_isWithin 3 := ⟨lS_81, mS_isWithin.1, mS_isWithin.2.1, mS_isWithin.2.2.1, mS_isWithin.2.2.2, ⟨by decide, by decide⟩⟩
theorem kS_paceFor_61 : CkV S_paceFor 61 S_finding 1 := ⟨lS_61, mS_finding.1, mS_finding.2.1, mS_finding.2.2.1, mS_finding.2.2.2.1, mS_finding.2.2.2.2, ⟨by decide, by decide⟩⟩
theorem kS_paceFor_151 : CkV S_paceFor 151 H_become 1 := ⟨lS_151, mH_become.1, mH_become.2.1, mH_become.2.2.1, mH_become.2.2.2.1, mH_become.2.2.2.2, ⟨by decide, by decide⟩⟩
theorem kS_paceFor_134 : CkV S_paceFor 134 H_passHours 1 := ⟨lS_134, mH_passHours.1, mH_passHours.2.1, mH_passHours.2.2.1, mH_passHours.2.2.2.1, mH_passHours.2.2.2.2, ⟨by decide, by decide⟩⟩
theorem kS_paceFor_137 : CkV S_paceFor 137 H_total 1 := ⟨lS_137, mH_total.1, mH_total.2.1, mH_total.2.2.1, mH_total.2.2.2.1, mH_total.2.2.2.2, ⟨by decide, by decide⟩⟩
theorem kS_tether_81 : CkS S_tether 81 S_isWithin 3 := ⟨lS_81, mS_isWithin.1, mS_isWithin.2.1, mS_isWithin.2.2.1, mS_isWithin.2.2.2, ⟨by decide, by decide⟩⟩
theorem kS_tether_61 : CkV S_tether 61 S_finding 1 := ⟨lS_61, mS_finding.1, mS_finding.2.1, mS_finding.2.2.1, mS_finding.2.2.2.1, mS_finding.2.2.2.2, ⟨by decide, by decide⟩⟩
theorem kS_tether_169 : CkS S_tether 169 JI_bitCount 1 := ⟨lS_169, mJI_bitCount.1, mJI_bitCount.2.1, mJI_bitCount.2.2.1, mJI_bitCount.2.2.2, ⟨by decide, by decide⟩⟩
theorem kS_tether_174 : CkV S_tether 174 S_keepsNear 2 := ⟨lS_174, mS_keepsNear.1, mS_keepsNear.2.1, mS_keepsNear.2.2.1, mS_keepsNear.2.2.2.1, mS_keepsNear.2.2.2.2, ⟨by decide, by decide⟩⟩
theorem kS_keepsNear_151 : CkV S_keepsNear 151 H_become 1 := ⟨lS_151, mH_become.1, mH_become.2.1, mH_become.2.2.1, mH_become.2.2.2.1, mH_become.2.2.2.2, ⟨by decide, by decide⟩⟩
theorem kS_keepsNear_162 : CkV S_keepsNear 162 H_passHour 1 := ⟨lS_162, mH_passHour.1, mH_passHour.2.1, mH_passHour.2.2.1, mH_passHour.2.2.2.1, mH_passHour.2.2.2.2, ⟨by decide, by decide⟩⟩
theorem kS_keepsNear_141 : CkV S_keepsNear 141 H_farSheep 0 := ⟨lS_141, mH_farSheep.1, mH_farSheep.2.1, mH_farSheep.2.2.1, mH_farSheep.2.2.2.1, mH_farSheep.2.2.2.2, ⟨by decide, by decide⟩⟩
theorem kS_fits_177 : CkS S_fits 177 S_isSheet 1 := ⟨lS_177, mS_isSheet.1, mS_isSheet.2.1, mS_isSheet.2.2.1, mS_isSheet.2.2.2, ⟨by decide, by decide⟩⟩
theorem kS_fits_61 : CkV S_fits 61 S_finding 1 := ⟨lS_61, mS_finding.1, mS_finding.2.1, mS_finding.2.2.1, mS_finding.2.2.2.1, mS_finding.2.2.2.2, ⟨by decide, by decide⟩⟩
theorem kS_fits_180 : CkV S_fits 180 E_isMissing 0 := ⟨lS_180, mE_isMissing.1, mE_isMissing.2.1, mE_isMissing.2.2.1, mE_isMissing.2.2.2.1, mE_isMissing.2.2.2.2, ⟨by decide, by decide⟩⟩
theorem kS_fits_100 : CkV S_fits 100 H_has 1 := ⟨lS_100, mH_has.1, mH_has.2.1, mH_has.2.2.1, mH_has.2.2.2.1, mH_has.2.2.2.2, ⟨by decide, by decide⟩⟩
theorem kS_fits_151 : CkV S_fits 151 H_become 1 := ⟨lS_151, mH_become.1, mH_become.2.1, mH_become.2.2.1, mH_become.2.2.2.1, mH_become.2.2.2.2, ⟨by decide, by decide⟩⟩
theorem kS_fits_183 : CkV S_fits 183 S_keeperGoesAsTold 1 := ⟨lS_183, mS_keeperGoesAsTold.1, mS_keeperGoesAsTold.2.1, mS_keeperGoesAsTold.2.2.1, mS_keeperGoesAsTold.2.2.2.1, mS_keeperGoesAsTold.2.2.2.2, ⟨by decide, by decide⟩⟩
theorem kS_isSheet_81 : CkS S_isSheet 81 S_isWithin 3 := ⟨lS_81, mS_isWithin.1, mS_isWithin.2.1, mS_isWithin.2.2.1, mS_isWithin.2.2.2, ⟨by decide, by decide⟩⟩
theorem kS_keeperGoesAsTold_250 : CkV S_keeperGoesAsTold 250 E_allows 2 := ⟨lS_250, mE_allows.1, mE_allows.2.1, mE_allows.2.2.1, mE_allows.2.2.2.1, mE_allows.2.2.2.2, ⟨by decide, by decide⟩⟩
theorem kS_keeperGoesAsTold_162 : CkV S_keeperGoesAsTold 162 H_passHour 1 := ⟨lS_162, mH_passHour.1, mH_passHour.2.1, mH_passHour.2.2.1, mH_passHour.2.2.2.1, mH_passHour.2.2.2.2, ⟨by decide, by decide⟩⟩
theorem kS_kinds_177 : CkS S_kinds 177 S_isSheet 1 := ⟨lS_177, mS_isSheet.1, mS_isSheet.2.1, mS_isSheet.2.2.1, mS_isSheet.2.2.2, ⟨by decide, by decide⟩⟩
theorem kS_kinds_61 : CkV S_kinds 61 S_finding 1 := ⟨lS_61, mS_finding.1, mS_finding.2.1, mS_finding.2.2.1, mS_finding.2.2.2.1, mS_finding.2.2.2.2, ⟨by decide, by decide⟩⟩
theorem kS_kinds_180 : CkV S_kinds 180 E_isMissing 0 := ⟨lS_180, mE_isMissing.1, mE_isMissing.2.1, mE_isMissing.2.2.1, mE_isMissing.2.2.2.1, mE_isMissing.2.2.2.2, ⟨by decide, by decide⟩⟩
theorem kS_kinds_100 : CkV S_kinds 100 H_has 1 := ⟨lS_100, mH_has.1, mH_has.2.1, mH_has.2.2.1, mH_has.2.2.2.1, mH_has.2.2.2.2, ⟨by decide, by decide⟩⟩
theorem kS_kinds_151 : CkV S_kinds 151 H_become 1 := ⟨lS_151, mH_become.1, mH_become.2.1, mH_become.2.2.1, mH_become.2.2.2.1, mH_become.2.2.2.2, ⟨by decide, by decide⟩⟩
theorem kS_kinds_187 : CkV S_kinds 187 S_sheepGoesAsTold 2 := ⟨lS_187, mS_sheepGoesAsTold.1, mS_sheepGoesAsTold.2.1, mS_sheepGoesAsTold.2.2.1, mS_sheepGoesAsTold.2.2.2.1, mS_sheepGoesAsTold.2.2.2.2, ⟨by decide, by decide⟩⟩
theorem kS_sheepGoesAsTold_250 : CkV S_sheepGoesAsTold 250 E_allows 2 := ⟨lS_250, mE_allows.1, mE_allows.2.1, mE_allows.2.2.1, mE_allows.2.2.2.1, mE_allows.2.2.2.2, ⟨by decide, by decide⟩⟩
theorem kS_sheepGoesAsTold_162 : CkV S_sheepGoesAsTold 162 H_passHour 1 := ⟨lS_162, mH_passHour.1, mH_passHour.2.1, mH_passHour.2.2.1, mH_passHour.2.2.2.1, mH_passHour.2.2.2.2, ⟨by decide, by decide⟩⟩
theorem kS_nights_81 : CkS S_nights 81 S_isWithin 3 := ⟨lS_81, mS_isWithin.1, mS_isWithin.2.1, mS_isWithin.2.2.1, mS_isWithin.2.2.2, ⟨by decide, by decide⟩⟩
theorem kS_nights_61 : CkV S_nights 61 S_finding 1 := ⟨lS_61, mS_finding.1, mS_finding.2.1, mS_finding.2.2.1, mS_finding.2.2.2.1, mS_finding.2.2.2.2, ⟨by decide, by decide⟩⟩
theorem kS_nights_191 : CkV S_nights 191 S_draw 0 := ⟨lS_191, mS_draw.1, mS_draw.2.1, mS_draw.2.2.1, mS_draw.2.2.2.1, mS_draw.2.2.2.2, ⟨by decide, by decide⟩⟩
theorem kS_nights_162 : CkV S_nights 162 H_passHour 1 := ⟨lS_162, mH_passHour.1, mH_passHour.2.1, mH_passHour.2.2.1, mH_passHour.2.2.2.1, mH_passHour.2.2.2.2, ⟨by decide, by decide⟩⟩
theorem kS_nights_137 : CkV S_nights 137 H_total 1 := ⟨lS_137, mH_total.1, mH_total.2.1, mH_total.2.2.1, mH_total.2.2.2.1, mH_total.2.2.2.2, ⟨by decide, by decide⟩⟩
theorem kS_odds_100 : CkV S_odds 100 H_has 1 := ⟨lS_100, mH_has.1, mH_has.2.1, mH_has.2.2.1, mH_has.2.2.2.1, mH_has.2.2.2.2, ⟨by decide, by decide⟩⟩
theorem kS_odds_81 : CkS S_odds 81 S_isWithin 3 := ⟨lS_81, mS_isWithin.1, mS_isWithin.2.1, mS_isWithin.2.2.1, mS_isWithin.2.2.2, ⟨by decide, by decide⟩⟩
theorem kS_odds_61 : CkV S_odds 61 S_finding 1 := ⟨lS_61, mS_finding.1, mS_finding.2.1, mS_finding.2.2.1, mS_finding.2.2.2.1, mS_finding.2.2.2.2, ⟨by decide, by decide⟩⟩
theorem kS_odds_194 : CkV S_odds 194 H_cellsOutOfReachOf 1 := ⟨lS_194, mH_cellsOutOfReachOf.1, mH_cellsOutOfReachOf.2.1, mH_cellsOutOfReachOf.2.2.1, mH_cellsOutOfReachOf.2.2.2.1, mH_cellsOutOfReachOf.2.2.2.2, ⟨by decide, by decide⟩⟩
theorem kS_odds_197 : CkS S_odds 197 S_power 2 := ⟨lS_197, mS_power.1, mS_power.2.1, mS_power.2.2.1, mS_power.2.2.2, ⟨by decide, by decide⟩⟩
theorem kH_cellsOutOfReachOf_79 : CkN H_cellsOutOfReachOf 79 S_distance 2 := ⟨⟨_, lH_79⟩, mS_distance.1, mS_distance.2.1, mS_distance.2.2.1, mS_distance.2.2.2, ⟨by decide, by decide⟩⟩
theorem kS_feed_81 : CkS S_feed 81 S_isWithin 3 := ⟨lS_81, mS_isWithin.1, mS_isWithin.2.1, mS_isWithin.2.2.1, mS_isWithin.2.2.2, ⟨by decide, by decide⟩⟩
theorem kS_feed_61 : CkV S_feed 61 S_finding 1 := ⟨lS_61, mS_finding.1, mS_finding.2.1, mS_finding.2.2.1, mS_finding.2.2.2.1, mS_finding.2.2.2.2, ⟨by decide, by decide⟩⟩
theorem kS_feed_201 : CkV S_feed 201 T_hasRoomFor 1 := ⟨lS_201, mT_hasRoomFor.1, mT_hasRoomFor.2.1, mT_hasRoomFor.2.2.1, mT_hasRoomFor.2.2.2.1, mT_hasRoomFor.2.2.2.2, ⟨by decide, by decide⟩⟩
theorem kS_feed_204 : CkV S_feed 204 T_append 1 := ⟨lS_204, mT_append.1, mT_append.2.1, mT_append.2.2.1, mT_append.2.2.2.1, mT_append.2.2.2.2, ⟨by decide, by decide⟩⟩
theorem kT_append_28 : CkV T_append 28 T_hasRoomFor 1 := ⟨lT_28, mT_hasRoomFor.1, mT_hasRoomFor.2.1, mT_hasRoomFor.2.2.1, mT_hasRoomFor.2.2.2.1, mT_hasRoomFor.2.2.2.2, ⟨by decide, by decide⟩⟩
theorem kS_text_151 : CkV S_text 151 H_become 1 := ⟨lS_151, mH_become.1, mH_become.2.1, mH_become.2.2.1, mH_become.2.2.2.1, mH_become.2.2.2.2, ⟨by decide, by decide⟩⟩
theorem kS_text_210 : CkV S_text 210 T_readOnto 1 := ⟨lS_210, mT_readOnto.1, mT_readOnto.2.1, mT_readOnto.2.2.1, mT_readOnto.2.2.2.1, mT_readOnto.2.2.2.2, ⟨by decide, by decide⟩⟩
theorem kT_readOnto_32 : CkV T_readOnto 32 T_nextToken 0 := ⟨lT_32, mT_nextToken.1, mT_nextToken.2.1, mT_nextToken.2.2.1, mT_nextToken.2.2.2.1, mT_nextToken.2.2.2.2, ⟨by decide, by decide⟩⟩
theorem kT_readOnto_35 : CkV T_readOnto 35 T_readItem 1 := ⟨lT_35, mT_readItem.1, mT_readItem.2.1, mT_readItem.2.2.1, mT_readItem.2.2.2.1, mT_readItem.2.2.2.2, ⟨by decide, by decide⟩⟩
theorem kT_nextToken_135 : CkV T_nextToken 135 T_tokenAt 1 := ⟨lT_135, mT_tokenAt.1, mT_tokenAt.2.1, mT_tokenAt.2.2.1, mT_tokenAt.2.2.2.1, mT_tokenAt.2.2.2.2, ⟨by decide, by decide⟩⟩
theorem kT_nextToken_138 : CkS T_nextToken 138 T_isLong 1 := ⟨lT_138, mT_isLong.1, mT_isLong.2.1, mT_isLong.2.2.1, mT_isLong.2.2.2, ⟨by decide, by decide⟩⟩
theorem kT_readItem_39 : CkV T_readItem 39 T_kindOfWord 0 := ⟨lT_39, mT_kindOfWord.1, mT_kindOfWord.2.1, mT_kindOfWord.2.2.1, mT_kindOfWord.2.2.2.1, mT_kindOfWord.2.2.2.2, ⟨by decide, by decide⟩⟩
theorem kT_readItem_43 : CkV T_readItem 43 T_readSheep 2 := ⟨lT_43, mT_readSheep.1, mT_readSheep.2.1, mT_readSheep.2.2.1, mT_readSheep.2.2.2.1, mT_readSheep.2.2.2.2, ⟨by decide, by decide⟩⟩
theorem kT_readItem_49 : CkV T_readItem 49 T_skipWord 1 := ⟨lT_49, mT_skipWord.1, mT_skipWord.2.1, mT_skipWord.2.2.1, mT_skipWord.2.2.2.1, mT_skipWord.2.2.2.2, ⟨by decide, by decide⟩⟩
theorem kT_readItem_53 : CkV T_readItem 53 T_readFold 1 := ⟨lT_53, mT_readFold.1, mT_readFold.2.1, mT_readFold.2.2.1, mT_readFold.2.2.2.1, mT_readFold.2.2.2.2, ⟨by decide, by decide⟩⟩
theorem kT_readItem_58 : CkV T_readItem 58 T_readKeeper 1 := ⟨lT_58, mT_readKeeper.1, mT_readKeeper.2.1, mT_readKeeper.2.2.1, mT_readKeeper.2.2.2.1, mT_readKeeper.2.2.2.2, ⟨by decide, by decide⟩⟩
theorem kT_readItem_63 : CkV T_readItem 63 T_readWolf 1 := ⟨lT_63, mT_readWolf.1, mT_readWolf.2.1, mT_readWolf.2.2.1, mT_readWolf.2.2.2.1, mT_readWolf.2.2.2.2, ⟨by decide, by decide⟩⟩
theorem kT_kindOfWord_101 : CkS T_kindOfWord 101 T_nameOf 1 := ⟨lT_101, mT_nameOf.1, mT_nameOf.2.1, mT_nameOf.2.2.1, mT_nameOf.2.2.2, ⟨by decide, by decide⟩⟩
theorem kT_kindOfWord_105 : CkV T_kindOfWord 105 T_isWord 1 := ⟨lT_105, mT_isWord.1, mT_isWord.2.1, mT_isWord.2.2.1, mT_isWord.2.2.2.1, mT_isWord.2.2.2.2, ⟨by decide, by decide⟩⟩
theorem kT_isWord_122 : CkV T_isWord 122 JS_length 0 := ⟨lT_122, mJS_length.1, mJS_length.2.1, mJS_length.2.2.1, mJS_length.2.2.2.1, mJS_length.2.2.2.2, ⟨by decide, by decide⟩⟩
theorem kT_isWord_126 : CkV T_isWord 126 JS_charAt 1 := ⟨lT_126, mJS_charAt.1, mJS_charAt.2.1, mJS_charAt.2.2.1, mJS_charAt.2.2.2.1, mJS_charAt.2.2.2.2, ⟨by decide, by decide⟩⟩
theorem kJS_length_335 : CkV JS_length 335 JS_coder 0 := ⟨lJS_335, mJS_coder.1, mJS_coder.2.1, mJS_coder.2.2.1, mJS_coder.2.2.2.1, mJS_coder.2.2.2.2, ⟨by decide, by decide⟩⟩
theorem kJS_charAt_492 : CkV JS_charAt 492 JS_isLatin1 0 := ⟨lJS_492, mJS_isLatin1.1, mJS_isLatin1.2.1, mJS_isLatin1.2.2.1, mJS_isLatin1.2.2.2.1, mJS_isLatin1.2.2.2.2, ⟨by decide, by decide⟩⟩
theorem kJS_charAt_495 : CkS JS_charAt 495 JL_charAt 2 := ⟨lJS_495, mJL_charAt.1, mJL_charAt.2.1, mJL_charAt.2.2.1, mJL_charAt.2.2.2, ⟨by decide, by decide⟩⟩
theorem kJL_charAt_9 : CkS JL_charAt 9 JS_checkIndex 2 := ⟨lJL_9, mJS_checkIndex.1, mJS_checkIndex.2.1, mJS_checkIndex.2.2.1, mJS_checkIndex.2.2.2, ⟨by decide, by decide⟩⟩
theorem kJS_checkIndex_1059 : CkS JS_checkIndex 1059 JP_checkIndex 3 := ⟨lJS_1059, mJP_checkIndex.1, mJP_checkIndex.2.1, mJP_checkIndex.2.2.1, mJP_checkIndex.2.2.2, ⟨by decide, by decide⟩⟩
theorem kT_readSheep_66 : CkV T_readSheep 66 H_add 2 := ⟨lT_66, mH_add.1, mH_add.2.1, mH_add.2.2.1, mH_add.2.2.2.1, mH_add.2.2.2.2, ⟨by decide, by decide⟩⟩
theorem kT_readSheep_32 : CkV T_readSheep 32 T_nextToken 0 := ⟨lT_32, mT_nextToken.1, mT_nextToken.2.1, mT_nextToken.2.2.1, mT_nextToken.2.2.2.1, mT_nextToken.2.2.2.2, ⟨by decide, by decide⟩⟩
theorem kT_readSheep_49 : CkV T_readSheep 49 T_skipWord 1 := ⟨lT_49, mT_skipWord.1, mT_skipWord.2.1, mT_skipWord.2.2.1, mT_skipWord.2.2.2.1, mT_skipWord.2.2.2.2, ⟨by decide, by decide⟩⟩
theorem kT_readSheep_74 : CkV T_readSheep 74 T_takeNumber 1 := ⟨lT_74, mT_takeNumber.1, mT_takeNumber.2.1, mT_takeNumber.2.2.1, mT_takeNumber.2.2.2.1, mT_takeNumber.2.2.2.2, ⟨by decide, by decide⟩⟩
theorem kT_skipWord_105 : CkV T_skipWord 105 T_isWord 1 := ⟨lT_105, mT_isWord.1, mT_isWord.2.1, mT_isWord.2.2.1, mT_isWord.2.2.2.1, mT_isWord.2.2.2.2, ⟨by decide, by decide⟩⟩
theorem kT_skipWord_32 : CkV T_skipWord 32 T_nextToken 0 := ⟨lT_32, mT_nextToken.1, mT_nextToken.2.1, mT_nextToken.2.2.1, mT_nextToken.2.2.2.1, mT_nextToken.2.2.2.2, ⟨by decide, by decide⟩⟩
theorem kT_takeNumber_130 : CkS T_takeNumber 130 JM_min 2 := ⟨lT_130, mJM_min.1, mJM_min.2.1, mJM_min.2.2.1, mJM_min.2.2.2, ⟨by decide, by decide⟩⟩
theorem kT_takeNumber_32 : CkV T_takeNumber 32 T_nextToken 0 := ⟨lT_32, mT_nextToken.1, mT_nextToken.2.1, mT_nextToken.2.2.1, mT_nextToken.2.2.2.1, mT_nextToken.2.2.2.2, ⟨by decide, by decide⟩⟩
theorem kT_readFold_74 : CkV T_readFold 74 T_takeNumber 1 := ⟨lT_74, mT_takeNumber.1, mT_takeNumber.2.1, mT_takeNumber.2.2.1, mT_takeNumber.2.2.2.1, mT_takeNumber.2.2.2.2, ⟨by decide, by decide⟩⟩
theorem kT_readKeeper_74 : CkV T_readKeeper 74 T_takeNumber 1 := ⟨lT_74, mT_takeNumber.1, mT_takeNumber.2.1, mT_takeNumber.2.2.1, mT_takeNumber.2.2.2.1, mT_takeNumber.2.2.2.2, ⟨by decide, by decide⟩⟩
theorem kT_readKeeper_91 : CkV T_readKeeper 91 H_moveKeeper 1 := ⟨lT_91, mH_moveKeeper.1, mH_moveKeeper.2.1, mH_moveKeeper.2.2.1, mH_moveKeeper.2.2.2.1, mH_moveKeeper.2.2.2.2, ⟨by decide, by decide⟩⟩
theorem kT_readWolf_74 : CkV T_readWolf 74 T_takeNumber 1 := ⟨lT_74, mT_takeNumber.1, mT_takeNumber.2.1, mT_takeNumber.2.2.1, mT_takeNumber.2.2.2.1, mT_takeNumber.2.2.2.2, ⟨by decide, by decide⟩⟩
theorem kT_readWolf_49 : CkV T_readWolf 49 T_skipWord 1 := ⟨lT_49, mT_skipWord.1, mT_skipWord.2.1, mT_skipWord.2.2.1, mT_skipWord.2.2.2.1, mT_skipWord.2.2.2.2, ⟨by decide, by decide⟩⟩
theorem kS_hold_214 : CkS S_hold 214 S_isSpot 1 := ⟨lS_214, mS_isSpot.1, mS_isSpot.2.1, mS_isSpot.2.2.1, mS_isSpot.2.2.2, ⟨by decide, by decide⟩⟩
theorem kS_hold_100 : CkV S_hold 100 H_has 1 := ⟨lS_100, mH_has.1, mH_has.2.1, mH_has.2.2.1, mH_has.2.2.2.1, mH_has.2.2.2.2, ⟨by decide, by decide⟩⟩
theorem kS_hold_61 : CkV S_hold 61 S_finding 1 := ⟨lS_61, mS_finding.1, mS_finding.2.1, mS_finding.2.2.1, mS_finding.2.2.2.1, mS_finding.2.2.2.2, ⟨by decide, by decide⟩⟩
theorem kS_isSpot_81 : CkS S_isSpot 81 S_isWithin 3 := ⟨lS_81, mS_isWithin.1, mS_isWithin.2.1, mS_isWithin.2.2.1, mS_isWithin.2.2.2, ⟨by decide, by decide⟩⟩
theorem kS_as_214 : CkS S_as 214 S_isSpot 1 := ⟨lS_214, mS_isSpot.1, mS_isSpot.2.1, mS_isSpot.2.2.1, mS_isSpot.2.2.2, ⟨by decide, by decide⟩⟩
theorem kS_as_85 : CkS S_as 85 S_isKind 1 := ⟨lS_85, mS_isKind.1, mS_isKind.2.1, mS_isKind.2.2.1, mS_isKind.2.2.2, ⟨by decide, by decide⟩⟩
theorem kS_as_61 : CkV S_as 61 S_finding 1 := ⟨lS_61, mS_finding.1, mS_finding.2.1, mS_finding.2.2.1, mS_finding.2.2.2.1, mS_finding.2.2.2.2, ⟨by decide, by decide⟩⟩
theorem kS_as_100 : CkV S_as 100 H_has 1 := ⟨lS_100, mH_has.1, mH_has.2.1, mH_has.2.2.1, mH_has.2.2.2.1, mH_has.2.2.2.2, ⟨by decide, by decide⟩⟩
theorem kS_as_217 : CkS S_as 217 S_isUnder 2 := ⟨lS_217, mS_isUnder.1, mS_isUnder.2.1, mS_isUnder.2.2.1, mS_isUnder.2.2.2, ⟨by decide, by decide⟩⟩
theorem kS_isUnder_254 : CkS S_isUnder 254 S_kindAbove 1 := ⟨lS_254, mS_kindAbove.1, mS_kindAbove.2.1, mS_kindAbove.2.2.1, mS_kindAbove.2.2.2, ⟨by decide, by decide⟩⟩
theorem kS_sheet_177 : CkS S_sheet 177 S_isSheet 1 := ⟨lS_177, mS_isSheet.1, mS_isSheet.2.1, mS_isSheet.2.2.1, mS_isSheet.2.2.2, ⟨by decide, by decide⟩⟩
theorem kS_sheet_61 : CkV S_sheet 61 S_finding 1 := ⟨lS_61, mS_finding.1, mS_finding.2.1, mS_finding.2.2.1, mS_finding.2.2.2.1, mS_finding.2.2.2.2, ⟨by decide, by decide⟩⟩
theorem kS_sheet_220 : CkV S_sheet 220 E_begin 2 := ⟨lS_220, mE_begin.1, mE_begin.2.1, mE_begin.2.2.1, mE_begin.2.2.2.1, mE_begin.2.2.2.2, ⟨by decide, by decide⟩⟩
theorem kS_write_177 : CkS S_write 177 S_isSheet 1 := ⟨lS_177, mS_isSheet.1, mS_isSheet.2.1, mS_isSheet.2.2.1, mS_isSheet.2.2.2, ⟨by decide, by decide⟩⟩
theorem kS_write_61 : CkV S_write 61 S_finding 1 := ⟨lS_61, mS_finding.1, mS_finding.2.1, mS_finding.2.2.1, mS_finding.2.2.2.1, mS_finding.2.2.2.2, ⟨by decide, by decide⟩⟩
theorem kS_write_180 : CkV S_write 180 E_isMissing 0 := ⟨lS_180, mE_isMissing.1, mE_isMissing.2.1, mE_isMissing.2.2.1, mE_isMissing.2.2.2.1, mE_isMissing.2.2.2.2, ⟨by decide, by decide⟩⟩
theorem kS_write_81 : CkS S_write 81 S_isWithin 3 := ⟨lS_81, mS_isWithin.1, mS_isWithin.2.1, mS_isWithin.2.2.1, mS_isWithin.2.2.2, ⟨by decide, by decide⟩⟩
theorem kS_write_225 : CkV S_write 225 E_put 2 := ⟨lS_225, mE_put.1, mE_put.2.1, mE_put.2.2.1, mE_put.2.2.2.1, mE_put.2.2.2.2, ⟨by decide, by decide⟩⟩
theorem kS_copy_177 : CkS S_copy 177 S_isSheet 1 := ⟨lS_177, mS_isSheet.1, mS_isSheet.2.1, mS_isSheet.2.2.1, mS_isSheet.2.2.2, ⟨by decide, by decide⟩⟩
theorem kS_copy_61 : CkV S_copy 61 S_finding 1 := ⟨lS_61, mS_finding.1, mS_finding.2.1, mS_finding.2.2.1, mS_finding.2.2.2.1, mS_finding.2.2.2.2, ⟨by decide, by decide⟩⟩
theorem kS_copy_180 : CkV S_copy 180 E_isMissing 0 := ⟨lS_180, mE_isMissing.1, mE_isMissing.2.1, mE_isMissing.2.2.1, mE_isMissing.2.2.2.1, mE_isMissing.2.2.2.2, ⟨by decide, by decide⟩⟩
theorem kS_copy_231 : CkV S_copy 231 E_hasRun 2 := ⟨lS_231, mE_hasRun.1, mE_hasRun.2.1, mE_hasRun.2.2.1, mE_hasRun.2.2.2.1, mE_hasRun.2.2.2.2, ⟨by decide, by decide⟩⟩
theorem kS_load_177 : CkS S_load 177 S_isSheet 1 := ⟨lS_177, mS_isSheet.1, mS_isSheet.2.1, mS_isSheet.2.2.1, mS_isSheet.2.2.2, ⟨by decide, by decide⟩⟩
theorem kS_load_61 : CkV S_load 61 S_finding 1 := ⟨lS_61, mS_finding.1, mS_finding.2.1, mS_finding.2.2.1, mS_finding.2.2.2.1, mS_finding.2.2.2.2, ⟨by decide, by decide⟩⟩
theorem kS_load_180 : CkV S_load 180 E_isMissing 0 := ⟨lS_180, mE_isMissing.1, mE_isMissing.2.1, mE_isMissing.2.2.1, mE_isMissing.2.2.2.1, mE_isMissing.2.2.2.2, ⟨by decide, by decide⟩⟩
theorem kS_load_100 : CkV S_load 100 H_has 1 := ⟨lS_100, mH_has.1, mH_has.2.1, mH_has.2.2.1, mH_has.2.2.2.1, mH_has.2.2.2.2, ⟨by decide, by decide⟩⟩
theorem kS_load_81 : CkS S_load 81 S_isWithin 3 := ⟨lS_81, mS_isWithin.1, mS_isWithin.2.1, mS_isWithin.2.2.1, mS_isWithin.2.2.2, ⟨by decide, by decide⟩⟩
theorem kS_judge_177 : CkS S_judge 177 S_isSheet 1 := ⟨lS_177, mS_isSheet.1, mS_isSheet.2.1, mS_isSheet.2.2.1, mS_isSheet.2.2.2, ⟨by decide, by decide⟩⟩
theorem kS_judge_61 : CkV S_judge 61 S_finding 1 := ⟨lS_61, mS_finding.1, mS_finding.2.1, mS_finding.2.2.1, mS_finding.2.2.2.1, mS_finding.2.2.2.2, ⟨by decide, by decide⟩⟩
theorem kS_judge_180 : CkV S_judge 180 E_isMissing 0 := ⟨lS_180, mE_isMissing.1, mE_isMissing.2.1, mE_isMissing.2.2.1, mE_isMissing.2.2.2.1, mE_isMissing.2.2.2.2, ⟨by decide, by decide⟩⟩
theorem kS_judge_100 : CkV S_judge 100 H_has 1 := ⟨lS_100, mH_has.1, mH_has.2.1, mH_has.2.2.1, mH_has.2.2.2.1, mH_has.2.2.2.2, ⟨by decide, by decide⟩⟩
theorem kS_image_151 : CkV S_image 151 H_become 1 := ⟨lS_151, mH_become.1, mH_become.2.1, mH_become.2.2.1, mH_become.2.2.2.1, mH_become.2.2.2.2, ⟨by decide, by decide⟩⟩
theorem kS_undo_61 : CkV S_undo 61 S_finding 1 := ⟨lS_61, mS_finding.1, mS_finding.2.1, mS_finding.2.2.1, mS_finding.2.2.2.1, mS_finding.2.2.2.2, ⟨by decide, by decide⟩⟩
theorem kS_undo_151 : CkV S_undo 151 H_become 1 := ⟨lS_151, mH_become.1, mH_become.2.1, mH_become.2.2.1, mH_become.2.2.2.1, mH_become.2.2.2.2, ⟨by decide, by decide⟩⟩
theorem kS_count_137 : CkV S_count 137 H_total 1 := ⟨lS_137, mH_total.1, mH_total.2.1, mH_total.2.2.1, mH_total.2.2.2.1, mH_total.2.2.2.2, ⟨by decide, by decide⟩⟩
theorem kS_count_243 : CkV S_count 243 S_spotsInUse 0 := ⟨lS_243, mS_spotsInUse.1, mS_spotsInUse.2.1, mS_spotsInUse.2.2.1, mS_spotsInUse.2.2.2.1, mS_spotsInUse.2.2.2.2, ⟨by decide, by decide⟩⟩
theorem kS_count_61 : CkV S_count 61 S_finding 1 := ⟨lS_61, mS_finding.1, mS_finding.2.1, mS_finding.2.2.1, mS_finding.2.2.2.1, mS_finding.2.2.2.2, ⟨by decide, by decide⟩⟩
theorem kS_status_81 : CkS S_status 81 S_isWithin 3 := ⟨lS_81, mS_isWithin.1, mS_isWithin.2.1, mS_isWithin.2.2.1, mS_isWithin.2.2.2, ⟨by decide, by decide⟩⟩
theorem kS_status_61 : CkV S_status 61 S_finding 1 := ⟨lS_61, mS_finding.1, mS_finding.2.1, mS_finding.2.2.1, mS_finding.2.2.2.1, mS_finding.2.2.2.2, ⟨by decide, by decide⟩⟩
theorem kQ_set_79 : CkS Q_set 79 Q_within 3 := ⟨lQ_79, mQ_within.1, mQ_within.2.1, mQ_within.2.2.1, mQ_within.2.2.2, ⟨by decide, by decide⟩⟩
theorem kQ_set_91 : CkS Q_set 91 Q_isCell 1 := ⟨lQ_91, mQ_isCell.1, mQ_isCell.2.1, mQ_isCell.2.2.1, mQ_isCell.2.2.2, ⟨by decide, by decide⟩⟩
theorem kQ_set_75 : CkV Q_set 75 Q_finding 1 := ⟨lQ_75, mQ_finding.1, mQ_finding.2.1, mQ_finding.2.2.1, mQ_finding.2.2.2.1, mQ_finding.2.2.2.2, ⟨by decide, by decide⟩⟩
theorem kQ_set_95 : CkV Q_set 95 Q_keeperTo 1 := ⟨lQ_95, mQ_keeperTo.1, mQ_keeperTo.2.1, mQ_keeperTo.2.2.1, mQ_keeperTo.2.2.2.1, mQ_keeperTo.2.2.2.2, ⟨by decide, by decide⟩⟩
theorem kQ_set_98 : CkV Q_set 98 Q_become 2 := ⟨lQ_98, mQ_become.1, mQ_become.2.1, mQ_become.2.2.1, mQ_become.2.2.2.1, mQ_become.2.2.2.2, ⟨by decide, by decide⟩⟩
theorem kQ_isCell_79 : CkS Q_isCell 79 Q_within 3 := ⟨lQ_79, mQ_within.1, mQ_within.2.1, mQ_within.2.2.1, mQ_within.2.2.2, ⟨by decide, by decide⟩⟩
theorem kQ_keeperTo_87 : CkV Q_keeperTo 87 Q_keeperAt 1 := ⟨lQ_87, mQ_keeperAt.1, mQ_keeperAt.2.1, mQ_keeperAt.2.2.1, mQ_keeperAt.2.2.2.1, mQ_keeperAt.2.2.2.2, ⟨by decide, by decide⟩⟩
theorem kQ_keeperAt_83 : CkS Q_keeperAt 83 Q_sheepAt 2 := ⟨lQ_83, mQ_sheepAt.1, mQ_sheepAt.2.1, mQ_sheepAt.2.2.1, mQ_sheepAt.2.2.2, ⟨by decide, by decide⟩⟩
theorem kQ_hill_79 : CkS Q_hill 79 Q_within 3 := ⟨lQ_79, mQ_within.1, mQ_within.2.1, mQ_within.2.2.1, mQ_within.2.2.2, ⟨by decide, by decide⟩⟩
theorem kQ_hill_75 : CkV Q_hill 75 Q_finding 1 := ⟨lQ_75, mQ_finding.1, mQ_finding.2.1, mQ_finding.2.2.1, mQ_finding.2.2.2.1, mQ_finding.2.2.2.2, ⟨by decide, by decide⟩⟩
theorem kQ_sheep_101 : CkS Q_sheep 101 Q_isKind 1 := ⟨lQ_101, mQ_isKind.1, mQ_isKind.2.1, mQ_isKind.2.2.1, mQ_isKind.2.2.2, ⟨by decide, by decide⟩⟩
theorem kQ_sheep_91 : CkS Q_sheep 91 Q_isCell 1 := ⟨lQ_91, mQ_isCell.1, mQ_isCell.2.1, mQ_isCell.2.2.1, mQ_isCell.2.2.2, ⟨by decide, by decide⟩⟩
theorem kQ_sheep_75 : CkV Q_sheep 75 Q_finding 1 := ⟨lQ_75, mQ_finding.1, mQ_finding.2.1, mQ_finding.2.2.1, mQ_finding.2.2.2.1, mQ_finding.2.2.2.2, ⟨by decide, by decide⟩⟩
theorem kQ_sheep_105 : CkV Q_sheep 105 Q_comes 2 := ⟨lQ_105, mQ_comes.1, mQ_comes.2.1, mQ_comes.2.2.1, mQ_comes.2.2.2.1, mQ_comes.2.2.2.2, ⟨by decide, by decide⟩⟩
theorem kQ_isKind_79 : CkS Q_isKind 79 Q_within 3 := ⟨lQ_79, mQ_within.1, mQ_within.2.1, mQ_within.2.2.1, mQ_within.2.2.2, ⟨by decide, by decide⟩⟩
theorem kQ_comes_83 : CkS Q_comes 83 Q_sheepAt 2 := ⟨lQ_83, mQ_sheepAt.1, mQ_sheepAt.2.1, mQ_sheepAt.2.2.1, mQ_sheepAt.2.2.2, ⟨by decide, by decide⟩⟩
theorem kQ_of_119 : CkV Q_of 119 Q_isSheep 1 := ⟨lQ_119, mQ_isSheep.1, mQ_isSheep.2.1, mQ_isSheep.2.2.1, mQ_isSheep.2.2.2.1, mQ_isSheep.2.2.2.2, ⟨by decide, by decide⟩⟩
theorem kQ_of_79 : CkS Q_of 79 Q_within 3 := ⟨lQ_79, mQ_within.1, mQ_within.2.1, mQ_within.2.2.1, mQ_within.2.2.2, ⟨by decide, by decide⟩⟩
theorem kQ_of_75 : CkV Q_of 75 Q_finding 1 := ⟨lQ_75, mQ_finding.1, mQ_finding.2.1, mQ_finding.2.2.1, mQ_finding.2.2.2.1, mQ_finding.2.2.2.2, ⟨by decide, by decide⟩⟩
theorem kQ_of_122 : CkV Q_of 122 Q_far 1 := ⟨lQ_122, mQ_far.1, mQ_far.2.1, mQ_far.2.2.1, mQ_far.2.2.2.1, mQ_far.2.2.2.2, ⟨by decide, by decide⟩⟩
theorem kQ_of_125 : CkV Q_of 125 Q_strays 1 := ⟨lQ_125, mQ_strays.1, mQ_strays.2.1, mQ_strays.2.2.1, mQ_strays.2.2.2.1, mQ_strays.2.2.2.2, ⟨by decide, by decide⟩⟩
theorem kQ_of_128 : CkV Q_of 128 Q_fears 1 := ⟨lQ_128, mQ_fears.1, mQ_fears.2.1, mQ_fears.2.2.1, mQ_fears.2.2.2.1, mQ_fears.2.2.2.2, ⟨by decide, by decide⟩⟩
theorem kQ_of_131 : CkV Q_of 131 Q_calms 1 := ⟨lQ_131, mQ_calms.1, mQ_calms.2.1, mQ_calms.2.2.1, mQ_calms.2.2.2.1, mQ_calms.2.2.2.2, ⟨by decide, by decide⟩⟩
theorem kQ_of_134 : CkV Q_of 134 Q_light 1 := ⟨lQ_134, mQ_light.1, mQ_light.2.1, mQ_light.2.2.1, mQ_light.2.2.2.1, mQ_light.2.2.2.2, ⟨by decide, by decide⟩⟩
theorem kQ_of_108 : CkV Q_of 108 Q_sheepIs 2 := ⟨lQ_108, mQ_sheepIs.1, mQ_sheepIs.2.1, mQ_sheepIs.2.2.1, mQ_sheepIs.2.2.2.1, mQ_sheepIs.2.2.2.2, ⟨by decide, by decide⟩⟩
theorem kQ_isSheep_79 : CkS Q_isSheep 79 Q_within 3 := ⟨lQ_79, mQ_within.1, mQ_within.2.1, mQ_within.2.2.1, mQ_within.2.2.2, ⟨by decide, by decide⟩⟩
theorem kQ_far_108 : CkV Q_far 108 Q_sheepIs 2 := ⟨lQ_108, mQ_sheepIs.1, mQ_sheepIs.2.1, mQ_sheepIs.2.2.1, mQ_sheepIs.2.2.2.1, mQ_sheepIs.2.2.2.2, ⟨by decide, by decide⟩⟩
theorem kQ_far_111 : CkS Q_far 111 JM_abs 1 := ⟨lQ_111, mJM_abs.1, mJM_abs.2.1, mJM_abs.2.2.1, mJM_abs.2.2.2, ⟨by decide, by decide⟩⟩
theorem kQ_sheepIs_83 : CkS Q_sheepIs 83 Q_sheepAt 2 := ⟨lQ_83, mQ_sheepAt.1, mQ_sheepAt.2.1, mQ_sheepAt.2.2.1, mQ_sheepAt.2.2.2, ⟨by decide, by decide⟩⟩
theorem kQ_strays_108 : CkV Q_strays 108 Q_sheepIs 2 := ⟨lQ_108, mQ_sheepIs.1, mQ_sheepIs.2.1, mQ_sheepIs.2.2.1, mQ_sheepIs.2.2.2.1, mQ_sheepIs.2.2.2.2, ⟨by decide, by decide⟩⟩
theorem kQ_strays_116 : CkV Q_strays 116 Q_isAlone 1 := ⟨lQ_116, mQ_isAlone.1, mQ_isAlone.2.1, mQ_isAlone.2.2.1, mQ_isAlone.2.2.2.1, mQ_isAlone.2.2.2.2, ⟨by decide, by decide⟩⟩
theorem kQ_isAlone_108 : CkV Q_isAlone 108 Q_sheepIs 2 := ⟨lQ_108, mQ_sheepIs.1, mQ_sheepIs.2.1, mQ_sheepIs.2.2.1, mQ_sheepIs.2.2.2.1, mQ_sheepIs.2.2.2.2, ⟨by decide, by decide⟩⟩
theorem kQ_fears_108 : CkV Q_fears 108 Q_sheepIs 2 := ⟨lQ_108, mQ_sheepIs.1, mQ_sheepIs.2.1, mQ_sheepIs.2.2.1, mQ_sheepIs.2.2.2.1, mQ_sheepIs.2.2.2.2, ⟨by decide, by decide⟩⟩
theorem kQ_calms_108 : CkV Q_calms 108 Q_sheepIs 2 := ⟨lQ_108, mQ_sheepIs.1, mQ_sheepIs.2.1, mQ_sheepIs.2.2.1, mQ_sheepIs.2.2.2.1, mQ_sheepIs.2.2.2.2, ⟨by decide, by decide⟩⟩
theorem kQ_light_108 : CkV Q_light 108 Q_sheepIs 2 := ⟨lQ_108, mQ_sheepIs.1, mQ_sheepIs.2.1, mQ_sheepIs.2.2.1, mQ_sheepIs.2.2.2.1, mQ_sheepIs.2.2.2.2, ⟨by decide, by decide⟩⟩
theorem kQ_change_119 : CkV Q_change 119 Q_isSheep 1 := ⟨lQ_119, mQ_isSheep.1, mQ_isSheep.2.1, mQ_isSheep.2.2.1, mQ_isSheep.2.2.2.1, mQ_isSheep.2.2.2.2, ⟨by decide, by decide⟩⟩
theorem kQ_change_137 : CkS Q_change 137 Q_isField 2 := ⟨lQ_137, mQ_isField.1, mQ_isField.2.1, mQ_isField.2.2.1, mQ_isField.2.2.2, ⟨by decide, by decide⟩⟩
theorem kQ_change_75 : CkV Q_change 75 Q_finding 1 := ⟨lQ_75, mQ_finding.1, mQ_finding.2.1, mQ_finding.2.2.1, mQ_finding.2.2.2.1, mQ_finding.2.2.2.2, ⟨by decide, by decide⟩⟩
theorem kQ_change_83 : CkS Q_change 83 Q_sheepAt 2 := ⟨lQ_83, mQ_sheepAt.1, mQ_sheepAt.2.1, mQ_sheepAt.2.2.1, mQ_sheepAt.2.2.2, ⟨by decide, by decide⟩⟩
theorem kQ_change_98 : CkV Q_change 98 Q_become 2 := ⟨lQ_98, mQ_become.1, mQ_become.2.1, mQ_become.2.2.1, mQ_become.2.2.2.1, mQ_become.2.2.2.2, ⟨by decide, by decide⟩⟩
theorem kQ_isField_101 : CkS Q_isField 101 Q_isKind 1 := ⟨lQ_101, mQ_isKind.1, mQ_isKind.2.1, mQ_isKind.2.2.1, mQ_isKind.2.2.2, ⟨by decide, by decide⟩⟩
theorem kQ_isField_91 : CkS Q_isField 91 Q_isCell 1 := ⟨lQ_91, mQ_isCell.1, mQ_isCell.2.1, mQ_isCell.2.2.1, mQ_isCell.2.2.2, ⟨by decide, by decide⟩⟩
theorem kQ_isField_79 : CkS Q_isField 79 Q_within 3 := ⟨lQ_79, mQ_within.1, mQ_within.2.1, mQ_within.2.2.1, mQ_within.2.2.2, ⟨by decide, by decide⟩⟩
theorem kQ_drop_142 : CkV Q_drop 142 Q_orNone 1 := ⟨lQ_142, mQ_orNone.1, mQ_orNone.2.1, mQ_orNone.2.2.1, mQ_orNone.2.2.2.1, mQ_orNone.2.2.2.2, ⟨by decide, by decide⟩⟩
theorem kQ_orNone_75 : CkV Q_orNone 75 Q_finding 1 := ⟨lQ_75, mQ_finding.1, mQ_finding.2.1, mQ_finding.2.2.1, mQ_finding.2.2.2.1, mQ_finding.2.2.2.2, ⟨by decide, by decide⟩⟩
theorem kQ_who_91 : CkS Q_who 91 Q_isCell 1 := ⟨lQ_91, mQ_isCell.1, mQ_isCell.2.1, mQ_isCell.2.2.1, mQ_isCell.2.2.2, ⟨by decide, by decide⟩⟩
theorem kQ_who_145 : CkV Q_who 145 Q_setAt 1 := ⟨lQ_145, mQ_setAt.1, mQ_setAt.2.1, mQ_setAt.2.2.1, mQ_setAt.2.2.2.1, mQ_setAt.2.2.2.2, ⟨by decide, by decide⟩⟩
theorem kQ_who_75 : CkV Q_who 75 Q_finding 1 := ⟨lQ_75, mQ_finding.1, mQ_finding.2.1, mQ_finding.2.2.1, mQ_finding.2.2.2.1, mQ_finding.2.2.2.2, ⟨by decide, by decide⟩⟩
theorem kQ_setAt_108 : CkV Q_setAt 108 Q_sheepIs 2 := ⟨lQ_108, mQ_sheepIs.1, mQ_sheepIs.2.1, mQ_sheepIs.2.2.1, mQ_sheepIs.2.2.2.1, mQ_sheepIs.2.2.2.2, ⟨by decide, by decide⟩⟩
theorem kQ_go_79 : CkS Q_go 79 Q_within 3 := ⟨lQ_79, mQ_within.1, mQ_within.2.1, mQ_within.2.2.1, mQ_within.2.2.2, ⟨by decide, by decide⟩⟩
theorem kQ_go_75 : CkV Q_go 75 Q_finding 1 := ⟨lQ_75, mQ_finding.1, mQ_finding.2.1, mQ_finding.2.2.1, mQ_finding.2.2.2.1, mQ_finding.2.2.2.2, ⟨by decide, by decide⟩⟩
theorem kQ_go_191 : CkV Q_go 191 Q_hoursGo 1 := ⟨lQ_191, mQ_hoursGo.1, mQ_hoursGo.2.1, mQ_hoursGo.2.2.1, mQ_hoursGo.2.2.2.1, mQ_hoursGo.2.2.2.2, ⟨by decide, by decide⟩⟩
theorem kQ_go_194 : CkV Q_go 194 Q_sumOf 1 := ⟨lQ_194, mQ_sumOf.1, mQ_sumOf.2.1, mQ_sumOf.2.2.1, mQ_sumOf.2.2.2.1, mQ_sumOf.2.2.2.2, ⟨by decide, by decide⟩⟩
theorem kQ_hoursGo_187 : CkV Q_hoursGo 187 Q_hour 0 := ⟨lQ_187, mQ_hour.1, mQ_hour.2.1, mQ_hour.2.2.1, mQ_hour.2.2.2.1, mQ_hour.2.2.2.2, ⟨by decide, by decide⟩⟩
theorem kQ_hour_175 : CkV Q_hour 175 Q_sheepGo 0 := ⟨lQ_175, mQ_sheepGo.1, mQ_sheepGo.2.1, mQ_sheepGo.2.2.1, mQ_sheepGo.2.2.2.1, mQ_sheepGo.2.2.2.2, ⟨by decide, by decide⟩⟩
theorem kQ_hour_178 : CkV Q_hour 178 Q_wolfGoes 0 := ⟨lQ_178, mQ_wolfGoes.1, mQ_wolfGoes.2.1, mQ_wolfGoes.2.2.1, mQ_wolfGoes.2.2.2.1, mQ_wolfGoes.2.2.2.2, ⟨by decide, by decide⟩⟩
theorem kQ_hour_181 : CkV Q_hour 181 Q_carries 0 := ⟨lQ_181, mQ_carries.1, mQ_carries.2.1, mQ_carries.2.2.1, mQ_carries.2.2.2.1, mQ_carries.2.2.2.2, ⟨by decide, by decide⟩⟩
theorem kQ_hour_184 : CkV Q_hour 184 Q_seeks 0 := ⟨lQ_184, mQ_seeks.1, mQ_seeks.2.1, mQ_seeks.2.2.1, mQ_seeks.2.2.2.1, mQ_seeks.2.2.2.2, ⟨by decide, by decide⟩⟩
theorem kQ_hour_83 : CkS Q_hour 83 Q_sheepAt 2 := ⟨lQ_83, mQ_sheepAt.1, mQ_sheepAt.2.1, mQ_sheepAt.2.2.1, mQ_sheepAt.2.2.2, ⟨by decide, by decide⟩⟩
theorem kQ_hour_122 : CkV Q_hour 122 Q_far 1 := ⟨lQ_122, mQ_far.1, mQ_far.2.1, mQ_far.2.2.1, mQ_far.2.2.2.1, mQ_far.2.2.2.2, ⟨by decide, by decide⟩⟩
theorem kQ_hour_108 : CkV Q_hour 108 Q_sheepIs 2 := ⟨lQ_108, mQ_sheepIs.1, mQ_sheepIs.2.1, mQ_sheepIs.2.2.1, mQ_sheepIs.2.2.2.1, mQ_sheepIs.2.2.2.2, ⟨by decide, by decide⟩⟩
theorem kQ_hour_148 : CkS Q_hour 148 JM_min 2 := ⟨lQ_148, mJM_min.1, mJM_min.2.1, mJM_min.2.2.1, mJM_min.2.2.2, ⟨by decide, by decide⟩⟩
theorem kQ_hour_131 : CkV Q_hour 131 Q_calms 1 := ⟨lQ_131, mQ_calms.1, mQ_calms.2.1, mQ_calms.2.2.1, mQ_calms.2.2.2.1, mQ_calms.2.2.2.2, ⟨by decide, by decide⟩⟩
theorem kQ_hour_151 : CkS Q_hour 151 JM_max 2 := ⟨lQ_151, mJM_max.1, mJM_max.2.1, mJM_max.2.2.1, mJM_max.2.2.2, ⟨by decide, by decide⟩⟩
theorem kQ_sheepGo_125 : CkV Q_sheepGo 125 Q_strays 1 := ⟨lQ_125, mQ_strays.1, mQ_strays.2.1, mQ_strays.2.2.1, mQ_strays.2.2.2.1, mQ_strays.2.2.2.2, ⟨by decide, by decide⟩⟩
theorem kQ_sheepGo_108 : CkV Q_sheepGo 108 Q_sheepIs 2 := ⟨lQ_108, mQ_sheepIs.1, mQ_sheepIs.2.1, mQ_sheepIs.2.2.1, mQ_sheepIs.2.2.2.1, mQ_sheepIs.2.2.2.2, ⟨by decide, by decide⟩⟩
theorem kQ_sheepGo_158 : CkS Q_sheepGo 158 Q_hasBit 2 := ⟨lQ_158, mQ_hasBit.1, mQ_hasBit.2.1, mQ_hasBit.2.2.1, mQ_hasBit.2.2.2, ⟨by decide, by decide⟩⟩
theorem kQ_sheepGo_83 : CkS Q_sheepGo 83 Q_sheepAt 2 := ⟨lQ_83, mQ_sheepAt.1, mQ_sheepAt.2.1, mQ_sheepAt.2.2.1, mQ_sheepAt.2.2.2, ⟨by decide, by decide⟩⟩
theorem kQ_sheepGo_161 : CkS Q_sheepGo 161 Q_towards 3 := ⟨lQ_161, mQ_towards.1, mQ_towards.2.1, mQ_towards.2.2.1, mQ_towards.2.2.2, ⟨by decide, by decide⟩⟩
theorem kQ_sheepGo_165 : CkV Q_sheepGo 165 Q_awayFrom 2 := ⟨lQ_165, mQ_awayFrom.1, mQ_awayFrom.2.1, mQ_awayFrom.2.2.1, mQ_awayFrom.2.2.2.1, mQ_awayFrom.2.2.2.2, ⟨by decide, by decide⟩⟩
theorem kQ_towards_148 : CkS Q_towards 148 JM_min 2 := ⟨lQ_148, mJM_min.1, mJM_min.2.1, mJM_min.2.2.1, mJM_min.2.2.2, ⟨by decide, by decide⟩⟩
theorem kQ_towards_151 : CkS Q_towards 151 JM_max 2 := ⟨lQ_151, mJM_max.1, mJM_max.2.1, mJM_max.2.2.1, mJM_max.2.2.2, ⟨by decide, by decide⟩⟩
theorem kQ_awayFrom_148 : CkS Q_awayFrom 148 JM_min 2 := ⟨lQ_148, mJM_min.1, mJM_min.2.1, mJM_min.2.2.1, mJM_min.2.2.2, ⟨by decide, by decide⟩⟩
theorem kQ_awayFrom_151 : CkS Q_awayFrom 151 JM_max 2 := ⟨lQ_151, mJM_max.1, mJM_max.2.1, mJM_max.2.2.1, mJM_max.2.2.2, ⟨by decide, by decide⟩⟩
theorem kQ_wolfGoes_111 : CkS Q_wolfGoes 111 JM_abs 1 := ⟨lQ_111, mJM_abs.1, mJM_abs.2.1, mJM_abs.2.2.1, mJM_abs.2.2.2, ⟨by decide, by decide⟩⟩
theorem kQ_wolfGoes_168 : CkV Q_wolfGoes 168 Q_nearest 0 := ⟨lQ_168, mQ_nearest.1, mQ_nearest.2.1, mQ_nearest.2.2.1, mQ_nearest.2.2.2.1, mQ_nearest.2.2.2.2, ⟨by decide, by decide⟩⟩
theorem kQ_wolfGoes_108 : CkV Q_wolfGoes 108 Q_sheepIs 2 := ⟨lQ_108, mQ_sheepIs.1, mQ_sheepIs.2.1, mQ_sheepIs.2.2.1, mQ_sheepIs.2.2.2.1, mQ_sheepIs.2.2.2.2, ⟨by decide, by decide⟩⟩
theorem kQ_wolfGoes_161 : CkS Q_wolfGoes 161 Q_towards 3 := ⟨lQ_161, mQ_towards.1, mQ_towards.2.1, mQ_towards.2.2.1, mQ_towards.2.2.2, ⟨by decide, by decide⟩⟩
theorem kQ_wolfGoes_128 : CkV Q_wolfGoes 128 Q_fears 1 := ⟨lQ_128, mQ_fears.1, mQ_fears.2.1, mQ_fears.2.2.1, mQ_fears.2.2.2.1, mQ_fears.2.2.2.2, ⟨by decide, by decide⟩⟩
theorem kQ_wolfGoes_83 : CkS Q_wolfGoes 83 Q_sheepAt 2 := ⟨lQ_83, mQ_sheepAt.1, mQ_sheepAt.2.1, mQ_sheepAt.2.2.1, mQ_sheepAt.2.2.2, ⟨by decide, by decide⟩⟩
theorem kQ_wolfGoes_148 : CkS Q_wolfGoes 148 JM_min 2 := ⟨lQ_148, mJM_min.1, mJM_min.2.1, mJM_min.2.2.1, mJM_min.2.2.2, ⟨by decide, by decide⟩⟩
theorem kQ_nearest_108 : CkV Q_nearest 108 Q_sheepIs 2 := ⟨lQ_108, mQ_sheepIs.1, mQ_sheepIs.2.1, mQ_sheepIs.2.2.1, mQ_sheepIs.2.2.2.1, mQ_sheepIs.2.2.2.2, ⟨by decide, by decide⟩⟩
theorem kQ_nearest_111 : CkS Q_nearest 111 JM_abs 1 := ⟨lQ_111, mJM_abs.1, mJM_abs.2.1, mJM_abs.2.2.1, mJM_abs.2.2.2, ⟨by decide, by decide⟩⟩
theorem kQ_nearest_148 : CkS Q_nearest 148 JM_min 2 := ⟨lQ_148, mJM_min.1, mJM_min.2.1, mJM_min.2.2.1, mJM_min.2.2.2, ⟨by decide, by decide⟩⟩
theorem kQ_carries_134 : CkV Q_carries 134 Q_light 1 := ⟨lQ_134, mQ_light.1, mQ_light.2.1, mQ_light.2.2.1, mQ_light.2.2.2.1, mQ_light.2.2.2.2, ⟨by decide, by decide⟩⟩
theorem kQ_carries_161 : CkS Q_carries 161 Q_towards 3 := ⟨lQ_161, mQ_towards.1, mQ_towards.2.1, mQ_towards.2.2.1, mQ_towards.2.2.2, ⟨by decide, by decide⟩⟩
theorem kQ_carries_87 : CkV Q_carries 87 Q_keeperAt 1 := ⟨lQ_87, mQ_keeperAt.1, mQ_keeperAt.2.1, mQ_keeperAt.2.2.1, mQ_keeperAt.2.2.2.1, mQ_keeperAt.2.2.2.2, ⟨by decide, by decide⟩⟩
theorem kQ_carries_83 : CkS Q_carries 83 Q_sheepAt 2 := ⟨lQ_83, mQ_sheepAt.1, mQ_sheepAt.2.1, mQ_sheepAt.2.2.1, mQ_sheepAt.2.2.2, ⟨by decide, by decide⟩⟩
theorem kQ_carries_108 : CkV Q_carries 108 Q_sheepIs 2 := ⟨lQ_108, mQ_sheepIs.1, mQ_sheepIs.2.1, mQ_sheepIs.2.2.1, mQ_sheepIs.2.2.2.1, mQ_sheepIs.2.2.2.2, ⟨by decide, by decide⟩⟩
theorem kQ_carries_148 : CkS Q_carries 148 JM_min 2 := ⟨lQ_148, mJM_min.1, mJM_min.2.1, mJM_min.2.2.1, mJM_min.2.2.2, ⟨by decide, by decide⟩⟩
theorem kQ_seeks_172 : CkV Q_seeks 172 Q_sought 0 := ⟨lQ_172, mQ_sought.1, mQ_sought.2.1, mQ_sought.2.2.1, mQ_sought.2.2.2.1, mQ_sought.2.2.2.2, ⟨by decide, by decide⟩⟩
theorem kQ_seeks_108 : CkV Q_seeks 108 Q_sheepIs 2 := ⟨lQ_108, mQ_sheepIs.1, mQ_sheepIs.2.1, mQ_sheepIs.2.2.1, mQ_sheepIs.2.2.2.1, mQ_sheepIs.2.2.2.2, ⟨by decide, by decide⟩⟩
theorem kQ_seeks_161 : CkS Q_seeks 161 Q_towards 3 := ⟨lQ_161, mQ_towards.1, mQ_towards.2.1, mQ_towards.2.2.1, mQ_towards.2.2.2, ⟨by decide, by decide⟩⟩
theorem kQ_sought_122 : CkV Q_sought 122 Q_far 1 := ⟨lQ_122, mQ_far.1, mQ_far.2.1, mQ_far.2.2.1, mQ_far.2.2.2.1, mQ_far.2.2.2.2, ⟨by decide, by decide⟩⟩
theorem kQ_sought_151 : CkS Q_sought 151 JM_max 2 := ⟨lQ_151, mJM_max.1, mJM_max.2.1, mJM_max.2.2.1, mJM_max.2.2.2, ⟨by decide, by decide⟩⟩
theorem kQ_sumOf_108 : CkV Q_sumOf 108 Q_sheepIs 2 := ⟨lQ_108, mQ_sheepIs.1, mQ_sheepIs.2.1, mQ_sheepIs.2.2.1, mQ_sheepIs.2.2.2.1, mQ_sheepIs.2.2.2.2, ⟨by decide, by decide⟩⟩
theorem kQ_now_197 : CkV Q_now 197 Q_lostSet 0 := ⟨lQ_197, mQ_lostSet.1, mQ_lostSet.2.1, mQ_lostSet.2.2.1, mQ_lostSet.2.2.2.1, mQ_lostSet.2.2.2.2, ⟨by decide, by decide⟩⟩
theorem kQ_now_194 : CkV Q_now 194 Q_sumOf 1 := ⟨lQ_194, mQ_sumOf.1, mQ_sumOf.2.1, mQ_sumOf.2.2.1, mQ_sumOf.2.2.2.1, mQ_sumOf.2.2.2.2, ⟨by decide, by decide⟩⟩
theorem kQ_now_172 : CkV Q_now 172 Q_sought 0 := ⟨lQ_172, mQ_sought.1, mQ_sought.2.1, mQ_sought.2.2.1, mQ_sought.2.2.2.1, mQ_sought.2.2.2.2, ⟨by decide, by decide⟩⟩
theorem kQ_now_145 : CkV Q_now 145 Q_setAt 1 := ⟨lQ_145, mQ_setAt.1, mQ_setAt.2.1, mQ_setAt.2.2.1, mQ_setAt.2.2.2.1, mQ_setAt.2.2.2.2, ⟨by decide, by decide⟩⟩
theorem kQ_now_200 : CkV Q_now 200 Q_mostAfraid 0 := ⟨lQ_200, mQ_mostAfraid.1, mQ_mostAfraid.2.1, mQ_mostAfraid.2.2.1, mQ_mostAfraid.2.2.2.1, mQ_mostAfraid.2.2.2.2, ⟨by decide, by decide⟩⟩
theorem kQ_now_75 : CkV Q_now 75 Q_finding 1 := ⟨lQ_75, mQ_finding.1, mQ_finding.2.1, mQ_finding.2.2.1, mQ_finding.2.2.2.1, mQ_finding.2.2.2.2, ⟨by decide, by decide⟩⟩
theorem kQ_lostSet_122 : CkV Q_lostSet 122 Q_far 1 := ⟨lQ_122, mQ_far.1, mQ_far.2.1, mQ_far.2.2.1, mQ_far.2.2.2.1, mQ_far.2.2.2.2, ⟨by decide, by decide⟩⟩
theorem kQ_mostAfraid_108 : CkV Q_mostAfraid 108 Q_sheepIs 2 := ⟨lQ_108, mQ_sheepIs.1, mQ_sheepIs.2.1, mQ_sheepIs.2.2.1, mQ_sheepIs.2.2.2.1, mQ_sheepIs.2.2.2.2, ⟨by decide, by decide⟩⟩
theorem kQ_mostAfraid_151 : CkS Q_mostAfraid 151 JM_max 2 := ⟨lQ_151, mJM_max.1, mJM_max.2.1, mJM_max.2.2.1, mJM_max.2.2.2, ⟨by decide, by decide⟩⟩
theorem kQ_ahead_119 : CkV Q_ahead 119 Q_isSheep 1 := ⟨lQ_119, mQ_isSheep.1, mQ_isSheep.2.1, mQ_isSheep.2.2.1, mQ_isSheep.2.2.2.1, mQ_isSheep.2.2.2.2, ⟨by decide, by decide⟩⟩
theorem kQ_ahead_79 : CkS Q_ahead 79 Q_within 3 := ⟨lQ_79, mQ_within.1, mQ_within.2.1, mQ_within.2.2.1, mQ_within.2.2.2, ⟨by decide, by decide⟩⟩
theorem kQ_ahead_83 : CkS Q_ahead 83 Q_sheepAt 2 := ⟨lQ_83, mQ_sheepAt.1, mQ_sheepAt.2.1, mQ_sheepAt.2.2.1, mQ_sheepAt.2.2.2, ⟨by decide, by decide⟩⟩
theorem kQ_ahead_206 : CkV Q_ahead 206 Q_behind 2 := ⟨lQ_206, mQ_behind.1, mQ_behind.2.1, mQ_behind.2.2.1, mQ_behind.2.2.2.1, mQ_behind.2.2.2.2, ⟨by decide, by decide⟩⟩
theorem kQ_ahead_75 : CkV Q_ahead 75 Q_finding 1 := ⟨lQ_75, mQ_finding.1, mQ_finding.2.1, mQ_finding.2.2.1, mQ_finding.2.2.2.1, mQ_finding.2.2.2.2, ⟨by decide, by decide⟩⟩
theorem kQ_behind_70 : CkS Q_behind 70 Q_copyRow 2 := ⟨lQ_70, mQ_copyRow.1, mQ_copyRow.2.1, mQ_copyRow.2.2.1, mQ_copyRow.2.2.2, ⟨by decide, by decide⟩⟩
theorem kQ_behind_191 : CkV Q_behind 191 Q_hoursGo 1 := ⟨lQ_191, mQ_hoursGo.1, mQ_hoursGo.2.1, mQ_hoursGo.2.2.1, mQ_hoursGo.2.2.2.1, mQ_hoursGo.2.2.2.2, ⟨by decide, by decide⟩⟩
theorem kQ_behind_203 : CkV Q_behind 203 Q_putBack 1 := ⟨lQ_203, mQ_putBack.1, mQ_putBack.2.1, mQ_putBack.2.2.1, mQ_putBack.2.2.2.1, mQ_putBack.2.2.2.2, ⟨by decide, by decide⟩⟩
theorem kQ_putBack_70 : CkS Q_putBack 70 Q_copyRow 2 := ⟨lQ_70, mQ_copyRow.1, mQ_copyRow.2.1, mQ_copyRow.2.2.1, mQ_copyRow.2.2.2, ⟨by decide, by decide⟩⟩
theorem kQ_later_79 : CkS Q_later 79 Q_within 3 := ⟨lQ_79, mQ_within.1, mQ_within.2.1, mQ_within.2.2.1, mQ_within.2.2.2, ⟨by decide, by decide⟩⟩
theorem kQ_later_206 : CkV Q_later 206 Q_behind 2 := ⟨lQ_206, mQ_behind.1, mQ_behind.2.1, mQ_behind.2.2.1, mQ_behind.2.2.2.1, mQ_behind.2.2.2.2, ⟨by decide, by decide⟩⟩
theorem kQ_later_75 : CkV Q_later 75 Q_finding 1 := ⟨lQ_75, mQ_finding.1, mQ_finding.2.1, mQ_finding.2.2.1, mQ_finding.2.2.2.1, mQ_finding.2.2.2.2, ⟨by decide, by decide⟩⟩
theorem kQ_when_119 : CkV Q_when 119 Q_isSheep 1 := ⟨lQ_119, mQ_isSheep.1, mQ_isSheep.2.1, mQ_isSheep.2.2.1, mQ_isSheep.2.2.2.1, mQ_isSheep.2.2.2.2, ⟨by decide, by decide⟩⟩
theorem kQ_when_79 : CkS Q_when 79 Q_within 3 := ⟨lQ_79, mQ_within.1, mQ_within.2.1, mQ_within.2.2.1, mQ_within.2.2.2, ⟨by decide, by decide⟩⟩
theorem kQ_when_209 : CkV Q_when 209 Q_whenIs 3 := ⟨lQ_209, mQ_whenIs.1, mQ_whenIs.2.1, mQ_whenIs.2.2.1, mQ_whenIs.2.2.2.1, mQ_whenIs.2.2.2.2, ⟨by decide, by decide⟩⟩
theorem kQ_when_75 : CkV Q_when 75 Q_finding 1 := ⟨lQ_75, mQ_finding.1, mQ_finding.2.1, mQ_finding.2.2.1, mQ_finding.2.2.2.1, mQ_finding.2.2.2.2, ⟨by decide, by decide⟩⟩
theorem kQ_whenIs_70 : CkS Q_whenIs 70 Q_copyRow 2 := ⟨lQ_70, mQ_copyRow.1, mQ_copyRow.2.1, mQ_copyRow.2.2.1, mQ_copyRow.2.2.2, ⟨by decide, by decide⟩⟩
theorem kQ_whenIs_108 : CkV Q_whenIs 108 Q_sheepIs 2 := ⟨lQ_108, mQ_sheepIs.1, mQ_sheepIs.2.1, mQ_sheepIs.2.2.1, mQ_sheepIs.2.2.2.1, mQ_sheepIs.2.2.2.2, ⟨by decide, by decide⟩⟩
theorem kQ_whenIs_187 : CkV Q_whenIs 187 Q_hour 0 := ⟨lQ_187, mQ_hour.1, mQ_hour.2.1, mQ_hour.2.2.1, mQ_hour.2.2.2.1, mQ_hour.2.2.2.2, ⟨by decide, by decide⟩⟩
theorem kQ_whenIs_203 : CkV Q_whenIs 203 Q_putBack 1 := ⟨lQ_203, mQ_putBack.1, mQ_putBack.2.1, mQ_putBack.2.2.1, mQ_putBack.2.2.2.1, mQ_putBack.2.2.2.2, ⟨by decide, by decide⟩⟩
theorem kQ_whenIs_142 : CkV Q_whenIs 142 Q_orNone 1 := ⟨lQ_142, mQ_orNone.1, mQ_orNone.2.1, mQ_orNone.2.2.1, mQ_orNone.2.2.2.1, mQ_orNone.2.2.2.2, ⟨by decide, by decide⟩⟩
theorem kQ_home_70 : CkS Q_home 70 Q_copyRow 2 := ⟨lQ_70, mQ_copyRow.1, mQ_copyRow.2.1, mQ_copyRow.2.2.1, mQ_copyRow.2.2.2, ⟨by decide, by decide⟩⟩
theorem kQ_home_212 : CkV Q_home 212 Q_areHome 0 := ⟨lQ_212, mQ_areHome.1, mQ_areHome.2.1, mQ_areHome.2.2.1, mQ_areHome.2.2.2.1, mQ_areHome.2.2.2.2, ⟨by decide, by decide⟩⟩
theorem kQ_home_187 : CkV Q_home 187 Q_hour 0 := ⟨lQ_187, mQ_hour.1, mQ_hour.2.1, mQ_hour.2.2.1, mQ_hour.2.2.2.1, mQ_hour.2.2.2.2, ⟨by decide, by decide⟩⟩
theorem kQ_home_203 : CkV Q_home 203 Q_putBack 1 := ⟨lQ_203, mQ_putBack.1, mQ_putBack.2.1, mQ_putBack.2.2.1, mQ_putBack.2.2.2.1, mQ_putBack.2.2.2.2, ⟨by decide, by decide⟩⟩
theorem kQ_home_142 : CkV Q_home 142 Q_orNone 1 := ⟨lQ_142, mQ_orNone.1, mQ_orNone.2.1, mQ_orNone.2.2.1, mQ_orNone.2.2.2.1, mQ_orNone.2.2.2.2, ⟨by decide, by decide⟩⟩
theorem kQ_areHome_145 : CkV Q_areHome 145 Q_setAt 1 := ⟨lQ_145, mQ_setAt.1, mQ_setAt.2.1, mQ_setAt.2.2.1, mQ_setAt.2.2.2.1, mQ_setAt.2.2.2.2, ⟨by decide, by decide⟩⟩
theorem kQ_panic_119 : CkV Q_panic 119 Q_isSheep 1 := ⟨lQ_119, mQ_isSheep.1, mQ_isSheep.2.1, mQ_isSheep.2.2.1, mQ_isSheep.2.2.2.1, mQ_isSheep.2.2.2.2, ⟨by decide, by decide⟩⟩
theorem kQ_panic_79 : CkS Q_panic 79 Q_within 3 := ⟨lQ_79, mQ_within.1, mQ_within.2.1, mQ_within.2.2.1, mQ_within.2.2.2, ⟨by decide, by decide⟩⟩
theorem kQ_panic_209 : CkV Q_panic 209 Q_whenIs 3 := ⟨lQ_209, mQ_whenIs.1, mQ_whenIs.2.1, mQ_whenIs.2.2.1, mQ_whenIs.2.2.2.1, mQ_whenIs.2.2.2.2, ⟨by decide, by decide⟩⟩
theorem kQ_panic_75 : CkV Q_panic 75 Q_finding 1 := ⟨lQ_75, mQ_finding.1, mQ_finding.2.1, mQ_finding.2.2.1, mQ_finding.2.2.2.1, mQ_finding.2.2.2.2, ⟨by decide, by decide⟩⟩
theorem kQ_standFor_219 : CkS Q_standFor 219 Q_isThought 1 := ⟨lQ_219, mQ_isThought.1, mQ_isThought.2.1, mQ_isThought.2.2.1, mQ_isThought.2.2.2, ⟨by decide, by decide⟩⟩
theorem kQ_standFor_75 : CkV Q_standFor 75 Q_finding 1 := ⟨lQ_75, mQ_finding.1, mQ_finding.2.1, mQ_finding.2.2.1, mQ_finding.2.2.2.1, mQ_finding.2.2.2.2, ⟨by decide, by decide⟩⟩
theorem kQ_standFor_222 : CkV Q_standFor 222 Q_leastFor 3 := ⟨lQ_222, mQ_leastFor.1, mQ_leastFor.2.1, mQ_leastFor.2.2.1, mQ_leastFor.2.2.2.1, mQ_leastFor.2.2.2.2, ⟨by decide, by decide⟩⟩
theorem kQ_isThought_79 : CkS Q_isThought 79 Q_within 3 := ⟨lQ_79, mQ_within.1, mQ_within.2.1, mQ_within.2.2.1, mQ_within.2.2.2, ⟨by decide, by decide⟩⟩
theorem kQ_leastFor_216 : CkV Q_leastFor 216 Q_sumBehind 2 := ⟨lQ_216, mQ_sumBehind.1, mQ_sumBehind.2.1, mQ_sumBehind.2.2.1, mQ_sumBehind.2.2.2.1, mQ_sumBehind.2.2.2.2, ⟨by decide, by decide⟩⟩
theorem kQ_leastFor_148 : CkS Q_leastFor 148 JM_min 2 := ⟨lQ_148, mJM_min.1, mJM_min.2.1, mJM_min.2.2.1, mJM_min.2.2.2, ⟨by decide, by decide⟩⟩
theorem kQ_sumBehind_70 : CkS Q_sumBehind 70 Q_copyRow 2 := ⟨lQ_70, mQ_copyRow.1, mQ_copyRow.2.1, mQ_copyRow.2.2.1, mQ_copyRow.2.2.2, ⟨by decide, by decide⟩⟩
theorem kQ_sumBehind_191 : CkV Q_sumBehind 191 Q_hoursGo 1 := ⟨lQ_191, mQ_hoursGo.1, mQ_hoursGo.2.1, mQ_hoursGo.2.2.1, mQ_hoursGo.2.2.2.1, mQ_hoursGo.2.2.2.2, ⟨by decide, by decide⟩⟩
theorem kQ_sumBehind_194 : CkV Q_sumBehind 194 Q_sumOf 1 := ⟨lQ_194, mQ_sumOf.1, mQ_sumOf.2.1, mQ_sumOf.2.2.1, mQ_sumOf.2.2.2.1, mQ_sumOf.2.2.2.2, ⟨by decide, by decide⟩⟩
theorem kQ_sumBehind_203 : CkV Q_sumBehind 203 Q_putBack 1 := ⟨lQ_203, mQ_putBack.1, mQ_putBack.2.1, mQ_putBack.2.2.1, mQ_putBack.2.2.2.1, mQ_putBack.2.2.2.2, ⟨by decide, by decide⟩⟩
theorem kQ_foldFor_219 : CkS Q_foldFor 219 Q_isThought 1 := ⟨lQ_219, mQ_isThought.1, mQ_isThought.2.1, mQ_isThought.2.2.1, mQ_isThought.2.2.2, ⟨by decide, by decide⟩⟩
theorem kQ_foldFor_222 : CkV Q_foldFor 222 Q_leastFor 3 := ⟨lQ_222, mQ_leastFor.1, mQ_leastFor.2.1, mQ_leastFor.2.2.1, mQ_leastFor.2.2.2.1, mQ_leastFor.2.2.2.2, ⟨by decide, by decide⟩⟩
theorem kQ_foldFor_75 : CkV Q_foldFor 75 Q_finding 1 := ⟨lQ_75, mQ_finding.1, mQ_finding.2.1, mQ_finding.2.2.1, mQ_finding.2.2.2.1, mQ_finding.2.2.2.2, ⟨by decide, by decide⟩⟩
theorem kQ_kindFor_119 : CkV Q_kindFor 119 Q_isSheep 1 := ⟨lQ_119, mQ_isSheep.1, mQ_isSheep.2.1, mQ_isSheep.2.2.1, mQ_isSheep.2.2.2.1, mQ_isSheep.2.2.2.2, ⟨by decide, by decide⟩⟩
theorem kQ_kindFor_219 : CkS Q_kindFor 219 Q_isThought 1 := ⟨lQ_219, mQ_isThought.1, mQ_isThought.2.1, mQ_isThought.2.2.1, mQ_isThought.2.2.2, ⟨by decide, by decide⟩⟩
theorem kQ_kindFor_75 : CkV Q_kindFor 75 Q_finding 1 := ⟨lQ_75, mQ_finding.1, mQ_finding.2.1, mQ_finding.2.2.1, mQ_finding.2.2.2.1, mQ_finding.2.2.2.2, ⟨by decide, by decide⟩⟩
theorem kQ_kindFor_83 : CkS Q_kindFor 83 Q_sheepAt 2 := ⟨lQ_83, mQ_sheepAt.1, mQ_sheepAt.2.1, mQ_sheepAt.2.2.1, mQ_sheepAt.2.2.2, ⟨by decide, by decide⟩⟩
theorem kQ_kindFor_206 : CkV Q_kindFor 206 Q_behind 2 := ⟨lQ_206, mQ_behind.1, mQ_behind.2.1, mQ_behind.2.2.1, mQ_behind.2.2.2.1, mQ_behind.2.2.2.2, ⟨by decide, by decide⟩⟩
theorem kQ_kindFor_151 : CkS Q_kindFor 151 JM_max 2 := ⟨lQ_151, mJM_max.1, mJM_max.2.1, mJM_max.2.2.1, mJM_max.2.2.2, ⟨by decide, by decide⟩⟩
theorem kQ_paceFor_79 : CkS Q_paceFor 79 Q_within 3 := ⟨lQ_79, mQ_within.1, mQ_within.2.1, mQ_within.2.2.1, mQ_within.2.2.2, ⟨by decide, by decide⟩⟩
theorem kQ_paceFor_219 : CkS Q_paceFor 219 Q_isThought 1 := ⟨lQ_219, mQ_isThought.1, mQ_isThought.2.1, mQ_isThought.2.2.1, mQ_isThought.2.2.2, ⟨by decide, by decide⟩⟩
theorem kQ_paceFor_75 : CkV Q_paceFor 75 Q_finding 1 := ⟨lQ_75, mQ_finding.1, mQ_finding.2.1, mQ_finding.2.2.1, mQ_finding.2.2.2.1, mQ_finding.2.2.2.2, ⟨by decide, by decide⟩⟩
theorem kQ_paceFor_216 : CkV Q_paceFor 216 Q_sumBehind 2 := ⟨lQ_216, mQ_sumBehind.1, mQ_sumBehind.2.1, mQ_sumBehind.2.2.1, mQ_sumBehind.2.2.2.1, mQ_sumBehind.2.2.2.2, ⟨by decide, by decide⟩⟩
theorem kQ_paceFor_142 : CkV Q_paceFor 142 Q_orNone 1 := ⟨lQ_142, mQ_orNone.1, mQ_orNone.2.1, mQ_orNone.2.2.1, mQ_orNone.2.2.2.1, mQ_orNone.2.2.2.2, ⟨by decide, by decide⟩⟩
theorem kQ_tether_79 : CkS Q_tether 79 Q_within 3 := ⟨lQ_79, mQ_within.1, mQ_within.2.1, mQ_within.2.2.1, mQ_within.2.2.2, ⟨by decide, by decide⟩⟩
theorem kQ_tether_75 : CkV Q_tether 75 Q_finding 1 := ⟨lQ_75, mQ_finding.1, mQ_finding.2.1, mQ_finding.2.2.1, mQ_finding.2.2.2.1, mQ_finding.2.2.2.2, ⟨by decide, by decide⟩⟩
theorem kQ_tether_225 : CkV Q_tether 225 Q_areNear 2 := ⟨lQ_225, mQ_areNear.1, mQ_areNear.2.1, mQ_areNear.2.2.1, mQ_areNear.2.2.2.1, mQ_areNear.2.2.2.2, ⟨by decide, by decide⟩⟩
theorem kQ_tether_228 : CkS Q_tether 228 Q_bits 1 := ⟨lQ_228, mQ_bits.1, mQ_bits.2.1, mQ_bits.2.2.1, mQ_bits.2.2.2, ⟨by decide, by decide⟩⟩
theorem kQ_tether_142 : CkV Q_tether 142 Q_orNone 1 := ⟨lQ_142, mQ_orNone.1, mQ_orNone.2.1, mQ_orNone.2.2.1, mQ_orNone.2.2.2.1, mQ_orNone.2.2.2.2, ⟨by decide, by decide⟩⟩
theorem kQ_areNear_70 : CkS Q_areNear 70 Q_copyRow 2 := ⟨lQ_70, mQ_copyRow.1, mQ_copyRow.2.1, mQ_copyRow.2.2.1, mQ_copyRow.2.2.2, ⟨by decide, by decide⟩⟩
theorem kQ_areNear_191 : CkV Q_areNear 191 Q_hoursGo 1 := ⟨lQ_191, mQ_hoursGo.1, mQ_hoursGo.2.1, mQ_hoursGo.2.2.1, mQ_hoursGo.2.2.2.1, mQ_hoursGo.2.2.2.2, ⟨by decide, by decide⟩⟩
theorem kQ_areNear_197 : CkV Q_areNear 197 Q_lostSet 0 := ⟨lQ_197, mQ_lostSet.1, mQ_lostSet.2.1, mQ_lostSet.2.2.1, mQ_lostSet.2.2.2.1, mQ_lostSet.2.2.2.2, ⟨by decide, by decide⟩⟩
theorem kQ_fits_119 : CkV Q_fits 119 Q_isSheep 1 := ⟨lQ_119, mQ_isSheep.1, mQ_isSheep.2.1, mQ_isSheep.2.2.1, mQ_isSheep.2.2.2.1, mQ_isSheep.2.2.2.2, ⟨by decide, by decide⟩⟩
theorem kQ_fits_238 : CkV Q_fits 238 Q_lacks 2 := ⟨lQ_238, mQ_lacks.1, mQ_lacks.2.1, mQ_lacks.2.2.1, mQ_lacks.2.2.2.1, mQ_lacks.2.2.2.2, ⟨by decide, by decide⟩⟩
theorem kQ_fits_75 : CkV Q_fits 75 Q_finding 1 := ⟨lQ_75, mQ_finding.1, mQ_finding.2.1, mQ_finding.2.2.1, mQ_finding.2.2.2.1, mQ_finding.2.2.2.2, ⟨by decide, by decide⟩⟩
theorem kQ_fits_83 : CkS Q_fits 83 Q_sheepAt 2 := ⟨lQ_83, mQ_sheepAt.1, mQ_sheepAt.2.1, mQ_sheepAt.2.2.1, mQ_sheepAt.2.2.2, ⟨by decide, by decide⟩⟩
theorem kQ_fits_242 : CkV Q_fits 242 Q_valuesFor 4 := ⟨lQ_242, mQ_valuesFor.1, mQ_valuesFor.2.1, mQ_valuesFor.2.2.1, mQ_valuesFor.2.2.2.1, mQ_valuesFor.2.2.2.2, ⟨by decide, by decide⟩⟩
theorem kQ_lacks_231 : CkS Q_lacks 231 Q_isSheet 1 := ⟨lQ_231, mQ_isSheet.1, mQ_isSheet.2.1, mQ_isSheet.2.2.1, mQ_isSheet.2.2.2, ⟨by decide, by decide⟩⟩
theorem kQ_isSheet_79 : CkS Q_isSheet 79 Q_within 3 := ⟨lQ_79, mQ_within.1, mQ_within.2.1, mQ_within.2.2.1, mQ_within.2.2.2, ⟨by decide, by decide⟩⟩
theorem kQ_valuesFor_235 : CkV Q_valuesFor 235 Q_isToldWay 2 := ⟨lQ_235, mQ_isToldWay.1, mQ_isToldWay.2.1, mQ_isToldWay.2.2.1, mQ_isToldWay.2.2.2.1, mQ_isToldWay.2.2.2.2, ⟨by decide, by decide⟩⟩
theorem kQ_isToldWay_70 : CkS Q_isToldWay 70 Q_copyRow 2 := ⟨lQ_70, mQ_copyRow.1, mQ_copyRow.2.1, mQ_copyRow.2.2.1, mQ_copyRow.2.2.2, ⟨by decide, by decide⟩⟩
theorem kQ_isToldWay_187 : CkV Q_isToldWay 187 Q_hour 0 := ⟨lQ_187, mQ_hour.1, mQ_hour.2.1, mQ_hour.2.2.1, mQ_hour.2.2.2.1, mQ_hour.2.2.2.2, ⟨by decide, by decide⟩⟩
theorem kQ_kinds_119 : CkV Q_kinds 119 Q_isSheep 1 := ⟨lQ_119, mQ_isSheep.1, mQ_isSheep.2.1, mQ_isSheep.2.2.1, mQ_isSheep.2.2.2.1, mQ_isSheep.2.2.2.2, ⟨by decide, by decide⟩⟩
theorem kQ_kinds_238 : CkV Q_kinds 238 Q_lacks 2 := ⟨lQ_238, mQ_lacks.1, mQ_lacks.2.1, mQ_lacks.2.2.1, mQ_lacks.2.2.2.1, mQ_lacks.2.2.2.2, ⟨by decide, by decide⟩⟩
theorem kQ_kinds_75 : CkV Q_kinds 75 Q_finding 1 := ⟨lQ_75, mQ_finding.1, mQ_finding.2.1, mQ_finding.2.2.1, mQ_finding.2.2.2.1, mQ_finding.2.2.2.2, ⟨by decide, by decide⟩⟩
theorem kQ_kinds_83 : CkS Q_kinds 83 Q_sheepAt 2 := ⟨lQ_83, mQ_sheepAt.1, mQ_sheepAt.2.1, mQ_sheepAt.2.2.1, mQ_sheepAt.2.2.2, ⟨by decide, by decide⟩⟩
theorem kQ_kinds_242 : CkV Q_kinds 242 Q_valuesFor 4 := ⟨lQ_242, mQ_valuesFor.1, mQ_valuesFor.2.1, mQ_valuesFor.2.2.1, mQ_valuesFor.2.2.2.1, mQ_valuesFor.2.2.2.2, ⟨by decide, by decide⟩⟩
theorem kQ_nights_79 : CkS Q_nights 79 Q_within 3 := ⟨lQ_79, mQ_within.1, mQ_within.2.1, mQ_within.2.2.1, mQ_within.2.2.2, ⟨by decide, by decide⟩⟩
theorem kQ_nights_75 : CkV Q_nights 75 Q_finding 1 := ⟨lQ_75, mQ_finding.1, mQ_finding.2.1, mQ_finding.2.2.1, mQ_finding.2.2.2.1, mQ_finding.2.2.2.2, ⟨by decide, by decide⟩⟩
theorem kQ_nights_247 : CkV Q_nights 247 Q_drawn 0 := ⟨lQ_247, mQ_drawn.1, mQ_drawn.2.1, mQ_drawn.2.2.1, mQ_drawn.2.2.2.1, mQ_drawn.2.2.2.2, ⟨by decide, by decide⟩⟩
theorem kQ_nights_187 : CkV Q_nights 187 Q_hour 0 := ⟨lQ_187, mQ_hour.1, mQ_hour.2.1, mQ_hour.2.2.1, mQ_hour.2.2.2.1, mQ_hour.2.2.2.2, ⟨by decide, by decide⟩⟩
theorem kQ_nights_194 : CkV Q_nights 194 Q_sumOf 1 := ⟨lQ_194, mQ_sumOf.1, mQ_sumOf.2.1, mQ_sumOf.2.2.1, mQ_sumOf.2.2.2.1, mQ_sumOf.2.2.2.2, ⟨by decide, by decide⟩⟩
theorem kQ_odds_119 : CkV Q_odds 119 Q_isSheep 1 := ⟨lQ_119, mQ_isSheep.1, mQ_isSheep.2.1, mQ_isSheep.2.2.1, mQ_isSheep.2.2.2.1, mQ_isSheep.2.2.2.2, ⟨by decide, by decide⟩⟩
theorem kQ_odds_79 : CkS Q_odds 79 Q_within 3 := ⟨lQ_79, mQ_within.1, mQ_within.2.1, mQ_within.2.2.1, mQ_within.2.2.2, ⟨by decide, by decide⟩⟩
theorem kQ_odds_75 : CkV Q_odds 75 Q_finding 1 := ⟨lQ_75, mQ_finding.1, mQ_finding.2.1, mQ_finding.2.2.1, mQ_finding.2.2.2.1, mQ_finding.2.2.2.2, ⟨by decide, by decide⟩⟩
theorem kQ_odds_108 : CkV Q_odds 108 Q_sheepIs 2 := ⟨lQ_108, mQ_sheepIs.1, mQ_sheepIs.2.1, mQ_sheepIs.2.2.1, mQ_sheepIs.2.2.2.1, mQ_sheepIs.2.2.2.2, ⟨by decide, by decide⟩⟩
theorem kQ_odds_111 : CkS Q_odds 111 JM_abs 1 := ⟨lQ_111, mJM_abs.1, mJM_abs.2.1, mJM_abs.2.2.1, mJM_abs.2.2.2, ⟨by decide, by decide⟩⟩
theorem kQ_seed_98 : CkV Q_seed 98 Q_become 2 := ⟨lQ_98, mQ_become.1, mQ_become.2.1, mQ_become.2.2.1, mQ_become.2.2.2.1, mQ_become.2.2.2.2, ⟨by decide, by decide⟩⟩
theorem kQ_feed_79 : CkS Q_feed 79 Q_within 3 := ⟨lQ_79, mQ_within.1, mQ_within.2.1, mQ_within.2.2.1, mQ_within.2.2.2, ⟨by decide, by decide⟩⟩
theorem kQ_feed_75 : CkV Q_feed 75 Q_finding 1 := ⟨lQ_75, mQ_finding.1, mQ_finding.2.1, mQ_finding.2.2.1, mQ_finding.2.2.2.1, mQ_finding.2.2.2.2, ⟨by decide, by decide⟩⟩
theorem kQ_text_279 : CkV Q_text 279 Q_token 0 := ⟨lQ_279, mQ_token.1, mQ_token.2.1, mQ_token.2.2.1, mQ_token.2.2.2.1, mQ_token.2.2.2.2, ⟨by decide, by decide⟩⟩
theorem kQ_text_327 : CkV Q_text 327 Q_readItem 0 := ⟨lQ_327, mQ_readItem.1, mQ_readItem.2.1, mQ_readItem.2.2.1, mQ_readItem.2.2.2.1, mQ_readItem.2.2.2.2, ⟨by decide, by decide⟩⟩
theorem kQ_text_282 : CkV Q_text 282 Q_must 1 := ⟨lQ_282, mQ_must.1, mQ_must.2.1, mQ_must.2.2.1, mQ_must.2.2.2.1, mQ_must.2.2.2.2, ⟨by decide, by decide⟩⟩
theorem kQ_text_330 : CkV Q_text 330 Q_isToldSo 1 := ⟨lQ_330, mQ_isToldSo.1, mQ_isToldSo.2.1, mQ_isToldSo.2.2.1, mQ_isToldSo.2.2.2.1, mQ_isToldSo.2.2.2.2, ⟨by decide, by decide⟩⟩
theorem kQ_token_259 : CkV Q_token 259 Q_byteAt 1 := ⟨lQ_259, mQ_byteAt.1, mQ_byteAt.2.1, mQ_byteAt.2.2.1, mQ_byteAt.2.2.2.1, mQ_byteAt.2.2.2.2, ⟨by decide, by decide⟩⟩
theorem kQ_token_79 : CkS Q_token 79 Q_within 3 := ⟨lQ_79, mQ_within.1, mQ_within.2.1, mQ_within.2.2.1, mQ_within.2.2.2, ⟨by decide, by decide⟩⟩
theorem kQ_token_148 : CkS Q_token 148 JM_min 2 := ⟨lQ_148, mJM_min.1, mJM_min.2.1, mJM_min.2.2.1, mJM_min.2.2.2, ⟨by decide, by decide⟩⟩
theorem kQ_readItem_289 : CkV Q_readItem 289 Q_isWord 1 := ⟨lQ_289, mQ_isWord.1, mQ_isWord.2.1, mQ_isWord.2.2.1, mQ_isWord.2.2.2.1, mQ_isWord.2.2.2.2, ⟨by decide, by decide⟩⟩
theorem kQ_readItem_316 : CkV Q_readItem 316 Q_readSheep 1 := ⟨lQ_316, mQ_readSheep.1, mQ_readSheep.2.1, mQ_readSheep.2.2.1, mQ_readSheep.2.2.2.1, mQ_readSheep.2.2.2.2, ⟨by decide, by decide⟩⟩
theorem kQ_readItem_293 : CkV Q_readItem 293 Q_takesWord 1 := ⟨lQ_293, mQ_takesWord.1, mQ_takesWord.2.1, mQ_takesWord.2.2.1, mQ_takesWord.2.2.2.1, mQ_takesWord.2.2.2.2, ⟨by decide, by decide⟩⟩
theorem kQ_readItem_296 : CkV Q_readItem 296 Q_number 2 := ⟨lQ_296, mQ_number.1, mQ_number.2.1, mQ_number.2.2.1, mQ_number.2.2.2.1, mQ_number.2.2.2.2, ⟨by decide, by decide⟩⟩
theorem kQ_readItem_312 : CkV Q_readItem 312 Q_addItem 4 := ⟨lQ_312, mQ_addItem.1, mQ_addItem.2.1, mQ_addItem.2.2.1, mQ_addItem.2.2.2.1, mQ_addItem.2.2.2.2, ⟨by decide, by decide⟩⟩
theorem kQ_readItem_304 : CkV Q_readItem 304 Q_mayTell 3 := ⟨lQ_304, mQ_mayTell.1, mQ_mayTell.2.1, mQ_mayTell.2.2.1, mQ_mayTell.2.2.2.1, mQ_mayTell.2.2.2.2, ⟨by decide, by decide⟩⟩
theorem kQ_readItem_282 : CkV Q_readItem 282 Q_must 1 := ⟨lQ_282, mQ_must.1, mQ_must.2.1, mQ_must.2.2.1, mQ_must.2.2.2.1, mQ_must.2.2.2.2, ⟨by decide, by decide⟩⟩
theorem kQ_isWord_268 : CkV Q_isWord 268 JS_length 0 := ⟨lQ_268, mJS_length.1, mJS_length.2.1, mJS_length.2.2.1, mJS_length.2.2.2.1, mJS_length.2.2.2.2, ⟨by decide, by decide⟩⟩
theorem kQ_isWord_271 : CkV Q_isWord 271 JS_charAt 1 := ⟨lQ_271, mJS_charAt.1, mJS_charAt.2.1, mJS_charAt.2.2.1, mJS_charAt.2.2.2.1, mJS_charAt.2.2.2.2, ⟨by decide, by decide⟩⟩
theorem kQ_readSheep_282 : CkV Q_readSheep 282 Q_must 1 := ⟨lQ_282, mQ_must.1, mQ_must.2.1, mQ_must.2.2.1, mQ_must.2.2.2.1, mQ_must.2.2.2.2, ⟨by decide, by decide⟩⟩
theorem kQ_readSheep_304 : CkV Q_readSheep 304 Q_mayTell 3 := ⟨lQ_304, mQ_mayTell.1, mQ_mayTell.2.1, mQ_mayTell.2.2.1, mQ_mayTell.2.2.2.1, mQ_mayTell.2.2.2.2, ⟨by decide, by decide⟩⟩
theorem kQ_readSheep_312 : CkV Q_readSheep 312 Q_addItem 4 := ⟨lQ_312, mQ_addItem.1, mQ_addItem.2.1, mQ_addItem.2.2.1, mQ_addItem.2.2.2.1, mQ_addItem.2.2.2.2, ⟨by decide, by decide⟩⟩
theorem kQ_must_279 : CkV Q_must 279 Q_token 0 := ⟨lQ_279, mQ_token.1, mQ_token.2.1, mQ_token.2.2.1, mQ_token.2.2.2.1, mQ_token.2.2.2.2, ⟨by decide, by decide⟩⟩
theorem kQ_mayTell_293 : CkV Q_mayTell 293 Q_takesWord 1 := ⟨lQ_293, mQ_takesWord.1, mQ_takesWord.2.1, mQ_takesWord.2.2.1, mQ_takesWord.2.2.2.1, mQ_takesWord.2.2.2.2, ⟨by decide, by decide⟩⟩
theorem kQ_mayTell_296 : CkV Q_mayTell 296 Q_number 2 := ⟨lQ_296, mQ_number.1, mQ_number.2.1, mQ_number.2.2.1, mQ_number.2.2.2.1, mQ_number.2.2.2.2, ⟨by decide, by decide⟩⟩
theorem kQ_takesWord_289 : CkV Q_takesWord 289 Q_isWord 1 := ⟨lQ_289, mQ_isWord.1, mQ_isWord.2.1, mQ_isWord.2.2.1, mQ_isWord.2.2.2.1, mQ_isWord.2.2.2.2, ⟨by decide, by decide⟩⟩
theorem kQ_takesWord_282 : CkV Q_takesWord 282 Q_must 1 := ⟨lQ_282, mQ_must.1, mQ_must.2.1, mQ_must.2.2.1, mQ_must.2.2.2.1, mQ_must.2.2.2.2, ⟨by decide, by decide⟩⟩
theorem kQ_number_79 : CkS Q_number 79 Q_within 3 := ⟨lQ_79, mQ_within.1, mQ_within.2.1, mQ_within.2.2.1, mQ_within.2.2.2, ⟨by decide, by decide⟩⟩
theorem kQ_number_282 : CkV Q_number 282 Q_must 1 := ⟨lQ_282, mQ_must.1, mQ_must.2.1, mQ_must.2.2.1, mQ_must.2.2.2.1, mQ_must.2.2.2.2, ⟨by decide, by decide⟩⟩
theorem kQ_isToldSo_87 : CkV Q_isToldSo 87 Q_keeperAt 1 := ⟨lQ_87, mQ_keeperAt.1, mQ_keeperAt.2.1, mQ_keeperAt.2.2.1, mQ_keeperAt.2.2.2.1, mQ_keeperAt.2.2.2.2, ⟨by decide, by decide⟩⟩
theorem kQ_isToldSo_105 : CkV Q_isToldSo 105 Q_comes 2 := ⟨lQ_105, mQ_comes.1, mQ_comes.2.1, mQ_comes.2.2.1, mQ_comes.2.2.2.1, mQ_comes.2.2.2.2, ⟨by decide, by decide⟩⟩
theorem kQ_isToldSo_83 : CkS Q_isToldSo 83 Q_sheepAt 2 := ⟨lQ_83, mQ_sheepAt.1, mQ_sheepAt.2.1, mQ_sheepAt.2.2.1, mQ_sheepAt.2.2.2, ⟨by decide, by decide⟩⟩
theorem kQ_hold_333 : CkS Q_hold 333 Q_isSpot 1 := ⟨lQ_333, mQ_isSpot.1, mQ_isSpot.2.1, mQ_isSpot.2.2.1, mQ_isSpot.2.2.2, ⟨by decide, by decide⟩⟩
theorem kQ_hold_119 : CkV Q_hold 119 Q_isSheep 1 := ⟨lQ_119, mQ_isSheep.1, mQ_isSheep.2.1, mQ_isSheep.2.2.1, mQ_isSheep.2.2.2.1, mQ_isSheep.2.2.2.2, ⟨by decide, by decide⟩⟩
theorem kQ_hold_75 : CkV Q_hold 75 Q_finding 1 := ⟨lQ_75, mQ_finding.1, mQ_finding.2.1, mQ_finding.2.2.1, mQ_finding.2.2.2.1, mQ_finding.2.2.2.2, ⟨by decide, by decide⟩⟩
theorem kQ_isSpot_79 : CkS Q_isSpot 79 Q_within 3 := ⟨lQ_79, mQ_within.1, mQ_within.2.1, mQ_within.2.2.1, mQ_within.2.2.2, ⟨by decide, by decide⟩⟩
theorem kQ_as_333 : CkS Q_as 333 Q_isSpot 1 := ⟨lQ_333, mQ_isSpot.1, mQ_isSpot.2.1, mQ_isSpot.2.2.1, mQ_isSpot.2.2.2, ⟨by decide, by decide⟩⟩
theorem kQ_as_101 : CkS Q_as 101 Q_isKind 1 := ⟨lQ_101, mQ_isKind.1, mQ_isKind.2.1, mQ_isKind.2.2.1, mQ_isKind.2.2.2, ⟨by decide, by decide⟩⟩
theorem kQ_as_75 : CkV Q_as 75 Q_finding 1 := ⟨lQ_75, mQ_finding.1, mQ_finding.2.1, mQ_finding.2.2.1, mQ_finding.2.2.2.1, mQ_finding.2.2.2.2, ⟨by decide, by decide⟩⟩
theorem kQ_as_108 : CkV Q_as 108 Q_sheepIs 2 := ⟨lQ_108, mQ_sheepIs.1, mQ_sheepIs.2.1, mQ_sheepIs.2.2.1, mQ_sheepIs.2.2.2.1, mQ_sheepIs.2.2.2.2, ⟨by decide, by decide⟩⟩
theorem kQ_as_336 : CkS Q_as 336 Q_isUnder 2 := ⟨lQ_336, mQ_isUnder.1, mQ_isUnder.2.1, mQ_isUnder.2.2.1, mQ_isUnder.2.2.2, ⟨by decide, by decide⟩⟩
theorem kQ_isUnder_344 : CkS Q_isUnder 344 Q_above 1 := ⟨lQ_344, mQ_above.1, mQ_above.2.1, mQ_above.2.2.1, mQ_above.2.2.2, ⟨by decide, by decide⟩⟩
theorem kQ_sheet_231 : CkS Q_sheet 231 Q_isSheet 1 := ⟨lQ_231, mQ_isSheet.1, mQ_isSheet.2.1, mQ_isSheet.2.2.1, mQ_isSheet.2.2.2, ⟨by decide, by decide⟩⟩
theorem kQ_sheet_75 : CkV Q_sheet 75 Q_finding 1 := ⟨lQ_75, mQ_finding.1, mQ_finding.2.1, mQ_finding.2.2.1, mQ_finding.2.2.2.1, mQ_finding.2.2.2.2, ⟨by decide, by decide⟩⟩
theorem kQ_write_231 : CkS Q_write 231 Q_isSheet 1 := ⟨lQ_231, mQ_isSheet.1, mQ_isSheet.2.1, mQ_isSheet.2.2.1, mQ_isSheet.2.2.2, ⟨by decide, by decide⟩⟩
theorem kQ_write_75 : CkV Q_write 75 Q_finding 1 := ⟨lQ_75, mQ_finding.1, mQ_finding.2.1, mQ_finding.2.2.1, mQ_finding.2.2.2.1, mQ_finding.2.2.2.2, ⟨by decide, by decide⟩⟩
theorem kQ_write_79 : CkS Q_write 79 Q_within 3 := ⟨lQ_79, mQ_within.1, mQ_within.2.1, mQ_within.2.2.1, mQ_within.2.2.2, ⟨by decide, by decide⟩⟩
theorem kQ_write_341 : CkS Q_write 341 Q_cutTo 2 := ⟨lQ_341, mQ_cutTo.1, mQ_cutTo.2.1, mQ_cutTo.2.2.1, mQ_cutTo.2.2.2, ⟨by decide, by decide⟩⟩
theorem kQ_copy_231 : CkS Q_copy 231 Q_isSheet 1 := ⟨lQ_231, mQ_isSheet.1, mQ_isSheet.2.1, mQ_isSheet.2.2.1, mQ_isSheet.2.2.2, ⟨by decide, by decide⟩⟩
theorem kQ_copy_75 : CkV Q_copy 75 Q_finding 1 := ⟨lQ_75, mQ_finding.1, mQ_finding.2.1, mQ_finding.2.2.1, mQ_finding.2.2.2.1, mQ_finding.2.2.2.2, ⟨by decide, by decide⟩⟩
theorem kQ_load_238 : CkV Q_load 238 Q_lacks 2 := ⟨lQ_238, mQ_lacks.1, mQ_lacks.2.1, mQ_lacks.2.2.1, mQ_lacks.2.2.2.1, mQ_lacks.2.2.2.2, ⟨by decide, by decide⟩⟩
theorem kQ_load_75 : CkV Q_load 75 Q_finding 1 := ⟨lQ_75, mQ_finding.1, mQ_finding.2.1, mQ_finding.2.2.1, mQ_finding.2.2.2.1, mQ_finding.2.2.2.2, ⟨by decide, by decide⟩⟩
theorem kQ_load_119 : CkV Q_load 119 Q_isSheep 1 := ⟨lQ_119, mQ_isSheep.1, mQ_isSheep.2.1, mQ_isSheep.2.2.1, mQ_isSheep.2.2.2.1, mQ_isSheep.2.2.2.2, ⟨by decide, by decide⟩⟩
theorem kQ_load_79 : CkS Q_load 79 Q_within 3 := ⟨lQ_79, mQ_within.1, mQ_within.2.1, mQ_within.2.2.1, mQ_within.2.2.2, ⟨by decide, by decide⟩⟩
theorem kQ_load_83 : CkS Q_load 83 Q_sheepAt 2 := ⟨lQ_83, mQ_sheepAt.1, mQ_sheepAt.2.1, mQ_sheepAt.2.2.1, mQ_sheepAt.2.2.2, ⟨by decide, by decide⟩⟩
theorem kQ_judge_238 : CkV Q_judge 238 Q_lacks 2 := ⟨lQ_238, mQ_lacks.1, mQ_lacks.2.1, mQ_lacks.2.2.1, mQ_lacks.2.2.2.1, mQ_lacks.2.2.2.2, ⟨by decide, by decide⟩⟩
theorem kQ_judge_75 : CkV Q_judge 75 Q_finding 1 := ⟨lQ_75, mQ_finding.1, mQ_finding.2.1, mQ_finding.2.2.1, mQ_finding.2.2.2.1, mQ_finding.2.2.2.2, ⟨by decide, by decide⟩⟩
theorem kQ_judge_119 : CkV Q_judge 119 Q_isSheep 1 := ⟨lQ_119, mQ_isSheep.1, mQ_isSheep.2.1, mQ_isSheep.2.2.1, mQ_isSheep.2.2.2.1, mQ_isSheep.2.2.2.2, ⟨by decide, by decide⟩⟩
theorem kQ_judge_108 : CkV Q_judge 108 Q_sheepIs 2 := ⟨lQ_108, mQ_sheepIs.1, mQ_sheepIs.2.1, mQ_sheepIs.2.2.1, mQ_sheepIs.2.2.2.1, mQ_sheepIs.2.2.2.2, ⟨by decide, by decide⟩⟩
theorem kQ_image_70 : CkS Q_image 70 Q_copyRow 2 := ⟨lQ_70, mQ_copyRow.1, mQ_copyRow.2.1, mQ_copyRow.2.2.1, mQ_copyRow.2.2.2, ⟨by decide, by decide⟩⟩
theorem kQ_undo_75 : CkV Q_undo 75 Q_finding 1 := ⟨lQ_75, mQ_finding.1, mQ_finding.2.1, mQ_finding.2.2.1, mQ_finding.2.2.2.1, mQ_finding.2.2.2.2, ⟨by decide, by decide⟩⟩
theorem kQ_undo_70 : CkS Q_undo 70 Q_copyRow 2 := ⟨lQ_70, mQ_copyRow.1, mQ_copyRow.2.1, mQ_copyRow.2.2.1, mQ_copyRow.2.2.2, ⟨by decide, by decide⟩⟩
theorem kQ_count_194 : CkV Q_count 194 Q_sumOf 1 := ⟨lQ_194, mQ_sumOf.1, mQ_sumOf.2.1, mQ_sumOf.2.2.1, mQ_sumOf.2.2.2.1, mQ_sumOf.2.2.2.2, ⟨by decide, by decide⟩⟩
theorem kQ_count_75 : CkV Q_count 75 Q_finding 1 := ⟨lQ_75, mQ_finding.1, mQ_finding.2.1, mQ_finding.2.2.1, mQ_finding.2.2.2.1, mQ_finding.2.2.2.2, ⟨by decide, by decide⟩⟩
theorem kQ_status_79 : CkS Q_status 79 Q_within 3 := ⟨lQ_79, mQ_within.1, mQ_within.2.1, mQ_within.2.2.1, mQ_within.2.2.2, ⟨by decide, by decide⟩⟩
theorem kQ_status_75 : CkV Q_status 75 Q_finding 1 := ⟨lQ_75, mQ_finding.1, mQ_finding.2.1, mQ_finding.2.2.1, mQ_finding.2.2.2.1, mQ_finding.2.2.2.2, ⟨by decide, by decide⟩⟩
