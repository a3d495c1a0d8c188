/-! what holds at the start: the String constants, the classes, the first world -/
def GW : List Cond := flatC (Jvm.Cond.and given_1 narrow_1)
theorem str_one {args : Array Value} {s : State} {tm : Term} {len : Nat} {byt : List Int32} {A : Nat → Prop} (hN : len < 2 ^ 31) (hex : (Cond.exactly tm "java/lang/String").before args s = true) (hco : (Cond.eq (.field tm "java/lang/String" "coder" "B") (.int 0)).before args s = true) (har : (Cond.arrayOf (.field tm "java/lang/String" "value" "[B") .byte).before args s = true) (hle : (Cond.eq (.length (.field tm "java/lang/String" "value" "[B")) (.int (Int32.ofNat len))).before args s = true)
    (hel : ∀ j : Nat, j < len → (Cond.eq (.elem (.field tm "java/lang/String" "value" "[B") (.int (Int32.ofNat j))) (.int (byt.getD j 0))).before args s = true) (hA : ∀ a : Nat, a < s.heap.size → ¬ A a) :
    ∃ q : Nat × Nat, tm.eval args s none [] s = some (.ref q.1) ∧ va_O "java/lang/String" q.1 A s s.heap ∧ va_OF "java/lang/String" "coder" "B" (.int 0) q.1 A s s.heap ∧ va_OF "java/lang/String" "value" "[B" (.ref q.2) q.1 A s s.heap ∧ va_T .byte q.2 len (fun j => .int (byt.getD j 0)) A s s.heap := by
  obtain ⟨a, c, cA, kA, q1, q2, q3, q4, q5, q6, -⟩ := Cond.exactly_spec (args := args) (first := s) (o := none) (s := s) (idx := []) (t := tm) (cls := "java/lang/String") hex
  obtain ⟨t, ht, hT⟩ := va_Tof (f := fun j => .int (byt.getD j 0)) (A := A) hN har (va_eqt hle) (fun j hj => va_eqt (hel j hj)) hA
  exact ⟨(a, t), q1, ⟨cA, q3, q5, by rw [q6]; exact q2, hA a (Array.getElem?_eq_some_iff.mp q3).1⟩, vk_OFof q1 (va_eqt hco) hA, vk_OFof q1 ht hA, hT⟩
def kT : List Nat := [120, 108, 110, 112, 114, 116, 118, 47, 56, 61, 72, 81, 85, 97]
def SWT : List (String × Nat × Nat) := [("StraySheep$Tape", 120, 0), ("StraySheep$Tape", 108, 1), ("StraySheep$Tape", 110, 2), ("StraySheep$Tape", 112, 3), ("StraySheep$Tape", 114, 4), ("StraySheep$Tape", 116, 5), ("StraySheep$Tape", 118, 6), ("StraySheep$Tape", 47, 7), ("StraySheep$Tape", 56, 8), ("StraySheep$Tape", 61, 9), ("StraySheep$Tape", 72, 10), ("StraySheep$Tape", 81, 11), ("StraySheep$Tape", 85, 12), ("StraySheep$Tape", 97, 13), ("StraySheepModel", 27, 0), ("StraySheepModel", 29, 1), ("StraySheepModel", 31, 2), ("StraySheepModel", 33, 3), ("StraySheepModel", 35, 4), ("StraySheepModel", 37, 5), ("StraySheepModel", 39, 6), ("StraySheepModel", 319, 7), ("StraySheepModel", 321, 8), ("StraySheepModel", 323, 9), ("StraySheepModel", 302, 10), ("StraySheepModel", 308, 11), ("StraySheepModel", 310, 12), ("StraySheepModel", 325, 13)]
theorem str_at {args : Array Value} {s : State} {A : Nat → Prop} (hg : ∀ c ∈ GW, c.before args s = true) (hA : ∀ a : Nat, a < s.heap.size → ¬ A a) (i : Nat) (hi : i < 14) : ∃ q : Nat × Nat, (Term.string "StraySheep$Tape" (kT.getD i 0)).eval args s none [] s = some (.ref q.1) ∧ va_O "java/lang/String" q.1 A s s.heap ∧ va_OF "java/lang/String" "coder" "B" (.int 0) q.1 A s s.heap ∧ va_OF "java/lang/String" "value" "[B" (.ref q.2) q.1 A s s.heap ∧ va_T .byte q.2 (sBy.getD i []).length (fun j => .int ((sBy.getD i []).getD j 0)) A s s.heap := by
  match i, hi with
  | 0, _ =>
    refine str_one (len := 5) (byt := [115, 104, 101, 101, 112]) (by decide) (hg _ (List.mem_of_getElem? (i := 63) (by decide +kernel))) (hg _ (List.mem_of_getElem? (i := 64) (by decide +kernel))) (hg _ (List.mem_of_getElem? (i := 65) (by decide +kernel))) (hg _ (List.mem_of_getElem? (i := 66) (by decide +kernel))) (fun j hj => ?_) hA
    match j, hj with
    | 0, _ => exact hg _ (List.mem_of_getElem? (i := 67) (by decide +kernel))
    | 1, _ => exact hg _ (List.mem_of_getElem? (i := 68) (by decide +kernel))
    | 2, _ => exact hg _ (List.mem_of_getElem? (i := 69) (by decide +kernel))
    | 3, _ => exact hg _ (List.mem_of_getElem? (i := 70) (by decide +kernel))
    | 4, _ => exact hg _ (List.mem_of_getElem? (i := 71) (by decide +kernel))
    | j + 5, hh => exact absurd hh (by omega)
  | 1, _ =>
    refine str_one (len := 3) (byt := [114, 97, 109]) (by decide) (hg _ (List.mem_of_getElem? (i := 9) (by decide +kernel))) (hg _ (List.mem_of_getElem? (i := 10) (by decide +kernel))) (hg _ (List.mem_of_getElem? (i := 11) (by decide +kernel))) (hg _ (List.mem_of_getElem? (i := 12) (by decide +kernel))) (fun j hj => ?_) hA
    match j, hj with
    | 0, _ => exact hg _ (List.mem_of_getElem? (i := 13) (by decide +kernel))
    | 1, _ => exact hg _ (List.mem_of_getElem? (i := 14) (by decide +kernel))
    | 2, _ => exact hg _ (List.mem_of_getElem? (i := 15) (by decide +kernel))
    | j + 3, hh => exact absurd hh (by omega)
  | 2, _ =>
    refine str_one (len := 3) (byt := [101, 119, 101]) (by decide) (hg _ (List.mem_of_getElem? (i := 16) (by decide +kernel))) (hg _ (List.mem_of_getElem? (i := 17) (by decide +kernel))) (hg _ (List.mem_of_getElem? (i := 18) (by decide +kernel))) (hg _ (List.mem_of_getElem? (i := 19) (by decide +kernel))) (fun j hj => ?_) hA
    match j, hj with
    | 0, _ => exact hg _ (List.mem_of_getElem? (i := 20) (by decide +kernel))
    | 1, _ => exact hg _ (List.mem_of_getElem? (i := 21) (by decide +kernel))
    | 2, _ => exact hg _ (List.mem_of_getElem? (i := 22) (by decide +kernel))
    | j + 3, hh => exact absurd hh (by omega)
  | 3, _ =>
    refine str_one (len := 4) (byt := [108, 97, 109, 98]) (by decide) (hg _ (List.mem_of_getElem? (i := 23) (by decide +kernel))) (hg _ (List.mem_of_getElem? (i := 24) (by decide +kernel))) (hg _ (List.mem_of_getElem? (i := 25) (by decide +kernel))) (hg _ (List.mem_of_getElem? (i := 26) (by decide +kernel))) (fun j hj => ?_) hA
    match j, hj with
    | 0, _ => exact hg _ (List.mem_of_getElem? (i := 27) (by decide +kernel))
    | 1, _ => exact hg _ (List.mem_of_getElem? (i := 28) (by decide +kernel))
    | 2, _ => exact hg _ (List.mem_of_getElem? (i := 29) (by decide +kernel))
    | 3, _ => exact hg _ (List.mem_of_getElem? (i := 30) (by decide +kernel))
    | j + 4, hh => exact absurd hh (by omega)
  | 4, _ =>
    refine str_one (len := 6) (byt := [111, 114, 112, 104, 97, 110]) (by decide) (hg _ (List.mem_of_getElem? (i := 31) (by decide +kernel))) (hg _ (List.mem_of_getElem? (i := 32) (by decide +kernel))) (hg _ (List.mem_of_getElem? (i := 33) (by decide +kernel))) (hg _ (List.mem_of_getElem? (i := 34) (by decide +kernel))) (fun j hj => ?_) hA
    match j, hj with
    | 0, _ => exact hg _ (List.mem_of_getElem? (i := 35) (by decide +kernel))
    | 1, _ => exact hg _ (List.mem_of_getElem? (i := 36) (by decide +kernel))
    | 2, _ => exact hg _ (List.mem_of_getElem? (i := 37) (by decide +kernel))
    | 3, _ => exact hg _ (List.mem_of_getElem? (i := 38) (by decide +kernel))
    | 4, _ => exact hg _ (List.mem_of_getElem? (i := 39) (by decide +kernel))
    | 5, _ => exact hg _ (List.mem_of_getElem? (i := 40) (by decide +kernel))
    | j + 6, hh => exact absurd hh (by omega)
  | 5, _ =>
    refine str_one (len := 8) (byt := [119, 97, 110, 100, 101, 114, 101, 114]) (by decide) (hg _ (List.mem_of_getElem? (i := 41) (by decide +kernel))) (hg _ (List.mem_of_getElem? (i := 42) (by decide +kernel))) (hg _ (List.mem_of_getElem? (i := 43) (by decide +kernel))) (hg _ (List.mem_of_getElem? (i := 44) (by decide +kernel))) (fun j hj => ?_) hA
    match j, hj with
    | 0, _ => exact hg _ (List.mem_of_getElem? (i := 45) (by decide +kernel))
    | 1, _ => exact hg _ (List.mem_of_getElem? (i := 46) (by decide +kernel))
    | 2, _ => exact hg _ (List.mem_of_getElem? (i := 47) (by decide +kernel))
    | 3, _ => exact hg _ (List.mem_of_getElem? (i := 48) (by decide +kernel))
    | 4, _ => exact hg _ (List.mem_of_getElem? (i := 49) (by decide +kernel))
    | 5, _ => exact hg _ (List.mem_of_getElem? (i := 50) (by decide +kernel))
    | 6, _ => exact hg _ (List.mem_of_getElem? (i := 51) (by decide +kernel))
    | 7, _ => exact hg _ (List.mem_of_getElem? (i := 52) (by decide +kernel))
    | j + 8, hh => exact absurd hh (by omega)
  | 6, _ =>
    refine str_one (len := 6) (byt := [108, 101, 97, 100, 101, 114]) (by decide) (hg _ (List.mem_of_getElem? (i := 53) (by decide +kernel))) (hg _ (List.mem_of_getElem? (i := 54) (by decide +kernel))) (hg _ (List.mem_of_getElem? (i := 55) (by decide +kernel))) (hg _ (List.mem_of_getElem? (i := 56) (by decide +kernel))) (fun j hj => ?_) hA
    match j, hj with
    | 0, _ => exact hg _ (List.mem_of_getElem? (i := 57) (by decide +kernel))
    | 1, _ => exact hg _ (List.mem_of_getElem? (i := 58) (by decide +kernel))
    | 2, _ => exact hg _ (List.mem_of_getElem? (i := 59) (by decide +kernel))
    | 3, _ => exact hg _ (List.mem_of_getElem? (i := 60) (by decide +kernel))
    | 4, _ => exact hg _ (List.mem_of_getElem? (i := 61) (by decide +kernel))
    | 5, _ => exact hg _ (List.mem_of_getElem? (i := 62) (by decide +kernel))
    | j + 6, hh => exact absurd hh (by omega)
  | 7, _ =>
    refine str_one (len := 4) (byt := [102, 111, 108, 100]) (by decide) (hg _ (List.mem_of_getElem? (i := 94) (by decide +kernel))) (hg _ (List.mem_of_getElem? (i := 95) (by decide +kernel))) (hg _ (List.mem_of_getElem? (i := 96) (by decide +kernel))) (hg _ (List.mem_of_getElem? (i := 97) (by decide +kernel))) (fun j hj => ?_) hA
    match j, hj with
    | 0, _ => exact hg _ (List.mem_of_getElem? (i := 98) (by decide +kernel))
    | 1, _ => exact hg _ (List.mem_of_getElem? (i := 99) (by decide +kernel))
    | 2, _ => exact hg _ (List.mem_of_getElem? (i := 100) (by decide +kernel))
    | 3, _ => exact hg _ (List.mem_of_getElem? (i := 101) (by decide +kernel))
    | j + 4, hh => exact absurd hh (by omega)
  | 8, _ =>
    refine str_one (len := 6) (byt := [107, 101, 101, 112, 101, 114]) (by decide) (hg _ (List.mem_of_getElem? (i := 102) (by decide +kernel))) (hg _ (List.mem_of_getElem? (i := 103) (by decide +kernel))) (hg _ (List.mem_of_getElem? (i := 104) (by decide +kernel))) (hg _ (List.mem_of_getElem? (i := 105) (by decide +kernel))) (fun j hj => ?_) hA
    match j, hj with
    | 0, _ => exact hg _ (List.mem_of_getElem? (i := 106) (by decide +kernel))
    | 1, _ => exact hg _ (List.mem_of_getElem? (i := 107) (by decide +kernel))
    | 2, _ => exact hg _ (List.mem_of_getElem? (i := 108) (by decide +kernel))
    | 3, _ => exact hg _ (List.mem_of_getElem? (i := 109) (by decide +kernel))
    | 4, _ => exact hg _ (List.mem_of_getElem? (i := 110) (by decide +kernel))
    | 5, _ => exact hg _ (List.mem_of_getElem? (i := 111) (by decide +kernel))
    | j + 6, hh => exact absurd hh (by omega)
  | 9, _ =>
    refine str_one (len := 4) (byt := [119, 111, 108, 102]) (by decide) (hg _ (List.mem_of_getElem? (i := 112) (by decide +kernel))) (hg _ (List.mem_of_getElem? (i := 113) (by decide +kernel))) (hg _ (List.mem_of_getElem? (i := 114) (by decide +kernel))) (hg _ (List.mem_of_getElem? (i := 115) (by decide +kernel))) (fun j hj => ?_) hA
    match j, hj with
    | 0, _ => exact hg _ (List.mem_of_getElem? (i := 116) (by decide +kernel))
    | 1, _ => exact hg _ (List.mem_of_getElem? (i := 117) (by decide +kernel))
    | 2, _ => exact hg _ (List.mem_of_getElem? (i := 118) (by decide +kernel))
    | 3, _ => exact hg _ (List.mem_of_getElem? (i := 119) (by decide +kernel))
    | j + 4, hh => exact absurd hh (by omega)
  | 10, _ =>
    refine str_one (len := 2) (byt := [97, 116]) (by decide) (hg _ (List.mem_of_getElem? (i := 72) (by decide +kernel))) (hg _ (List.mem_of_getElem? (i := 73) (by decide +kernel))) (hg _ (List.mem_of_getElem? (i := 74) (by decide +kernel))) (hg _ (List.mem_of_getElem? (i := 75) (by decide +kernel))) (fun j hj => ?_) hA
    match j, hj with
    | 0, _ => exact hg _ (List.mem_of_getElem? (i := 76) (by decide +kernel))
    | 1, _ => exact hg _ (List.mem_of_getElem? (i := 77) (by decide +kernel))
    | j + 2, hh => exact absurd hh (by omega)
  | 11, _ =>
    refine str_one (len := 4) (byt := [102, 101, 97, 114]) (by decide) (hg _ (List.mem_of_getElem? (i := 78) (by decide +kernel))) (hg _ (List.mem_of_getElem? (i := 79) (by decide +kernel))) (hg _ (List.mem_of_getElem? (i := 80) (by decide +kernel))) (hg _ (List.mem_of_getElem? (i := 81) (by decide +kernel))) (fun j hj => ?_) hA
    match j, hj with
    | 0, _ => exact hg _ (List.mem_of_getElem? (i := 82) (by decide +kernel))
    | 1, _ => exact hg _ (List.mem_of_getElem? (i := 83) (by decide +kernel))
    | 2, _ => exact hg _ (List.mem_of_getElem? (i := 84) (by decide +kernel))
    | 3, _ => exact hg _ (List.mem_of_getElem? (i := 85) (by decide +kernel))
    | j + 4, hh => exact absurd hh (by omega)
  | 12, _ =>
    refine str_one (len := 4) (byt := [108, 111, 115, 116]) (by decide) (hg _ (List.mem_of_getElem? (i := 86) (by decide +kernel))) (hg _ (List.mem_of_getElem? (i := 87) (by decide +kernel))) (hg _ (List.mem_of_getElem? (i := 88) (by decide +kernel))) (hg _ (List.mem_of_getElem? (i := 89) (by decide +kernel))) (fun j hj => ?_) hA
    match j, hj with
    | 0, _ => exact hg _ (List.mem_of_getElem? (i := 90) (by decide +kernel))
    | 1, _ => exact hg _ (List.mem_of_getElem? (i := 91) (by decide +kernel))
    | 2, _ => exact hg _ (List.mem_of_getElem? (i := 92) (by decide +kernel))
    | 3, _ => exact hg _ (List.mem_of_getElem? (i := 93) (by decide +kernel))
    | j + 4, hh => exact absurd hh (by omega)
  | 13, _ =>
    refine str_one (len := 4) (byt := [112, 97, 99, 101]) (by decide) (hg _ (List.mem_of_getElem? (i := 120) (by decide +kernel))) (hg _ (List.mem_of_getElem? (i := 121) (by decide +kernel))) (hg _ (List.mem_of_getElem? (i := 122) (by decide +kernel))) (hg _ (List.mem_of_getElem? (i := 123) (by decide +kernel))) (fun j hj => ?_) hA
    match j, hj with
    | 0, _ => exact hg _ (List.mem_of_getElem? (i := 124) (by decide +kernel))
    | 1, _ => exact hg _ (List.mem_of_getElem? (i := 125) (by decide +kernel))
    | 2, _ => exact hg _ (List.mem_of_getElem? (i := 126) (by decide +kernel))
    | 3, _ => exact hg _ (List.mem_of_getElem? (i := 127) (by decide +kernel))
    | j + 4, hh => exact absurd hh (by omega)
  | i + 14, hh => exact absurd hh (by omega)
theorem sw_all : lw_tbl.all (fun w => match w with | .stringRef o k t => !(sTx.contains t) || SWT.any (fun q => q.1 == o && (q.2.1 == k && sTx.getD q.2.2 "" == t)) | _ => true) = true := by decide +kernel
theorem sTx_inj : ∀ i, i < 14 → ∀ j, j < 14 → sTx.getD i "" = sTx.getD j "" → i = j := by decide +kernel
theorem sTx_in : ∀ i, i < 14 → sTx.contains (sTx.getD i "") = true := by decide +kernel
theorem SWT_lt : ∀ q ∈ SWT, q.2.2 < 14 := by decide +kernel
theorem sw_is {own : String} {k i : Nat} (hi : i < 14) (h : SW own k i) : (own, k, i) ∈ SWT := by
  have h1 := List.all_eq_true.mp sw_all _ h
  simp only [sTx_in i hi, Bool.not_true, Bool.false_or, List.any_eq_true, Bool.and_eq_true, beq_iff_eq] at h1
  obtain ⟨q, hq, e1, e2, e3⟩ := h1
  obtain ⟨q1, q2, q3⟩ := q
  have := sTx_inj _ (SWT_lt _ hq) _ hi e3
  subst e1
  subst e2
  dsimp only at this
  subst this
  exact hq
theorem start_str {args : Array Value} {s : State} {A : Nat → Prop} (hg : ∀ c ∈ GW, c.before args s = true) (hts : ∀ w ∈ lw_tbl, w.before args s = true) (hA : ∀ a : Nat, a < s.heap.size → ¬ A a) : ∃ str str2 : Nat → Nat, (∀ i, i < 14 → va_O "java/lang/String" (str i) A s s.heap ∧ va_OF "java/lang/String" "coder" "B" (.int 0) (str i) A s s.heap ∧ va_OF "java/lang/String" "value" "[B" (.ref (str2 i)) (str i) A s s.heap ∧ va_T .byte (str2 i) (sBy.getD i []).length (fun j => .int ((sBy.getD i []).getD j 0)) A s s.heap) ∧ ∀ own k i, i < 14 → SW own k i → vk_R own k (sTx.getD i "") (str i) s := by
  have h0 : ∀ i : Nat, ∃ q : Nat × Nat, i < 14 → (Term.string "StraySheep$Tape" (kT.getD i 0)).eval args s none [] s = some (.ref q.1) ∧ va_O "java/lang/String" q.1 A s s.heap ∧ va_OF "java/lang/String" "coder" "B" (.int 0) q.1 A s s.heap ∧ va_OF "java/lang/String" "value" "[B" (.ref q.2) q.1 A s s.heap ∧ va_T .byte q.2 (sBy.getD i []).length (fun j => .int ((sBy.getD i []).getD j 0)) A s s.heap := by
    intro i
    by_cases hi : i < 14
    · obtain ⟨q, hq⟩ := str_at hg hA i hi
      exact ⟨q, fun _ => hq⟩
    · exact ⟨(0, 0), fun h => absurd h hi⟩
  obtain ⟨ad, had⟩ := Classical.axiomOfChoice h0
  refine ⟨fun i => (ad i).1, fun i => (ad i).2, fun i hi => (had i hi).2, fun own k i hi hs => vk_R.of (hts _ hs) ?_⟩
  have hm := sw_is hi hs
  clear hs
  simp only [SWT, List.mem_cons, List.not_mem_nil, or_false, Prod.mk.injEq] at hm
  rcases hm with ⟨rfl, rfl, rfl⟩ | ⟨rfl, rfl, rfl⟩ | ⟨rfl, rfl, rfl⟩ | ⟨rfl, rfl, rfl⟩ | ⟨rfl, rfl, rfl⟩ | ⟨rfl, rfl, rfl⟩ | ⟨rfl, rfl, rfl⟩ | ⟨rfl, rfl, rfl⟩ | ⟨rfl, rfl, rfl⟩ | ⟨rfl, rfl, rfl⟩ | ⟨rfl, rfl, rfl⟩ | ⟨rfl, rfl, rfl⟩ | ⟨rfl, rfl, rfl⟩ | ⟨rfl, rfl, rfl⟩ | ⟨rfl, rfl, rfl⟩ | ⟨rfl, rfl, rfl⟩ | ⟨rfl, rfl, rfl⟩ | ⟨rfl, rfl, rfl⟩ | ⟨rfl, rfl, rfl⟩ | ⟨rfl, rfl, rfl⟩ | ⟨rfl, rfl, rfl⟩ | ⟨rfl, rfl, rfl⟩ | ⟨rfl, rfl, rfl⟩ | ⟨rfl, rfl, rfl⟩ | ⟨rfl, rfl, rfl⟩ | ⟨rfl, rfl, rfl⟩ | ⟨rfl, rfl, rfl⟩ | ⟨rfl, rfl, rfl⟩
  · exact (had 0 hi).1
  · exact (had 1 hi).1
  · exact (had 2 hi).1
  · exact (had 3 hi).1
  · exact (had 4 hi).1
  · exact (had 5 hi).1
  · exact (had 6 hi).1
  · exact (had 7 hi).1
  · exact (had 8 hi).1
  · exact (had 9 hi).1
  · exact (had 10 hi).1
  · exact (had 11 hi).1
  · exact (had 12 hi).1
  · exact (had 13 hi).1
  · exact va_eqR (hg _ (List.mem_of_getElem? (i := 137) (by decide +kernel))) (had 0 hi).1
  · exact va_eqR (hg _ (List.mem_of_getElem? (i := 145) (by decide +kernel))) (had 1 hi).1
  · exact va_eqR (hg _ (List.mem_of_getElem? (i := 153) (by decide +kernel))) (had 2 hi).1
  · exact va_eqR (hg _ (List.mem_of_getElem? (i := 162) (by decide +kernel))) (had 3 hi).1
  · exact va_eqR (hg _ (List.mem_of_getElem? (i := 173) (by decide +kernel))) (had 4 hi).1
  · exact va_eqR (hg _ (List.mem_of_getElem? (i := 186) (by decide +kernel))) (had 5 hi).1
  · exact va_eqR (hg _ (List.mem_of_getElem? (i := 197) (by decide +kernel))) (had 6 hi).1
  · exact va_eqR (hg _ (List.mem_of_getElem? (i := 231) (by decide +kernel))) (had 7 hi).1
  · exact va_eqR (hg _ (List.mem_of_getElem? (i := 242) (by decide +kernel))) (had 8 hi).1
  · exact va_eqR (hg _ (List.mem_of_getElem? (i := 251) (by decide +kernel))) (had 9 hi).1
  · exact va_eqR (hg _ (List.mem_of_getElem? (i := 204) (by decide +kernel))) (had 10 hi).1
  · exact va_eqR (hg _ (List.mem_of_getElem? (i := 213) (by decide +kernel))) (had 11 hi).1
  · exact va_eqR (hg _ (List.mem_of_getElem? (i := 222) (by decide +kernel))) (had 12 hi).1
  · exact va_eqR (hg _ (List.mem_of_getElem? (i := 260) (by decide +kernel))) (had 13 hi).1
theorem int_arr {args : Array Value} {s : State} (h : (Cond.arrayClass .int).before args s = true) : ∃ cI, ArrOfT s cI .int ∧ va_RA s cI .int := by
  obtain ⟨c, k, comp, h1, h2, h3⟩ := Cond.arrayClass_spec h
  exact ⟨c, fun n z => ⟨fun k h => (by cases h), k, h2, comp, h3⟩, h1⟩
theorem NW_lw {w : Cond} (h : w ∈ NW) : w ∈ lw_tbl := (List.mem_filter.mp h).1
theorem RM_0 : RM w00 w00 := ⟨by decide +kernel, by decide +kernel, fun h => absurd (by decide +kernel) h, by decide +kernel, by decide +kernel, by decide +kernel, by decide +kernel, by decide +kernel, by decide +kernel⟩
theorem IVW_0 : IVW 0 w00 := ⟨⟨0, ⟨⟨by decide +kernel, by decide, by decide +kernel, by decide +kernel, Or.inl (by decide +kernel), by decide +kernel, by decide +kernel, by decide +kernel⟩, (by unfold shOK; decide +kernel)⟩, fun i hi => Or.inl ((by decide +kernel : ∀ i, i < 10 → w00 19 i = -1) i hi)⟩, fun h => absurd (by decide +kernel) h, fun q hq => ⟨0, by decide, (by decide +kernel : ∀ q, q < 4 → w00 (24 + 2 * q) 1 = nI 0) q hq⟩, ⟨0, by decide, by decide +kernel⟩, by decide +kernel⟩
