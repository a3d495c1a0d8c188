theorem g_drop {l : Launch} {g : GG} {M : MM} {pc : Nat} {lv lv2 : List (Option Value)} {st : List Value} {w : Wd} {Q : Option Value → Wd → Prop} (i : Nat) (he : lv.set i none = lv2) (k : Go l g M pc lv2 st w Q) : Go l g M pc lv st w Q := by
  subst he
  intro p e s m args below meth c H locs ls F hP hS hl
  refine k p e s m args below meth c H locs ls F hP hS ⟨hl.1, hl.2.1, fun j v hj => hl.2.2 j v ?_⟩
  by_cases hji : j = i
  · subst hji
    have hl2 : j < lv.length := by have := (List.getElem?_eq_some_iff.mp hj).1; rw [List.length_set] at this; exact this
    rw [List.getElem?_set_self hl2] at hj
    cases hj
  · rwa [List.getElem?_set_ne (Ne.symm hji)] at hj
theorem at_eq (j f : Nat) : (18 : Int32) + 5 * nI j + nI f = nI (18 + 5 * j + f) := by
  rw [show (18 : Int32) = nI 18 from rfl, show (5 : Int32) = nI 5 from rfl, pk_mul, nI_add, nI_add]
abbrev alF (f : Nat → Int32) (i n : Nat) : Prop := ∀ o, o < n → (o = i ∨ ¬ f o = f i)
theorem al_step (f : Nat → Int32) (j i : Nat) (hi : i < 8) (hj : j < 8) : bI (alF f j (i + 1)) = if bI (alF f j i) = 0 then 0 else if nI i = nI j then 1 else if f i = f j then 0 else 1 := by
  have hij : nI i = nI j ↔ i = j := nI_eq (by omega) (by omega)
  by_cases h : alF f j i
  · rw [bI_t h, if_neg (by decide)]
    by_cases h2 : i = j ∨ ¬ f i = f j
    · rw [bI_t (lt_s h h2)]
      rcases h2 with rfl | h2
      · rw [if_pos rfl]
      · rw [if_neg h2]; split <;> rfl
    · rw [bI_f (fun z => h2 (z i (by omega))), if_neg (fun z => h2 (Or.inl (hij.mp z))), if_pos (Classical.not_not.mp (fun z => h2 (Or.inr z)))]
  · rw [bI_f h, bI_f (fun z => h (fun o ho => z o (by omega))), if_pos rfl]
def straysM (A : HA) (n j : Nat) : Int32 := if A.2.1 j = 1 then ramF A j else if A.2.1 j = 2 then eweF A j else if A.2.1 j = 3 then 2 * eweF A j else if A.2.1 j = 4 then (if alF A.2.2.1 j n then 2 * eweF A j else 0) else if A.2.1 j = 5 then 2 else if A.2.1 j = 6 then ramF A j - 1 else plainF A
def fearsM (k : Int32) : Int32 := if k = 0 then 10 else if k = 1 then 5 else if k = 2 then 20 else if k = 3 then 25 else if k = 4 then 25 else 0
def stSM (t : Int32) (n s : Nat) (A : HA) : HA := if ¬ nI s = A.1 2 ∧ ¬ t >>> (nI s &&& 31) &&& 1 = 1 then sC A s (sfF (A.1 0) (A.2.2.1 s) (straysM A n s)) else A
def stM (t : Int32) (n : Nat) : Nat → HA → HA
  | 0, A => A
  | s + 1, A => stSM t n s (stM t n s A)
def neM (f : Nat → Int32) (ca wo : Int32) : Nat → Int32 × Int32
  | 0 => (-1, 16)
  | n + 1 => (if (if nI n = ca then 16 else abI (f n - wo)) < (neM f ca wo n).2 then nI n else (neM f ca wo n).1, mnI (neM f ca wo n).2 (if nI n = ca then 16 else abI (f n - wo)))
def frSM (s : Nat) (A : HA) : HA := sF A s (mnI 99 (A.2.2.2.1 s + (if ¬ nI s = A.1 2 ∧ abI (A.2.2.1 s - A.1 3) ≤ 2 then fearsM (A.2.1 s) else 0)))
def frM : Nat → HA → HA
  | 0, A => A
  | s + 1, A => frSM s (frM s A)
def wmM (n : Nat) (A : HA) : HA := if (neM A.2.2.1 (A.1 2) (A.1 3) n).1 < 0 then A else sS A 3 (tow (A.1 3) (A.2.2.1 (neM A.2.2.1 (A.1 2) (A.1 3) n).1.toNatClampNeg) (A.1 4))
def prM (n : Nat) (A : HA) : HA := if A.1 3 < 0 ∨ abI (A.1 3 - A.1 1) ≤ 1 then A else frM n (wmM n A)
def soM (f : Nat → Int32) (fo : Int32) : Nat → Int32 × Int32
  | 0 => (-1, 2)
  | n + 1 => (if (soM f fo n).2 < abI (f n - fo) then nI n else (soM f fo n).1, mxI (soM f fo n).2 (abI (f n - fo)))
def maM (f : Nat → Int32) : Nat → Int32 × Int32
  | 0 => (-1, -1)
  | n + 1 => (if (maM f n).2 < f n then nI n else (maM f n).1, mxI (maM f n).2 (f n))
def lsM (f : Nat → Int32) (fo : Int32) : Nat → Int32
  | 0 => 0
  | n + 1 => lsM f fo n ||| (if 3 ≤ abI (f n - fo) then bitI n else 0)
def mkM (v : Int32) (A : HA) : HA := if A.1 2 < 0 then sS A 1 v else sC (sS A 1 v) (A.1 2).toNatClampNeg v
def ca1M (A : HA) : HA := mkM (tow (A.1 1) (A.1 0) (lightK (A.2.1 (A.1 2).toNatClampNeg))) A
def ca2M (s : Nat) (B : HA) : HA := if B.1 1 = B.1 0 then sS (sF (sO B s (mnI 9999 (B.2.2.2.2.2 s + 1))) s 0) 2 (-1) else B
def caM (A : HA) : HA := ca2M (A.1 2).toNatClampNeg (ca1M A)
def se1M (i : Int32) (A : HA) : HA := sS A 1 (tow (A.1 1) (if i < 0 then A.1 0 else A.2.2.1 i.toNatClampNeg) 2)
def se2M (i : Int32) (B : HA) : HA := if 0 ≤ i ∧ B.1 1 = B.2.2.1 i.toNatClampNeg then sS B 2 i else B
def seM (n : Nat) (A : HA) : HA := se2M (soM A.2.2.1 (A.1 0) n).1 (se1M (soM A.2.2.1 (A.1 0) n).1 A)
def teM (n : Nat) (A : HA) : HA := if A.1 2 < 0 then seM n A else caM A
def ttSM (s : Nat) (A : HA) : HA := sF (sL A s (if abI (A.2.2.1 s - A.1 0) = 0 then 0 else mnI 9999 (A.2.2.2.2.1 s + 1))) s (mxI 0 (A.2.2.2.1 s - calmsK (A.2.1 s)))
def ttM : Nat → HA → HA
  | 0, A => A
  | s + 1, A => ttSM s (ttM s A)
def enM (B : HA) : HA := sS B 5 (B.1 5 + 1)
def hourM (t : Int32) (n : Nat) (A : HA) : HA := enM (ttM n (teM n (prM n (stM t n n A))))
def hoursM (t : Int32) (n : Nat) : Nat → HA → HA
  | 0, A => A
  | m + 1, A => hourM t n (hoursM t n m A)
def carM (n : Nat) (A : HA) : Prop := A.1 2 < 0 ∨ ∃ c, c < n ∧ A.1 2 = nI c
theorem stSM_S (t : Int32) (n s : Nat) (A : HA) : (stSM t n s A).1 = A.1 := by unfold stSM; split <;> rfl
theorem stM_S (t : Int32) (n : Nat) (A : HA) : ∀ s, (stM t n s A).1 = A.1
  | 0 => rfl
  | s + 1 => (stSM_S t n s _).trans (stM_S t n A s)
theorem frM_S (A : HA) : ∀ s, (frM s A).1 = A.1
  | 0 => rfl
  | s + 1 => frM_S A s
theorem ttM_S (A : HA) : ∀ s, (ttM s A).1 = A.1
  | 0 => rfl
  | s + 1 => ttM_S A s
theorem wmM_6 (n : Nat) (A : HA) : (wmM n A).1 6 = A.1 6 := by unfold wmM; split <;> rfl
theorem wmM_2 (n : Nat) (A : HA) : (wmM n A).1 2 = A.1 2 := by unfold wmM; split <;> rfl
theorem prM_6 (n : Nat) (A : HA) : (prM n A).1 6 = A.1 6 := by
  unfold prM; split
  · rfl
  · rw [frM_S, wmM_6]
theorem prM_2 (n : Nat) (A : HA) : (prM n A).1 2 = A.1 2 := by
  unfold prM; split
  · rfl
  · rw [frM_S, wmM_2]
theorem teM_6 (n : Nat) (A : HA) : (teM n A).1 6 = A.1 6 := by
  unfold teM seM se2M se1M caM ca2M ca1M mkM
  repeat' split
  all_goals rfl
theorem hourM_6 (t : Int32) (n : Nat) (A : HA) : (hourM t n A).1 6 = A.1 6 := by
  show (ttM n (teM n (prM n (stM t n n A)))).1 6 = _
  rw [ttM_S, teM_6, prM_6, stM_S]
theorem hoursM_6 (t : Int32) (n : Nat) (A : HA) : ∀ m, (hoursM t n m A).1 6 = A.1 6
  | 0 => rfl
  | m + 1 => (hourM_6 t n _).trans (hoursM_6 t n A m)
theorem soM_lt (f : Nat → Int32) (fo : Int32) : ∀ n, (soM f fo n).1 = -1 ∨ ∃ c, c < n ∧ (soM f fo n).1 = nI c
  | 0 => Or.inl rfl
  | n + 1 => by
    show (if (soM f fo n).2 < abI (f n - fo) then nI n else (soM f fo n).1) = -1 ∨ ∃ c, c < n + 1 ∧ (if (soM f fo n).2 < abI (f n - fo) then nI n else (soM f fo n).1) = nI c
    split
    · exact Or.inr ⟨n, by omega, rfl⟩
    · rcases soM_lt f fo n with h | ⟨c, hc, h⟩
      · exact Or.inl h
      · exact Or.inr ⟨c, by omega, h⟩
theorem neM_lt (f : Nat → Int32) (ca wo : Int32) : ∀ n, (neM f ca wo n).1 = -1 ∨ ∃ c, c < n ∧ (neM f ca wo n).1 = nI c
  | 0 => Or.inl rfl
  | n + 1 => by
    unfold neM
    dsimp only
    generalize (if nI n = ca then (16 : Int32) else abI (f n - wo)) = off
    split
    · exact Or.inr ⟨n, by omega, rfl⟩
    · rcases neM_lt f ca wo n with h | ⟨c, hc, h⟩
      · exact Or.inl h
      · exact Or.inr ⟨c, by omega, h⟩
set_option maxRecDepth 4000 in
theorem cQ_within {l : Launch} {g : GG} {w : Wd} {v a b : Int32} : Res l g Q_within [.int v, .int a, .int b] w (Is (some (.int (bI (a ≤ v ∧ v ≤ b)))) w) := by
  refine Res.of (by decide) (by simp [Value.category]) (Nat.le_of_ble_eq_true rfl) rfl ?_
  show Go l g Q_within 0 [some (.int v), some (.int a), some (.int b)] [] w _
  refine g_iload_n dQ_within_0 rfl ?_
  refine g_iload_n dQ_within_1 rfl ?_
  refine g_icmp_lt dQ_within_2 rfl (fun h2 => ?_) (fun h2 => ?_)
  · refine g_iconst (v := 0) dQ_within_14 (by decide) ?_
    refine g_iret dQ_within_15 rfl (by first | rfl | exact bI_n) ?_
    exact ⟨by grind [bI], rfl⟩
  · refine g_iload_n dQ_within_5 rfl ?_
    refine g_iload_n dQ_within_6 rfl ?_
    refine g_icmp_gt dQ_within_7 rfl (fun h7 => ?_) (fun h7 => ?_)
    · refine g_iconst (v := 0) dQ_within_14 (by decide) ?_
      refine g_iret dQ_within_15 rfl (by first | rfl | exact bI_n) ?_
      exact ⟨by grind [bI], rfl⟩
    · refine g_iconst (v := 1) dQ_within_10 (by decide) ?_
      refine g_goto dQ_within_11 rfl ?_
      refine g_iret dQ_within_15 rfl (by first | rfl | exact bI_n) ?_
      exact ⟨by grind [bI], rfl⟩

set_option maxRecDepth 4000 in
theorem cQ_isCell {l : Launch} {g : GG} {w : Wd} {v : Int32} : Res l g Q_isCell [.int v] w (Is (some (.int (bI (0 ≤ v ∧ v ≤ 15)))) w) := by
  refine Res.of (by decide) (by simp [Value.category]) (Nat.le_of_ble_eq_true rfl) rfl ?_
  show Go l g Q_isCell 0 [some (.int v)] [] w _
  refine g_iload_n dQ_isCell_0 rfl ?_
  refine g_iconst (v := 0) dQ_isCell_1 (by decide) ?_
  refine g_bipush (v := 15) dQ_isCell_2 (by decide) ?_
  refine gS3 dQ_isCell_4 kQ_isCell_79 cQ_within (Nat.le_of_ble_eq_true rfl) ?_
  refine g_iret dQ_isCell_7 rfl (by first | rfl | exact bI_n) ?_
  exact ⟨rfl, rfl⟩

set_option maxRecDepth 4000 in
theorem cQ_isKind {l : Launch} {g : GG} {w : Wd} {v : Int32} : Res l g Q_isKind [.int v] w (Is (some (.int (bI (0 ≤ v ∧ v ≤ 6)))) w) := by
  refine Res.of (by decide) (by simp [Value.category]) (Nat.le_of_ble_eq_true rfl) rfl ?_
  show Go l g Q_isKind 0 [some (.int v)] [] w _
  refine g_iload_n dQ_isKind_0 rfl ?_
  refine g_iconst (v := 0) dQ_isKind_1 (by decide) ?_
  refine g_bipush (v := 6) dQ_isKind_2 (by decide) ?_
  refine gS3 dQ_isKind_4 kQ_isKind_79 cQ_within (Nat.le_of_ble_eq_true rfl) ?_
  refine g_iret dQ_isKind_7 rfl (by first | rfl | exact bI_n) ?_
  exact ⟨rfl, rfl⟩

set_option maxRecDepth 4000 in
theorem cQ_isSpot {l : Launch} {g : GG} {w : Wd} {v : Int32} : Res l g Q_isSpot [.int v] w (Is (some (.int (bI (0 ≤ v ∧ v ≤ 9)))) w) := by
  refine Res.of (by decide) (by simp [Value.category]) (Nat.le_of_ble_eq_true rfl) rfl ?_
  show Go l g Q_isSpot 0 [some (.int v)] [] w _
  refine g_iload_n dQ_isSpot_0 rfl ?_
  refine g_iconst (v := 0) dQ_isSpot_1 (by decide) ?_
  refine g_bipush (v := 9) dQ_isSpot_2 (by decide) ?_
  refine gS3 dQ_isSpot_4 kQ_isSpot_79 cQ_within (Nat.le_of_ble_eq_true rfl) ?_
  refine g_iret dQ_isSpot_7 rfl (by first | rfl | exact bI_n) ?_
  exact ⟨rfl, rfl⟩

set_option maxRecDepth 4000 in
theorem cQ_isSheet {l : Launch} {g : GG} {w : Wd} {v : Int32} : Res l g Q_isSheet [.int v] w (Is (some (.int (bI (0 ≤ v ∧ v ≤ 3)))) w) := by
  refine Res.of (by decide) (by simp [Value.category]) (Nat.le_of_ble_eq_true rfl) rfl ?_
  show Go l g Q_isSheet 0 [some (.int v)] [] w _
  refine g_iload_n dQ_isSheet_0 rfl ?_
  refine g_iconst (v := 0) dQ_isSheet_1 (by decide) ?_
  refine g_iconst (v := 3) dQ_isSheet_2 (by decide) ?_
  refine gS3 dQ_isSheet_3 kQ_isSheet_79 cQ_within (Nat.le_of_ble_eq_true rfl) ?_
  refine g_iret dQ_isSheet_6 rfl (by first | rfl | exact bI_n) ?_
  exact ⟨rfl, rfl⟩

set_option maxRecDepth 4000 in
theorem cQ_isThought {l : Launch} {g : GG} {w : Wd} {v : Int32} : Res l g Q_isThought [.int v] w (Is (some (.int (bI (0 ≤ v ∧ v ≤ 40)))) w) := by
  refine Res.of (by decide) (by simp [Value.category]) (Nat.le_of_ble_eq_true rfl) rfl ?_
  show Go l g Q_isThought 0 [some (.int v)] [] w _
  refine g_iload_n dQ_isThought_0 rfl ?_
  refine g_iconst (v := 0) dQ_isThought_1 (by decide) ?_
  refine g_bipush (v := 40) dQ_isThought_2 (by decide) ?_
  refine gS3 dQ_isThought_4 kQ_isThought_79 cQ_within (Nat.le_of_ble_eq_true rfl) ?_
  refine g_iret dQ_isThought_7 rfl (by first | rfl | exact bI_n) ?_
  exact ⟨rfl, rfl⟩

set_option maxRecDepth 4000 in
theorem cQ_sheepAt {l : Launch} {g : GG} {w : Wd} {f j : Nat} : Res l g Q_sheepAt [.int (nI j), .int (nI f)] w (Is (some (.int (nI (18 + 5 * j + f)))) w) := by
  refine Res.of (by decide) (by simp [Value.category]) (Nat.le_of_ble_eq_true rfl) rfl ?_
  show Go l g Q_sheepAt 0 [some (.int (nI j)), some (.int (nI f))] [] w _
  refine g_bipush (v := 18) dQ_sheepAt_0 (by decide) ?_
  refine g_iconst (v := 5) dQ_sheepAt_2 (by decide) ?_
  refine g_iload_n dQ_sheepAt_3 rfl ?_
  refine g_imul dQ_sheepAt_4 ?_
  refine g_iadd dQ_sheepAt_5 ?_
  refine g_iload_n dQ_sheepAt_6 rfl ?_
  refine g_iadd dQ_sheepAt_7 ?_
  refine g_iret dQ_sheepAt_8 rfl rfl ?_
  exact ⟨by rw [at_eq], rfl⟩

set_option maxRecDepth 4000 in
theorem cQ_sheepIs {l : Launch} {g : GG} {w : Wd} {A : HA} {f j : Nat} (hf : f < 5) (hj : j < 8) : Res l g Q_sheepIs [.ref (g.1 33), .int (nI j), .int (nI f)] (mput A w) (Is (some (.int (fld A f j))) (mput A w)) := by
  refine Res.of (by decide) (by simp [Value.category]) (Nat.le_of_ble_eq_true rfl) rfl ?_
  show Go l g Q_sheepIs 0 [some (.ref (g.1 33)), some (.int (nI j)), some (.int (nI f))] [] (mput A w) _
  refine g_aload_n dQ_sheepIs_0 rfl ?_
  refine g_getR2 (k2 := 34) dQ_sheepIs_1 fQ_9 rfl rfl (by decide) rfl ?_
  refine g_iload_n dQ_sheepIs_4 rfl ?_
  refine g_iload_n dQ_sheepIs_5 rfl ?_
  refine gS2 dQ_sheepIs_6 kQ_sheepIs_83 cQ_sheepAt (Nat.le_of_ble_eq_true rfl) ?_
  refine g_ml (f := f) dQ_sheepIs_9 hf (by omega) ?_
  refine g_iret dQ_sheepIs_10 rfl rfl ?_
  exact ⟨rfl, rfl⟩

theorem cQ_sheepIsK {l : Launch} {g : GG} {w : Wd} {A : HA} {j : Nat} (hj : j < 8) : Res l g Q_sheepIs [.ref (g.1 33), .int (nI j), .int 0] (mput A w) (Is (some (.int (A.2.1 j))) (mput A w)) := cQ_sheepIs (f := 0) (by decide) hj

theorem cQ_sheepIsC {l : Launch} {g : GG} {w : Wd} {A : HA} {j : Nat} (hj : j < 8) : Res l g Q_sheepIs [.ref (g.1 33), .int (nI j), .int 1] (mput A w) (Is (some (.int (A.2.2.1 j))) (mput A w)) := cQ_sheepIs (f := 1) (by decide) hj

theorem cQ_sheepIsF {l : Launch} {g : GG} {w : Wd} {A : HA} {j : Nat} (hj : j < 8) : Res l g Q_sheepIs [.ref (g.1 33), .int (nI j), .int 2] (mput A w) (Is (some (.int (A.2.2.2.1 j))) (mput A w)) := cQ_sheepIs (f := 2) (by decide) hj

theorem cQ_sheepIsL {l : Launch} {g : GG} {w : Wd} {A : HA} {j : Nat} (hj : j < 8) : Res l g Q_sheepIs [.ref (g.1 33), .int (nI j), .int 3] (mput A w) (Is (some (.int (A.2.2.2.2.1 j))) (mput A w)) := cQ_sheepIs (f := 3) (by decide) hj

theorem cQ_sheepIsO {l : Launch} {g : GG} {w : Wd} {A : HA} {j : Nat} (hj : j < 8) : Res l g Q_sheepIs [.ref (g.1 33), .int (nI j), .int 4] (mput A w) (Is (some (.int (A.2.2.2.2.2 j))) (mput A w)) := cQ_sheepIs (f := 4) (by decide) hj

set_option maxRecDepth 4000 in
theorem cQ_towards {l : Launch} {g : GG} {w : Wd} {a b s : Int32} : Res l g Q_towards [.int a, .int b, .int s] w (Is (some (.int (tow a b s))) w) := by
  refine Res.of (by decide) (by simp [Value.category]) (Nat.le_of_ble_eq_true rfl) rfl ?_
  show Go l g Q_towards 0 [some (.int a), some (.int b), some (.int s)] [] w _
  refine g_iload_n dQ_towards_0 rfl ?_
  refine g_iload_n dQ_towards_1 rfl ?_
  refine g_icmp_ge dQ_towards_2 rfl (fun h2 => ?_) (fun h2 => ?_)
  · refine g_iload_n dQ_towards_15 rfl ?_
    refine g_iload_n dQ_towards_16 rfl ?_
    refine g_iload_n dQ_towards_17 rfl ?_
    refine g_isub dQ_towards_18 ?_
    refine g_max dQ_towards_19 lQ_151 (by decide) (Nat.le_of_ble_eq_true rfl) ?_
    refine g_iret dQ_towards_22 rfl rfl ?_
    exact ⟨by grind [tow, mnI, mxI], rfl⟩
  · refine g_iload_n dQ_towards_5 rfl ?_
    refine g_iload_n dQ_towards_6 rfl ?_
    refine g_iload_n dQ_towards_7 rfl ?_
    refine g_iadd dQ_towards_8 ?_
    refine g_min dQ_towards_9 lQ_148 (by decide) (Nat.le_of_ble_eq_true rfl) ?_
    refine g_goto dQ_towards_12 rfl ?_
    refine g_iret dQ_towards_22 rfl rfl ?_
    exact ⟨by grind [tow, mnI, mxI], rfl⟩

set_option maxRecDepth 4000 in
theorem cQ_hasBit {l : Launch} {g : GG} {w : Wd} {t k : Int32} : Res l g Q_hasBit [.int t, .int k] w (Is (some (.int (bI (t >>> (k &&& 31) &&& 1 = 1)))) w) := by
  refine Res.of (by decide) (by simp [Value.category]) (Nat.le_of_ble_eq_true rfl) rfl ?_
  show Go l g Q_hasBit 0 [some (.int t), some (.int k)] [] w _
  refine g_iload_n dQ_hasBit_0 rfl ?_
  refine g_iload_n dQ_hasBit_1 rfl ?_
  refine g_ishr dQ_hasBit_2 ?_
  refine g_iconst (v := 1) dQ_hasBit_3 (by decide) ?_
  refine g_iand dQ_hasBit_4 ?_
  refine g_iconst (v := 1) dQ_hasBit_5 (by decide) ?_
  refine g_icmp_ne dQ_hasBit_6 rfl (fun h6 => ?_) (fun h6 => ?_)
  · refine g_iconst (v := 0) dQ_hasBit_13 (by decide) ?_
    refine g_iret dQ_hasBit_14 rfl (by first | rfl | exact bI_n) ?_
    exact ⟨by grind [bI], rfl⟩
  · refine g_iconst (v := 1) dQ_hasBit_9 (by decide) ?_
    refine g_goto dQ_hasBit_10 rfl ?_
    refine g_iret dQ_hasBit_14 rfl (by first | rfl | exact bI_n) ?_
    exact ⟨by grind [bI], rfl⟩

set_option maxRecDepth 4000 in
theorem cQ_isSheep {l : Launch} {g : GG} {w : Wd} {A : HA} {s : Int32} : Res l g Q_isSheep [.ref (g.1 33), .int s] (mput A w) (Is (some (.int (bI (0 ≤ s ∧ s ≤ A.1 6 - 1)))) (mput A w)) := by
  refine Res.of (by decide) (by simp [Value.category]) (Nat.le_of_ble_eq_true rfl) rfl ?_
  show Go l g Q_isSheep 0 [some (.ref (g.1 33)), some (.int s)] [] (mput A w) _
  refine g_iload_n dQ_isSheep_0 rfl ?_
  refine g_iconst (v := 0) dQ_isSheep_1 (by decide) ?_
  refine g_aload_n dQ_isSheep_2 rfl ?_
  refine g_getR2 (k2 := 34) dQ_isSheep_3 fQ_9 rfl rfl (by decide) rfl ?_
  refine g_iconst (v := 1) dQ_isSheep_6 (by decide) ?_
  refine g_mS (j := 6) (i := 1) dQ_isSheep_7 rfl (by decide) (by decide) ?_
  refine g_iconst (v := 1) dQ_isSheep_8 (by decide) ?_
  refine g_isub dQ_isSheep_9 ?_
  refine gS3 dQ_isSheep_10 kQ_isSheep_79 cQ_within (Nat.le_of_ble_eq_true rfl) ?_
  refine g_iret dQ_isSheep_13 rfl (by first | rfl | exact bI_n) ?_
  exact ⟨rfl, rfl⟩

set_option maxRecDepth 4000 in
theorem cQ_far {l : Launch} {g : GG} {w : Wd} {A : HA} {j : Nat} (hj : j < 8) : Res l g Q_far [.ref (g.1 33), .int (nI j)] (mput A w) (Is (some (.int (abI (A.2.2.1 j - A.1 0)))) (mput A w)) := by
  refine Res.of (by decide) (by simp [Value.category]) (Nat.le_of_ble_eq_true rfl) rfl ?_
  show Go l g Q_far 0 [some (.ref (g.1 33)), some (.int (nI j))] [] (mput A w) _
  refine g_aload_n dQ_far_0 rfl ?_
  refine g_iload_n dQ_far_1 rfl ?_
  refine g_iconst (v := 1) dQ_far_2 (by decide) ?_
  refine gV2 dQ_far_3 kQ_far_108 rfl rfl (cQ_sheepIsC (by omega)) (Nat.le_of_ble_eq_true rfl) ?_
  refine g_aload_n dQ_far_6 rfl ?_
  refine g_getR2 (k2 := 34) dQ_far_7 fQ_9 rfl rfl (by decide) rfl ?_
  refine g_iconst (v := 3) dQ_far_10 (by decide) ?_
  refine g_mS (j := 0) (i := 3) dQ_far_11 rfl (by decide) (by decide) ?_
  refine g_isub dQ_far_12 ?_
  refine g_abs dQ_far_13 lQ_111 (by decide) (Nat.le_of_ble_eq_true rfl) ?_
  refine g_iret dQ_far_16 rfl rfl ?_
  exact ⟨rfl, rfl⟩

set_option maxRecDepth 4000 in
theorem cQ_fears {l : Launch} {g : GG} {w : Wd} {A : HA} {j : Nat} (hj : j < 8) : Res l g Q_fears [.ref (g.1 33), .int (nI j)] (mput A w) (Is (some (.int (fearsM (A.2.1 j)))) (mput A w)) := by
  refine Res.of (by decide) (by simp [Value.category]) (Nat.le_of_ble_eq_true rfl) rfl ?_
  show Go l g Q_fears 0 [some (.ref (g.1 33)), some (.int (nI j))] [] (mput A w) _
  refine g_aload_n dQ_fears_0 rfl ?_
  refine g_iload_n dQ_fears_1 rfl ?_
  refine g_iconst (v := 0) dQ_fears_2 (by decide) ?_
  refine gV2 dQ_fears_3 kQ_fears_108 rfl rfl (cQ_sheepIsK (by omega)) (Nat.le_of_ble_eq_true rfl) ?_
  refine g_split (0) (fun z0 => ?_) (fun z0 => ?_)
  · refine g_tabIn dQ_fears_6 (by decide) (by decide) rfl rfl ?_
    refine g_bipush (v := 10) dQ_fears_40 (by decide) ?_
    refine g_iret dQ_fears_42 rfl rfl ?_
    exact ⟨by simp_all [fearsM], rfl⟩
  refine g_split (1) (fun z1 => ?_) (fun z1 => ?_)
  · refine g_tabIn dQ_fears_6 (by decide) (by decide) rfl rfl ?_
    refine g_iconst (v := 5) dQ_fears_43 (by decide) ?_
    refine g_iret dQ_fears_44 rfl rfl ?_
    exact ⟨by simp_all [fearsM], rfl⟩
  refine g_split (2) (fun z2 => ?_) (fun z2 => ?_)
  · refine g_tabIn dQ_fears_6 (by decide) (by decide) rfl rfl ?_
    refine g_bipush (v := 20) dQ_fears_45 (by decide) ?_
    refine g_iret dQ_fears_47 rfl rfl ?_
    exact ⟨by simp_all [fearsM], rfl⟩
  refine g_split (3) (fun z3 => ?_) (fun z3 => ?_)
  · refine g_tabIn dQ_fears_6 (by decide) (by decide) rfl rfl ?_
    refine g_bipush (v := 25) dQ_fears_48 (by decide) ?_
    refine g_iret dQ_fears_50 rfl rfl ?_
    exact ⟨by simp_all [fearsM], rfl⟩
  refine g_split (4) (fun z4 => ?_) (fun z4 => ?_)
  · refine g_tabIn dQ_fears_6 (by decide) (by decide) rfl rfl ?_
    refine g_bipush (v := 25) dQ_fears_48 (by decide) ?_
    refine g_iret dQ_fears_50 rfl rfl ?_
    exact ⟨by simp_all [fearsM], rfl⟩
  refine g_tabOut dQ_fears_6 (by have q0 := lv_neT z0 (a := 0) rfl; have q1 := lv_neT z1 (a := 1) rfl; have q2 := lv_neT z2 (a := 2) rfl; have q3 := lv_neT z3 (a := 3) rfl; have q4 := lv_neT z4 (a := 4) rfl; omega) rfl ?_
  refine g_iconst (v := 0) dQ_fears_51 (by decide) ?_
  refine g_iret dQ_fears_52 rfl rfl ?_
  exact ⟨by simp_all [fearsM], rfl⟩

set_option maxRecDepth 4000 in
theorem cQ_calms {l : Launch} {g : GG} {w : Wd} {A : HA} {j : Nat} (hj : j < 8) : Res l g Q_calms [.ref (g.1 33), .int (nI j)] (mput A w) (Is (some (.int (calmsK (A.2.1 j)))) (mput A w)) := by
  refine Res.of (by decide) (by simp [Value.category]) (Nat.le_of_ble_eq_true rfl) rfl ?_
  show Go l g Q_calms 0 [some (.ref (g.1 33)), some (.int (nI j))] [] (mput A w) _
  refine g_aload_n dQ_calms_0 rfl ?_
  refine g_iload_n dQ_calms_1 rfl ?_
  refine g_iconst (v := 0) dQ_calms_2 (by decide) ?_
  refine gV2 dQ_calms_3 kQ_calms_108 rfl rfl (cQ_sheepIsK (by omega)) (Nat.le_of_ble_eq_true rfl) ?_
  refine g_split (1) (fun z1 => ?_) (fun z1 => ?_)
  · refine g_lookup dQ_calms_6 rfl rfl rfl ?_
    refine g_iconst (v := 2) dQ_calms_40 (by decide) ?_
    refine g_iret dQ_calms_41 rfl rfl ?_
    exact ⟨by simp_all [calmsK], rfl⟩
  refine g_split (4) (fun z4 => ?_) (fun z4 => ?_)
  · refine g_lookup dQ_calms_6 rfl rfl rfl ?_
    refine g_iconst (v := 0) dQ_calms_44 (by decide) ?_
    refine g_iret dQ_calms_45 rfl rfl ?_
    exact ⟨by simp_all [calmsK], rfl⟩
  refine g_split (6) (fun z6 => ?_) (fun z6 => ?_)
  · refine g_lookup dQ_calms_6 rfl rfl rfl ?_
    refine g_iconst (v := 4) dQ_calms_42 (by decide) ?_
    refine g_iret dQ_calms_43 rfl rfl ?_
    exact ⟨by simp_all [calmsK], rfl⟩
  refine g_lookup (off := 40) dQ_calms_6 rfl (by show Op.lookupswitch.offset [(1, 34), (4, 38), (6, 36)] _ _ = _; rw [lv_osw (a := 1) z1 rfl, lv_osw (a := 4) z4 rfl, lv_osw (a := 6) z6 rfl]; rfl) rfl ?_
  refine g_iconst (v := 1) dQ_calms_46 (by decide) ?_
  refine g_iret dQ_calms_47 rfl rfl ?_
  exact ⟨by simp_all [calmsK], rfl⟩

set_option maxRecDepth 4000 in
theorem cQ_light {l : Launch} {g : GG} {w : Wd} {A : HA} {j : Nat} (hj : j < 8) : Res l g Q_light [.ref (g.1 33), .int (nI j)] (mput A w) (Is (some (.int (lightK (A.2.1 j)))) (mput A w)) := by
  refine Res.of (by decide) (by simp [Value.category]) (Nat.le_of_ble_eq_true rfl) rfl ?_
  show Go l g Q_light 0 [some (.ref (g.1 33)), some (.int (nI j))] [] (mput A w) _
  refine g_aload_n dQ_light_0 rfl ?_
  refine g_iload_n dQ_light_1 rfl ?_
  refine g_iconst (v := 0) dQ_light_2 (by decide) ?_
  refine gV2 dQ_light_3 kQ_light_108 rfl rfl (cQ_sheepIsK (by omega)) (Nat.le_of_ble_eq_true rfl) ?_
  refine g_split (1) (fun z1 => ?_) (fun z1 => ?_)
  · refine g_tabIn dQ_light_6 (by decide) (by decide) rfl rfl ?_
    refine g_iconst (v := 1) dQ_light_44 (by decide) ?_
    refine g_iret dQ_light_45 rfl rfl ?_
    exact ⟨by simp_all [lightK], rfl⟩
  refine g_split (2) (fun z2 => ?_) (fun z2 => ?_)
  · refine g_tabIn dQ_light_6 (by decide) (by decide) rfl rfl ?_
    refine g_iconst (v := 2) dQ_light_50 (by decide) ?_
    refine g_iret dQ_light_51 rfl rfl ?_
    exact ⟨by simp_all [lightK], rfl⟩
  refine g_split (3) (fun z3 => ?_) (fun z3 => ?_)
  · refine g_tabIn dQ_light_6 (by decide) (by decide) rfl rfl ?_
    refine g_iconst (v := 3) dQ_light_46 (by decide) ?_
    refine g_iret dQ_light_47 rfl rfl ?_
    exact ⟨by simp_all [lightK], rfl⟩
  refine g_split (4) (fun z4 => ?_) (fun z4 => ?_)
  · refine g_tabIn dQ_light_6 (by decide) (by decide) rfl rfl ?_
    refine g_iconst (v := 4) dQ_light_48 (by decide) ?_
    refine g_iret dQ_light_49 rfl rfl ?_
    exact ⟨by simp_all [lightK], rfl⟩
  refine g_split (5) (fun z5 => ?_) (fun z5 => ?_)
  · refine g_tabIn dQ_light_6 (by decide) (by decide) rfl rfl ?_
    refine g_iconst (v := 1) dQ_light_44 (by decide) ?_
    refine g_iret dQ_light_45 rfl rfl ?_
    exact ⟨by simp_all [lightK], rfl⟩
  refine g_split (6) (fun z6 => ?_) (fun z6 => ?_)
  · refine g_tabIn dQ_light_6 (by decide) (by decide) rfl rfl ?_
    refine g_iconst (v := 1) dQ_light_44 (by decide) ?_
    refine g_iret dQ_light_45 rfl rfl ?_
    exact ⟨by simp_all [lightK], rfl⟩
  refine g_tabOut dQ_light_6 (by have q0 := lv_neT z1 (a := 1) rfl; have q1 := lv_neT z2 (a := 2) rfl; have q2 := lv_neT z3 (a := 3) rfl; have q3 := lv_neT z4 (a := 4) rfl; have q4 := lv_neT z5 (a := 5) rfl; have q5 := lv_neT z6 (a := 6) rfl; omega) rfl ?_
  refine g_iconst (v := 2) dQ_light_50 (by decide) ?_
  refine g_iret dQ_light_51 rfl rfl ?_
  exact ⟨by simp_all [lightK], rfl⟩

set_option maxRecDepth 4000 in
theorem lQ_isAlone {l : Launch} {g : GG} {w : Wd} {A : HA} {n : Nat} (hn : A.1 6 = nI n) (h8 : n ≤ 8) {j : Nat} (hj : j < 8) : ∀ (m : Nat) (i : Nat), n - i < m → i ≤ n → Go l g Q_isAlone 4 [some (.ref (g.1 33)), some (.int (nI j)), some (.int (bI (alF A.2.2.1 j i))), some (.int (nI i))] [] (mput A w) (Is (some (.int (bI (alF A.2.2.1 j n)))) (mput A w)) := by
  intro m
  induction m with
  | zero => intro i hm hi; omega
  | succ m ih =>
    intro i hm hi
    refine g_iload_n dQ_isAlone_4 rfl ?_
    refine g_aload_n dQ_isAlone_5 rfl ?_
    refine g_getR2 (k2 := 34) dQ_isAlone_6 fQ_9 rfl rfl (by decide) rfl ?_
    refine g_iconst (v := 1) dQ_isAlone_9 (by decide) ?_
    refine g_mS (j := 6) (i := 1) dQ_isAlone_10 rfl (by decide) (by decide) ?_
    refine g_icmp_ge dQ_isAlone_11 rfl (fun h11 => ?_) (fun h11 => ?_)
    · rw [hn, nI_leI (by omega) (by omega)] at h11
      refine g_iload_n dQ_isAlone_50 rfl ?_
      refine g_iret dQ_isAlone_51 rfl (by first | rfl | exact bI_n) ?_
      exact ⟨by rw [show i = n by omega], rfl⟩
    · rw [hn, nI_leI (by omega) (by omega)] at h11
      refine g_iload_n dQ_isAlone_14 rfl ?_
      refine g_if_eq dQ_isAlone_15 rfl (fun h15 => ?_) (fun h15 => ?_)
      · refine g_iconst (v := 0) dQ_isAlone_42 (by decide) ?_
        refine g_istore_n dQ_isAlone_43 (by decide) rfl rfl ?_
        dsimp only [List.set]
        refine g_lv (lv1 := [some (.ref (g.1 33)), some (.int (nI j)), some (.int (bI (alF A.2.2.1 j (i + 1)))), some (.int (nI i))]) (by rw [al_step _ _ _ (by omega) (by omega)]; grind) ?_
        refine g_iinc (v := nI (i + 1)) dQ_isAlone_44 rfl (nI_succ i).symm (by decide) rfl rfl ?_
        dsimp only [List.set]
        refine g_goto dQ_isAlone_47 rfl ?_
        exact ih (i + 1) (by omega) (by omega)
      · refine g_iload_n dQ_isAlone_18 rfl ?_
        refine g_iload_n dQ_isAlone_19 rfl ?_
        refine g_icmp_eq dQ_isAlone_20 rfl (fun h20 => ?_) (fun h20 => ?_)
        · refine g_iconst (v := 1) dQ_isAlone_38 (by decide) ?_
          refine g_goto dQ_isAlone_39 rfl ?_
          refine g_istore_n dQ_isAlone_43 (by decide) rfl rfl ?_
          dsimp only [List.set]
          refine g_lv (lv1 := [some (.ref (g.1 33)), some (.int (nI j)), some (.int (bI (alF A.2.2.1 j (i + 1)))), some (.int (nI i))]) (by rw [al_step _ _ _ (by omega) (by omega)]; grind) ?_
          refine g_iinc (v := nI (i + 1)) dQ_isAlone_44 rfl (nI_succ i).symm (by decide) rfl rfl ?_
          dsimp only [List.set]
          refine g_goto dQ_isAlone_47 rfl ?_
          exact ih (i + 1) (by omega) (by omega)
        · refine g_aload_n dQ_isAlone_23 rfl ?_
          refine g_iload_n dQ_isAlone_24 rfl ?_
          refine g_iconst (v := 1) dQ_isAlone_25 (by decide) ?_
          refine gV2 dQ_isAlone_26 kQ_isAlone_108 rfl rfl (cQ_sheepIsC (by omega)) (Nat.le_of_ble_eq_true rfl) ?_
          refine g_aload_n dQ_isAlone_29 rfl ?_
          refine g_iload_n dQ_isAlone_30 rfl ?_
          refine g_iconst (v := 1) dQ_isAlone_31 (by decide) ?_
          refine gV2 dQ_isAlone_32 kQ_isAlone_108 rfl rfl (cQ_sheepIsC (by omega)) (Nat.le_of_ble_eq_true rfl) ?_
          refine g_icmp_eq dQ_isAlone_35 rfl (fun h35 => ?_) (fun h35 => ?_)
          · refine g_iconst (v := 0) dQ_isAlone_42 (by decide) ?_
            refine g_istore_n dQ_isAlone_43 (by decide) rfl rfl ?_
            dsimp only [List.set]
            refine g_lv (lv1 := [some (.ref (g.1 33)), some (.int (nI j)), some (.int (bI (alF A.2.2.1 j (i + 1)))), some (.int (nI i))]) (by rw [al_step _ _ _ (by omega) (by omega)]; grind) ?_
            refine g_iinc (v := nI (i + 1)) dQ_isAlone_44 rfl (nI_succ i).symm (by decide) rfl rfl ?_
            dsimp only [List.set]
            refine g_goto dQ_isAlone_47 rfl ?_
            exact ih (i + 1) (by omega) (by omega)
          · refine g_iconst (v := 1) dQ_isAlone_38 (by decide) ?_
            refine g_goto dQ_isAlone_39 rfl ?_
            refine g_istore_n dQ_isAlone_43 (by decide) rfl rfl ?_
            dsimp only [List.set]
            refine g_lv (lv1 := [some (.ref (g.1 33)), some (.int (nI j)), some (.int (bI (alF A.2.2.1 j (i + 1)))), some (.int (nI i))]) (by rw [al_step _ _ _ (by omega) (by omega)]; grind) ?_
            refine g_iinc (v := nI (i + 1)) dQ_isAlone_44 rfl (nI_succ i).symm (by decide) rfl rfl ?_
            dsimp only [List.set]
            refine g_goto dQ_isAlone_47 rfl ?_
            exact ih (i + 1) (by omega) (by omega)

set_option maxRecDepth 4000 in
theorem cQ_isAlone {l : Launch} {g : GG} {w : Wd} {A : HA} {n : Nat} (hn : A.1 6 = nI n) (h8 : n ≤ 8) {j : Nat} (hj : j < 8) : Res l g Q_isAlone [.ref (g.1 33), .int (nI j)] (mput A w) (Is (some (.int (bI (alF A.2.2.1 j n)))) (mput A w)) := by
  refine Res.of (by decide) (by simp [Value.category]) (Nat.le_of_ble_eq_true rfl) rfl ?_
  show Go l g Q_isAlone 0 [some (.ref (g.1 33)), some (.int (nI j)), none, none] [] (mput A w) _
  refine g_iconst (v := 1) dQ_isAlone_0 (by decide) ?_
  refine g_istore_n dQ_isAlone_1 (by decide) rfl rfl ?_
  dsimp only [List.set]
  refine g_iconst (v := 0) dQ_isAlone_2 (by decide) ?_
  refine g_istore_n dQ_isAlone_3 (by decide) rfl rfl ?_
  dsimp only [List.set]
  refine g_lv (lv1 := [some (.ref (g.1 33)), some (.int (nI j)), some (.int (bI (alF A.2.2.1 j 0))), some (.int (nI 0))]) (by rw [bI_t (fun o ho => absurd ho (Nat.not_lt_zero o))]; rfl) ?_
  exact lQ_isAlone hn h8 hj (n + 1) 0 (by omega) (by omega)
