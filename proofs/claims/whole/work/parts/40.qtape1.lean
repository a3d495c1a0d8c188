def q4 (a b c d : Int32) (W : Wd) : Wd := upR W 33 (upd (upd (upd (upd (W 33) 8 a) 9 b) 10 c) 11 d)
section Q4
variable {a b c d : Int32} {W : Wd}
theorem q4_33 : q4 a b c d W 33 = upd (upd (upd (upd (W 33) 8 a) 9 b) 10 c) 11 d := upR_same _ _ _
theorem q4_o {k : Nat} (h : k ≠ 33) : q4 a b c d W k = W k := upR_other _ _ _ h
theorem q4_j {j : Nat} (h : (decide (8 ≤ j) && decide (j ≤ 11)) = false) : q4 a b c d W 33 j = W 33 j := by
  have h2 : ¬ (8 ≤ j ∧ j ≤ 11) := by simpa using h
  rw [q4_33]
  unfold upd
  rw [if_neg (by omega), if_neg (by omega), if_neg (by omega), if_neg (by omega)]
theorem q4_up (j : Nat) (v : Int32) : up (q4 a b c d W) 33 j v = upR W 33 (upd (upd (upd (upd (upd (W 33) 8 a) 9 b) 10 c) 11 d) j v) := upR_up _ _ _ _ _
theorem q4_s8 (v : Int32) : up (q4 a b c d W) 33 8 v = q4 v b c d W := by
  rw [q4_up]; unfold q4; congr 1; funext i
  show (if i = 8 then v else if i = 11 then d else if i = 10 then c else if i = 9 then b else if i = 8 then a else W 33 i) = (if i = 11 then d else if i = 10 then c else if i = 9 then b else if i = 8 then v else W 33 i)
  repeat' split
  all_goals first | rfl | omega
theorem q4_s9 (v : Int32) : up (q4 a b c d W) 33 9 v = q4 a v c d W := by
  rw [q4_up]; unfold q4; congr 1; funext i
  show (if i = 9 then v else if i = 11 then d else if i = 10 then c else if i = 9 then b else if i = 8 then a else W 33 i) = (if i = 11 then d else if i = 10 then c else if i = 9 then v else if i = 8 then a else W 33 i)
  repeat' split
  all_goals first | rfl | omega
theorem q4_s10 (v : Int32) : up (q4 a b c d W) 33 10 v = q4 a b v d W := by
  rw [q4_up]; unfold q4; congr 1; funext i
  show (if i = 10 then v else if i = 11 then d else if i = 10 then c else if i = 9 then b else if i = 8 then a else W 33 i) = (if i = 11 then d else if i = 10 then v else if i = 9 then b else if i = 8 then a else W 33 i)
  repeat' split
  all_goals first | rfl | omega
theorem q4_s11 (v : Int32) : up (q4 a b c d W) 33 11 v = q4 a b c v W := by
  rw [q4_up]; unfold q4; congr 1; funext i
  show (if i = 11 then v else if i = 11 then d else if i = 10 then c else if i = 9 then b else if i = 8 then a else W 33 i) = (if i = 11 then v else if i = 10 then c else if i = 9 then b else if i = 8 then a else W 33 i)
  repeat' split
  all_goals first | rfl | omega
theorem q4_sj {j : Nat} (v : Int32) (h : (decide (8 ≤ j) && decide (j ≤ 11)) = false) : up (q4 a b c d W) 33 j v = q4 a b c d (up W 33 j v) := by
  have h2 : ¬ (8 ≤ j ∧ j ≤ 11) := by simpa using h
  rw [q4_up]
  funext k
  unfold q4
  by_cases hk : k = 33
  · subst hk
    rw [upR_same, upR_same, up_same]
    funext i
    show (if i = j then v else if i = 11 then d else if i = 10 then c else if i = 9 then b else if i = 8 then a else W 33 i) = (if i = 11 then d else if i = 10 then c else if i = 9 then b else if i = 8 then a else if i = j then v else W 33 i)
    repeat' split
    all_goals first | rfl | omega
  · rw [upR_other _ _ _ hk, upR_other _ _ _ hk, up_other _ _ _ _ hk]
theorem q4_si {k i : Nat} (v : Int32) (h : k ≠ 33) : up (q4 a b c d W) k i v = q4 a b c d (up W k i v) := by
  funext k2
  by_cases h1 : k2 = 33
  · subst h1
    rw [up_other _ _ _ _ (Ne.symm h), q4_33, q4_33, up_other _ _ _ _ (Ne.symm h)]
  · rw [q4_o h1]
    by_cases h2 : k2 = k
    · subst h2; rw [up_same, up_same, q4_o h1]
    · rw [up_other _ _ _ _ h2, up_other _ _ _ _ h2, q4_o h1]
theorem q4_self (W : Wd) : q4 (W 33 8) (W 33 9) (W 33 10) (W 33 11) W = W := by
  funext k
  by_cases hk : k = 33
  · subst hk
    rw [q4_33]
    funext i
    show (if i = 11 then W 33 11 else if i = 10 then W 33 10 else if i = 9 then W 33 9 else if i = 8 then W 33 8 else W 33 i) = W 33 i
    repeat' split
    all_goals first | rfl | (subst_vars; rfl)
  · exact q4_o hk
variable {l : Launch} {g : GG} {M : MM} {pc n : Nat} {lv : List (Option Value)} {st : List Value} {Q : Option Value → Wd → Prop} {idx : Nat} {ty : FieldType} {fin : Bool}
theorem g_q8 (hd : Dc M pc (.getfield idx) 3 n) (hf : Fk M.1.cls idx 4 8 ty fin) (kk : Go l g M n lv (.int a :: st) (q4 a b c d W) Q) : Go l g M pc lv (.ref (g.1 33) :: st) (q4 a b c d W) Q := g_getI hd hf rfl rfl (by rw [q4_33]; exact kk)
theorem g_q9 (hd : Dc M pc (.getfield idx) 3 n) (hf : Fk M.1.cls idx 4 9 ty fin) (kk : Go l g M n lv (.int b :: st) (q4 a b c d W) Q) : Go l g M pc lv (.ref (g.1 33) :: st) (q4 a b c d W) Q := g_getI hd hf rfl rfl (by rw [q4_33]; exact kk)
theorem g_q10 (hd : Dc M pc (.getfield idx) 3 n) (hf : Fk M.1.cls idx 4 10 ty fin) (kk : Go l g M n lv (.int c :: st) (q4 a b c d W) Q) : Go l g M pc lv (.ref (g.1 33) :: st) (q4 a b c d W) Q := g_getI hd hf rfl rfl (by rw [q4_33]; exact kk)
theorem g_q11 (hd : Dc M pc (.getfield idx) 3 n) (hf : Fk M.1.cls idx 4 11 ty fin) (kk : Go l g M n lv (.int d :: st) (q4 a b c d W) Q) : Go l g M pc lv (.ref (g.1 33) :: st) (q4 a b c d W) Q := g_getI hd hf rfl rfl (by rw [q4_33]; exact kk)
theorem g_qr {j : Nat} (hd : Dc M pc (.getfield idx) 3 n) (hf : Fk M.1.cls idx 4 j ty fin) (hj : (fdef 4)[j]? = some 0) (hn : (decide (8 ≤ j) && decide (j ≤ 11)) = false) (kk : Go l g M n lv (.int (W 33 j) :: st) (q4 a b c d W) Q) : Go l g M pc lv (.ref (g.1 33) :: st) (q4 a b c d W) Q := g_getI hd hf rfl hj (by rw [q4_j hn]; exact kk)
theorem g_qs8 {x : Int32} (hd : Dc M pc (.putfield idx) 3 n) (hf : Fk M.1.cls idx 4 8 .int false) (kk : Go l g M n lv st (q4 x b c d W) Q) : Go l g M pc lv (.int x :: .ref (g.1 33) :: st) (q4 a b c d W) Q := g_putI hd hf rfl rfl rfl rfl (by rw [q4_s8]; exact kk)
theorem g_qs9 {x : Int32} (hd : Dc M pc (.putfield idx) 3 n) (hf : Fk M.1.cls idx 4 9 .int false) (kk : Go l g M n lv st (q4 a x c d W) Q) : Go l g M pc lv (.int x :: .ref (g.1 33) :: st) (q4 a b c d W) Q := g_putI hd hf rfl rfl rfl rfl (by rw [q4_s9]; exact kk)
theorem g_qs10 {x : Int32} (hd : Dc M pc (.putfield idx) 3 n) (hf : Fk M.1.cls idx 4 10 .int false) (kk : Go l g M n lv st (q4 a b x d W) Q) : Go l g M pc lv (.int x :: .ref (g.1 33) :: st) (q4 a b c d W) Q := g_putI hd hf rfl rfl rfl rfl (by rw [q4_s10]; exact kk)
theorem g_qs11 {x : Int32} (hd : Dc M pc (.putfield idx) 3 n) (hf : Fk M.1.cls idx 4 11 .int false) (kk : Go l g M n lv st (q4 a b c x W) Q) : Go l g M pc lv (.int x :: .ref (g.1 33) :: st) (q4 a b c d W) Q := g_putI hd hf rfl rfl rfl rfl (by rw [q4_s11]; exact kk)
theorem g_qw {j : Nat} {x : Int32} (hd : Dc M pc (.putfield idx) 3 n) (hf : Fk M.1.cls idx 4 j ty false) (hj : (fdef 4)[j]? = some 0) (hn : (decide (8 ≤ j) && decide (j ≤ 11)) = false) (hna : narrow ty (.int x) = .int x) (hfi : fits ty (.int x) = true) (kk : Go l g M n lv st (q4 a b c d (up W 33 j x)) Q) : Go l g M pc lv (.int x :: .ref (g.1 33) :: st) (q4 a b c d W) Q := g_putI hd hf rfl hj hna hfi (by rw [q4_sj _ hn]; exact kk)
theorem g_qY {k i : Nat} (hd : Dc M pc .iaload 1 n) (ha : arrN k = some 120) (hk : k ≠ 33) (hi : i < 120) (kk : Go l g M n lv (.int (W k i) :: st) (q4 a b c d W) Q) : Go l g M pc lv (.int (nI i) :: .ref (g.1 k) :: st) (q4 a b c d W) Q := g_ialdN hd ha hi (by decide) (by rw [q4_o hk]; exact kk)
theorem g_qi {k i : Nat} {x : Int32} (hd : Dc M pc .iastore 1 n) (ha : arrN k = some 120) (hk : k ≠ 33) (hi : i < 120) (kk : Go l g M n lv st (q4 a b c d (up W k i x)) Q) : Go l g M pc lv (.int x :: .int (nI i) :: .ref (g.1 k) :: st) (q4 a b c d W) Q := g_iastN hd ha hi (by decide) (by rw [q4_si _ hk]; exact kk)
end Q4
def enR (T : TT) : Nat := if T.2.2 = 0 then T.1 else T.2.1
def soR (T : TT) : Int32 := if T.2.2 = 5 then 3 else T.2.2
def vaR (f : Nat → Int32) (T : TT) : Int32 := if T.2.2 = 2 then nuF f T.1 (T.2.1 - T.1) else 0
def tq (f : Nat → Int32) (T : TT) (W : Wd) : Wd := q4 (nI T.1) (nI (enR T)) (soR T) (vaR f T) W
def byA (f : Nat → Int32) (t k : Nat) : Int32 := if k < t then f k else -1
section BY
variable {f : Nat → Int32} {t i : Nat}
theorem by_bl : byA f t i = 32 ↔ tkF f t i = 4 := by unfold byA tkF clsF; grind
theorem by_w : (97 ≤ byA f t i ∧ byA f t i ≤ 122) ↔ tkF f t i = 1 := by unfold byA tkF clsF; grind
theorem by_n : (48 ≤ byA f t i ∧ byA f t i ≤ 57) ↔ tkF f t i = 2 := by unfold byA tkF clsF; grind
theorem by_e (h : i < t → 0 ≤ f i) : byA f t i < 0 ↔ tkF f t i = 0 := by
  unfold byA tkF clsF
  by_cases hi : i < t
  · have := h hi
    rw [if_pos hi, if_pos hi]
    grind
  · rw [if_neg hi, if_neg hi]
    exact ⟨fun _ => rfl, fun _ => by decide⟩
theorem skF_n4 : ∀ m i, t ≤ i + m → ¬ tkF f t (skF f t m i) = 4
  | 0, i, h => by
    unfold skF tkF
    rw [if_neg (by omega)]; decide
  | m + 1, i, h => by
    unfold skF
    split
    · exact skF_n4 m (i + 1) (by omega)
    · assumption
theorem skN_n4 : ¬ tkF f t (skN f t i) = 4 := skF_n4 _ _ (by omega)
theorem tk_cases : tkF f t i = 0 ∨ tkF f t i = 1 ∨ tkF f t i = 2 ∨ tkF f t i = 3 ∨ tkF f t i = 4 ∨ tkF f t i = 5 := by unfold tkF clsF; grind
theorem tq_0 {W : Wd} {e : Nat} (h : tkF f t (skN f t e) = 0) : tq f (nextF f t e) W = q4 (nI (skN f t e)) (nI (skN f t e)) 0 0 W := by
  unfold tq nextF enR soR vaR
  rw [h]; rfl
theorem tq_1 {W : Wd} {e : Nat} (h : tkF f t (skN f t e) = 1) : tq f (nextF f t e) W = q4 (nI (skN f t e)) (nI (rnN f t 1 (skN f t e))) 1 0 W := by
  unfold tq nextF enR soR vaR beF
  rw [h, rnN_y (tkF_lt (by rw [h]; decide)) h]; rfl
theorem tq_2 {W : Wd} {e : Nat} (h : tkF f t (skN f t e) = 2) : tq f (nextF f t e) W = q4 (nI (skN f t e)) (nI (rnN f t 2 (skN f t e))) 2 (nuF f (skN f t e) (rnN f t 2 (skN f t e) - skN f t e)) W := by
  unfold tq nextF enR soR vaR beF
  rw [h, rnN_y (tkF_lt (by rw [h]; decide)) h]; rfl
theorem tq_3 {W : Wd} {e : Nat} (h : tkF f t (skN f t e) = 3 ∨ tkF f t (skN f t e) = 5) : tq f (nextF f t e) W = q4 (nI (skN f t e)) (nI (skN f t e + 1)) 3 0 W := by
  unfold tq nextF enR soR vaR beF
  rcases h with h | h <;> rw [h] <;> rfl
theorem nu_step {p : Nat} (h : p ≤ i) : mnI 10000 (10 * nuF f p (i - p) + f i - 48) = nuF f p (i + 1 - p) := by
  rw [show i + 1 - p = (i - p) + 1 by omega, nuF, show p + (i - p) = i by omega, mnI_c, Int32.mul_comm]
theorem byA_lt (h : i < t) : byA f t i = f i := if_pos h
end BY
set_option maxRecDepth 4000 in
theorem cQ_byteAt {l : Launch} {g : GG} {a b c d : Int32} {W : Wd} {t : Nat} (ht : W 33 7 = nI t) (h120 : t ≤ 120) {k : Nat} (hk : k ≤ 120) : Res l g Q_byteAt [.ref (g.1 33), .int (nI k)] (q4 a b c d W) (Is (some (.int (byA (W 38) t k))) (q4 a b c d W)) := by
  refine Res.of (by decide) (by simp [Value.category]) (Nat.le_of_ble_eq_true rfl) rfl ?_
  show Go l g Q_byteAt 0 [some (.ref (g.1 33)), some (.int (nI k))] [] (q4 a b c d W) _
  refine g_iload_n dQ_byteAt_0 rfl ?_
  refine g_aload_n dQ_byteAt_1 rfl ?_
  refine g_qr (j := 7) dQ_byteAt_2 fQ_250 rfl (by decide) ?_
  refine g_icmp_ge dQ_byteAt_5 rfl (fun h5 => ?_) (fun h5 => ?_)
  · rw [ht, nI_leI (by omega) (by omega)] at h5
    refine g_iconst (v := (-1)) dQ_byteAt_17 (by decide) ?_
    refine g_iret dQ_byteAt_18 rfl rfl ?_
    first
      | exact ⟨by rw [byA, if_neg (by omega)], rfl⟩
      | exact ⟨by rw [byA, if_pos (by omega)], rfl⟩
  · rw [ht, nI_leI (by omega) (by omega)] at h5
    refine g_aload_n dQ_byteAt_8 rfl ?_
    refine g_getR2 (k2 := 38) dQ_byteAt_9 fQ_22 rfl rfl (by decide) rfl ?_
    refine g_iload_n dQ_byteAt_12 rfl ?_
    refine g_qY (k := 38) (i := k) dQ_byteAt_13 rfl (by decide) (by omega) ?_
    refine g_goto dQ_byteAt_14 rfl ?_
    refine g_iret dQ_byteAt_18 rfl rfl ?_
    first
      | exact ⟨by rw [byA, if_neg (by omega)], rfl⟩
      | exact ⟨by rw [byA, if_pos (by omega)], rfl⟩

set_option maxRecDepth 4000 in
theorem lQ_tok1 {l : Launch} {g : GG} {c d : Int32} {W : Wd} {t : Nat} (ht : W 33 7 = nI t) (h120 : t ≤ 120) {e : Nat} {Q : Option Value → Wd → Prop} : ∀ (m : Nat) (i : Nat), (t - i < m) → (i ≤ t) → (Go l g Q_token 34 [some (.ref (g.1 33)), none] [] (q4 (nI (skN (W 38) t i)) (nI (e)) c d W) Q) → Go l g Q_token 8 [some (.ref (g.1 33)), none] [] (q4 (nI (i)) (nI (e)) c d W) (Q) := by
  intro m
  induction m with
  | zero => intro i hm hi hk; omega
  | succ m ih =>
    intro i hm hi hk
    refine g_aload_n dQ_token_8 rfl ?_
    refine g_aload_n dQ_token_9 rfl ?_
    refine g_q8 dQ_token_10 fQ_256 ?_
    refine gV1 dQ_token_13 kQ_token_259 rfl rfl (cQ_byteAt ht h120 (by omega)) (Nat.le_of_ble_eq_true rfl) ?_
    refine g_bipush (v := 32) dQ_token_16 (by decide) ?_
    refine g_icmp_ne dQ_token_18 rfl (fun h18 => ?_) (fun h18 => ?_)
    · rw [by_bl] at h18
      rw [skN_n h18] at hk
      exact hk
    · rw [by_bl] at h18
      refine g_aload_n dQ_token_21 rfl ?_
      refine g_dup dQ_token_22 rfl ?_
      refine g_q8 dQ_token_23 fQ_256 ?_
      refine g_iconst (v := 1) dQ_token_26 (by decide) ?_
      refine g_iadd dQ_token_27 ?_
      refine g_top (y := nI (i + 1)) (nI_succ i).symm ?_
      refine g_qs8 dQ_token_28 fQ_256 ?_
      refine g_goto dQ_token_31 rfl ?_
      have hlt := tkF_lt (f := W 38) (t := t) (i := i) (by rw [h18]; decide)
      exact ih (i + 1) (by omega) (by omega) (by rw [← skN_y hlt h18]; exact hk)

set_option maxRecDepth 4000 in
theorem lQ_tok2 {l : Launch} {g : GG} {W : Wd} {t : Nat} (ht : W 33 7 = nI t) (h120 : t ≤ 120) {p : Nat} {lc : Option Value} : ∀ (m : Nat) (i : Nat), (t - i < m) → (i ≤ t) → Go l g Q_token 84 [some (.ref (g.1 33)), lc] [] (q4 (nI (p)) (nI (i)) 1 0 W) (Is none (q4 (nI (p)) (nI (rnN (W 38) t 1 i)) 1 0 W)) := by
  intro m
  induction m with
  | zero => intro i hm hi; omega
  | succ m ih =>
    intro i hm hi
    refine g_aload_n dQ_token_84 rfl ?_
    refine g_aload_n dQ_token_85 rfl ?_
    refine g_q9 dQ_token_86 fQ_253 ?_
    refine gV1 dQ_token_89 kQ_token_259 rfl rfl (cQ_byteAt ht h120 (by omega)) (Nat.le_of_ble_eq_true rfl) ?_
    refine g_bipush (v := 97) dQ_token_92 (by decide) ?_
    refine g_bipush (v := 122) dQ_token_94 (by decide) ?_
    refine gS3 dQ_token_96 kQ_token_79 cQ_within (Nat.le_of_ble_eq_true rfl) ?_
    refine g_if_eq dQ_token_99 rfl (fun h99 => ?_) (fun h99 => ?_)
    · have h99 := bI_0.mp h99
      rw [by_w] at h99
      refine g_vret dQ_token_206 rfl ?_
      exact ⟨rfl, by rw [rnN_n h99]⟩
    · have h99 := Classical.not_not.mp (fun z => h99 (bI_0.mpr z))
      rw [by_w] at h99
      have hlt := tkF_lt (f := W 38) (t := t) (i := i) (by rw [h99]; decide)
      refine g_aload_n dQ_token_102 rfl ?_
      refine g_dup dQ_token_103 rfl ?_
      refine g_q9 dQ_token_104 fQ_253 ?_
      refine g_iconst (v := 1) dQ_token_107 (by decide) ?_
      refine g_iadd dQ_token_108 ?_
      refine g_top (y := nI (i + 1)) (nI_succ i).symm ?_
      refine g_qs9 dQ_token_109 fQ_253 ?_
      refine g_goto dQ_token_112 rfl ?_
      refine g_mono (fun r w2 h => ?_) (ih (i + 1) (by omega) (by omega))
      rw [rnN_y hlt h99]
      exact h

set_option maxRecDepth 4000 in
theorem lQ_tok3 {l : Launch} {g : GG} {W : Wd} {t : Nat} (ht : W 33 7 = nI t) (h120 : t ≤ 120) {p : Nat} {lc : Option Value} : ∀ (m : Nat) (i : Nat), (t - i < m) → (i ≤ t) → (p ≤ i) → Go l g Q_token 131 [some (.ref (g.1 33)), lc] [] (q4 (nI (p)) (nI (i)) 2 (nuF (W 38) p (i - p)) W) (Is none (q4 (nI (p)) (nI (rnN (W 38) t 2 i)) 2 (nuF (W 38) p (rnN (W 38) t 2 i - p)) W)) := by
  intro m
  induction m with
  | zero => intro i hm hi hp; omega
  | succ m ih =>
    intro i hm hi hp
    refine g_aload_n dQ_token_131 rfl ?_
    refine g_aload_n dQ_token_132 rfl ?_
    refine g_q9 dQ_token_133 fQ_253 ?_
    refine gV1 dQ_token_136 kQ_token_259 rfl rfl (cQ_byteAt ht h120 (by omega)) (Nat.le_of_ble_eq_true rfl) ?_
    refine g_bipush (v := 48) dQ_token_139 (by decide) ?_
    refine g_bipush (v := 57) dQ_token_141 (by decide) ?_
    refine gS3 dQ_token_143 kQ_token_79 cQ_within (Nat.le_of_ble_eq_true rfl) ?_
    refine g_if_eq dQ_token_146 rfl (fun h146 => ?_) (fun h146 => ?_)
    · have h146 := bI_0.mp h146
      rw [by_n] at h146
      refine g_vret dQ_token_206 rfl ?_
      exact ⟨rfl, by rw [rnN_n h146]⟩
    · have h146 := Classical.not_not.mp (fun z => h146 (bI_0.mpr z))
      rw [by_n] at h146
      have hlt := tkF_lt (f := W 38) (t := t) (i := i) (by rw [h146]; decide)
      refine g_aload_n dQ_token_149 rfl ?_
      refine g_sipush (v := 10000) dQ_token_150 (by decide) ?_
      refine g_bipush (v := 10) dQ_token_153 (by decide) ?_
      refine g_aload_n dQ_token_155 rfl ?_
      refine g_q11 dQ_token_156 fQ_262 ?_
      refine g_imul dQ_token_159 ?_
      refine g_aload_n dQ_token_160 rfl ?_
      refine g_aload_n dQ_token_161 rfl ?_
      refine g_q9 dQ_token_162 fQ_253 ?_
      refine gV1 dQ_token_165 kQ_token_259 rfl rfl (cQ_byteAt ht h120 (by omega)) (Nat.le_of_ble_eq_true rfl) ?_
      rw [byA_lt hlt]
      refine g_iadd dQ_token_168 ?_
      refine g_bipush (v := 48) dQ_token_169 (by decide) ?_
      refine g_isub dQ_token_171 ?_
      refine g_min dQ_token_172 lQ_148 (by decide) (Nat.le_of_ble_eq_true rfl) ?_
      rw [nu_step hp]
      refine g_qs11 dQ_token_175 fQ_262 ?_
      refine g_aload_n dQ_token_178 rfl ?_
      refine g_dup dQ_token_179 rfl ?_
      refine g_q9 dQ_token_180 fQ_253 ?_
      refine g_iconst (v := 1) dQ_token_183 (by decide) ?_
      refine g_iadd dQ_token_184 ?_
      refine g_top (y := nI (i + 1)) (nI_succ i).symm ?_
      refine g_qs9 dQ_token_185 fQ_253 ?_
      refine g_goto dQ_token_188 rfl ?_
      refine g_mono (fun r w2 h => ?_) (ih (i + 1) (by omega) (by omega) (by omega))
      rw [rnN_y hlt h146]
      exact h

set_option maxRecDepth 4000 in
theorem cQ_token {l : Launch} {g : GG} {a c d : Int32} {W : Wd} {t : Nat} (ht : W 33 7 = nI t) (h120 : t ≤ 120) (hb : ∀ i, i < t → 0 ≤ W 38 i) {e : Nat} (he : e ≤ t) : Res l g Q_token [.ref (g.1 33)] (q4 a (nI (e)) c d W) (Is none (tq (W 38) (nextF (W 38) t e) W)) := by
  refine Res.of (by decide) (by simp [Value.category]) (Nat.le_of_ble_eq_true rfl) rfl ?_
  show Go l g Q_token 0 [some (.ref (g.1 33)), none] [] (q4 a (nI (e)) c d W) _
  refine g_aload_n dQ_token_0 rfl ?_
  refine g_aload_n dQ_token_1 rfl ?_
  refine g_q9 dQ_token_2 fQ_253 ?_
  refine g_qs8 dQ_token_5 fQ_256 ?_
  have hsk := skN_le (f := W 38) he
  refine lQ_tok1 ht h120 (t + 1) e (by omega) he ?_
  refine g_aload_n dQ_token_34 rfl ?_
  refine g_aload_n dQ_token_35 rfl ?_
  refine g_q8 dQ_token_36 fQ_256 ?_
  refine gV1 dQ_token_39 kQ_token_259 rfl rfl (cQ_byteAt ht h120 (by omega)) (Nat.le_of_ble_eq_true rfl) ?_
  refine g_istore_n dQ_token_42 (by decide) rfl rfl ?_
  dsimp only [List.set]
  refine g_aload_n dQ_token_43 rfl ?_
  refine g_aload_n dQ_token_44 rfl ?_
  refine g_q8 dQ_token_45 fQ_256 ?_
  refine g_qs9 dQ_token_48 fQ_253 ?_
  refine g_aload_n dQ_token_51 rfl ?_
  refine g_iconst (v := 0) dQ_token_52 (by decide) ?_
  refine g_qs11 dQ_token_53 fQ_262 ?_
  refine g_iload_n dQ_token_56 rfl ?_
  refine g_if_ge dQ_token_57 rfl (fun h57 => ?_) (fun h57 => ?_)
  · have e57 := by_e (f := W 38) (t := t) (i := skN (W 38) t e) (fun hh => hb _ hh)
    have h57 : ¬ tkF (W 38) t (skN (W 38) t e) = 0 := fun zz => Int32.not_lt.mpr h57 (e57.mpr zz)
    have hlt := tkF_lt h57
    refine g_iload_n dQ_token_68 rfl ?_
    refine g_bipush (v := 97) dQ_token_69 (by decide) ?_
    refine g_bipush (v := 122) dQ_token_71 (by decide) ?_
    refine gS3 dQ_token_73 kQ_token_79 cQ_within (Nat.le_of_ble_eq_true rfl) ?_
    refine g_if_eq dQ_token_76 rfl (fun h76 => ?_) (fun h76 => ?_)
    · have h76 := bI_0.mp h76
      rw [by_w] at h76
      refine g_iload_n dQ_token_115 rfl ?_
      refine g_bipush (v := 48) dQ_token_116 (by decide) ?_
      refine g_bipush (v := 57) dQ_token_118 (by decide) ?_
      refine gS3 dQ_token_120 kQ_token_79 cQ_within (Nat.le_of_ble_eq_true rfl) ?_
      refine g_if_eq dQ_token_123 rfl (fun h123 => ?_) (fun h123 => ?_)
      · have h123 := bI_0.mp h123
        rw [by_n] at h123
        refine g_aload_n dQ_token_191 rfl ?_
        refine g_iconst (v := 3) dQ_token_192 (by decide) ?_
        refine g_qs10 dQ_token_193 fQ_265 ?_
        refine g_aload_n dQ_token_196 rfl ?_
        refine g_dup dQ_token_197 rfl ?_
        refine g_q9 dQ_token_198 fQ_253 ?_
        refine g_iconst (v := 1) dQ_token_201 (by decide) ?_
        refine g_iadd dQ_token_202 ?_
        refine g_top (y := nI (skN (W 38) t e + 1)) (nI_succ _).symm ?_
        refine g_qs9 dQ_token_203 fQ_253 ?_
        refine g_vret dQ_token_206 rfl ?_
        first
          | exact ⟨rfl, (tq_0 h57).symm⟩
          | exact ⟨rfl, (tq_3 (by have h1 := tk_cases (f := W 38) (t := t) (i := skN (W 38) t e); have h2 := skN_n4 (f := W 38) (t := t) (i := e); grind)).symm⟩
      · have h123 := Classical.not_not.mp (fun z => h123 (bI_0.mpr z))
        rw [by_n] at h123
        refine g_aload_n dQ_token_126 rfl ?_
        refine g_iconst (v := 2) dQ_token_127 (by decide) ?_
        refine g_qs10 dQ_token_128 fQ_265 ?_
        rw [tq_2 h123]
        refine g_w (w1 := q4 (nI (skN (W 38) t e)) (nI (skN (W 38) t e)) 2 (nuF (W 38) (skN (W 38) t e) (skN (W 38) t e - skN (W 38) t e)) W) (by rw [Nat.sub_self]; rfl) ?_
        exact lQ_tok3 ht h120 (t + 1) _ (by omega) (by omega) (Nat.le_refl _)
    · have h76 := Classical.not_not.mp (fun z => h76 (bI_0.mpr z))
      rw [by_w] at h76
      refine g_aload_n dQ_token_79 rfl ?_
      refine g_iconst (v := 1) dQ_token_80 (by decide) ?_
      refine g_qs10 dQ_token_81 fQ_265 ?_
      rw [tq_1 h76]
      exact lQ_tok2 ht h120 (t + 1) _ (by omega) (by omega)
  · have e57 := by_e (f := W 38) (t := t) (i := skN (W 38) t e) (fun hh => hb _ hh)
    have h57 := e57.mp (Int32.not_le.mp h57)
    refine g_aload_n dQ_token_60 rfl ?_
    refine g_iconst (v := 0) dQ_token_61 (by decide) ?_
    refine g_qs10 dQ_token_62 fQ_265 ?_
    refine g_goto dQ_token_65 rfl ?_
    refine g_vret dQ_token_206 rfl ?_
    first
      | exact ⟨rfl, (tq_0 h57).symm⟩
      | exact ⟨rfl, (tq_3 (by have h1 := tk_cases (f := W 38) (t := t) (i := skN (W 38) t e); have h2 := skN_n4 (f := W 38) (t := t) (i := e); grind)).symm⟩
