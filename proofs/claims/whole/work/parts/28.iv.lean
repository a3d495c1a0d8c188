/-! numbers of the hill's ranges -/
theorem abI_dist {a b : Int32} (ha : -1 ≤ a ∧ a ≤ 15) (hb : -1 ≤ b ∧ b ≤ 15) : abI (a - b) = dist a b := by
  unfold abI dist; grind
theorem mnI_c (a b : Int32) : mnI a b = mnI b a := by unfold mnI; grind
theorem mxI_c (a b : Int32) : mxI a b = mxI b a := by unfold mxI; grind
theorem tow_in {a b s lo hi : Int32} (h1 : -1 ≤ lo) (h2 : hi ≤ 15) (ha : lo ≤ a ∧ a ≤ hi) (hb : lo ≤ b ∧ b ≤ hi) (hs : 0 ≤ s ∧ s ≤ 5) : lo ≤ tow a b s ∧ tow a b s ≤ hi := by
  unfold tow mnI mxI; grind
theorem sfF_in {fo p s : Int32} (hf : 0 ≤ fo ∧ fo ≤ 15) (hp : 0 ≤ p ∧ p ≤ 15) (hs : -2 ≤ s ∧ s ≤ 2) : 0 ≤ sfF fo p s ∧ sfF fo p s ≤ 15 := by
  unfold sfF tow mnI mxI; grind
theorem dist_in {a b : Int32} (ha : -1 ≤ a ∧ a ≤ 15) (hb : -1 ≤ b ∧ b ≤ 15) : 0 ≤ dist a b ∧ dist a b ≤ 16 := by
  unfold dist; grind
theorem or_sum : ∀ n, n < 8 → ∀ a, a < 2 ^ n → nI a ||| bitI n = nI (a + 2 ^ n) := by decide +kernel
theorem bitI_is : ∀ n, n < 8 → bitI n = nI (2 ^ n) := by decide +kernel
theorem bit_tet : ∀ s, s < 8 → ∀ t, t < 256 → ((nI t >>> (nI s &&& 31) &&& 1 = 1) ↔ ¬ nI t &&& bitI s = 0) := by decide +kernel
def sN (f : Nat → Int32) (p : Int32) : Nat → Nat
  | 0 => 0
  | n + 1 => if f n = p then sN f p n + 2 ^ n else sN f p n
theorem sN_lt (f : Nat → Int32) (p : Int32) : ∀ n, sN f p n < 2 ^ n
  | 0 => by show 0 < 1; decide
  | n + 1 => by
    have := sN_lt f p n
    unfold sN
    rw [Nat.pow_succ]
    split <;> omega
theorem setF_sN (f : Nat → Int32) (p : Int32) : ∀ n, n ≤ 8 → setF f p n = nI (sN f p n)
  | 0, _ => rfl
  | n + 1, h => by
    have h1 := setF_sN f p n (by omega)
    unfold setF sN
    split
    · rw [h1, or_sum n (by omega) _ (sN_lt f p n)]
    · exact h1
theorem sN_one {f : Nat → Int32} {p : Int32} {j : Nat} (hj : f j = p) : ∀ n, (∀ o, o < n → o ≠ j → ¬ f o = p) → sN f p n = if j < n then 2 ^ j else 0
  | 0, _ => by rw [if_neg (by omega)]; rfl
  | n + 1, h => by
    have h1 := sN_one hj n (fun o ho => h o (by omega))
    unfold sN
    by_cases e : n = j
    · subst e
      rw [if_pos hj, h1, if_neg (by omega), if_pos (by omega)]; omega
    · rw [if_neg (h n (by omega) e), h1]
      by_cases c : j < n
      · rw [if_pos c, if_pos (by omega)]
      · rw [if_neg c, if_neg (by omega)]
theorem sN_ge {f : Nat → Int32} {p : Int32} {o : Nat} (ho : f o = p) : ∀ n, o < n → 2 ^ o ≤ sN f p n
  | 0, h => by omega
  | n + 1, h => by
    unfold sN
    by_cases e : o = n
    · subst e; rw [if_pos ho]; omega
    · have := sN_ge ho n (by omega)
      have := Nat.two_pow_pos n
      split <;> omega
theorem sN_two {f : Nat → Int32} {p : Int32} {o j : Nat} (ho : f o = p) (hj : f j = p) (hne : o ≠ j) : ∀ n, o < n → j < n → 2 ^ o + 2 ^ j ≤ sN f p n
  | 0, h, _ => by omega
  | n + 1, h1, h2 => by
    unfold sN
    by_cases e : o = n
    · subst e
      have := sN_ge hj o (by omega)
      rw [if_pos ho]; omega
    · by_cases e2 : j = n
      · subst e2
        have := sN_ge ho j (by omega)
        rw [if_pos hj]; omega
      · have := sN_two ho hj hne n (by omega) (by omega)
        have := Nat.two_pow_pos n
        split <;> omega
theorem pow8 {n : Nat} (h : n ≤ 8) : 2 ^ n ≤ 256 := Nat.pow_le_pow_right (by decide) h
theorem set_al {f : Nat → Int32} {j n : Nat} (hj : j < n) (h8 : n ≤ 8) : setF f (f j) n = bitI j ↔ alF f j n := by
  have h2 := pow8 h8
  have h3 := sN_lt f (f j) n
  have h4 := pow8 (n := j) (by omega)
  rw [setF_sN f _ n h8, bitI_is j (by omega), nI_eq (by omega) (by omega)]
  constructor
  · intro h o ho
    by_cases e : o = j
    · exact Or.inl e
    · refine Or.inr (fun e2 => ?_)
      have := sN_two e2 (rfl : f j = f j) e n ho hj
      have := Nat.two_pow_pos o
      omega
  · intro h
    rw [sN_one rfl n (fun o ho hne => (h o ho).resolve_left hne), if_pos hj]
/-! the ranges -/
def shOK (A : HA) (j : Nat) : Prop := (0 ≤ A.2.1 j ∧ A.2.1 j ≤ 6) ∧ (0 ≤ A.2.2.1 j ∧ A.2.2.1 j ≤ 15) ∧ (0 ≤ A.2.2.2.1 j ∧ A.2.2.2.1 j ≤ 99) ∧ (0 ≤ A.2.2.2.2.1 j ∧ A.2.2.2.2.1 j ≤ 9999) ∧ (0 ≤ A.2.2.2.2.2 j ∧ A.2.2.2.2.2 j ≤ 9999)
def scOK (n b : Nat) (A : HA) : Prop := A.1 6 = nI n ∧ n ≤ 8 ∧ (0 ≤ A.1 0 ∧ A.1 0 ≤ 15) ∧ (0 ≤ A.1 1 ∧ A.1 1 ≤ 15) ∧ (A.1 2 = -1 ∨ ∃ c, c < n ∧ A.1 2 = nI c) ∧ (-1 ≤ A.1 3 ∧ A.1 3 ≤ 15) ∧ (0 ≤ A.1 4 ∧ A.1 4 ≤ 5) ∧ (0 ≤ A.1 5 ∧ A.1 5 ≤ nI b)
def IVA (n b : Nat) (A : HA) : Prop := scOK n b A ∧ ∀ j, j < 8 → shOK A j
section IV
variable {n b : Nat} {A : HA}
theorem IVA.n6 (h : IVA n b A) : A.1 6 = nI n := h.1.1
theorem IVA.n8 (h : IVA n b A) : n ≤ 8 := h.1.2.1
theorem IVA.fo (h : IVA n b A) : 0 ≤ A.1 0 ∧ A.1 0 ≤ 15 := h.1.2.2.1
theorem IVA.ke (h : IVA n b A) : 0 ≤ A.1 1 ∧ A.1 1 ≤ 15 := h.1.2.2.2.1
theorem IVA.ca (h : IVA n b A) : A.1 2 = -1 ∨ ∃ c, c < n ∧ A.1 2 = nI c := h.1.2.2.2.2.1
theorem IVA.wo (h : IVA n b A) : -1 ≤ A.1 3 ∧ A.1 3 ≤ 15 := h.1.2.2.2.2.2.1
theorem IVA.pa (h : IVA n b A) : 0 ≤ A.1 4 ∧ A.1 4 ≤ 5 := h.1.2.2.2.2.2.2.1
theorem IVA.ho (h : IVA n b A) : 0 ≤ A.1 5 ∧ A.1 5 ≤ nI b := h.1.2.2.2.2.2.2.2
theorem IVA.sh (h : IVA n b A) {j : Nat} (hj : j < 8) : shOK A j := h.2 j hj
theorem IVA.car (h : IVA n b A) : carM n A := h.ca.elim (fun e => Or.inl (by rw [e]; decide)) Or.inr
theorem IVA.s0 (h : IVA n b A) {v : Int32} (hv : 0 ≤ v ∧ v ≤ 15) : IVA n b (sS A 0 v) := ⟨⟨h.1.1, h.1.2.1, hv, h.1.2.2.2⟩, h.2⟩
theorem IVA.s1 (h : IVA n b A) {v : Int32} (hv : 0 ≤ v ∧ v ≤ 15) : IVA n b (sS A 1 v) := ⟨⟨h.n6, h.n8, h.fo, hv, h.1.2.2.2.2⟩, h.2⟩
theorem IVA.s2 (h : IVA n b A) {v : Int32} (hv : v = -1 ∨ ∃ c, c < n ∧ v = nI c) : IVA n b (sS A 2 v) := ⟨⟨h.n6, h.n8, h.fo, h.ke, hv, h.1.2.2.2.2.2⟩, h.2⟩
theorem IVA.s3 (h : IVA n b A) {v : Int32} (hv : -1 ≤ v ∧ v ≤ 15) : IVA n b (sS A 3 v) := ⟨⟨h.n6, h.n8, h.fo, h.ke, h.ca, hv, h.1.2.2.2.2.2.2⟩, h.2⟩
theorem IVA.s4 (h : IVA n b A) {v : Int32} (hv : 0 ≤ v ∧ v ≤ 5) : IVA n b (sS A 4 v) := ⟨⟨h.n6, h.n8, h.fo, h.ke, h.ca, h.wo, hv, h.ho⟩, h.2⟩
theorem IVA.s5 (h : IVA n b A) {v : Int32} {b2 : Nat} (hv : 0 ≤ v ∧ v ≤ nI b2) : IVA n b2 (sS A 5 v) := ⟨⟨h.n6, h.n8, h.fo, h.ke, h.ca, h.wo, h.pa, hv⟩, h.2⟩
theorem upd_in {f : Nat → Int32} {j i : Nat} {v lo hi : Int32} (hv : lo ≤ v ∧ v ≤ hi) (hf : lo ≤ f i ∧ f i ≤ hi) : lo ≤ upd f j v i ∧ upd f j v i ≤ hi := by
  unfold upd
  split
  · exact hv
  · exact hf
theorem IVA.K (h : IVA n b A) {j : Nat} {v : Int32} (hv : 0 ≤ v ∧ v ≤ 6) : IVA n b (sK A j v) := ⟨h.1, fun i hi => ⟨upd_in hv (h.sh hi).1, (h.sh hi).2⟩⟩
theorem IVA.C (h : IVA n b A) {j : Nat} {v : Int32} (hv : 0 ≤ v ∧ v ≤ 15) : IVA n b (sC A j v) := ⟨h.1, fun i hi => ⟨(h.sh hi).1, upd_in hv (h.sh hi).2.1, (h.sh hi).2.2⟩⟩
theorem IVA.F (h : IVA n b A) {j : Nat} {v : Int32} (hv : 0 ≤ v ∧ v ≤ 99) : IVA n b (sF A j v) := ⟨h.1, fun i hi => ⟨(h.sh hi).1, (h.sh hi).2.1, upd_in hv (h.sh hi).2.2.1, (h.sh hi).2.2.2⟩⟩
theorem IVA.L (h : IVA n b A) {j : Nat} {v : Int32} (hv : 0 ≤ v ∧ v ≤ 9999) : IVA n b (sL A j v) := ⟨h.1, fun i hi => ⟨(h.sh hi).1, (h.sh hi).2.1, (h.sh hi).2.2.1, upd_in hv (h.sh hi).2.2.2.1, (h.sh hi).2.2.2.2⟩⟩
theorem IVA.O (h : IVA n b A) {j : Nat} {v : Int32} (hv : 0 ≤ v ∧ v ≤ 9999) : IVA n b (sO A j v) := ⟨h.1, fun i hi => ⟨(h.sh hi).1, (h.sh hi).2.1, (h.sh hi).2.2.1, (h.sh hi).2.2.2.1, upd_in hv (h.sh hi).2.2.2.2⟩⟩
theorem IVA.up (h : IVA n b A) {b2 : Nat} (hb : b ≤ b2) (h2 : b2 < 2 ^ 31) : IVA n b2 A := ⟨⟨h.n6, h.n8, h.fo, h.ke, h.ca, h.wo, h.pa, h.ho.1, Int32.le_trans h.ho.2 ((nI_leI (by omega) h2).mpr hb)⟩, h.2⟩
/-! they stray alike -/
theorem plain01 (A : HA) : plainF A = 0 ∨ plainF A = 1 := by
  unfold plainF
  split
  · exact Or.inr rfl
  · exact Or.inl rfl
theorem strays_in (A : HA) (n j : Nat) : -2 ≤ straysF A n j ∧ straysF A n j ≤ 2 := by
  have h := plain01 A
  unfold straysF ramF eweF
  generalize plainF A = q at *
  rcases h with rfl | rfl <;> (repeat' split) <;> decide
theorem strays_eq {j : Nat} (hj : j < n) (h8 : n ≤ 8) (A : HA) : straysM A n j = straysF A n j := by
  unfold straysM straysF
  by_cases h : alF A.2.2.1 j n
  · rw [if_pos h, if_pos ((set_al hj h8).mpr h)]
  · rw [if_neg h, if_neg (fun z => h ((set_al hj h8).mp z))]
theorem stS_eq {t s : Nat} (ht : t < 256) (h : IVA n b A) (hs : s < n) : stSM (nI t) n s A = stS (nI t) n s A := by
  have h8 := h.n8
  unfold stSM stS
  rw [strays_eq hs h8]
  by_cases e : nI s = A.1 2
  · rw [if_neg (fun z => z.1 e), if_neg (fun z => z.1 e)]
  · by_cases e2 : nI t &&& bitI s = 0
    · rw [if_pos ⟨e, fun z => (bit_tet s (by omega) t ht).mp z e2⟩, if_pos ⟨e, e2⟩]
    · rw [if_neg (fun z => z.2 ((bit_tet s (by omega) t ht).mpr e2)), if_neg (fun z => e2 z.2)]
theorem stS_IV {t : Int32} {s : Nat} (h : IVA n b A) (hs : s < n) : IVA n b (stS t n s A) := by
  have h8 := h.n8
  unfold stS
  split
  · exact h.C (sfF_in h.fo (h.sh (by omega)).2.1 (strays_in A n s))
  · exact h
theorem stF_IV {t : Int32} (h : IVA n b A) : ∀ s, s ≤ n → IVA n b (stF t n s A)
  | 0, _ => h
  | s + 1, hs => stS_IV (stF_IV h s (by omega)) (by omega)
theorem stM_eq {t : Nat} (ht : t < 256) (h : IVA n b A) : ∀ s, s ≤ n → stM (nI t) n s A = stF (nI t) n s A
  | 0, _ => rfl
  | s + 1, hs => by
    unfold stM stF
    rw [stM_eq ht h s (by omega)]
    exact stS_eq ht (stF_IV h s (by omega)) (by omega)
/-! the wolf -/
theorem fears_eq {k : Int32} (hk : 0 ≤ k ∧ k ≤ 6) : fearsM k = fearsK k := by unfold fearsM fearsK; grind
theorem fears_in (k : Int32) : 0 ≤ fearsK k ∧ fearsK k ≤ 25 := by
  unfold fearsK
  repeat' split
  all_goals decide
theorem calms_in (k : Int32) : 0 ≤ calmsK k ∧ calmsK k ≤ 4 := by
  unfold calmsK
  repeat' split
  all_goals decide
theorem light_in (k : Int32) : 0 ≤ lightK k ∧ lightK k ≤ 5 := by
  unfold lightK
  repeat' split
  all_goals decide
theorem upd_id (f : Nat → Int32) (j : Nat) : upd f j (f j) = f := by
  funext i
  unfold upd
  split
  · subst_vars; rfl
  · rfl
theorem in15 {x : Int32} (h : 0 ≤ x ∧ x ≤ 15) : -1 ≤ x ∧ x ≤ 15 := ⟨Int32.le_trans (by decide) h.1, h.2⟩
theorem fr_num {x y : Int32} (hx : 0 ≤ x ∧ x ≤ 99) (hy : 0 ≤ y ∧ y ≤ 25) : (0 ≤ mnI (x + y) 99 ∧ mnI (x + y) 99 ≤ 99) := by unfold mnI; grind
theorem mn99 {x : Int32} (hx : 0 ≤ x ∧ x ≤ 99) : mnI 99 (x + 0) = x := by unfold mnI; grind
theorem frS_eq {s : Nat} (h : IVA n b A) (hs : s < 8) : frSM s A = frS s A := by
  have h1 := h.sh hs
  unfold frSM frS
  rw [abI_dist (in15 h1.2.1) h.wo]
  by_cases e : ¬ nI s = A.1 2 ∧ dist (A.2.2.1 s) (A.1 3) ≤ 2
  · rw [if_pos e, if_pos e, fears_eq h1.1, mnI_c]
  · rw [if_neg e, if_neg e, mn99 h1.2.2.1]
    unfold sF
    rw [upd_id]
theorem frS_IV {s : Nat} (h : IVA n b A) (hs : s < 8) : IVA n b (frS s A) := by
  unfold frS
  split
  · exact h.F (fr_num (h.sh hs).2.2.1 (fears_in _))
  · exact h
theorem frF_IV (h : IVA n b A) : ∀ s, s ≤ 8 → IVA n b (frF s A)
  | 0, _ => h
  | s + 1, hs => frS_IV (frF_IV h s (by omega)) (by omega)
theorem frM_eq (h : IVA n b A) : ∀ s, s ≤ 8 → frM s A = frF s A
  | 0, _ => rfl
  | s + 1, hs => by
    unfold frM frF
    rw [frM_eq h s (by omega)]
    exact frS_eq (frF_IV h s (by omega)) (by omega)
theorem ne_eq {f : Nat → Int32} {ca wo : Int32} (hw : -1 ≤ wo ∧ wo ≤ 15) : ∀ m, (∀ j, j < m → 0 ≤ f j ∧ f j ≤ 15) → neM f ca wo m = neF f ca wo m ∧ (neF f ca wo m).2 ≤ 16
  | 0, _ => ⟨rfl, (by decide : (16 : Int32) ≤ 16)⟩
  | m + 1, hf => by
    have h1 := ne_eq (ca := ca) hw m (fun j hj => hf j (by omega))
    have h2 := dist_in (in15 (hf m (by omega))) hw
    unfold neM neF
    rw [h1.1, abI_dist (in15 (hf m (by omega))) hw]
    by_cases e : nI m = ca
    · rw [if_pos e, if_neg (Int32.not_lt.mpr h1.2), if_neg (fun z => z.1 e)]
      refine ⟨Prod.ext rfl ?_, h1.2⟩
      show mnI _ 16 = _
      unfold mnI
      rw [if_neg (Int32.not_lt.mpr h1.2)]
    · rw [if_neg e]
      by_cases e2 : dist (f m) wo < (neF f ca wo m).2
      · rw [if_pos e2, if_pos ⟨e, e2⟩]
        refine ⟨Prod.ext rfl ?_, h2.2⟩
        show mnI _ _ = _
        unfold mnI
        rw [if_pos e2]
      · rw [if_neg e2, if_neg (fun z => e2 z.2)]
        refine ⟨Prod.ext rfl ?_, h1.2⟩
        show mnI _ _ = _
        unfold mnI
        rw [if_neg e2]
theorem IVA.cells (h : IVA n b A) : ∀ j, j < n → 0 ≤ A.2.2.1 j ∧ A.2.2.1 j ≤ 15 := fun j hj => (h.sh (by have := h.n8; omega)).2.1
theorem wm_eq (h : IVA n b A) : wmM n A = wmF n A := by
  unfold wmM wmF
  rw [(ne_eq (ca := A.1 2) h.wo n h.cells).1]
  rcases neF_lt A.2.2.1 (A.1 2) (A.1 3) n with e | ⟨c, hc, e⟩
  · rw [if_pos (by rw [e]; decide), if_pos e]
  · have h8 := h.n8
    rw [if_neg (by rw [e]; exact nI_pos (by omega)), if_neg (by rw [e]; intro z; exact nI_pos (n := c) (by omega) (by rw [z]; decide))]
theorem wm_IV (h : IVA n b A) : IVA n b (wmF n A) := by
  unfold wmF
  rcases neF_lt A.2.2.1 (A.1 2) (A.1 3) n with e | ⟨c, hc, e⟩
  · rw [if_pos e]; exact h
  · have h8 := h.n8
    rw [if_neg (by rw [e]; intro z; exact nI_pos (n := c) (by omega) (by rw [z]; decide)), e, nI_clamp (by omega)]
    exact h.s3 (tow_in (by decide) (by decide) h.wo (in15 (h.cells c hc)) h.pa)
theorem neg1 {x : Int32} (h : -1 ≤ x) : x < 0 ↔ x = -1 := by grind
theorem pr_eq (h : IVA n b A) : prM n A = prF n A := by
  unfold prM prF
  rw [abI_dist h.wo (in15 h.ke), wm_eq h, frM_eq (wm_IV h) n h.n8]
  by_cases e : A.1 3 = -1
  · rw [if_pos (Or.inl ((neg1 h.wo.1).mpr e)), if_pos (Or.inl e)]
  · by_cases e2 : dist (A.1 3) (A.1 1) ≤ 1
    · rw [if_pos (Or.inr e2), if_pos (Or.inr e2)]
    · rw [if_neg (fun z => z.elim (fun z => e ((neg1 h.wo.1).mp z)) e2), if_neg (fun z => z.elim e e2)]
theorem pr_IV (h : IVA n b A) : IVA n b (prF n A) := by
  unfold prF
  split
  · exact h
  · exact frF_IV (wm_IV h) n h.n8
/-! the keeper -/
theorem so_eq {f : Nat → Int32} {fo : Int32} (hw : 0 ≤ fo ∧ fo ≤ 15) : ∀ m, (∀ j, j < m → 0 ≤ f j ∧ f j ≤ 15) → soM f fo m = soF f fo m
  | 0, _ => rfl
  | m + 1, hf => by
    unfold soM soF
    rw [so_eq hw m (fun j hj => hf j (by omega)), abI_dist (in15 (hf m (by omega))) (in15 hw)]
    by_cases e2 : (soF f fo m).2 < dist (f m) fo
    · rw [if_pos e2, if_pos e2]
      refine Prod.ext rfl ?_
      show mxI _ _ = _
      unfold mxI
      rw [if_pos e2]
    · rw [if_neg e2, if_neg e2]
      refine Prod.ext rfl ?_
      show mxI _ _ = _
      unfold mxI
      rw [if_neg e2]
theorem ma_eq (f : Nat → Int32) : ∀ m, maM f m = maF f m
  | 0 => rfl
  | m + 1 => by
    unfold maM maF
    rw [ma_eq f m]
    by_cases e2 : (maF f m).2 < f m
    · rw [if_pos e2, if_pos e2]
      refine Prod.ext rfl ?_
      show mxI _ _ = _
      unfold mxI
      rw [if_pos e2]
    · rw [if_neg e2, if_neg e2]
      refine Prod.ext rfl ?_
      show mxI _ _ = _
      unfold mxI
      rw [if_neg e2]
theorem ls_eq {f : Nat → Int32} {fo : Int32} (hw : 0 ≤ fo ∧ fo ≤ 15) : ∀ m, (∀ j, j < m → 0 ≤ f j ∧ f j ≤ 15) → lsM f fo m = farF f fo m
  | 0, _ => rfl
  | m + 1, hf => by
    unfold lsM farF
    rw [ls_eq hw m (fun j hj => hf j (by omega)), abI_dist (in15 (hf m (by omega))) (in15 hw)]
    by_cases e2 : 3 ≤ dist (f m) fo
    · rw [if_pos e2, if_pos e2]
    · rw [if_neg e2, if_neg e2]; exact Int32.or_zero
theorem nIne {c : Nat} (h : c < 2 ^ 31) : ¬ nI c = -1 := fun z => nI_pos h (by rw [z]; decide)
theorem se_eq (h : IVA n b A) : seM n A = seF n A := by
  have h8 := h.n8
  unfold seM seF
  rw [so_eq h.fo n h.cells]
  rcases soF_lt A.2.2.1 (A.1 0) n with e | ⟨c, hc, e⟩
  · rw [if_pos e, e]; rfl
  · have hc2 : c < 2 ^ 31 := by omega
    rw [if_neg (by rw [e]; exact nIne hc2), e, nI_clamp hc2]
    unfold se2M se1M
    rw [if_neg (nI_pos hc2), nI_clamp hc2]
    show (if 0 ≤ nI c ∧ tow (A.1 1) (A.2.2.1 c) 2 = A.2.2.1 c then _ else _) = _
    by_cases e2 : tow (A.1 1) (A.2.2.1 c) 2 = A.2.2.1 c
    · rw [if_pos ⟨nI_pos' hc2, e2⟩, if_pos e2]
    · rw [if_neg (fun z => e2 z.2), if_neg e2]
theorem se_IV (h : IVA n b A) : IVA n b (seF n A) := by
  have h8 := h.n8
  unfold seF
  rcases soF_lt A.2.2.1 (A.1 0) n with e | ⟨c, hc, e⟩
  · rw [if_pos e]; exact h.s1 (tow_in (by decide) (by decide) h.ke h.fo (by decide))
  · have hc2 : c < 2 ^ 31 := by omega
    have h1 := h.s1 (v := tow (A.1 1) (A.2.2.1 c) 2) (tow_in (by decide) (by decide) h.ke (h.cells c hc) (by decide))
    rw [if_neg (by rw [e]; exact nIne hc2), e, nI_clamp hc2]
    split
    · exact h1.s2 (Or.inr ⟨c, hc, rfl⟩)
    · exact h1
theorem mk_eq (h : IVA n b A) (v : Int32) : mkM v A = mkF v A := by
  unfold mkM mkF
  rw [h.n6]
  rcases h.ca with e | ⟨c, hc, e⟩
  · rw [if_pos (by rw [e]; decide), if_neg (by rw [e]; intro z; exact absurd z.1 (by decide))]
  · have h8 := h.n8
    rw [if_neg (by rw [e]; exact nI_pos (by omega)), if_pos (by rw [e]; exact ⟨nI_pos' (by omega), (nI_ltI (by omega) (by omega)).mpr hc⟩)]
theorem mk_IV (h : IVA n b A) {v : Int32} (hv : 0 ≤ v ∧ v ≤ 15) : IVA n b (mkF v A) := by
  unfold mkF
  split
  · exact (h.s1 hv).C hv
  · exact h.s1 hv
theorem mn9999 {x : Int32} (hx : 0 ≤ x ∧ x ≤ 9999) : 0 ≤ mnI (x + 1) 9999 ∧ mnI (x + 1) 9999 ≤ 9999 := by unfold mnI; grind
theorem te_eq (h : IVA n b A) : teM n A = teF n A := by
  unfold teM teF
  rw [h.n6, se_eq h]
  rcases h.ca with e | ⟨c, hc, e⟩
  · rw [if_pos (by rw [e]; decide), if_neg (by rw [e]; intro z; exact absurd z.1 (by decide))]
  · have h8 := h.n8
    rw [if_neg (by rw [e]; exact nI_pos (by omega)), if_pos (by rw [e]; exact ⟨nI_pos' (by omega), (nI_ltI (by omega) (by omega)).mpr hc⟩)]
    unfold caM caF ca1M ca1
    rw [mk_eq h]
    unfold ca2M ca2
    rw [mnI_c]
theorem te_IV (h : IVA n b A) : IVA n b (teF n A) := by
  unfold teF
  split
  · rename_i hc0
    obtain ⟨c, hc, e⟩ := h.ca.resolve_left (fun z => absurd (z ▸ hc0.1) (by decide))
    have h8 := h.n8
    unfold caF
    rw [e, nI_clamp (by omega)]
    have h1 : IVA n b (ca1 A) := mk_IV h (tow_in (by decide) (by decide) h.ke h.fo (light_in _))
    unfold ca2
    split
    · exact ((h1.O (mn9999 (h1.sh (j := c) (by omega)).2.2.2.2)).F (by decide)).s2 (Or.inl rfl)
    · exact h1
  · exact se_IV h
/-! evening -/
theorem ab0 {a b : Int32} (ha : 0 ≤ a ∧ a ≤ 15) (hb : 0 ≤ b ∧ b ≤ 15) : abI (a - b) = 0 ↔ a = b := by unfold abI; grind
theorem mx99 {x y : Int32} (hx : 0 ≤ x ∧ x ≤ 99) (hy : 0 ≤ y ∧ y ≤ 4) : 0 ≤ mxI (x - y) 0 ∧ mxI (x - y) 0 ≤ 99 := by unfold mxI; grind
theorem seS_eq {s : Nat} (h : IVA n b A) (hs : s < 8) : ttSM s A = seS s A := by
  unfold ttSM seS
  rw [mxI_c, mnI_c]
  by_cases e : A.2.2.1 s = A.1 0
  · rw [if_pos ((ab0 (h.sh hs).2.1 h.fo).mpr e), if_pos e]
  · rw [if_neg (fun z => e ((ab0 (h.sh hs).2.1 h.fo).mp z)), if_neg e]
theorem seS_IV {s : Nat} (h : IVA n b A) (hs : s < 8) : IVA n b (seS s A) := by
  unfold seS
  refine (h.L ?_).F (mx99 (h.sh hs).2.2.1 (calms_in _))
  split
  · decide
  · exact mn9999 (h.sh hs).2.2.2.1
theorem ttF_IV (h : IVA n b A) : ∀ s, s ≤ 8 → IVA n b (ttF s A)
  | 0, _ => h
  | s + 1, hs => seS_IV (ttF_IV h s (by omega)) (by omega)
theorem ttM_eq (h : IVA n b A) : ∀ s, s ≤ 8 → ttM s A = ttF s A
  | 0, _ => rfl
  | s + 1, hs => by
    unfold ttM ttF
    rw [ttM_eq h s (by omega)]
    exact seS_eq (ttF_IV h s (by omega)) (by omega)
theorem en_num {x : Int32} {b : Nat} (hb : b < 99999) (h : 0 ≤ x ∧ x ≤ nI b) : mnI (x + 1) 99999 = x + 1 ∧ 0 ≤ x + 1 ∧ x + 1 ≤ nI (b + 1) := by
  obtain ⟨c, hc, rfl⟩ := nI_of (Int32.not_lt.mpr h.1)
  have h1 := (nI_leI hc (by omega)).mp h.2
  rw [← nI_succ]
  refine ⟨?_, nI_pos' (by omega), (nI_leI (by omega) (by omega)).mpr (by omega)⟩
  unfold mnI
  rw [if_neg (by rw [show (99999 : Int32) = nI 99999 from rfl, nI_ltI (by omega) (by omega)]; omega)]
theorem hour_IV {t : Int32} (h : IVA n b A) (hb : b < 99999) : IVA n (b + 1) (hourF t n A) := by
  have h4 := ttF_IV (te_IV (pr_IV (stF_IV (t := t) h n (Nat.le_refl n)))) n h.n8
  have h5 := en_num hb h4.ho
  unfold hourF enF
  exact h4.s5 (by rw [h5.1]; exact h5.2)
theorem hour_eq {t : Nat} (ht : t < 256) (h : IVA n b A) (hb : b < 99999) : hourM (nI t) n A = hourF (nI t) n A := by
  have h1 := stF_IV (t := nI t) h n (Nat.le_refl n)
  have h2 := pr_IV h1
  have h3 := te_IV h2
  have h4 := ttF_IV h3 n h.n8
  unfold hourM hourF
  rw [stM_eq ht h n (Nat.le_refl n), pr_eq h1, te_eq h2, ttM_eq h3 n h.n8]
  unfold enM enF
  rw [(en_num hb h4.ho).1]
theorem hours_IV {t : Int32} (h : IVA n b A) : ∀ m, b + m ≤ 99999 → IVA n (b + m) (hoursF t n m A)
  | 0, _ => h
  | m + 1, hm => hour_IV (b := b + m) (hours_IV h m (by omega)) (by omega)
theorem hours_eq {t : Nat} (ht : t < 256) (h : IVA n b A) : ∀ m, b + m ≤ 99999 → hoursM (nI t) n m A = hoursF (nI t) n m A
  | 0, _ => rfl
  | m + 1, hm => by
    unfold hoursM hoursF
    rw [hours_eq ht h m (by omega)]
    exact hour_eq (b := b + m) ht (hours_IV h m (by omega)) (by omega)
end IV
