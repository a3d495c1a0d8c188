/-! the reference's row 'now' (cell 34) as a hill -/
def fld (A : HA) (f : Nat) : Nat → Int32 := if f = 0 then A.2.1 else if f = 1 then A.2.2.1 else if f = 2 then A.2.2.2.1 else if f = 3 then A.2.2.2.2.1 else A.2.2.2.2.2
def sfld (A : HA) (f j : Nat) (v : Int32) : HA := if f = 0 then sK A j v else if f = 1 then sC A j v else if f = 2 then sF A j v else if f = 3 then sL A j v else sO A j v
def msc (j : Nat) : Nat := if j = 0 then 3 else if j = 1 then 4 else if j = 2 then 7 else if j = 3 then 5 else if j = 4 then 6 else if j = 5 then 0 else 1
def mrow (A : HA) (r : Nat → Int32) : Nat → Int32 := fun i => if i = 0 then A.1 5 else if i = 1 then A.1 6 else if i = 2 then r 2 else if i = 3 then A.1 0 else if i = 4 then A.1 1 else if i = 5 then A.1 3 else if i = 6 then A.1 4 else if i = 7 then A.1 2 else if i < 18 then r i else if i < 58 then fld A ((i - 18) % 5) ((i - 18) / 5) else r i
def mput (A : HA) (w : Wd) : Wd := upR w 34 (mrow A (w 34))
theorem mput_34 (A : HA) (w : Wd) : mput A w 34 = mrow A (w 34) := upR_same _ _ _
theorem mput_o (A : HA) (w : Wd) {k : Nat} (h : k ≠ 34) : mput A w k = w k := upR_other _ _ _ h
theorem mrow_s (A : HA) (r : Nat → Int32) {j : Nat} (hj : j < 7) : mrow A r (msc j) = A.1 j := by
  have : j = 0 ∨ j = 1 ∨ j = 2 ∨ j = 3 ∨ j = 4 ∨ j = 5 ∨ j = 6 := by omega
  rcases this with rfl | rfl | rfl | rfl | rfl | rfl | rfl <;> rfl
theorem mrow_f (A : HA) (r : Nat → Int32) {f j : Nat} (hf : f < 5) (hj : j < 8) : mrow A r (18 + 5 * j + f) = fld A f j := by
  unfold mrow
  rw [if_neg (by omega), if_neg (by omega), if_neg (by omega), if_neg (by omega), if_neg (by omega), if_neg (by omega), if_neg (by omega), if_neg (by omega), if_neg (by omega), if_pos (by omega)]
  rw [show (18 + 5 * j + f - 18) % 5 = f by omega, show (18 + 5 * j + f - 18) / 5 = j by omega]
theorem mput_s (A : HA) (w : Wd) {j i : Nat} (hi : msc j = i) (hj : j < 7) : mput A w 34 i = A.1 j := by rw [mput_34, ← hi]; exact mrow_s A _ hj
theorem mput_f (A : HA) (w : Wd) {f j : Nat} (hf : f < 5) (hj : j < 8) : mput A w 34 (18 + 5 * j + f) = fld A f j := by rw [mput_34]; exact mrow_f A _ hf hj
theorem mput_z (A : HA) (w : Wd) : mput A w 34 2 = w 34 2 := by rw [mput_34]; rfl
theorem mput_sp (A : HA) (w : Wd) {i : Nat} (h : i < 10) : mput A w 34 (8 + i) = w 34 (8 + i) := by
  rw [mput_34]
  unfold mrow
  rw [if_neg (by omega), if_neg (by omega), if_neg (by omega), if_neg (by omega), if_neg (by omega), if_neg (by omega), if_neg (by omega), if_neg (by omega), if_pos (by omega)]
theorem fld_up (A : HA) {f f2 j j2 : Nat} {v : Int32} (hf : f < 5) (hf2 : f2 < 5) : fld (sfld A f j v) f2 j2 = if f2 = f ∧ j2 = j then v else fld A f2 j2 := by
  have h1 : f = 0 ∨ f = 1 ∨ f = 2 ∨ f = 3 ∨ f = 4 := by omega
  have h2 : f2 = 0 ∨ f2 = 1 ∨ f2 = 2 ∨ f2 = 3 ∨ f2 = 4 := by omega
  rcases h1 with rfl | rfl | rfl | rfl | rfl <;> rcases h2 with rfl | rfl | rfl | rfl | rfl <;> simp [fld, sfld, sK, sC, sF, sL, sO, upd]
theorem sfld_1 (A : HA) (f j : Nat) (v : Int32) : (sfld A f j v).1 = A.1 := by
  unfold sfld
  repeat' split
  all_goals rfl
theorem fld_sS (A : HA) (j : Nat) (v : Int32) (f : Nat) : fld (sS A j v) f = fld A f := rfl
theorem upR_up (w : Wd) (k : Nat) (f : Nat → Int32) (j : Nat) (v : Int32) : up (upR w k f) k j v = upR w k (upd f j v) := by
  funext k'
  simp only [up, upR]
  split <;> simp
theorem mcases (i : Nat) : (∃ j, j < 7 ∧ i = msc j) ∨ (i = 2 ∨ (8 ≤ i ∧ i < 18) ∨ 58 ≤ i) ∨ (∃ f j, f < 5 ∧ j < 8 ∧ i = 18 + 5 * j + f) := by
  by_cases h : i < 8
  · have : i = 0 ∨ i = 1 ∨ i = 2 ∨ i = 3 ∨ i = 4 ∨ i = 5 ∨ i = 6 ∨ i = 7 := by omega
    rcases this with rfl | rfl | rfl | rfl | rfl | rfl | rfl | rfl
    · exact Or.inl ⟨5, by decide, rfl⟩
    · exact Or.inl ⟨6, by decide, rfl⟩
    · exact Or.inr (Or.inl (Or.inl rfl))
    · exact Or.inl ⟨0, by decide, rfl⟩
    · exact Or.inl ⟨1, by decide, rfl⟩
    · exact Or.inl ⟨3, by decide, rfl⟩
    · exact Or.inl ⟨4, by decide, rfl⟩
    · exact Or.inl ⟨2, by decide, rfl⟩
  · by_cases h2 : i < 18
    · exact Or.inr (Or.inl (Or.inr (Or.inl ⟨by omega, h2⟩)))
    · by_cases h3 : i < 58
      · exact Or.inr (Or.inr ⟨(i - 18) % 5, (i - 18) / 5, by omega, by omega, by omega⟩)
      · exact Or.inr (Or.inl (Or.inr (Or.inr (by omega))))
theorem mrow_r (A : HA) (r : Nat → Int32) {i : Nat} (h : i = 2 ∨ (8 ≤ i ∧ i < 18) ∨ 58 ≤ i) : mrow A r i = r i := by
  rcases h with rfl | h | h
  · rfl
  · unfold mrow
    rw [if_neg (by omega), if_neg (by omega), if_neg (by omega), if_neg (by omega), if_neg (by omega), if_neg (by omega), if_neg (by omega), if_neg (by omega), if_pos (by omega)]
  · unfold mrow
    rw [if_neg (by omega), if_neg (by omega), if_neg (by omega), if_neg (by omega), if_neg (by omega), if_neg (by omega), if_neg (by omega), if_neg (by omega), if_neg (by omega), if_neg (by omega)]
theorem msc_lt : ∀ j, j < 7 → msc j < 8 ∧ msc j ≠ 2 := by decide
theorem msc_inj : ∀ j, j < 7 → ∀ j2, j2 < 7 → msc j = msc j2 → j = j2 := by decide
theorem up_ms (A : HA) (w : Wd) {j i : Nat} (v : Int32) (hi : msc j = i) (hj : j < 7) : up (mput A w) 34 i v = mput (sS A j v) w := by
  unfold mput
  rw [upR_up]
  congr 1
  subst hi
  have hl := msc_lt j hj
  funext i
  rcases mcases i with ⟨j2, hj2, rfl⟩ | h | ⟨f, j2, hf, hj2, rfl⟩
  · unfold upd
    rw [mrow_s _ _ hj2, mrow_s _ _ hj2]
    by_cases e : j2 = j
    · subst e; rw [if_pos rfl]; exact (sS_s).symm
    · rw [if_neg (fun z => e (msc_inj _ hj2 _ hj z))]; exact (sS_n e).symm
  · unfold upd
    rw [if_neg (by omega), mrow_r _ _ h, mrow_r _ _ h]
  · unfold upd
    rw [if_neg (by omega), mrow_f _ _ hf hj2, mrow_f _ _ hf hj2]; rfl
theorem up_mf (A : HA) (w : Wd) {f j : Nat} (v : Int32) (hf : f < 5) (hj : j < 8) : up (mput A w) 34 (18 + 5 * j + f) v = mput (sfld A f j v) w := by
  unfold mput
  rw [upR_up]
  congr 1
  funext i
  by_cases hi : 18 ≤ i ∧ i < 58
  · have e : i = 18 + 5 * ((i - 18) / 5) + (i - 18) % 5 := by omega
    have hf2 : (i - 18) % 5 < 5 := by omega
    have hj2 : (i - 18) / 5 < 8 := by omega
    generalize (i - 18) / 5 = j2 at e hj2
    generalize (i - 18) % 5 = f2 at e hf2
    subst e
    rw [mrow_f _ _ hf2 hj2, fld_up A hf hf2]
    unfold upd
    rw [mrow_f _ _ hf2 hj2]
    by_cases h : f2 = f ∧ j2 = j
    · rw [if_pos h, if_pos (by omega)]
    · rw [if_neg h, if_neg (by omega)]
  · unfold upd
    rw [if_neg (by omega)]
    unfold mrow
    rw [sfld_1]
    repeat' split
    all_goals first | rfl | omega
theorem mrow_cg (A : HA) {r r2 : Nat → Int32} (h : ∀ i, (i = 2 ∨ (8 ≤ i ∧ i < 18) ∨ 58 ≤ i) → r i = r2 i) : mrow A r = mrow A r2 := by
  funext i
  rcases mcases i with ⟨j2, hj2, rfl⟩ | h2 | ⟨f, j2, hf, hj2, rfl⟩
  · rw [mrow_s _ _ hj2, mrow_s _ _ hj2]
  · rw [mrow_r _ _ h2, mrow_r _ _ h2]; exact h i h2
  · rw [mrow_f _ _ hf hj2, mrow_f _ _ hf hj2]
theorem up_mr (A : HA) (w : Wd) {i : Nat} (v : Int32) (h : i = 2 ∨ (8 ≤ i ∧ i < 18) ∨ 58 ≤ i) : up (mput A w) 34 i v = mput A (up w 34 i v) := by
  unfold mput
  rw [upR_up, up_same]
  have e : upd (mrow A (w 34)) i v = mrow A (upd (w 34) i v) := by
    funext i2
    rcases mcases i2 with ⟨j2, hj2, rfl⟩ | h2 | ⟨f, j2, hf, hj2, rfl⟩
    · have := msc_lt j2 hj2
      unfold upd
      rw [if_neg (by omega), mrow_s _ _ hj2, mrow_s _ _ hj2]
    · rw [mrow_r _ _ h2]
      unfold upd
      rw [mrow_r _ _ h2]
    · unfold upd
      rw [if_neg (by omega), mrow_f _ _ hf hj2, mrow_f _ _ hf hj2]
  rw [e]
  funext k
  simp only [upR, up]
  split <;> rfl
theorem up_mz (A : HA) (w : Wd) (v : Int32) : up (mput A w) 34 2 v = mput A (up w 34 2 v) := up_mr A w v (Or.inl rfl)
theorem up_msp (A : HA) (w : Wd) {j : Nat} (v : Int32) (hj : j < 10) : up (mput A w) 34 (8 + j) v = mput A (up w 34 (8 + j) v) := up_mr A w v (Or.inr (Or.inl ⟨by omega, by omega⟩))
theorem mput_mput (A B : HA) (w : Wd) : mput A (mput B w) = mput A w := by
  unfold mput
  rw [upR_same, mrow_cg A (r2 := w 34) (fun i h => mrow_r B _ h)]
  funext k
  simp only [upR]
  split <;> rfl
section MR
variable {l : Launch} {g : GG} {M : MM} {pc n : Nat} {lv : List (Option Value)} {st : List Value} {w : Wd} {A : HA} {Q : Option Value → Wd → Prop}
theorem g_mS {j i : Nat} (hd : Dc M pc .iaload 1 n) (hi : msc j = i) (hj : j < 7) (hi2 : i < 58) (kk : Go l g M n lv (.int (A.1 j) :: st) (mput A w) Q) : Go l g M pc lv (.int (nI i) :: .ref (g.1 34) :: st) (mput A w) Q := g_ialdN hd (N := 58) rfl hi2 (by decide) (by rw [mput_s A w hi hj]; exact kk)
theorem g_mP {j i : Nat} {x : Int32} (hd : Dc M pc .iastore 1 n) (hi : msc j = i) (hj : j < 7) (hi2 : i < 58) (kk : Go l g M n lv st (mput (sS A j x) w) Q) : Go l g M pc lv (.int x :: .int (nI i) :: .ref (g.1 34) :: st) (mput A w) Q := g_iastN hd (N := 58) rfl hi2 (by decide) (by rw [up_ms A w x hi hj]; exact kk)
theorem g_ml {f j : Nat} (hd : Dc M pc .iaload 1 n) (hf : f < 5) (hj : j < 8) (kk : Go l g M n lv (.int (fld A f j) :: st) (mput A w) Q) : Go l g M pc lv (.int (nI (18 + 5 * j + f)) :: .ref (g.1 34) :: st) (mput A w) Q := g_ialdN hd (N := 58) rfl (by omega) (by decide) (by rw [mput_f A w hf hj]; exact kk)
theorem g_ms {f j : Nat} {x : Int32} (hd : Dc M pc .iastore 1 n) (hf : f < 5) (hj : j < 8) (kk : Go l g M n lv st (mput (sfld A f j x) w) Q) : Go l g M pc lv (.int x :: .int (nI (18 + 5 * j + f)) :: .ref (g.1 34) :: st) (mput A w) Q := g_iastN hd (N := 58) rfl (by omega) (by decide) (by rw [up_mf A w x hf hj]; exact kk)
end MR
