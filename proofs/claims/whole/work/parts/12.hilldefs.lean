/-! a hill as six rows: scalars (fold keeper carried wolf pace hour size), kind, cell, fear, lost, found -/
abbrev HA : Type := (Nat → Int32) × (Nat → Int32) × (Nat → Int32) × (Nat → Int32) × (Nat → Int32) × (Nat → Int32)
def sS (A : HA) (j : Nat) (v : Int32) : HA := (upd A.1 j v, A.2)
def sK (A : HA) (j : Nat) (v : Int32) : HA := (A.1, upd A.2.1 j v, A.2.2)
def sC (A : HA) (j : Nat) (v : Int32) : HA := (A.1, A.2.1, upd A.2.2.1 j v, A.2.2.2)
def sF (A : HA) (j : Nat) (v : Int32) : HA := (A.1, A.2.1, A.2.2.1, upd A.2.2.2.1 j v, A.2.2.2.2)
def sL (A : HA) (j : Nat) (v : Int32) : HA := (A.1, A.2.1, A.2.2.1, A.2.2.2.1, upd A.2.2.2.2.1 j v, A.2.2.2.2.2)
def sO (A : HA) (j : Nat) (v : Int32) : HA := (A.1, A.2.1, A.2.2.1, A.2.2.2.1, A.2.2.2.2.1, upd A.2.2.2.2.2 j v)
def hget (w : Wd) (h : Nat) : HA := (w h, w (h + 1), w (h + 2), w (h + 3), w (h + 4), w (h + 5))
def hput (h : Nat) (A : HA) (w : Wd) : Wd := fun k => if k = h then A.1 else if k = h + 1 then A.2.1 else if k = h + 2 then A.2.2.1 else if k = h + 3 then A.2.2.2.1 else if k = h + 4 then A.2.2.2.2.1 else if k = h + 5 then A.2.2.2.2.2 else w k
theorem hput_S (h : Nat) (A : HA) (w : Wd) : hput h A w h = A.1 := by simp [hput]
theorem hput_K (h : Nat) (A : HA) (w : Wd) : hput h A w (h + 1) = A.2.1 := by simp [hput]
theorem hput_C (h : Nat) (A : HA) (w : Wd) : hput h A w (h + 2) = A.2.2.1 := by simp [hput]
theorem hput_F (h : Nat) (A : HA) (w : Wd) : hput h A w (h + 3) = A.2.2.2.1 := by simp [hput]
theorem hput_L (h : Nat) (A : HA) (w : Wd) : hput h A w (h + 4) = A.2.2.2.2.1 := by simp [hput]
theorem hput_O (h : Nat) (A : HA) (w : Wd) : hput h A w (h + 5) = A.2.2.2.2.2 := by simp [hput]
theorem hput_out {h k : Nat} (A : HA) (w : Wd) (hk : k < h ∨ h + 6 ≤ k) : hput h A w k = w k := by
  unfold hput
  rw [if_neg (by omega), if_neg (by omega), if_neg (by omega), if_neg (by omega), if_neg (by omega), if_neg (by omega)]
theorem hget_hput (h : Nat) (A : HA) (w : Wd) : hget (hput h A w) h = A := by
  simp only [hget, hput_S, hput_K, hput_C, hput_F, hput_L, hput_O]
theorem hput_hput (h : Nat) (A B : HA) (w : Wd) : hput h A (hput h B w) = hput h A w := by
  funext k
  simp only [hput]
  repeat' split
  all_goals rfl
theorem hput_hget (h : Nat) (w : Wd) : hput h (hget w h) w = w := by
  funext k
  simp only [hput, hget]
  repeat' split
  all_goals first | rfl | (subst_vars; rfl)
theorem hget_out {h h2 : Nat} (A : HA) (w : Wd) (hk : h2 + 6 ≤ h ∨ h + 6 ≤ h2) : hget (hput h A w) h2 = hget w h2 := by
  simp only [hget]
  rw [hput_out A w (by omega), hput_out A w (by omega), hput_out A w (by omega), hput_out A w (by omega), hput_out A w (by omega), hput_out A w (by omega)]
theorem hput_cg {h k : Nat} (A : HA) {w w2 : Wd} (e : w k = w2 k) : hput h A w k = hput h A w2 k := by simp only [hput, e]
theorem hput_in {h k : Nat} (A : HA) (w w2 : Wd) (hk : h ≤ k ∧ k < h + 6) : hput h A w k = hput h A w2 k := by
  simp only [hput]
  repeat' split
  all_goals first | rfl | (exfalso; omega)
theorem hput_comm {h h2 : Nat} (A B : HA) (w : Wd) (hk : h2 + 6 ≤ h ∨ h + 6 ≤ h2) : hput h A (hput h2 B w) = hput h2 B (hput h A w) := by
  funext k
  by_cases h1 : h ≤ k ∧ k < h + 6
  · rw [hput_out (h := h2) B _ (by omega)]
    exact hput_in A _ _ h1
  · rw [hput_out (h := h) A _ (by omega)]
    exact hput_cg B (hput_out (h := h) A w (by omega)).symm
theorem up_hS (h : Nat) (A : HA) (w : Wd) (j : Nat) (v : Int32) : up (hput h A w) h j v = hput h (sS A j v) w := by
  funext k
  simp only [up, hput, sS]
  repeat' split
  all_goals first | rfl | omega | simp_all
theorem up_hK (h : Nat) (A : HA) (w : Wd) (j : Nat) (v : Int32) : up (hput h A w) (h + 1) j v = hput h (sK A j v) w := by
  funext k
  simp only [up, hput, sK]
  repeat' split
  all_goals first | rfl | omega | simp_all
theorem up_hC (h : Nat) (A : HA) (w : Wd) (j : Nat) (v : Int32) : up (hput h A w) (h + 2) j v = hput h (sC A j v) w := by
  funext k
  simp only [up, hput, sC]
  repeat' split
  all_goals first | rfl | omega | simp_all
theorem up_hF (h : Nat) (A : HA) (w : Wd) (j : Nat) (v : Int32) : up (hput h A w) (h + 3) j v = hput h (sF A j v) w := by
  funext k
  simp only [up, hput, sF]
  repeat' split
  all_goals first | rfl | omega | simp_all
theorem up_hL (h : Nat) (A : HA) (w : Wd) (j : Nat) (v : Int32) : up (hput h A w) (h + 4) j v = hput h (sL A j v) w := by
  funext k
  simp only [up, hput, sL]
  repeat' split
  all_goals first | rfl | omega | simp_all
theorem up_hO (h : Nat) (A : HA) (w : Wd) (j : Nat) (v : Int32) : up (hput h A w) (h + 5) j v = hput h (sO A j v) w := by
  funext k
  simp only [up, hput, sO]
  repeat' split
  all_goals first | rfl | omega | simp_all
theorem toW {l : Launch} {g : GG} {M : MM} {as : List Value} {w : Wd} {h : Nat} {Q : Option Value → Wd → Prop} (hr : Res l g M as (hput h (hget w h) w) Q) : Res l g M as w Q := by rw [hput_hget] at hr; exact hr
section HR
variable {l : Launch} {g : GG} {M : MM} {pc n h : Nat} {lv : List (Option Value)} {st : List Value} {w : Wd} {A : HA} {Q : Option Value → Wd → Prop}
theorem g_hI {j idx : Nat} {ty : FieldType} {fin : Bool} (hd : Dc M pc (.getfield idx) 3 n) (hf : Fk M.1.cls idx 1 j ty fin) (hh : isH h) (hj : (fdef 1)[j]? = some 0) (kk : Go l g M n lv (.int (A.1 j) :: st) (hput h A w) Q) : Go l g M pc lv (.ref (g.1 h) :: st) (hput h A w) Q :=
  g_getI hd hf hh.o hj (by rw [hput_S]; exact kk)
theorem g_hP {j idx : Nat} {x : Int32} (hd : Dc M pc (.putfield idx) 3 n) (hf : Fk M.1.cls idx 1 j .int false) (hh : isH h) (hj : (fdef 1)[j]? = some 0) (kk : Go l g M n lv st (hput h (sS A j x) w) Q) : Go l g M pc lv (.int x :: .ref (g.1 h) :: st) (hput h A w) Q :=
  g_putI hd hf hh.o hj rfl rfl (by rw [up_hS]; exact kk)
theorem g_ldK {i : Nat} (hd : Dc M pc .iaload 1 n) (hh : isH h) (hi : i < 8) (kk : Go l g M n lv (.int (A.2.1 i) :: st) (hput h A w) Q) : Go l g M pc lv (.int (nI i) :: .ref (g.1 (h + 1)) :: st) (hput h A w) Q := g_ialdN hd (hh.a (by decide) (by decide)) hi (by decide) (by rw [hput_K]; exact kk)
theorem g_ldC {i : Nat} (hd : Dc M pc .iaload 1 n) (hh : isH h) (hi : i < 8) (kk : Go l g M n lv (.int (A.2.2.1 i) :: st) (hput h A w) Q) : Go l g M pc lv (.int (nI i) :: .ref (g.1 (h + 2)) :: st) (hput h A w) Q := g_ialdN hd (hh.a (by decide) (by decide)) hi (by decide) (by rw [hput_C]; exact kk)
theorem g_ldF {i : Nat} (hd : Dc M pc .iaload 1 n) (hh : isH h) (hi : i < 8) (kk : Go l g M n lv (.int (A.2.2.2.1 i) :: st) (hput h A w) Q) : Go l g M pc lv (.int (nI i) :: .ref (g.1 (h + 3)) :: st) (hput h A w) Q := g_ialdN hd (hh.a (by decide) (by decide)) hi (by decide) (by rw [hput_F]; exact kk)
theorem g_ldL {i : Nat} (hd : Dc M pc .iaload 1 n) (hh : isH h) (hi : i < 8) (kk : Go l g M n lv (.int (A.2.2.2.2.1 i) :: st) (hput h A w) Q) : Go l g M pc lv (.int (nI i) :: .ref (g.1 (h + 4)) :: st) (hput h A w) Q := g_ialdN hd (hh.a (by decide) (by decide)) hi (by decide) (by rw [hput_L]; exact kk)
theorem g_ldO {i : Nat} (hd : Dc M pc .iaload 1 n) (hh : isH h) (hi : i < 8) (kk : Go l g M n lv (.int (A.2.2.2.2.2 i) :: st) (hput h A w) Q) : Go l g M pc lv (.int (nI i) :: .ref (g.1 (h + 5)) :: st) (hput h A w) Q := g_ialdN hd (hh.a (by decide) (by decide)) hi (by decide) (by rw [hput_O]; exact kk)
theorem g_stK {i : Nat} {x : Int32} (hd : Dc M pc .iastore 1 n) (hh : isH h) (hi : i < 8) (kk : Go l g M n lv st (hput h (sK A i x) w) Q) : Go l g M pc lv (.int x :: .int (nI i) :: .ref (g.1 (h + 1)) :: st) (hput h A w) Q := g_iastN hd (hh.a (by decide) (by decide)) hi (by decide) (by rw [up_hK]; exact kk)
theorem g_stC {i : Nat} {x : Int32} (hd : Dc M pc .iastore 1 n) (hh : isH h) (hi : i < 8) (kk : Go l g M n lv st (hput h (sC A i x) w) Q) : Go l g M pc lv (.int x :: .int (nI i) :: .ref (g.1 (h + 2)) :: st) (hput h A w) Q := g_iastN hd (hh.a (by decide) (by decide)) hi (by decide) (by rw [up_hC]; exact kk)
theorem g_stF {i : Nat} {x : Int32} (hd : Dc M pc .iastore 1 n) (hh : isH h) (hi : i < 8) (kk : Go l g M n lv st (hput h (sF A i x) w) Q) : Go l g M pc lv (.int x :: .int (nI i) :: .ref (g.1 (h + 3)) :: st) (hput h A w) Q := g_iastN hd (hh.a (by decide) (by decide)) hi (by decide) (by rw [up_hF]; exact kk)
theorem g_stL {i : Nat} {x : Int32} (hd : Dc M pc .iastore 1 n) (hh : isH h) (hi : i < 8) (kk : Go l g M n lv st (hput h (sL A i x) w) Q) : Go l g M pc lv (.int x :: .int (nI i) :: .ref (g.1 (h + 4)) :: st) (hput h A w) Q := g_iastN hd (hh.a (by decide) (by decide)) hi (by decide) (by rw [up_hL]; exact kk)
theorem g_stO {i : Nat} {x : Int32} (hd : Dc M pc .iastore 1 n) (hh : isH h) (hi : i < 8) (kk : Go l g M n lv st (hput h (sO A i x) w) Q) : Go l g M pc lv (.int x :: .int (nI i) :: .ref (g.1 (h + 5)) :: st) (hput h A w) Q := g_iastN hd (hh.a (by decide) (by decide)) hi (by decide) (by rw [up_hO]; exact kk)
end HR
/-! what an hour does -/
def bitI (s : Nat) : Int32 := 1 <<< (nI s &&& 31)
def setF (f : Nat → Int32) (p : Int32) : Nat → Int32
  | 0 => 0
  | n + 1 => if f n = p then setF f p n ||| bitI n else setF f p n
def sumF (f : Nat → Int32) : Nat → Int32
  | 0 => 0
  | n + 1 => sumF f n + f n
def farF (f : Nat → Int32) (fo : Int32) : Nat → Int32
  | 0 => 0
  | n + 1 => if 3 ≤ dist (f n) fo then farF f fo n ||| bitI n else farF f fo n
def soF (f : Nat → Int32) (fo : Int32) : Nat → Int32 × Int32
  | 0 => (-1, 2)
  | n + 1 => if (soF f fo n).2 < dist (f n) fo then (nI n, dist (f n) fo) else soF f fo n
def maF (f : Nat → Int32) : Nat → Int32 × Int32
  | 0 => (-1, -1)
  | n + 1 => if (maF f n).2 < f n then (nI n, f n) else maF f n
def neF (f : Nat → Int32) (ca wo : Int32) : Nat → Int32 × Int32
  | 0 => (-1, 16)
  | n + 1 => if ¬ nI n = ca ∧ dist (f n) wo < (neF f ca wo n).2 then (nI n, dist (f n) wo) else neF f ca wo n
def plainF (A : HA) : Int32 := if A.1 5 - A.1 5 / 3 * 3 = 0 then 1 else 0
def ramF (A : HA) (j : Nat) : Int32 := if 50 ≤ A.2.2.2.1 j then plainF A + 1 else plainF A
def eweF (A : HA) (j : Nat) : Int32 := if 30 ≤ A.2.2.2.1 j then -1 else plainF A
def compF (A : HA) (n j : Nat) : Prop := ¬ setF A.2.2.1 (A.2.2.1 j) n = bitI j
def straysF (A : HA) (n j : Nat) : Int32 := if A.2.1 j = 1 then ramF A j else if A.2.1 j = 2 then eweF A j else if A.2.1 j = 3 then 2 * eweF A j else if A.2.1 j = 4 then (if setF A.2.2.1 (A.2.2.1 j) n = bitI j then 2 * eweF A j else 0) else if A.2.1 j = 5 then 2 else if A.2.1 j = 6 then ramF A j - 1 else plainF A
def sfF (fo place steps : Int32) : Int32 := if steps < 0 then tow place fo (-steps) else if fo < place ∨ (place = fo ∧ fo < 15) then mnI (place + steps) 15 else mxI (place - steps) 0
def stS (t : Int32) (n s : Nat) (A : HA) : HA := if ¬ nI s = A.1 2 ∧ t &&& bitI s = 0 then sC A s (sfF (A.1 0) (A.2.2.1 s) (straysF A n s)) else A
def stF (t : Int32) (n : Nat) : Nat → HA → HA
  | 0, A => A
  | s + 1, A => stS t n s (stF t n s A)
def frS (s : Nat) (A : HA) : HA := if ¬ nI s = A.1 2 ∧ dist (A.2.2.1 s) (A.1 3) ≤ 2 then sF A s (mnI (A.2.2.2.1 s + fearsK (A.2.1 s)) 99) else A
def frF : Nat → HA → HA
  | 0, A => A
  | s + 1, A => frS s (frF s A)
def wmF (n : Nat) (A : HA) : HA := if (neF A.2.2.1 (A.1 2) (A.1 3) n).1 = -1 then A else sS A 3 (tow (A.1 3) (A.2.2.1 (neF A.2.2.1 (A.1 2) (A.1 3) n).1.toNatClampNeg) (A.1 4))
def prF (n : Nat) (A : HA) : HA := if A.1 3 = -1 ∨ dist (A.1 3) (A.1 1) ≤ 1 then A else frF n (wmF n A)
def hasF (A : HA) (s : Int32) : Prop := 0 ≤ s ∧ s < A.1 6
def mkF (v : Int32) (A : HA) : HA := if 0 ≤ A.1 2 ∧ A.1 2 < A.1 6 then sC (sS A 1 v) (A.1 2).toNatClampNeg v else sS A 1 v
def ca1 (A : HA) : HA := mkF (tow (A.1 1) (A.1 0) (lightK (A.2.1 (A.1 2).toNatClampNeg))) A
def ca2 (s : Nat) (B : HA) : HA := if B.1 1 = B.1 0 then sS (sF (sO B s (mnI (B.2.2.2.2.2 s + 1) 9999)) s 0) 2 (-1) else B
def caF (A : HA) : HA := ca2 (A.1 2).toNatClampNeg (ca1 A)
def seF (n : Nat) (A : HA) : HA := if (soF A.2.2.1 (A.1 0) n).1 = -1 then sS A 1 (tow (A.1 1) (A.1 0) 2) else
  if tow (A.1 1) (A.2.2.1 (soF A.2.2.1 (A.1 0) n).1.toNatClampNeg) 2 = A.2.2.1 (soF A.2.2.1 (A.1 0) n).1.toNatClampNeg then sS (sS A 1 (tow (A.1 1) (A.2.2.1 (soF A.2.2.1 (A.1 0) n).1.toNatClampNeg) 2)) 2 (soF A.2.2.1 (A.1 0) n).1 else sS A 1 (tow (A.1 1) (A.2.2.1 (soF A.2.2.1 (A.1 0) n).1.toNatClampNeg) 2)
def teF (n : Nat) (A : HA) : HA := if 0 ≤ A.1 2 ∧ A.1 2 < A.1 6 then caF A else seF n A
def seS (s : Nat) (A : HA) : HA := sF (sL A s (if A.2.2.1 s = A.1 0 then 0 else mnI (A.2.2.2.2.1 s + 1) 9999)) s (mxI (A.2.2.2.1 s - calmsK (A.2.1 s)) 0)
def ttF : Nat → HA → HA
  | 0, A => A
  | s + 1, A => seS s (ttF s A)
def enF (B : HA) : HA := sS B 5 (mnI (B.1 5 + 1) 99999)
def hourF (t : Int32) (n : Nat) (A : HA) : HA := enF (ttF n (teF n (prF n (stF t n n A))))
def hoursF (t : Int32) (n : Nat) : Nat → HA → HA
  | 0, A => A
  | m + 1, A => hourF t n (hoursF t n m A)
theorem hasN {x : Int32} {n : Nat} (h1 : 0 ≤ x) (h2 : x < nI n) (hn : n < 2 ^ 31) : ∃ c, c < n ∧ x = nI c := by
  obtain ⟨c, hc, rfl⟩ := nI_of (fun z => absurd h1 (Int32.not_le.mpr z))
  exact ⟨c, (nI_ltI hc hn).mp h2, rfl⟩
theorem stS_S (t : Int32) (n s : Nat) (A : HA) : (stS t n s A).1 = A.1 := by unfold stS; split <;> rfl
theorem stF_S (t : Int32) (n : Nat) (A : HA) : ∀ s, (stF t n s A).1 = A.1
  | 0 => rfl
  | s + 1 => (stS_S t n s _).trans (stF_S t n A s)
theorem frS_S (s : Nat) (A : HA) : (frS s A).1 = A.1 := by unfold frS; split <;> rfl
theorem frF_S (A : HA) : ∀ s, (frF s A).1 = A.1
  | 0 => rfl
  | s + 1 => (frS_S s _).trans (frF_S A s)
theorem ttF_S (A : HA) : ∀ s, (ttF s A).1 = A.1
  | 0 => rfl
  | s + 1 => ttF_S A s
theorem sS_n {A : HA} {j i : Nat} {v : Int32} (h : i ≠ j) : (sS A j v).1 i = A.1 i := if_neg h
theorem sS_s {A : HA} {j : Nat} {v : Int32} : (sS A j v).1 j = v := if_pos rfl
theorem wmF_6 (n : Nat) (A : HA) : (wmF n A).1 6 = A.1 6 := by unfold wmF; split <;> rfl
theorem wmF_2 (n : Nat) (A : HA) : (wmF n A).1 2 = A.1 2 := by unfold wmF; split <;> rfl
theorem prF_6 (n : Nat) (A : HA) : (prF n A).1 6 = A.1 6 := by
  unfold prF; split
  · rfl
  · rw [frF_S, wmF_6]
theorem mkF_6 (v : Int32) (A : HA) : (mkF v A).1 6 = A.1 6 := by unfold mkF; split <;> rfl
theorem ca2_6 (s : Nat) (A : HA) : (ca2 s A).1 6 = A.1 6 := by unfold ca2; split <;> rfl
theorem seF_6 (n : Nat) (A : HA) : (seF n A).1 6 = A.1 6 := by
  unfold seF; split
  · rfl
  · split <;> rfl
theorem teF_6 (n : Nat) (A : HA) : (teF n A).1 6 = A.1 6 := by
  unfold teF; split
  · unfold caF; rw [ca2_6]; unfold ca1; rw [mkF_6]
  · exact seF_6 n A
theorem hourF_6 (t : Int32) (n : Nat) (A : HA) : (hourF t n A).1 6 = A.1 6 := by
  show (ttF n (teF n (prF n (stF t n n A)))).1 6 = _
  rw [ttF_S, teF_6, prF_6, stF_S]
theorem hoursF_6 (t : Int32) (n : Nat) (A : HA) : ∀ m, (hoursF t n m A).1 6 = A.1 6
  | 0 => rfl
  | m + 1 => (hourF_6 t n _).trans (hoursF_6 t n A m)
theorem soF_lt (f : Nat → Int32) (fo : Int32) : ∀ n, (soF f fo n).1 = -1 ∨ ∃ c, c < n ∧ (soF f fo n).1 = nI c
  | 0 => Or.inl rfl
  | n + 1 => by
    unfold soF
    split
    · exact Or.inr ⟨n, by omega, rfl⟩
    · rcases soF_lt f fo n with h | ⟨c, hc, h⟩
      · exact Or.inl h
      · exact Or.inr ⟨c, by omega, h⟩
theorem neF_lt (f : Nat → Int32) (ca wo : Int32) : ∀ n, (neF f ca wo n).1 = -1 ∨ ∃ c, c < n ∧ (neF f ca wo n).1 = nI c
  | 0 => Or.inl rfl
  | n + 1 => by
    unfold neF
    split
    · exact Or.inr ⟨n, by omega, rfl⟩
    · rcases neF_lt f ca wo n with h | ⟨c, hc, h⟩
      · exact Or.inl h
      · exact Or.inr ⟨c, by omega, h⟩
def addF (n : Nat) (k c : Int32) (A : HA) : HA := sS (sO (sL (sF (sC (sK A n k) n c) n 0) n 0) n 0) 6 (nI (n + 1))
def outF (p : Int32) : Nat → Int32
  | 0 => 0
  | n + 1 => if dist (nI n) p ≤ 2 then outF p n else outF p n + 1
