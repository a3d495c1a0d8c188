theorem g_ldcwS {l : Launch} {g : GG} {M : MM} {pc n idx i : Nat} {lv : List (Option Value)} {st : List Value} {w : Wd} {Q : Option Value → Wd → Prop} (hd : Dc M pc (.ldc_w idx) 3 n) (hi : i < 14) (hk : SW M.1.cls idx i) (kk : Go l g M n lv (.ref (g.2.2.2.1 i) :: st) w Q) : Go l g M pc lv st w Q := by
  obtain ⟨hd, rfl⟩ := hd
  intro p e s m args below meth c H locs ls F hP hS hlv T hT X
  obtain ⟨t, a1, b1⟩ := kk p e s m args below meth c H locs ls F hP hS hlv T hT X
  have hZ := F.2.2.2.2.2.2.2.1.2.2.2 _ _ i hi hk
  exact ⟨t, X.ldcStringW F.1 F.2.2.2.2.2.1 hZ.1 hZ.2 (g := F0 m pc ls st) rfl (by rw [F.2.1]; exact hd) t a1, b1⟩
theorem mt_wr {f : Nat → Int32} {t : Nat} {wr : Int32} {T : TT} {x : Nat} {mx wo : Int32} : (mtF f t wr T x mx wo).2.1 = 0 ∨ (mtF f t wr T x mx wo).2.1 = 1 := by
  unfold mtF
  split
  · exact Or.inr rfl
  · split
    · show (if _ then (1 : Int32) else 0) = 0 ∨ (if _ then (1 : Int32) else 0) = 1
      split
      · exact Or.inr rfl
      · exact Or.inl rfl
    · exact Or.inl rfl
theorem tn_VT {f : Nat → Int32} {t : Nat} {T : TT} {mx : Int32} (h : VT f t T) : VT f t (tnF f t T mx).2 := by
  unfold tnF
  split
  · exact h.next
  · exact h
theorem mt_VT {f : Nat → Int32} {t : Nat} {wr : Int32} {T : TT} {x : Nat} {mx wo : Int32} (h : VT f t T) : VT f t (mtF f t wr T x mx wo).2.2 := by
  unfold mtF
  split
  · exact h
  · split
    · exact tn_VT h.next
    · exact h
theorem tn_va {f : Nat → Int32} {t : Nat} {T : TT} {mx : Int32} (h : ¬ (tnF f t T mx).1 = -1) : (tnF f t T mx).1 = vaR f T ∧ vaR f T ≤ mx := by
  unfold tnF at *
  split at h
  · rename_i h2
    rw [if_pos h2]
    have e : vaR f T = nuF f T.1 (T.2.1 - T.1) := if_pos h2.1
    exact ⟨e.symm, by rw [e]; exact h2.2⟩
  · exact absurd rfl h
theorem i01 {c : Prop} [Decidable c] : (if (if c then (1 : Int32) else 0) = 1 then (0 : Int32) else 1) = if c then 0 else 1 := by
  by_cases h : c
  · rw [if_pos h, if_pos rfl, if_pos h]
  · rw [if_neg h, if_neg (by decide), if_neg h]
theorem i10 {c : Prop} [Decidable c] : (if (if c then (0 : Int32) else 1) = 0 then (1 : Int32) else 0) = if c then 1 else 0 := by
  by_cases h : c
  · rw [if_pos h, if_pos rfl, if_pos h]
  · rw [if_neg h, if_neg (by decide), if_neg h]
theorem op_mt {f : Nat → Int32} {t x : Nat} {mx wo : Int32} {st : HA → Int32 → HA} {T : TT} {A : HA} : opF f t x mx st T A = (if (mtF f t 0 T x mx wo).2.1 = 1 then 0 else 1, (mtF f t 0 T x mx wo).2.2, if (mtF f t 0 T x mx wo).2.1 = 1 then A else if wdP f T x then st A (mtF f t 0 T x mx wo).1 else A) := by
  unfold opF
  by_cases h : wdP f T x
  · rw [if_pos h, mt_y h]
    unfold rdN
    by_cases h2 : (tnF f t (nextF f t T.2.1) mx).1 = -1
    · rw [if_pos h2]
      show _ = (if (if _ then (1 : Int32) else 0) = 1 then (0 : Int32) else 1, _, if (if _ then (1 : Int32) else 0) = 1 then A else _)
      rw [if_pos h2, if_pos rfl, if_pos rfl]
    · rw [if_neg h2]
      show _ = (if (if _ then (1 : Int32) else 0) = 1 then (0 : Int32) else 1, _, if (if _ then (1 : Int32) else 0) = 1 then A else if wdP f T x then st A (vaR f (nextF f t T.2.1)) else A)
      rw [if_neg h2, if_neg (show ¬ (0 : Int32) = 1 by decide), if_neg (show ¬ (0 : Int32) = 1 by decide), if_pos h, (tn_va h2).1]
  · rw [if_neg h, mt_n h]
    show _ = (if (0 : Int32) = 1 then (0 : Int32) else 1, T, if (0 : Int32) = 1 then A else if wdP f T x then st A wo else A)
    rw [if_neg (show ¬ (0 : Int32) = 1 by decide), if_neg (show ¬ (0 : Int32) = 1 by decide), if_neg h]
theorem op_mt0 {f : Nat → Int32} {t x : Nat} {mx : Int32} {st : HA → Int32 → HA} {T : TT} {A : HA} (h0 : st A 0 = A) : opF f t x mx st T A = (if (mtF f t 0 T x mx 0).2.1 = 1 then 0 else 1, (mtF f t 0 T x mx 0).2.2, if (mtF f t 0 T x mx 0).2.1 = 1 then A else st A (mtF f t 0 T x mx 0).1) := by
  rw [op_mt (wo := 0)]
  by_cases h : wdP f T x
  · rw [if_pos h]
  · rw [if_neg h, mt_n h, h0]
theorem mt_1 {f : Nat → Int32} {t : Nat} {T : TT} {x : Nat} {mx wo : Int32} : mtF f t 1 T x mx wo = (wo, 1, T) := if_pos rfl
theorem add_C (n : Nat) (k c v : Int32) (A : HA) : sC (addF n k c A) n v = addF n k v A := by
  show (_, _, upd (upd A.2.2.1 n c) n v, _) = _
  rw [upd_upd]; rfl
theorem add_F (n : Nat) (k c : Int32) (A : HA) : sF (addF n k c A) n 0 = addF n k c A := by
  show (_, _, _, upd (upd A.2.2.2.1 n 0) n 0, _) = _
  rw [upd_upd]; rfl
theorem add_L (n : Nat) (k c v : Int32) (A : HA) : sL (sF (addF n k c A) n v) n 0 = sF (addF n k c A) n v := by
  show (_, _, _, _, upd (upd A.2.2.2.2.1 n 0) n 0, _) = _
  rw [upd_upd]; rfl
def m1F (f : Nat → Int32) (t : Nat) (T : TT) : Int32 × Int32 × TT := mtF f t 0 (nextF f t T.2.1) 10 15 0
def m2F (f : Nat → Int32) (t : Nat) (T : TT) : Int32 × Int32 × TT := mtF f t (m1F f t T).2.1 (m1F f t T).2.2 11 99 0
def m3F (f : Nat → Int32) (t : Nat) (T : TT) : Int32 × Int32 × TT := mtF f t (m2F f t T).2.1 (m2F f t T).2.2 12 9999 0
theorem sheep_mt {f : Nat → Int32} {t n : Nat} {k : Int32} {T : TT} {A : HA} (hn : ¬ n = 8) : (sheepR f t n k T A).1 = (if (m3F f t T).2.1 = 1 then 0 else 1) ∧ (sheepR f t n k T A).2.1 = (m3F f t T).2.2 ∧ (¬ (m3F f t T).2.1 = 1 → (sheepR f t n k T A).2.2 = sL (sF (addF n k (m1F f t T).1 A) n (m2F f t T).1) n (m3F f t T).1) := by
  have es : sheepR f t n k T A = shR2 f t n (if (m1F f t T).2.1 = 1 then 0 else 1, (m1F f t T).2.2, if (m1F f t T).2.1 = 1 then addF n k 0 A else sC (addF n k 0 A) n (m1F f t T).1) := (if_neg hn).trans (congrArg (shR2 f t n) (op_mt0 (A := addF n k 0 A) (st := fun B v => sC B n v) (add_C n k 0 0 A)))
  rw [es]
  by_cases h1 : (m1F f t T).2.1 = 1
  · have e2 : m2F f t T = (0, 1, (m1F f t T).2.2) := by unfold m2F; rw [h1, mt_1]
    have e3 : m3F f t T = (0, 1, (m1F f t T).2.2) := by unfold m3F; rw [e2, mt_1]
    rw [if_pos h1, if_pos h1, show shR2 f t n ((0 : Int32), (m1F f t T).2.2, addF n k 0 A) = ((0 : Int32), (m1F f t T).2.2, addF n k 0 A) from if_pos rfl, e3]
    exact ⟨(if_pos rfl).symm, rfl, fun z => absurd rfl z⟩
  · have e1 : (m1F f t T).2.1 = 0 := (mt_wr (wr := 0) (T := nextF f t T.2.1) (x := 10) (mx := 15) (wo := 0)).resolve_right h1
    have e2 : m2F f t T = mtF f t 0 (m1F f t T).2.2 11 99 0 := by unfold m2F; rw [e1]
    have er : shR2 f t n ((1 : Int32), (m1F f t T).2.2, addF n k (m1F f t T).1 A) = shR3 f t n (if (m2F f t T).2.1 = 1 then 0 else 1, (m2F f t T).2.2, if (m2F f t T).2.1 = 1 then addF n k (m1F f t T).1 A else sF (addF n k (m1F f t T).1 A) n (m2F f t T).1) := by
      rw [e2]
      exact (if_neg (by decide : ¬ (1 : Int32) = 0)).trans (congrArg (shR3 f t n) (op_mt0 (st := fun B v => sF B n v) (add_F n k (m1F f t T).1 A)))
    rw [if_neg h1, if_neg h1, add_C, er]
    by_cases h2 : (m2F f t T).2.1 = 1
    · have e3 : m3F f t T = (0, 1, (m2F f t T).2.2) := by unfold m3F; rw [h2, mt_1]
      rw [if_pos h2, if_pos h2, show shR3 f t n ((0 : Int32), (m2F f t T).2.2, addF n k (m1F f t T).1 A) = ((0 : Int32), (m2F f t T).2.2, addF n k (m1F f t T).1 A) from if_pos rfl, e3]
      exact ⟨(if_pos rfl).symm, rfl, fun z => absurd rfl z⟩
    · have e4 : (m2F f t T).2.1 = 0 := by
        rw [e2] at h2 ⊢
        exact mt_wr.resolve_right h2
      have e5 : m3F f t T = mtF f t 0 (m2F f t T).2.2 12 9999 0 := by unfold m3F; rw [e4]
      have er3 : shR3 f t n ((1 : Int32), (m2F f t T).2.2, sF (addF n k (m1F f t T).1 A) n (m2F f t T).1) = (if (m3F f t T).2.1 = 1 then 0 else 1, (m3F f t T).2.2, if (m3F f t T).2.1 = 1 then sF (addF n k (m1F f t T).1 A) n (m2F f t T).1 else sL (sF (addF n k (m1F f t T).1 A) n (m2F f t T).1) n (m3F f t T).1) := by
        rw [e5]
        exact (if_neg (by decide : ¬ (1 : Int32) = 0)).trans (op_mt0 (st := fun B v => sL B n v) (add_L n k (m1F f t T).1 (m2F f t T).1 A))
      rw [if_neg h2, if_neg h2, er3]
      exact ⟨rfl, rfl, fun z => if_neg z⟩
theorem adI_33 {i : Nat} {a b c d : Int32} {W : Wd} {j : Nat} (h : j ≠ 18) : adI i a b c d W 33 j = W 33 j := by
  unfold adI
  rw [up_same, up_other _ _ _ _ (by decide), up_other _ _ _ _ (by decide), up_other _ _ _ _ (by decide), up_other _ _ _ _ (by decide)]
  exact if_neg h
theorem adI_18 {i : Nat} {a b c d : Int32} {W : Wd} : adI i a b c d W 33 18 = nI (i + 1) := by
  unfold adI
  rw [up_same]; rfl
theorem adI_o {i : Nat} {a b c d : Int32} {W : Wd} {k : Nat} (h : k < 40 ∨ 43 < k) (h2 : k ≠ 33) : adI i a b c d W k = W k := by
  unfold adI
  rw [up_other _ _ _ _ h2, up_other _ _ _ _ (by omega), up_other _ _ _ _ (by omega), up_other _ _ _ _ (by omega), up_other _ _ _ _ (by omega)]
theorem adI_40 {i : Nat} {a b c d : Int32} {W : Wd} : adI i a b c d W 40 = upd (W 40) i a := by
  unfold adI
  rw [up_other _ _ _ _ (by decide), up_other _ _ _ _ (by decide), up_other _ _ _ _ (by decide), up_other _ _ _ _ (by decide), up_same]
theorem adI_41 {i : Nat} {a b c d : Int32} {W : Wd} : adI i a b c d W 41 = upd (W 41) i b := by
  unfold adI
  rw [up_other _ _ _ _ (by decide), up_other _ _ _ _ (by decide), up_other _ _ _ _ (by decide), up_same, up_other _ _ _ _ (by decide)]
theorem adI_42 {i : Nat} {a b c d : Int32} {W : Wd} : adI i a b c d W 42 = upd (W 42) i c := by
  unfold adI
  rw [up_other _ _ _ _ (by decide), up_other _ _ _ _ (by decide), up_same, up_other _ _ _ _ (by decide), up_other _ _ _ _ (by decide)]
theorem adI_43 {i : Nat} {a b c d : Int32} {W : Wd} : adI i a b c d W 43 = upd (W 43) i d := by
  unfold adI
  rw [up_other _ _ _ _ (by decide), up_same, up_other _ _ _ _ (by decide), up_other _ _ _ _ (by decide), up_other _ _ _ _ (by decide)]
def kW (W W' : Wd) : Prop := (∀ k, (k < 40 ∨ 43 < k) → k ≠ 33 → W' k = W k) ∧ (∀ j, j ≠ 18 → j ≠ 19 → W' 33 j = W 33 j)
def smI (i : Nat) (W W' : Wd) : Prop := ∀ k, k < i → W' 40 k = W 40 k ∧ W' 41 k = W 41 k ∧ W' 42 k = W 42 k ∧ W' 43 k = W 43 k
def apF (a b c d : Int32) (A : HA) : HA := if a = 10 then sS A 0 b else if a = 11 then mkF b A else if a = 12 then (if c < 0 then sS A 3 b else sS (sS A 3 b) 4 c) else sL (sF (addF (A.1 6).toNatClampNeg a b A) (A.1 6).toNatClampNeg c) (A.1 6).toNatClampNeg d
theorem kW_r (W : Wd) : kW W W := ⟨fun _ _ _ => rfl, fun _ _ _ => rfl⟩
theorem kW_ad {i : Nat} {a b c d : Int32} {W : Wd} : kW W (adI i a b c d W) := ⟨fun k h1 h2 => adI_o h1 h2, fun j h1 _ => adI_33 h1⟩
theorem kW_ad2 {i : Nat} {a b c d v : Int32} {W : Wd} : kW W (up (adI i a b c d W) 33 19 v) := ⟨fun k h1 h2 => (up_other _ _ _ _ h2).trans (adI_o h1 h2), fun j h1 h2 => by rw [up_same]; exact (if_neg h2).trans (adI_33 h1)⟩
theorem smI_ad {i : Nat} {a b c d : Int32} {W : Wd} : smI i W (adI i a b c d W) := fun k hk => by
  rw [adI_40, adI_41, adI_42, adI_43]
  unfold upd
  rw [if_neg (by omega), if_neg (by omega), if_neg (by omega), if_neg (by omega)]
  exact ⟨rfl, rfl, rfl, rfl⟩
theorem smI_ad2 {i : Nat} {a b c d v : Int32} {W : Wd} : smI i W (up (adI i a b c d W) 33 19 v) := fun k hk => by
  rw [up_other _ _ _ _ (by decide), up_other _ _ _ _ (by decide), up_other _ _ _ _ (by decide), up_other _ _ _ _ (by decide)]
  exact smI_ad k hk
def RQ (f : Nat → Int32) (i : Nat) (W : Wd) (R : RR) (A : HA) : Option Value → Wd → Prop := fun r w' => r = none ∧ ∃ W', w' = pw f (if R.1 = 0 then 1 else 0) R.2.1 W' ∧ kW W W' ∧ (¬ R.1 = 0 → ∃ n', W' 33 18 = nI (i + 1) ∧ W' 33 19 = nI n' ∧ R.2.2.1 6 = nI n' ∧ n' ≤ 8 ∧ smI i W W' ∧ apF (W' 40 i) (W' 41 i) (W' 42 i) (W' 43 i) A = R.2.2)
theorem RQ_ad {f : Nat → Int32} {i : Nat} {W : Wd} {R : RR} {A : HA} {wr : Int32} {T' : TT} {a b c d : Int32} {n : Nat} (hn : W 33 19 = nI n) (h8 : n ≤ 8) (h6 : ¬ R.1 = 0 → R.2.2.1 6 = nI n) (hw : wr = if R.1 = 0 then 1 else 0) (hT : T' = R.2.1) (ha : ¬ R.1 = 0 → apF a b c d A = R.2.2) : RQ f i W R A none (pw f wr T' (adI i a b c d W)) := by
  subst hw
  subst hT
  refine ⟨rfl, _, rfl, kW_ad, fun hne => ⟨n, adI_18, (adI_33 (by decide)).trans hn, h6 hne, h8, smI_ad, ?_⟩⟩
  rw [adI_40, adI_41, adI_42, adI_43, show upd (W 40) i a i = a from if_pos rfl, show upd (W 41) i b i = b from if_pos rfl, show upd (W 42) i c i = c from if_pos rfl, show upd (W 43) i d i = d from if_pos rfl]
  exact ha hne
theorem RQ_rd {f : Nat → Int32} {i : Nat} {W : Wd} {A : HA} {r : Int32 × TT} {st : HA → Int32 → HA} {a b : Int32} {n : Nat} (hn : W 33 19 = nI n) (h8 : n ≤ 8) (hA : A.1 6 = nI n) (h6 : ∀ B v, (st B v).1 6 = B.1 6) (ha : ¬ r.1 = -1 → apF a b 0 0 A = st A r.1) : RQ f i W (rdN r A st) A none (pw f (if r.1 = -1 then 1 else 0) r.2 (adI i a b 0 0 W)) := by
  by_cases h : r.1 = -1
  · have e : rdN r A st = (0, r.2, A) := if_pos h
    rw [e]
    exact RQ_ad hn h8 (fun z => absurd rfl z) (by rw [if_pos h, if_pos rfl]) rfl (fun z => absurd rfl z)
  · have e : rdN r A st = (1, r.2, st A r.1) := if_neg h
    rw [e]
    exact RQ_ad hn h8 (fun _ => (h6 _ _).trans hA) (by rw [if_neg h]; exact (if_neg (by decide : ¬ (1 : Int32) = 0)).symm) rfl (fun _ => ha h)
theorem RQ_no {f : Nat → Int32} {i : Nat} {W : Wd} {A : HA} {T : TT} : RQ f i W (0, T, A) A none (pw f 1 T W) := ⟨rfl, W, rfl, kW_r W, fun z => absurd rfl z⟩
theorem RQ_wolf {f : Nat → Int32} {t i : Nat} {W : Wd} {A : HA} {T : TT} {n : Nat} (hV : VT f t T) (hn : W 33 19 = nI n) (h8 : n ≤ 8) (hA : A.1 6 = nI n) : RQ f i W (wolfR f t T A) A none (pw f (mtF f t (if (tnF f t T 15).1 = -1 then 1 else 0) (tnF f t T 15).2 13 5 (-1)).2.1 (mtF f t (if (tnF f t T 15).1 = -1 then 1 else 0) (tnF f t T 15).2 13 5 (-1)).2.2 (adI i 12 (vaR f T) (mtF f t (if (tnF f t T 15).1 = -1 then 1 else 0) (tnF f t T 15).2 13 5 (-1)).1 0 W)) := by
  by_cases h : (tnF f t T 15).1 = -1
  · have e : wolfR f t T A = (0, (tnF f t T 15).2, A) := if_pos h
    rw [e, if_pos h, mt_1]
    exact RQ_ad hn h8 (fun z => absurd rfl z) (if_pos rfl).symm rfl (fun z => absurd rfl z)
  · have e : wolfR f t T A = opF f t 13 5 (fun B v => sS B 4 v) (tnF f t T 15).2 (sS A 3 (tnF f t T 15).1) := if_neg h
    rw [e, if_neg h, op_mt (wo := -1)]
    generalize hm : mtF f t 0 (tnF f t T 15).2 13 5 (-1) = m
    have hwr : m.2.1 = 0 ∨ m.2.1 = 1 := by rw [← hm]; exact mt_wr
    refine RQ_ad hn h8 (fun hne => ?_) ?_ rfl (fun hne => ?_)
    · show (if m.2.1 = 1 then sS A 3 _ else if wdP f (tnF f t T 15).2 13 then sS (sS A 3 _) 4 m.1 else sS A 3 _).1 6 = nI n
      split
      · exact hA
      · split
        · exact hA
        · exact hA
    · rcases hwr with h2 | h2 <;> rw [h2] <;> rfl
    · have h1 : ¬ m.2.1 = 1 := fun z => hne (by show (if m.2.1 = 1 then (0 : Int32) else 1) = 0; rw [if_pos z])
      show apF 12 (vaR f T) m.1 0 A = if m.2.1 = 1 then sS A 3 (tnF f t T 15).1 else if wdP f (tnF f t T 15).2 13 then sS (sS A 3 (tnF f t T 15).1) 4 m.1 else sS A 3 (tnF f t T 15).1
      rw [if_neg h1, (tn_va h).1]
      show (if m.1 < 0 then sS A 3 (vaR f T) else sS (sS A 3 (vaR f T)) 4 m.1) = _
      by_cases hd : wdP f (tnF f t T 15).2 13
      · have hp : 0 ≤ m.1 := by rw [← hm, mt_y hd]; exact (tn_VT hV).next.va
        rw [if_pos hd, if_neg (Int32.not_lt.mpr hp)]
      · have hp : m.1 = -1 := by rw [← hm, mt_n hd]
        rw [if_neg hd, hp, if_pos (by decide)]
theorem RQ_sheep {f : Nat → Int32} {t i : Nat} {W : Wd} {A : HA} {T : TT} {n : Nat} {k : Int32} (hk : 0 ≤ k ∧ k ≤ 6) (h8 : n ≤ 8) (hn8 : ¬ n = 8) (hA : A.1 6 = nI n) : RQ f i W (sheepR f t n k T A) A none (pw f (m3F f t T).2.1 (m3F f t T).2.2 (up (adI i k (m1F f t T).1 (m2F f t T).1 (m3F f t T).1 W) 33 19 (nI (n + 1)))) := by
  obtain ⟨e1, e2, e3⟩ := sheep_mt (f := f) (t := t) (k := k) (T := T) (A := A) hn8
  have hwr : (m3F f t T).2.1 = 0 ∨ (m3F f t T).2.1 = 1 := mt_wr
  refine ⟨rfl, up (adI i k (m1F f t T).1 (m2F f t T).1 (m3F f t T).1 W) 33 19 (nI (n + 1)), ?_, kW_ad2, fun hne => ?_⟩
  · rw [e1, e2]
    rcases hwr with h2 | h2 <;> rw [h2] <;> rfl
  · have h1 : ¬ (m3F f t T).2.1 = 1 := fun z => hne (by rw [e1, if_pos z])
    refine ⟨n + 1, by rw [up_same]; exact (if_neg (show ¬ (18 : Nat) = 19 by decide)).trans adI_18, by rw [up_same]; exact if_pos rfl, by rw [e3 h1]; rfl, by omega, smI_ad2, ?_⟩
    rw [up_other _ _ _ _ (by decide), up_other _ _ _ _ (by decide), up_other _ _ _ _ (by decide), up_other _ _ _ _ (by decide), adI_40, adI_41, adI_42, adI_43, show upd (W 40) i k i = k from if_pos rfl, show upd (W 41) i (m1F f t T).1 i = (m1F f t T).1 from if_pos rfl, show upd (W 42) i (m2F f t T).1 i = (m2F f t T).1 from if_pos rfl, show upd (W 43) i (m3F f t T).1 i = (m3F f t T).1 from if_pos rfl, e3 h1]
    unfold apF
    rw [if_neg (by grind), if_neg (by grind), if_neg (by grind), hA, nI_clamp (by omega)]
theorem RQ_sheep8 {f : Nat → Int32} {t i n : Nat} {W : Wd} {A : HA} {T : TT} {k c d e v : Int32} (hn8 : n = 8) : RQ f i W (sheepR f t n k T A) A none (pw f 1 T (up (adI i k c d e W) 33 19 v)) := by
  have e1 : sheepR f t n k T A = (0, T, A) := if_pos hn8
  rw [e1]
  exact ⟨rfl, _, rfl, kW_ad2, fun z => absurd rfl z⟩
def kM (f : Nat → Int32) (T : TT) : Nat → Int32
  | 0 => -1
  | v + 1 => if wdP f T v then nI v else kM f T v
theorem wd_diff : ∀ a, a < 7 → ∀ b, b < 7 → a ≠ b → stL a ≠ stL b ∨ ∃ c, c < 8 ∧ c < stL a ∧ sC_ a c ≠ sC_ b c := by decide +kernel
theorem wd_uni {f : Nat → Int32} {T : TT} {a b : Nat} (ha : a < 7) (hb : b < 7) (h1 : wdP f T a) (h2 : wdP f T b) : a = b := by
  refine Classical.byContradiction (fun hne => ?_)
  rcases wd_diff a ha b hb hne with h | ⟨c, _, hc, h⟩
  · exact h (h1.2.1.symm.trans h2.2.1)
  · exact h ((h1.2.2 c hc).symm.trans (h2.2.2 c (by have := h1.2.1; have := h2.2.1; omega)))
theorem kM_u {f : Nat → Int32} {T : TT} {a : Nat} (h : wdP f T a) : ∀ v, a < v → v ≤ 7 → kM f T v = nI a
  | 0, h1, _ => by omega
  | v + 1, h1, h2 => by
    unfold kM
    by_cases e : wdP f T v
    · rw [if_pos e, wd_uni (a := v) (b := a) (by omega) (by omega) e h]
    · rw [if_neg e]
      by_cases e2 : a = v
      · subst e2; exact absurd h e
      · exact kM_u h v (by omega) (by omega)
theorem kM_n {f : Nat → Int32} {T : TT} : ∀ v, (∀ a, a < v → ¬ wdP f T a) → kM f T v = -1
  | 0, _ => rfl
  | v + 1, h => by
    unfold kM
    rw [if_neg (h v (by omega))]
    exact kM_n v (fun a ha => h a (by omega))
theorem kw_c {f : Nat → Int32} {T : TT} : ∀ m i, (∃ a, i ≤ a ∧ a < i + m ∧ wdP f T a ∧ kwF f T m i = nI a) ∨ ((∀ a, i ≤ a → a < i + m → ¬ wdP f T a) ∧ kwF f T m i = -1)
  | 0, i => Or.inr ⟨fun a h1 h2 => by omega, rfl⟩
  | m + 1, i => by
    unfold kwF
    by_cases h : wdP f T i
    · rw [if_pos h]; exact Or.inl ⟨i, Nat.le_refl _, by omega, h, rfl⟩
    · rw [if_neg h]
      rcases kw_c m (i + 1) with ⟨a, h1, h2, h3, h4⟩ | ⟨h1, h2⟩
      · exact Or.inl ⟨a, by omega, by omega, h3, h4⟩
      · refine Or.inr ⟨fun a h3 h4 => ?_, h2⟩
        by_cases e : a = i
        · subst e; exact h
        · exact h1 a (by omega) (by omega)
theorem kM_kw {f : Nat → Int32} {T : TT} : kM f T 7 = kwF f T 7 0 ∧ (kwF f T 7 0 = -1 ∨ (T.2.2 = 1 ∧ 0 ≤ kwF f T 7 0 ∧ kwF f T 7 0 ≤ 6)) := by
  rcases kw_c (f := f) (T := T) 7 0 with ⟨a, h1, h2, h3, h4⟩ | ⟨h1, h2⟩
  · rw [h4]
    exact ⟨kM_u h3 7 (by omega) (by omega), Or.inr ⟨h3.1, in6n (by omega)⟩⟩
  · rw [h2]
    exact ⟨kM_n 7 (fun a ha => h1 a (by omega) (by omega)), Or.inl rfl⟩
set_option maxRecDepth 4000 in
theorem cQ_readSheep {l : Launch} {g : GG} {f : Nat → Int32} {W : Wd} {T : TT} {t : Nat} (hf : W 38 = f) (ht : W 33 7 = nI t) (h120 : t ≤ 120) (hb : ∀ i, i < t → 0 ≤ f i) (hV : VT f t T) {n : Nat} (hn : W 33 19 = nI n) (h8 : n ≤ 8) {i : Nat} (hi : W 33 18 = nI i) {A : HA} (hA : A.1 6 = nI n) (hi2 : i < 120) (h1 : T.2.2 = 1) {k : Int32} (hk : 0 ≤ k ∧ k ≤ 6) : Res l g Q_readSheep [.ref (g.1 33), .int k] (pw f 0 T W) (RQ f i W (sheepR f t n k T A) A) := by
  refine Res.of (by decide) (by simp [Value.category]) (Nat.le_of_ble_eq_true rfl) rfl ?_
  show Go l g Q_readSheep 0 [some (.ref (g.1 33)), some (.int k), none, none] [] (pw f 0 T W) _
  refine g_aload_n dQ_readSheep_0 rfl ?_
  refine g_aload_n dQ_readSheep_1 rfl ?_
  refine g_pr (j := 19) dQ_readSheep_2 fQ_299 rfl (by decide) ?_
  refine g_top hn ?_
  refine g_bipush (v := 8) dQ_readSheep_5 (by decide) ?_
  refine g_icmp_ge dQ_readSheep_7 rfl (fun h7 => ?_) (fun h7 => ?_)
  · rw [show (8 : Int32) = nI 8 from rfl, nI_leI (by omega) (by omega)] at h7
    have hP8 : n = 8 := by omega
    have hVs := hV
    have hws : (1 : Int32) = 0 ∨ (1 : Int32) = 1 := Or.inr rfl
    refine g_iconst (v := 0) dQ_readSheep_14 (by decide) ?_
    refine gV1v dQ_readSheep_15 kQ_readSheep_282 rfl rfl (cQ_must hf ht h120 hb hV.en (c := False)) (Nat.le_of_ble_eq_true rfl) ?_
    first | rw [if_pos trivial, en_1 (by rw [h1]; decide)] | rw [if_neg (fun zz => zz)]
    refine g_aload_n dQ_readSheep_18 rfl ?_
    refine g_ldcwS dQ_readSheep_19 (by decide) fQ_302 ?_
    refine g_bipush (v := 15) dQ_readSheep_22 (by decide) ?_
    refine g_iconst (v := 0) dQ_readSheep_24 (by decide) ?_
    refine gV3 dQ_readSheep_25 kQ_readSheep_304 rfl rfl (cQ_mayTell hf ht h120 hb (x := 10) (by decide) hVs hws) (Nat.le_of_ble_eq_true rfl) ?_
    refine g_istore_n dQ_readSheep_28 (by decide) rfl rfl ?_
    dsimp only [List.set]
    refine g_aload_n dQ_readSheep_29 rfl ?_
    refine g_ldcwS dQ_readSheep_30 (by decide) fQ_308 ?_
    refine g_bipush (v := 99) dQ_readSheep_33 (by decide) ?_
    refine g_iconst (v := 0) dQ_readSheep_35 (by decide) ?_
    refine gV3 dQ_readSheep_36 kQ_readSheep_304 rfl rfl (cQ_mayTell hf ht h120 hb (x := 11) (by decide) (mt_VT hVs) mt_wr) (Nat.le_of_ble_eq_true rfl) ?_
    refine g_istore_n dQ_readSheep_39 (by decide) rfl rfl ?_
    dsimp only [List.set]
    refine g_aload_n dQ_readSheep_40 rfl ?_
    refine g_iload_n dQ_readSheep_41 rfl ?_
    refine g_iload_n dQ_readSheep_42 rfl ?_
    refine g_iload_n dQ_readSheep_43 rfl ?_
    refine g_aload_n dQ_readSheep_44 rfl ?_
    refine g_ldcwS dQ_readSheep_45 (by decide) fQ_310 ?_
    refine g_sipush (v := 9999) dQ_readSheep_48 (by decide) ?_
    refine g_iconst (v := 0) dQ_readSheep_51 (by decide) ?_
    refine gV3 dQ_readSheep_52 kQ_readSheep_304 rfl rfl (cQ_mayTell hf ht h120 hb (x := 12) (by decide) (mt_VT (mt_VT hVs)) mt_wr) (Nat.le_of_ble_eq_true rfl) ?_
    refine gV4v dQ_readSheep_55 kQ_readSheep_312 rfl rfl (cQ_addItem hi hi2) (Nat.le_of_ble_eq_true rfl) ?_
    refine g_aload_n dQ_readSheep_58 rfl ?_
    refine g_dup dQ_readSheep_59 rfl ?_
    refine g_pr (j := 19) dQ_readSheep_60 fQ_299 rfl (by decide) ?_
    refine g_top (y := nI n) (by rw [adI_33 (by decide)]; exact hn) ?_
    refine g_iconst (v := 1) dQ_readSheep_63 (by decide) ?_
    refine g_iadd dQ_readSheep_64 ?_
    refine g_top (y := nI (n + 1)) (nI_succ n).symm ?_
    refine g_pw (j := 19) dQ_readSheep_65 fQ_299 rfl (by decide) rfl rfl ?_
    refine g_vret dQ_readSheep_68 rfl ?_
    first
      | (rw [mt_1, mt_1, mt_1]; exact RQ_sheep8 hP8)
      | (have hr := RQ_sheep (f := f) (t := t) (i := i) (W := W) (T := T) hk h8 hP8 hA; unfold m3F m2F m1F at hr; exact hr)
  · rw [show (8 : Int32) = nI 8 from rfl, nI_leI (by omega) (by omega)] at h7
    have hP8 : ¬ n = 8 := by omega
    have hVs := hV.next
    have hws : (0 : Int32) = 0 ∨ (0 : Int32) = 1 := Or.inl rfl
    refine g_iconst (v := 1) dQ_readSheep_10 (by decide) ?_
    refine g_goto dQ_readSheep_11 rfl ?_
    refine gV1v dQ_readSheep_15 kQ_readSheep_282 rfl rfl (cQ_must hf ht h120 hb hV.en (c := True)) (Nat.le_of_ble_eq_true rfl) ?_
    first | rw [if_pos trivial, en_1 (by rw [h1]; decide)] | rw [if_neg (fun zz => zz)]
    refine g_aload_n dQ_readSheep_18 rfl ?_
    refine g_ldcwS dQ_readSheep_19 (by decide) fQ_302 ?_
    refine g_bipush (v := 15) dQ_readSheep_22 (by decide) ?_
    refine g_iconst (v := 0) dQ_readSheep_24 (by decide) ?_
    refine gV3 dQ_readSheep_25 kQ_readSheep_304 rfl rfl (cQ_mayTell hf ht h120 hb (x := 10) (by decide) hVs hws) (Nat.le_of_ble_eq_true rfl) ?_
    refine g_istore_n dQ_readSheep_28 (by decide) rfl rfl ?_
    dsimp only [List.set]
    refine g_aload_n dQ_readSheep_29 rfl ?_
    refine g_ldcwS dQ_readSheep_30 (by decide) fQ_308 ?_
    refine g_bipush (v := 99) dQ_readSheep_33 (by decide) ?_
    refine g_iconst (v := 0) dQ_readSheep_35 (by decide) ?_
    refine gV3 dQ_readSheep_36 kQ_readSheep_304 rfl rfl (cQ_mayTell hf ht h120 hb (x := 11) (by decide) (mt_VT hVs) mt_wr) (Nat.le_of_ble_eq_true rfl) ?_
    refine g_istore_n dQ_readSheep_39 (by decide) rfl rfl ?_
    dsimp only [List.set]
    refine g_aload_n dQ_readSheep_40 rfl ?_
    refine g_iload_n dQ_readSheep_41 rfl ?_
    refine g_iload_n dQ_readSheep_42 rfl ?_
    refine g_iload_n dQ_readSheep_43 rfl ?_
    refine g_aload_n dQ_readSheep_44 rfl ?_
    refine g_ldcwS dQ_readSheep_45 (by decide) fQ_310 ?_
    refine g_sipush (v := 9999) dQ_readSheep_48 (by decide) ?_
    refine g_iconst (v := 0) dQ_readSheep_51 (by decide) ?_
    refine gV3 dQ_readSheep_52 kQ_readSheep_304 rfl rfl (cQ_mayTell hf ht h120 hb (x := 12) (by decide) (mt_VT (mt_VT hVs)) mt_wr) (Nat.le_of_ble_eq_true rfl) ?_
    refine gV4v dQ_readSheep_55 kQ_readSheep_312 rfl rfl (cQ_addItem hi hi2) (Nat.le_of_ble_eq_true rfl) ?_
    refine g_aload_n dQ_readSheep_58 rfl ?_
    refine g_dup dQ_readSheep_59 rfl ?_
    refine g_pr (j := 19) dQ_readSheep_60 fQ_299 rfl (by decide) ?_
    refine g_top (y := nI n) (by rw [adI_33 (by decide)]; exact hn) ?_
    refine g_iconst (v := 1) dQ_readSheep_63 (by decide) ?_
    refine g_iadd dQ_readSheep_64 ?_
    refine g_top (y := nI (n + 1)) (nI_succ n).symm ?_
    refine g_pw (j := 19) dQ_readSheep_65 fQ_299 rfl (by decide) rfl rfl ?_
    refine g_vret dQ_readSheep_68 rfl ?_
    first
      | (rw [mt_1, mt_1, mt_1]; exact RQ_sheep8 hP8)
      | (have hr := RQ_sheep (f := f) (t := t) (i := i) (W := W) (T := T) hk h8 hP8 hA; unfold m3F m2F m1F at hr; exact hr)

set_option maxRecDepth 4000 in
theorem lQ_readItem {l : Launch} {g : GG} {f : Nat → Int32} {W : Wd} {T : TT} {t : Nat} (hf : W 38 = f) (ht : W 33 7 = nI t) (h120 : t ≤ 120) (hb : ∀ i, i < t → 0 ≤ f i) {wr : Int32} (hV : VT f t T) {Q : Option Value → Wd → Prop} : ∀ (m : Nat) (v : Nat), (7 - v < m) → (v ≤ 7) → (Go l g Q_readItem 38 [some (.ref (g.1 33)), some (.int (kM f T 7)), some (.int (nI 7))] [] (pw f wr T W) Q) → Go l g Q_readItem 4 [some (.ref (g.1 33)), some (.int (kM f T v)), some (.int (nI v))] [] (pw f wr T W) (Q) := by
  intro m
  induction m with
  | zero => intro v hm hv hk; omega
  | succ m ih =>
    intro v hm hv hk
    refine g_iload_n dQ_readItem_4 rfl ?_
    refine g_aload_n dQ_readItem_5 rfl ?_
    refine g_getR2 (k2 := 39) dQ_readItem_6 fQ_41 rfl rfl (by decide) rfl ?_
    refine g_klen dQ_readItem_9 ?_
    refine g_icmp_ge dQ_readItem_10 rfl (fun h10 => ?_) (fun h10 => ?_)
    · rw [show (7 : Int32) = nI 7 from rfl, nI_leI (by omega) (by omega)] at h10
      obtain rfl : v = 7 := by omega
      exact hk
    · rw [show (7 : Int32) = nI 7 from rfl, nI_leI (by omega) (by omega)] at h10
      refine g_aload_n dQ_readItem_13 rfl ?_
      refine g_aload_n dQ_readItem_14 rfl ?_
      refine g_getR2 (k2 := 39) dQ_readItem_15 fQ_41 rfl rfl (by decide) rfl ?_
      refine g_iload_n dQ_readItem_18 rfl ?_
      refine g_knameN dQ_readItem_19 (by omega) ?_
      refine gV1 dQ_readItem_20 kQ_readItem_289 rfl rfl (cQ_isWord hf ht h120 hb (x := v) (by omega) hV.ti) (Nat.le_of_ble_eq_true rfl) ?_
      refine g_if_eq dQ_readItem_23 rfl (fun h23 => ?_) (fun h23 => ?_)
      · have h23 := bI_0.mp h23
        refine g_iload_n dQ_readItem_30 rfl ?_
        refine g_istore_n dQ_readItem_31 (by decide) rfl rfl ?_
        dsimp only [List.set]
        refine g_iinc (v := nI (v + 1)) dQ_readItem_32 rfl (nI_succ v).symm (by decide) rfl rfl ?_
        dsimp only [List.set]
        refine g_goto dQ_readItem_35 rfl ?_
        refine g_lv (lv1 := [some (.ref (g.1 33)), some (.int (kM f T (v + 1))), some (.int (nI (v + 1)))]) (by rw [kM]; first | rw [if_pos h23] | rw [if_neg h23]) ?_
        exact ih (v + 1) (by omega) (by omega) hk
      · have h23 := Classical.not_not.mp (fun z => h23 (bI_0.mpr z))
        refine g_iload_n dQ_readItem_26 rfl ?_
        refine g_goto dQ_readItem_27 rfl ?_
        refine g_istore_n dQ_readItem_31 (by decide) rfl rfl ?_
        dsimp only [List.set]
        refine g_iinc (v := nI (v + 1)) dQ_readItem_32 rfl (nI_succ v).symm (by decide) rfl rfl ?_
        dsimp only [List.set]
        refine g_goto dQ_readItem_35 rfl ?_
        refine g_lv (lv1 := [some (.ref (g.1 33)), some (.int (kM f T (v + 1))), some (.int (nI (v + 1)))]) (by rw [kM]; first | rw [if_pos h23] | rw [if_neg h23]) ?_
        exact ih (v + 1) (by omega) (by omega) hk

set_option maxRecDepth 4000 in
theorem cQ_readItem {l : Launch} {g : GG} {f : Nat → Int32} {W : Wd} {T : TT} {t : Nat} (hf : W 38 = f) (ht : W 33 7 = nI t) (h120 : t ≤ 120) (hb : ∀ i, i < t → 0 ≤ f i) (hV : VT f t T) {n : Nat} (hn : W 33 19 = nI n) (h8 : n ≤ 8) {i : Nat} (hi : W 33 18 = nI i) {A : HA} (hA : A.1 6 = nI n) (hi2 : ¬ T.2.2 = 0 → i < 120) : Res l g Q_readItem [.ref (g.1 33)] (pw f 0 T W) (RQ f i W (itemR f t n T A) A) := by
  refine Res.of (by decide) (by simp [Value.category]) (Nat.le_of_ble_eq_true rfl) rfl ?_
  show Go l g Q_readItem 0 [some (.ref (g.1 33)), none, none] [] (pw f 0 T W) _
  refine g_iconst (v := (-1)) dQ_readItem_0 (by decide) ?_
  refine g_istore_n dQ_readItem_1 (by decide) rfl rfl ?_
  dsimp only [List.set]
  refine g_iconst (v := 0) dQ_readItem_2 (by decide) ?_
  refine g_istore_n dQ_readItem_3 (by decide) rfl rfl ?_
  dsimp only [List.set]
  refine lQ_readItem hf ht h120 hb hV 8 0 (by omega) (by omega) ?_
  refine g_iload_n dQ_readItem_38 rfl ?_
  refine g_if_lt dQ_readItem_39 rfl (fun h39 => ?_) (fun h39 => ?_)
  · rw [kM_kw.1] at h39
    have hk7 : kwF f T 7 0 = -1 := kM_kw.2.resolve_right (fun zz => absurd zz.2.1 (Int32.not_le.mpr h39))
    refine g_aload_n dQ_readItem_50 rfl ?_
    refine g_ldcwS dQ_readItem_51 (by decide) fQ_319 ?_
    refine gV1 dQ_readItem_54 kQ_readItem_293 rfl rfl (cQ_takesWord hf ht h120 hb (x := 7) (by decide) hV) (Nat.le_of_ble_eq_true rfl) ?_
    refine g_if_eq dQ_readItem_57 rfl (fun h57 => ?_) (fun h57 => ?_)
    · have h57 := bI_0.mp h57
      rw [swF_n h57]
      refine g_aload_n dQ_readItem_78 rfl ?_
      refine g_ldcwS dQ_readItem_79 (by decide) fQ_321 ?_
      refine gV1 dQ_readItem_82 kQ_readItem_293 rfl rfl (cQ_takesWord hf ht h120 hb (x := 8) (by decide) hV) (Nat.le_of_ble_eq_true rfl) ?_
      refine g_if_eq dQ_readItem_85 rfl (fun h85 => ?_) (fun h85 => ?_)
      · have h85 := bI_0.mp h85
        rw [swF_n h85]
        refine g_aload_n dQ_readItem_106 rfl ?_
        refine g_ldcwS dQ_readItem_107 (by decide) fQ_323 ?_
        refine gV1 dQ_readItem_110 kQ_readItem_293 rfl rfl (cQ_takesWord hf ht h120 hb (x := 9) (by decide) hV) (Nat.le_of_ble_eq_true rfl) ?_
        refine g_if_eq dQ_readItem_113 rfl (fun h113 => ?_) (fun h113 => ?_)
        · have h113 := bI_0.mp h113
          rw [swF_n h113]
          refine g_aload_n dQ_readItem_144 rfl ?_
          refine g_iconst (v := 0) dQ_readItem_145 (by decide) ?_
          refine gV1v dQ_readItem_146 kQ_readItem_282 rfl rfl (cQ_must hf ht h120 hb hV.en (c := False)) (Nat.le_of_ble_eq_true rfl) ?_
          rw [if_neg (fun zz => zz)]
          refine g_vret dQ_readItem_149 rfl ?_
          rw [show itemR f t n T A = (0, T, A) from (if_pos hk7).trans ((if_neg h57).trans ((if_neg h85).trans (if_neg h113)))]
          exact RQ_no
        · have h113 := Classical.not_not.mp (fun z => h113 (bI_0.mpr z))
          rw [swF_y h113]
          refine g_aload_n dQ_readItem_116 rfl ?_
          refine g_iconst (v := 0) dQ_readItem_117 (by decide) ?_
          refine g_bipush (v := 15) dQ_readItem_118 (by decide) ?_
          refine gV2 dQ_readItem_120 kQ_readItem_296 rfl rfl (cQ_number hf ht h120 hb hV.next) (Nat.le_of_ble_eq_true rfl) ?_
          refine g_istore_n dQ_readItem_123 (by decide) rfl rfl ?_
          dsimp only [List.set]
          refine g_aload_n dQ_readItem_124 rfl ?_
          refine g_bipush (v := 12) dQ_readItem_125 (by decide) ?_
          refine g_iload_n dQ_readItem_127 rfl ?_
          refine g_aload_n dQ_readItem_128 rfl ?_
          refine g_ldcwS dQ_readItem_129 (by decide) fQ_325 ?_
          refine g_iconst (v := 5) dQ_readItem_132 (by decide) ?_
          refine g_iconst (v := (-1)) dQ_readItem_133 (by decide) ?_
          refine gV3 dQ_readItem_134 kQ_readItem_304 rfl rfl (cQ_mayTell hf ht h120 hb (x := 13) (by decide) (tn_VT hV.next) (by split; exact Or.inr rfl; exact Or.inl rfl)) (Nat.le_of_ble_eq_true rfl) ?_
          refine g_iconst (v := 0) dQ_readItem_137 (by decide) ?_
          refine gV4v dQ_readItem_138 kQ_readItem_312 rfl rfl (cQ_addItem hi (hi2 (by rw [h113.1]; decide))) (Nat.le_of_ble_eq_true rfl) ?_
          refine g_goto dQ_readItem_141 rfl ?_
          refine g_vret dQ_readItem_149 rfl ?_
          rw [show itemR f t n T A = wolfR f t (nextF f t T.2.1) A from (if_pos hk7).trans ((if_neg h57).trans ((if_neg h85).trans (if_pos h113)))]
          exact RQ_wolf hV.next hn h8 hA
      · have h85 := Classical.not_not.mp (fun z => h85 (bI_0.mpr z))
        rw [swF_y h85]
        refine g_aload_n dQ_readItem_88 rfl ?_
        refine g_bipush (v := 11) dQ_readItem_89 (by decide) ?_
        refine g_aload_n dQ_readItem_91 rfl ?_
        refine g_iconst (v := 0) dQ_readItem_92 (by decide) ?_
        refine g_bipush (v := 15) dQ_readItem_93 (by decide) ?_
        refine gV2 dQ_readItem_95 kQ_readItem_296 rfl rfl (cQ_number hf ht h120 hb hV.next) (Nat.le_of_ble_eq_true rfl) ?_
        refine g_iconst (v := 0) dQ_readItem_98 (by decide) ?_
        refine g_iconst (v := 0) dQ_readItem_99 (by decide) ?_
        refine gV4v dQ_readItem_100 kQ_readItem_312 rfl rfl (cQ_addItem hi (hi2 (by rw [h85.1]; decide))) (Nat.le_of_ble_eq_true rfl) ?_
        refine g_goto dQ_readItem_103 rfl ?_
        refine g_vret dQ_readItem_149 rfl ?_
        rw [show itemR f t n T A = rdN (tnF f t (nextF f t T.2.1) 15) A (fun B v => mkF v B) from (if_pos hk7).trans ((if_neg h57).trans (if_pos h85))]
        exact RQ_rd hn h8 hA (fun B v => mkF_6 v B) (fun hh => by rw [(tn_va hh).1]; rfl)
    · have h57 := Classical.not_not.mp (fun z => h57 (bI_0.mpr z))
      rw [swF_y h57]
      refine g_aload_n dQ_readItem_60 rfl ?_
      refine g_bipush (v := 10) dQ_readItem_61 (by decide) ?_
      refine g_aload_n dQ_readItem_63 rfl ?_
      refine g_iconst (v := 0) dQ_readItem_64 (by decide) ?_
      refine g_bipush (v := 15) dQ_readItem_65 (by decide) ?_
      refine gV2 dQ_readItem_67 kQ_readItem_296 rfl rfl (cQ_number hf ht h120 hb hV.next) (Nat.le_of_ble_eq_true rfl) ?_
      refine g_iconst (v := 0) dQ_readItem_70 (by decide) ?_
      refine g_iconst (v := 0) dQ_readItem_71 (by decide) ?_
      refine gV4v dQ_readItem_72 kQ_readItem_312 rfl rfl (cQ_addItem hi (hi2 (by rw [h57.1]; decide))) (Nat.le_of_ble_eq_true rfl) ?_
      refine g_goto dQ_readItem_75 rfl ?_
      refine g_vret dQ_readItem_149 rfl ?_
      rw [show itemR f t n T A = rdN (tnF f t (nextF f t T.2.1) 15) A (fun B v => sS B 0 v) from (if_pos hk7).trans (if_pos h57)]
      exact RQ_rd hn h8 hA (fun _ _ => rfl) (fun hh => by rw [(tn_va hh).1]; rfl)
  · rw [kM_kw.1] at h39
    have hk7 := kM_kw.2.resolve_left (fun zz => h39 (by rw [zz]; decide))
    have hk8 : ¬ kwF f T 7 0 = -1 := fun zz => h39 (by rw [zz]; decide)
    rw [kM_kw.1]
    refine g_aload_n dQ_readItem_42 rfl ?_
    refine g_iload_n dQ_readItem_43 rfl ?_
    refine gV1q dQ_readItem_44 kQ_readItem_316 rfl rfl (cQ_readSheep hf ht h120 hb hV hn h8 hi hA (hi2 (by rw [hk7.1]; decide)) hk7.1 hk7.2) (Nat.le_of_ble_eq_true rfl) (fun r1 w1 q1 => ?_)
    have hr := q1.1
    subst hr
    dsimp only [Option.toList, List.nil_append]
    refine g_goto dQ_readItem_47 rfl ?_
    refine g_vret dQ_readItem_149 rfl ?_
    rw [show itemR f t n T A = sheepR f t n (kwF f T 7 0) T A from if_neg hk8]
    exact q1

