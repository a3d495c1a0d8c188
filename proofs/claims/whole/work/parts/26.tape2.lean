abbrev RR : Type := Int32 × TT × HA
theorem tnF_TI {f : Nat → Int32} {t : Nat} {T : TT} {mx : Int32} (h : TI t T) : TI t (tnF f t T mx).2 := by
  unfold tnF
  split
  · exact nextF_TI h.2.1
  · exact h
theorem swF_TI {f : Nat → Int32} {t : Nat} {T : TT} {x : Nat} (h : TI t T) : TI t (swF f t T x) := by
  unfold swF
  split
  · exact nextF_TI h.2.1
  · exact h
theorem swF_y {f : Nat → Int32} {t : Nat} {T : TT} {x : Nat} (h : wdP f T x) : swF f t T x = nextF f t T.2.1 := if_pos h
theorem swF_n {f : Nat → Int32} {t : Nat} {T : TT} {x : Nat} (h : ¬ wdP f T x) : swF f t T x = T := if_neg h
def rdN (r : Int32 × TT) (A : HA) (st : HA → Int32 → HA) : RR := if r.1 = -1 then (0, r.2, A) else (1, r.2, st A r.1)
def opF (f : Nat → Int32) (t : Nat) (x : Nat) (mx : Int32) (st : HA → Int32 → HA) (T : TT) (A : HA) : RR := if wdP f T x then rdN (tnF f t (nextF f t T.2.1) mx) A st else (1, T, A)
def wolfR (f : Nat → Int32) (t : Nat) (T : TT) (A : HA) : RR := if (tnF f t T 15).1 = -1 then (0, (tnF f t T 15).2, A) else opF f t 13 5 (fun B v => sS B 4 v) (tnF f t T 15).2 (sS A 3 (tnF f t T 15).1)
def shR3 (f : Nat → Int32) (t n : Nat) (r : RR) : RR := if r.1 = 0 then r else opF f t 12 9999 (fun B v => sL B n v) r.2.1 r.2.2
def shR2 (f : Nat → Int32) (t n : Nat) (r : RR) : RR := if r.1 = 0 then r else shR3 f t n (opF f t 11 99 (fun B v => sF B n v) r.2.1 r.2.2)
def sheepR (f : Nat → Int32) (t n : Nat) (k : Int32) (T : TT) (A : HA) : RR := if n = 8 then (0, T, A) else shR2 f t n (opF f t 10 15 (fun B v => sC B n v) (nextF f t T.2.1) (addF n k 0 A))
def kwF (f : Nat → Int32) (T : TT) : Nat → Nat → Int32
  | 0, _ => -1
  | m + 1, i => if wdP f T i then nI i else kwF f T m (i + 1)
def itemR (f : Nat → Int32) (t n : Nat) (T : TT) (A : HA) : RR := if kwF f T 7 0 = -1 then (if wdP f T 7 then rdN (tnF f t (nextF f t T.2.1) 15) A (fun B v => sS B 0 v) else if wdP f T 8 then rdN (tnF f t (nextF f t T.2.1) 15) A (fun B v => mkF v B) else if wdP f T 9 then wolfR f t (nextF f t T.2.1) A else (0, T, A)) else sheepR f t n (kwF f T 7 0) T A
theorem rdN_TI {t : Nat} {r : Int32 × TT} {A : HA} {st : HA → Int32 → HA} (h : TI t r.2) : TI t (rdN r A st).2.1 := by unfold rdN; split <;> exact h
theorem opF_TI {f : Nat → Int32} {t x : Nat} {mx : Int32} {st : HA → Int32 → HA} {T : TT} {A : HA} (h : TI t T) : TI t (opF f t x mx st T A).2.1 := by
  unfold opF
  split
  · exact rdN_TI (tnF_TI (nextF_TI h.2.1))
  · exact h
theorem rdN_6 {r : Int32 × TT} {A : HA} {st : HA → Int32 → HA} (hs : ∀ B v, (st B v).1 6 = B.1 6) : (rdN r A st).2.2.1 6 = A.1 6 := by
  unfold rdN
  split
  · rfl
  · exact hs _ _
theorem opF_6 {f : Nat → Int32} {t x : Nat} {mx : Int32} {st : HA → Int32 → HA} {T : TT} {A : HA} (hs : ∀ B v, (st B v).1 6 = B.1 6) : (opF f t x mx st T A).2.2.1 6 = A.1 6 := by
  unfold opF
  split
  · exact rdN_6 hs
  · rfl
theorem shR3_ok {f : Nat → Int32} {t n : Nat} {r : RR} (h : TI t r.2.1) : TI t (shR3 f t n r).2.1 ∧ (shR3 f t n r).2.2.1 6 = r.2.2.1 6 := by
  unfold shR3
  split
  · exact ⟨h, rfl⟩
  · exact ⟨opF_TI h, opF_6 (st := fun B v => sL B n v) (fun _ _ => rfl)⟩
theorem shR2_ok {f : Nat → Int32} {t n : Nat} {r : RR} (h : TI t r.2.1) : TI t (shR2 f t n r).2.1 ∧ (shR2 f t n r).2.2.1 6 = r.2.2.1 6 := by
  unfold shR2
  split
  · exact ⟨h, rfl⟩
  · have h1 := shR3_ok (f := f) (n := n) (r := opF f t 11 99 (fun B v => sF B n v) r.2.1 r.2.2) (opF_TI h)
    exact ⟨h1.1, h1.2.trans (opF_6 (st := fun B v => sF B n v) (fun _ _ => rfl))⟩
theorem sheepR_ok {f : Nat → Int32} {t n : Nat} {k : Int32} {T : TT} {A : HA} (h : TI t T) (hn : A.1 6 = nI n) (h8 : n ≤ 8) : TI t (sheepR f t n k T A).2.1 ∧ ∃ n2, n2 ≤ 8 ∧ (sheepR f t n k T A).2.2.1 6 = nI n2 := by
  unfold sheepR
  split
  · exact ⟨h, n, h8, hn⟩
  · have h1 := shR2_ok (f := f) (n := n) (r := opF f t 10 15 (fun B v => sC B n v) (nextF f t T.2.1) (addF n k 0 A)) (opF_TI (nextF_TI h.2.1))
    exact ⟨h1.1, n + 1, by omega, h1.2.trans ((opF_6 (st := fun B v => sC B n v) (fun _ _ => rfl)).trans rfl)⟩
theorem itemR_ok {f : Nat → Int32} {t n : Nat} {T : TT} {A : HA} (h : TI t T) (hn : A.1 6 = nI n) (h8 : n ≤ 8) : TI t (itemR f t n T A).2.1 ∧ ∃ n2, n2 ≤ 8 ∧ (itemR f t n T A).2.2.1 6 = nI n2 := by
  have hx := nextF_TI (f := f) h.2.1
  unfold itemR
  split
  · split
    · exact ⟨rdN_TI (tnF_TI hx), n, h8, (rdN_6 (st := fun B v => sS B 0 v) (fun _ _ => rfl)).trans hn⟩
    · split
      · exact ⟨rdN_TI (tnF_TI hx), n, h8, (rdN_6 (st := fun B v => mkF v B) (fun B v => mkF_6 v B)).trans hn⟩
      · split
        · unfold wolfR
          split
          · exact ⟨tnF_TI hx, n, h8, hn⟩
          · exact ⟨opF_TI (tnF_TI hx), n, h8, (opF_6 (st := fun B v => sS B 4 v) (fun _ _ => rfl)).trans hn⟩
        · exact ⟨h, n, h8, hn⟩
  · exact sheepR_ok h hn h8
def ontoF (f : Nat → Int32) (t : Nat) : Nat → Nat → TT → HA → RR
  | 0, _, T, A => (-1 - nI T.1, T, A)
  | m + 1, i, T, A => if (itemR f t (A.1 6).toNatClampNeg T A).1 = 0 then (-1 - nI (itemR f t (A.1 6).toNatClampNeg T A).2.1.1, (itemR f t (A.1 6).toNatClampNeg T A).2) else
    if (itemR f t (A.1 6).toNatClampNeg T A).2.1.2.2 = 0 then (nI i, (itemR f t (A.1 6).toNatClampNeg T A).2) else
    if (itemR f t (A.1 6).toNatClampNeg T A).2.1.2.2 = 3 then ontoF f t m (i + 1) (nextF f t (itemR f t (A.1 6).toNatClampNeg T A).2.1.2.1) (itemR f t (A.1 6).toNatClampNeg T A).2.2 else (-1 - nI (itemR f t (A.1 6).toNatClampNeg T A).2.1.1, (itemR f t (A.1 6).toNatClampNeg T A).2)
def textR (f : Nat → Int32) (t : Nat) (A : HA) : RR := ontoF f t 120 1 (nextF f t 0) A
def textC (w : Wd) : Int32 × Wd := ((textR (w 22) (w 21 1).toNatClampNeg (hget w 1)).1, if (textR (w 22) (w 21 1).toNatClampNeg (hget w 1)).1 < 0 then up w 21 1 0 else hput 1 (textR (w 22) (w 21 1).toNatClampNeg (hget w 1)).2.2 (up w 21 1 0))
def IsU (p : Int32 × Wd) : Option Value → Wd → Prop := fun r w' => r = some (.int p.1) ∧ ∃ B T, w' = hput 7 B (tw T p.2)
set_option maxRecDepth 4000 in
theorem cT_readFold {l : Launch} {g : GG} {w : Wd} {A : HA} {T : TT} {t : Nat} (ht : w 21 1 = nI t) (h120 : t ≤ 120) (hT : TI t T) : Res l g T_readFold [.ref (g.1 21), .ref (g.1 7)] (tz A T w) (Is (some (.int (rdN (tnF (w 22) t T 15) A (fun B v => sS B 0 v)).1)) (tz (rdN (tnF (w 22) t T 15) A (fun B v => sS B 0 v)).2.2 (rdN (tnF (w 22) t T 15) A (fun B v => sS B 0 v)).2.1 w)) := by
  refine Res.of (by decide) (by simp [Value.category]) (Nat.le_of_ble_eq_true rfl) rfl ?_
  show Go l g T_readFold 0 [some (.ref (g.1 21)), some (.ref (g.1 7)), none] [] (tz A T w) _
  refine g_aload_n dT_readFold_0 rfl ?_
  refine g_bipush (v := 15) dT_readFold_1 (by decide) ?_
  refine gV1 dT_readFold_3 kT_readFold_74 rfl rfl (cT_takeNumber ht h120 hT) (Nat.le_of_ble_eq_true rfl) ?_
  refine g_istore_n dT_readFold_6 (by decide) rfl rfl ?_
  dsimp only [List.set]
  refine g_iload_n dT_readFold_7 rfl ?_
  refine g_iconst (v := (-1)) dT_readFold_8 (by decide) ?_
  refine g_icmp_ne dT_readFold_9 rfl (fun h9 => ?_) (fun h9 => ?_)
  · refine g_aload_n dT_readFold_14 rfl ?_
    refine g_iload_n dT_readFold_15 rfl ?_
    refine g_hP dT_readFold_16 fT_89 isH7 rfl ?_
    refine g_iconst (v := 1) dT_readFold_19 (by decide) ?_
    refine g_iret dT_readFold_20 rfl (by first | rfl | exact bI_n) ?_
    exact ⟨by first | rw [rdN, if_pos h9] | rw [rdN, if_neg h9], by first | rw [rdN, if_pos h9] | rw [rdN, if_neg h9]⟩
  · refine g_iconst (v := 0) dT_readFold_12 (by decide) ?_
    refine g_iret dT_readFold_13 rfl (by first | rfl | exact bI_n) ?_
    exact ⟨by first | rw [rdN, if_pos h9] | rw [rdN, if_neg h9], by first | rw [rdN, if_pos h9] | rw [rdN, if_neg h9]⟩

set_option maxRecDepth 4000 in
theorem cT_readKeeper {l : Launch} {g : GG} {w : Wd} {A : HA} {T : TT} {t : Nat} (ht : w 21 1 = nI t) (h120 : t ≤ 120) {n : Nat} (hn : A.1 6 = nI n) (h8 : n ≤ 8) (hT : TI t T) : Res l g T_readKeeper [.ref (g.1 21), .ref (g.1 7)] (tz A T w) (Is (some (.int (rdN (tnF (w 22) t T 15) A (fun B v => mkF v B)).1)) (tz (rdN (tnF (w 22) t T 15) A (fun B v => mkF v B)).2.2 (rdN (tnF (w 22) t T 15) A (fun B v => mkF v B)).2.1 w)) := by
  refine Res.of (by decide) (by simp [Value.category]) (Nat.le_of_ble_eq_true rfl) rfl ?_
  show Go l g T_readKeeper 0 [some (.ref (g.1 21)), some (.ref (g.1 7)), none] [] (tz A T w) _
  refine g_aload_n dT_readKeeper_0 rfl ?_
  refine g_bipush (v := 15) dT_readKeeper_1 (by decide) ?_
  refine gV1 dT_readKeeper_3 kT_readKeeper_74 rfl rfl (cT_takeNumber ht h120 hT) (Nat.le_of_ble_eq_true rfl) ?_
  refine g_istore_n dT_readKeeper_6 (by decide) rfl rfl ?_
  dsimp only [List.set]
  refine g_iload_n dT_readKeeper_7 rfl ?_
  refine g_iconst (v := (-1)) dT_readKeeper_8 (by decide) ?_
  refine g_icmp_ne dT_readKeeper_9 rfl (fun h9 => ?_) (fun h9 => ?_)
  · refine g_aload_n dT_readKeeper_14 rfl ?_
    refine g_iload_n dT_readKeeper_15 rfl ?_
    refine gV1v dT_readKeeper_16 kT_readKeeper_91 isH7.o rfl (cH_moveKeeper isH7 hn h8) (Nat.le_of_ble_eq_true rfl) ?_
    refine g_iconst (v := 1) dT_readKeeper_19 (by decide) ?_
    refine g_iret dT_readKeeper_20 rfl (by first | rfl | exact bI_n) ?_
    exact ⟨by first | rw [rdN, if_pos h9] | rw [rdN, if_neg h9], by first | rw [rdN, if_pos h9] | rw [rdN, if_neg h9]⟩
  · refine g_iconst (v := 0) dT_readKeeper_12 (by decide) ?_
    refine g_iret dT_readKeeper_13 rfl (by first | rfl | exact bI_n) ?_
    exact ⟨by first | rw [rdN, if_pos h9] | rw [rdN, if_neg h9], by first | rw [rdN, if_pos h9] | rw [rdN, if_neg h9]⟩

set_option maxRecDepth 4000 in
theorem cT_readWolf {l : Launch} {g : GG} {w : Wd} {A : HA} {T : TT} {t : Nat} (ht : w 21 1 = nI t) (h120 : t ≤ 120) (hT : TI t T) : Res l g T_readWolf [.ref (g.1 21), .ref (g.1 7)] (tz A T w) (Is (some (.int (wolfR (w 22) t T A).1)) (tz (wolfR (w 22) t T A).2.2 (wolfR (w 22) t T A).2.1 w)) := by
  refine Res.of (by decide) (by simp [Value.category]) (Nat.le_of_ble_eq_true rfl) rfl ?_
  show Go l g T_readWolf 0 [some (.ref (g.1 21)), some (.ref (g.1 7)), none, none] [] (tz A T w) _
  refine g_aload_n dT_readWolf_0 rfl ?_
  refine g_bipush (v := 15) dT_readWolf_1 (by decide) ?_
  refine gV1 dT_readWolf_3 kT_readWolf_74 rfl rfl (cT_takeNumber ht h120 hT) (Nat.le_of_ble_eq_true rfl) ?_
  refine g_istore_n dT_readWolf_6 (by decide) rfl rfl ?_
  dsimp only [List.set]
  refine g_iload_n dT_readWolf_7 rfl ?_
  refine g_iconst (v := (-1)) dT_readWolf_8 (by decide) ?_
  refine g_icmp_ne dT_readWolf_9 rfl (fun h9 => ?_) (fun h9 => ?_)
  · refine g_aload_n dT_readWolf_14 rfl ?_
    refine g_iload_n dT_readWolf_15 rfl ?_
    refine g_hP dT_readWolf_16 fT_95 isH7 rfl ?_
    refine g_aload_n dT_readWolf_19 rfl ?_
    refine g_ldcS dT_readWolf_20 (by decide) fT_97 ?_
    refine gV1 dT_readWolf_22 kT_readWolf_49 rfl rfl (cT_skipWord ht h120 (x := 13) (by decide) (tnF_TI hT)) (Nat.le_of_ble_eq_true rfl) ?_
    refine g_if_eq dT_readWolf_25 rfl (fun h25 => ?_) (fun h25 => ?_)
    · have h25 := bI_0.mp h25
      rw [swF_n h25]
      refine g_iconst (v := 1) dT_readWolf_46 (by decide) ?_
      refine g_iret dT_readWolf_47 rfl (by first | rfl | exact bI_n) ?_
      first | exact ⟨by rw [wolfR, if_neg h9, opF, if_neg h25], by rw [wolfR, if_neg h9, opF, if_neg h25]⟩ | exact ⟨by rw [wolfR, if_neg h9, opF, if_pos h25, rdN, if_neg h36], by rw [wolfR, if_neg h9, opF, if_pos h25, rdN, if_neg h36]⟩
    · have h25 := Classical.not_not.mp (fun z => h25 (bI_0.mpr z))
      rw [swF_y h25]
      refine g_aload_n dT_readWolf_28 rfl ?_
      refine g_iconst (v := 5) dT_readWolf_29 (by decide) ?_
      refine gV1 dT_readWolf_30 kT_readWolf_74 rfl rfl (cT_takeNumber ht h120 (nextF_TI (tnF_TI hT).2.1)) (Nat.le_of_ble_eq_true rfl) ?_
      refine g_istore_n dT_readWolf_33 (by decide) rfl rfl ?_
      dsimp only [List.set]
      refine g_iload_n dT_readWolf_34 rfl ?_
      refine g_iconst (v := (-1)) dT_readWolf_35 (by decide) ?_
      refine g_icmp_ne dT_readWolf_36 rfl (fun h36 => ?_) (fun h36 => ?_)
      · refine g_aload_n dT_readWolf_41 rfl ?_
        refine g_iload_n dT_readWolf_42 rfl ?_
        refine g_hP dT_readWolf_43 fT_99 isH7 rfl ?_
        refine g_iconst (v := 1) dT_readWolf_46 (by decide) ?_
        refine g_iret dT_readWolf_47 rfl (by first | rfl | exact bI_n) ?_
        first | exact ⟨by rw [wolfR, if_neg h9, opF, if_neg h25], by rw [wolfR, if_neg h9, opF, if_neg h25]⟩ | exact ⟨by rw [wolfR, if_neg h9, opF, if_pos h25, rdN, if_neg h36], by rw [wolfR, if_neg h9, opF, if_pos h25, rdN, if_neg h36]⟩
      · refine g_iconst (v := 0) dT_readWolf_39 (by decide) ?_
        refine g_iret dT_readWolf_40 rfl (by first | rfl | exact bI_n) ?_
        exact ⟨by rw [wolfR, if_neg h9, opF, if_pos h25, rdN, if_pos h36], by rw [wolfR, if_neg h9, opF, if_pos h25, rdN, if_pos h36]⟩
  · refine g_iconst (v := 0) dT_readWolf_12 (by decide) ?_
    refine g_iret dT_readWolf_13 rfl (by first | rfl | exact bI_n) ?_
    exact ⟨by rw [wolfR, if_pos h9], by rw [wolfR, if_pos h9]⟩

theorem k7 {P : Nat → Prop} {k : Nat} (hk : k < 7) (h0 : P 0) (h1 : P 1) (h2 : P 2) (h3 : P 3) (h4 : P 4) (h5 : P 5) (h6 : P 6) : P k := by
  have : k = 0 ∨ k = 1 ∨ k = 2 ∨ k = 3 ∨ k = 4 ∨ k = 5 ∨ k = 6 := by omega
  rcases this with rfl | rfl | rfl | rfl | rfl | rfl | rfl <;> assumption
theorem nIe {k c : Nat} (hk : k < 7) (hc : c < 7) (h : nI k = nI c) : k = c := (nI_eq (by omega) (by omega)).mp h

set_option maxRecDepth 4000 in
theorem cT_nameOf {l : Launch} {g : GG} {w : Wd} {k : Nat} (hk : k < 7) : Res l g T_nameOf [.int (nI k)] w (Is (some (.ref (g.2.2.2.1 k))) w) := by
  refine Res.of (by decide) (by simp [Value.category]) (Nat.le_of_ble_eq_true rfl) rfl ?_
  show Go l g T_nameOf 0 [some (.int (nI k))] [] w _
  refine g_iload_n dT_nameOf_0 rfl ?_
  refine g_split (1) (fun z1 => ?_) (fun z1 => ?_)
  · refine g_tabIn dT_nameOf_1 (by decide) (by decide) rfl rfl ?_
    refine g_ldcS dT_nameOf_40 (by decide) fT_108 ?_
    refine g_aret dT_nameOf_42 rfl ?_
    exact ⟨by rw [nIe (c := 1) hk (by decide) z1], rfl⟩
  refine g_split (2) (fun z2 => ?_) (fun z2 => ?_)
  · refine g_tabIn dT_nameOf_1 (by decide) (by decide) rfl rfl ?_
    refine g_ldcS dT_nameOf_43 (by decide) fT_110 ?_
    refine g_aret dT_nameOf_45 rfl ?_
    exact ⟨by rw [nIe (c := 2) hk (by decide) z2], rfl⟩
  refine g_split (3) (fun z3 => ?_) (fun z3 => ?_)
  · refine g_tabIn dT_nameOf_1 (by decide) (by decide) rfl rfl ?_
    refine g_ldcS dT_nameOf_46 (by decide) fT_112 ?_
    refine g_aret dT_nameOf_48 rfl ?_
    exact ⟨by rw [nIe (c := 3) hk (by decide) z3], rfl⟩
  refine g_split (4) (fun z4 => ?_) (fun z4 => ?_)
  · refine g_tabIn dT_nameOf_1 (by decide) (by decide) rfl rfl ?_
    refine g_ldcS dT_nameOf_49 (by decide) fT_114 ?_
    refine g_aret dT_nameOf_51 rfl ?_
    exact ⟨by rw [nIe (c := 4) hk (by decide) z4], rfl⟩
  refine g_split (5) (fun z5 => ?_) (fun z5 => ?_)
  · refine g_tabIn dT_nameOf_1 (by decide) (by decide) rfl rfl ?_
    refine g_ldcS dT_nameOf_52 (by decide) fT_116 ?_
    refine g_aret dT_nameOf_54 rfl ?_
    exact ⟨by rw [nIe (c := 5) hk (by decide) z5], rfl⟩
  refine g_split (6) (fun z6 => ?_) (fun z6 => ?_)
  · refine g_tabIn dT_nameOf_1 (by decide) (by decide) rfl rfl ?_
    refine g_ldcS dT_nameOf_55 (by decide) fT_118 ?_
    refine g_aret dT_nameOf_57 rfl ?_
    exact ⟨by rw [nIe (c := 6) hk (by decide) z6], rfl⟩
  refine g_tabOut dT_nameOf_1 (by have q0 := lv_neT z1 (a := 1) rfl; have q1 := lv_neT z2 (a := 2) rfl; have q2 := lv_neT z3 (a := 3) rfl; have q3 := lv_neT z4 (a := 4) rfl; have q4 := lv_neT z5 (a := 5) rfl; have q5 := lv_neT z6 (a := 6) rfl; omega) rfl ?_
  refine g_ldcS dT_nameOf_58 (by decide) fT_120 ?_
  refine g_aret dT_nameOf_60 rfl ?_
  have e0 : k = 0 := by
    revert z1 z2 z3 z4 z5 z6
    exact k7 (P := fun k => ¬ nI k = 1 → ¬ nI k = 2 → ¬ nI k = 3 → ¬ nI k = 4 → ¬ nI k = 5 → ¬ nI k = 6 → k = 0) hk (fun _ _ _ _ _ _ => rfl) (fun a _ _ _ _ _ => absurd rfl a) (fun _ a _ _ _ _ => absurd rfl a) (fun _ _ a _ _ _ => absurd rfl a) (fun _ _ _ a _ _ => absurd rfl a) (fun _ _ _ _ a _ => absurd rfl a) (fun _ _ _ _ _ a => absurd rfl a)
  exact ⟨by rw [e0], rfl⟩

set_option maxRecDepth 4000 in
theorem lT_kind {l : Launch} {g : GG} {w : Wd} {A : HA} {T : TT} {t : Nat} (ht : w 21 1 = nI t) (h120 : t ≤ 120) (hT : TI t T) : ∀ (m : Nat) (u : Nat), (m ≤ 7) → Go l g T_kindOfWord 2 [some (.ref (g.1 21)), some (.int (nI (7 - m)))] [] (tz A T w) (Is (some (.int (kwF (w 22) T m (7 - m)))) (tz A T w)) := by
  intro m
  induction m with
  | zero =>
    intro u hm
    refine g_iload_n dT_kindOfWord_2 rfl ?_
    refine g_bipush (v := 7) dT_kindOfWord_3 (by decide) ?_
    refine g_icmp_ge dT_kindOfWord_5 rfl (fun h5 => ?_) (fun h5 => ?_)
    · refine g_iconst (v := -1) dT_kindOfWord_27 (by decide) ?_
      refine g_iret dT_kindOfWord_28 rfl rfl ?_
      exact ⟨rfl, rfl⟩
    · exact absurd (by decide) h5
  | succ m ih =>
    intro u hm
    refine g_iload_n dT_kindOfWord_2 rfl ?_
    refine g_bipush (v := 7) dT_kindOfWord_3 (by decide) ?_
    refine g_icmp_ge dT_kindOfWord_5 rfl (fun h5 => ?_) (fun h5 => ?_)
    · rw [show (7 : Int32) = nI 7 from rfl, nI_leI (by omega) (by omega)] at h5
      omega
    · rw [show (7 : Int32) = nI 7 from rfl, nI_leI (by omega) (by omega)] at h5
      refine g_aload_n dT_kindOfWord_8 rfl ?_
      refine g_iload_n dT_kindOfWord_9 rfl ?_
      refine gS1 dT_kindOfWord_10 kT_kindOfWord_101 (cT_nameOf (k := 7 - (m + 1)) (by omega)) (Nat.le_of_ble_eq_true rfl) ?_
      refine gV1 dT_kindOfWord_13 kT_kindOfWord_105 rfl rfl (cT_isWord ht h120 (x := 7 - (m + 1)) (by omega) hT) (Nat.le_of_ble_eq_true rfl) ?_
      refine g_if_eq dT_kindOfWord_16 rfl (fun h16 => ?_) (fun h16 => ?_)
      · have h16 := bI_0.mp h16
        refine g_iinc (v := nI (7 - m)) dT_kindOfWord_21 rfl (by rw [show 7 - m = 7 - (m + 1) + 1 by omega, nI_succ]; rfl) (by decide) rfl rfl ?_
        dsimp only [List.set]
        refine g_goto dT_kindOfWord_24 rfl ?_
        refine g_mono (fun r w2 h => ?_) (ih 0 (by omega))
        rw [kwF, if_neg h16, show 7 - (m + 1) + 1 = 7 - m by omega]
        exact h
      · have h16 := Classical.not_not.mp (fun z => h16 (bI_0.mpr z))
        refine g_iload_n dT_kindOfWord_19 rfl ?_
        refine g_iret dT_kindOfWord_20 rfl rfl ?_
        exact ⟨by rw [kwF, if_pos h16], rfl⟩

set_option maxRecDepth 4000 in
theorem cT_kindOfWord {l : Launch} {g : GG} {w : Wd} {A : HA} {T : TT} {t : Nat} (ht : w 21 1 = nI t) (h120 : t ≤ 120) (hT : TI t T) : Res l g T_kindOfWord [.ref (g.1 21)] (tz A T w) (Is (some (.int (kwF (w 22) T 7 0))) (tz A T w)) := by
  refine Res.of (by decide) (by simp [Value.category]) (Nat.le_of_ble_eq_true rfl) rfl ?_
  show Go l g T_kindOfWord 0 [some (.ref (g.1 21)), none] [] (tz A T w) _
  refine g_iconst (v := 0) dT_kindOfWord_0 (by decide) ?_
  refine g_istore_n dT_kindOfWord_1 (by decide) rfl rfl ?_
  dsimp only [List.set]
  exact lT_kind ht h120 hT 7 0 (by omega)

set_option maxRecDepth 4000 in
theorem lT_rs3 {l : Launch} {g : GG} {w : Wd} {A : HA} {T : TT} {t : Nat} (ht : w 21 1 = nI t) (h120 : t ≤ 120) {n : Nat} (e8 : ¬ n = 8) (hT : TI t T) (h8 : n ≤ 8) {k : Int32} {s4 : Option Value} : Go l g T_readSheep 84 [some (.ref (g.1 21)), some (.ref (g.1 7)), some (.int k), some (.int (nI n)), s4] [] (tz A T w) (Is (some (.int (opF (w 22) t 12 9999 (fun B v => sL B n v) T A).1)) (tz (opF (w 22) t 12 9999 (fun B v => sL B n v) T A).2.2 (opF (w 22) t 12 9999 (fun B v => sL B n v) T A).2.1 w)) := by
  refine g_drop 4 rfl ?_
  dsimp only [List.set]
  refine g_aload_n dT_readSheep_84 rfl ?_
  refine g_ldcS dT_readSheep_85 (by decide) fT_85 ?_
  refine gV1 dT_readSheep_87 kT_readSheep_49 rfl rfl (cT_skipWord ht h120 (x := 12) (by decide) hT) (Nat.le_of_ble_eq_true rfl) ?_
  refine g_if_eq dT_readSheep_90 rfl (fun h90 => ?_) (fun h90 => ?_)
  · have h90 := bI_0.mp h90
    rw [swF_n h90]
    refine g_iconst (v := 1) dT_readSheep_118 (by decide) ?_
    refine g_iret dT_readSheep_119 rfl (by first | rfl | exact bI_n) ?_
    first | exact ⟨by rw [opF, if_neg h90], by rw [opF, if_neg h90]⟩ | exact ⟨by rw [opF, if_pos h90, rdN, if_neg h105], by rw [opF, if_pos h90, rdN, if_neg h105]⟩
  · have h90 := Classical.not_not.mp (fun z => h90 (bI_0.mpr z))
    rw [swF_y h90]
    refine g_aload_n dT_readSheep_93 rfl ?_
    refine g_sipush (v := 9999) dT_readSheep_94 (by decide) ?_
    refine gV1 dT_readSheep_97 kT_readSheep_74 rfl rfl (cT_takeNumber ht h120 (nextF_TI hT.2.1)) (Nat.le_of_ble_eq_true rfl) ?_
    refine g_istore dT_readSheep_100 (by decide) rfl rfl ?_
    dsimp only [List.set]
    refine g_iload dT_readSheep_102 rfl ?_
    refine g_iconst (v := (-1)) dT_readSheep_104 (by decide) ?_
    refine g_icmp_ne dT_readSheep_105 rfl (fun h105 => ?_) (fun h105 => ?_)
    · refine g_aload_n dT_readSheep_110 rfl ?_
      refine g_getR2 (k2 := 11) dT_readSheep_111 fT_87 isH7.o rfl (by decide) rfl ?_
      refine g_iload_n dT_readSheep_114 rfl ?_
      refine g_iload dT_readSheep_115 rfl ?_
      refine g_stL dT_readSheep_117 isH7 (by omega) ?_
      refine g_iconst (v := 1) dT_readSheep_118 (by decide) ?_
      refine g_iret dT_readSheep_119 rfl (by first | rfl | exact bI_n) ?_
      first | exact ⟨by rw [opF, if_neg h90], by rw [opF, if_neg h90]⟩ | exact ⟨by rw [opF, if_pos h90, rdN, if_neg h105], by rw [opF, if_pos h90, rdN, if_neg h105]⟩
    · refine g_iconst (v := 0) dT_readSheep_108 (by decide) ?_
      refine g_iret dT_readSheep_109 rfl (by first | rfl | exact bI_n) ?_
      have e9 : opF (w 22) t 12 9999 (fun B v => sL B n v) T A = (0, (tnF (w 22) t (nextF (w 22) t T.2.1) 9999).2, A) := by rw [opF, if_pos h90, rdN, if_pos h105]
      exact ⟨by rw [e9], by rw [e9]⟩

set_option maxRecDepth 4000 in
theorem lT_rs2 {l : Launch} {g : GG} {w : Wd} {A : HA} {T : TT} {t : Nat} (ht : w 21 1 = nI t) (h120 : t ≤ 120) {n : Nat} (e8 : ¬ n = 8) (hT : TI t T) (h8 : n ≤ 8) {k : Int32} {s4 : Option Value} : Go l g T_readSheep 51 [some (.ref (g.1 21)), some (.ref (g.1 7)), some (.int k), some (.int (nI n)), s4] [] (tz A T w) (Is (some (.int (shR3 (w 22) t n (opF (w 22) t 11 99 (fun B v => sF B n v) T A)).1)) (tz (shR3 (w 22) t n (opF (w 22) t 11 99 (fun B v => sF B n v) T A)).2.2 (shR3 (w 22) t n (opF (w 22) t 11 99 (fun B v => sF B n v) T A)).2.1 w)) := by
  refine g_drop 4 rfl ?_
  dsimp only [List.set]
  refine g_aload_n dT_readSheep_51 rfl ?_
  refine g_ldcS dT_readSheep_52 (by decide) fT_81 ?_
  refine gV1 dT_readSheep_54 kT_readSheep_49 rfl rfl (cT_skipWord ht h120 (x := 11) (by decide) hT) (Nat.le_of_ble_eq_true rfl) ?_
  refine g_if_eq dT_readSheep_57 rfl (fun h57 => ?_) (fun h57 => ?_)
  · have h57 := bI_0.mp h57
    rw [swF_n h57]
    exact g_mono (fun r w2 h => by rw [show opF (w 22) t 11 99 (fun B v => sF B n v) T A = (1, T, A) from if_neg h57, shR3, if_neg (show ¬ (1 : Int32) = 0 by decide)]; exact h) (lT_rs3 ht h120 e8 hT h8)
  · have h57 := Classical.not_not.mp (fun z => h57 (bI_0.mpr z))
    rw [swF_y h57]
    refine g_aload_n dT_readSheep_60 rfl ?_
    refine g_bipush (v := 99) dT_readSheep_61 (by decide) ?_
    refine gV1 dT_readSheep_63 kT_readSheep_74 rfl rfl (cT_takeNumber ht h120 (nextF_TI hT.2.1)) (Nat.le_of_ble_eq_true rfl) ?_
    refine g_istore dT_readSheep_66 (by decide) rfl rfl ?_
    dsimp only [List.set]
    refine g_iload dT_readSheep_68 rfl ?_
    refine g_iconst (v := (-1)) dT_readSheep_70 (by decide) ?_
    refine g_icmp_ne dT_readSheep_71 rfl (fun h71 => ?_) (fun h71 => ?_)
    · refine g_aload_n dT_readSheep_76 rfl ?_
      refine g_getR2 (k2 := 10) dT_readSheep_77 fT_83 isH7.o rfl (by decide) rfl ?_
      refine g_iload_n dT_readSheep_80 rfl ?_
      refine g_iload dT_readSheep_81 rfl ?_
      refine g_stF dT_readSheep_83 isH7 (by omega) ?_
      refine g_mono (fun r w2 h => ?_) (lT_rs3 ht h120 e8 (tnF_TI (nextF_TI hT.2.1)) h8)
      rw [show opF (w 22) t 11 99 (fun B v => sF B n v) T A = (1, (tnF (w 22) t (nextF (w 22) t T.2.1) 99).2, sF A n (tnF (w 22) t (nextF (w 22) t T.2.1) 99).1) by rw [opF, if_pos h57, rdN, if_neg h71], shR3, if_neg (show ¬ (1 : Int32) = 0 by decide)]
      exact h
    · refine g_iconst (v := 0) dT_readSheep_74 (by decide) ?_
      refine g_iret dT_readSheep_75 rfl (by first | rfl | exact bI_n) ?_
      have e9 : opF (w 22) t 11 99 (fun B v => sF B n v) T A = (0, (tnF (w 22) t (nextF (w 22) t T.2.1) 99).2, A) := by rw [opF, if_pos h57, rdN, if_pos h71]
      exact ⟨by rw [e9, shR3, if_pos rfl], by rw [e9, shR3, if_pos rfl]⟩

set_option maxRecDepth 4000 in
theorem lT_rs1 {l : Launch} {g : GG} {w : Wd} {A : HA} {T : TT} {t : Nat} (ht : w 21 1 = nI t) (h120 : t ≤ 120) {n : Nat} (e8 : ¬ n = 8) (hT : TI t T) (h8 : n ≤ 8) {k : Int32} {s4 : Option Value} : Go l g T_readSheep 18 [some (.ref (g.1 21)), some (.ref (g.1 7)), some (.int k), some (.int (nI n)), s4] [] (tz A T w) (Is (some (.int (shR2 (w 22) t n (opF (w 22) t 10 15 (fun B v => sC B n v) T A)).1)) (tz (shR2 (w 22) t n (opF (w 22) t 10 15 (fun B v => sC B n v) T A)).2.2 (shR2 (w 22) t n (opF (w 22) t 10 15 (fun B v => sC B n v) T A)).2.1 w)) := by
  refine g_drop 4 rfl ?_
  dsimp only [List.set]
  refine g_aload_n dT_readSheep_18 rfl ?_
  refine g_ldcS dT_readSheep_19 (by decide) fT_72 ?_
  refine gV1 dT_readSheep_21 kT_readSheep_49 rfl rfl (cT_skipWord ht h120 (x := 10) (by decide) hT) (Nat.le_of_ble_eq_true rfl) ?_
  refine g_if_eq dT_readSheep_24 rfl (fun h24 => ?_) (fun h24 => ?_)
  · have h24 := bI_0.mp h24
    rw [swF_n h24]
    exact g_mono (fun r w2 h => by rw [show opF (w 22) t 10 15 (fun B v => sC B n v) T A = (1, T, A) from if_neg h24, shR2, if_neg (show ¬ (1 : Int32) = 0 by decide)]; exact h) (lT_rs2 ht h120 e8 hT h8)
  · have h24 := Classical.not_not.mp (fun z => h24 (bI_0.mpr z))
    rw [swF_y h24]
    refine g_aload_n dT_readSheep_27 rfl ?_
    refine g_bipush (v := 15) dT_readSheep_28 (by decide) ?_
    refine gV1 dT_readSheep_30 kT_readSheep_74 rfl rfl (cT_takeNumber ht h120 (nextF_TI hT.2.1)) (Nat.le_of_ble_eq_true rfl) ?_
    refine g_istore dT_readSheep_33 (by decide) rfl rfl ?_
    dsimp only [List.set]
    refine g_iload dT_readSheep_35 rfl ?_
    refine g_iconst (v := (-1)) dT_readSheep_37 (by decide) ?_
    refine g_icmp_ne dT_readSheep_38 rfl (fun h38 => ?_) (fun h38 => ?_)
    · refine g_aload_n dT_readSheep_43 rfl ?_
      refine g_getR2 (k2 := 9) dT_readSheep_44 fT_78 isH7.o rfl (by decide) rfl ?_
      refine g_iload_n dT_readSheep_47 rfl ?_
      refine g_iload dT_readSheep_48 rfl ?_
      refine g_stC dT_readSheep_50 isH7 (by omega) ?_
      refine g_mono (fun r w2 h => ?_) (lT_rs2 ht h120 e8 (tnF_TI (nextF_TI hT.2.1)) h8)
      rw [show opF (w 22) t 10 15 (fun B v => sC B n v) T A = (1, (tnF (w 22) t (nextF (w 22) t T.2.1) 15).2, sC A n (tnF (w 22) t (nextF (w 22) t T.2.1) 15).1) by rw [opF, if_pos h24, rdN, if_neg h38], shR2, if_neg (show ¬ (1 : Int32) = 0 by decide)]
      exact h
    · refine g_iconst (v := 0) dT_readSheep_41 (by decide) ?_
      refine g_iret dT_readSheep_42 rfl (by first | rfl | exact bI_n) ?_
      have e9 : opF (w 22) t 10 15 (fun B v => sC B n v) T A = (0, (tnF (w 22) t (nextF (w 22) t T.2.1) 15).2, A) := by rw [opF, if_pos h24, rdN, if_pos h38]
      exact ⟨by rw [e9, shR2, if_pos rfl], by rw [e9, shR2, if_pos rfl]⟩

set_option maxRecDepth 4000 in
theorem cT_readSheep {l : Launch} {g : GG} {w : Wd} {A : HA} {T : TT} {t : Nat} (ht : w 21 1 = nI t) (h120 : t ≤ 120) {n : Nat} (hn : A.1 6 = nI n) (h8 : n ≤ 8) (hT : TI t T) {k : Int32} : Res l g T_readSheep [.ref (g.1 21), .ref (g.1 7), .int k] (tz A T w) (Is (some (.int (sheepR (w 22) t n k T A).1)) (tz (sheepR (w 22) t n k T A).2.2 (sheepR (w 22) t n k T A).2.1 w)) := by
  refine Res.of (by decide) (by simp [Value.category]) (Nat.le_of_ble_eq_true rfl) rfl ?_
  show Go l g T_readSheep 0 [some (.ref (g.1 21)), some (.ref (g.1 7)), some (.int k), none, none] [] (tz A T w) _
  refine g_aload_n dT_readSheep_0 rfl ?_
  refine g_iload_n dT_readSheep_1 rfl ?_
  refine g_iconst (v := 0) dT_readSheep_2 (by decide) ?_
  refine gV2 dT_readSheep_3 kT_readSheep_66 isH7.o rfl (cH_add isH7 hn h8) (Nat.le_of_ble_eq_true rfl) ?_
  by_cases e8 : n = 8
  · rw [if_pos e8, if_pos e8]
    refine g_istore_n dT_readSheep_6 (by decide) rfl rfl ?_
    dsimp only [List.set]
    refine g_iload_n dT_readSheep_7 rfl ?_
    refine g_iconst (v := -1) dT_readSheep_8 (by decide) ?_
    refine g_icmp_ne dT_readSheep_9 rfl (fun h => absurd rfl h) (fun _ => ?_)
    refine g_iconst (v := 0) dT_readSheep_12 (by decide) ?_
    refine g_iret dT_readSheep_13 rfl rfl ?_
    exact ⟨by rw [sheepR, if_pos e8], by rw [sheepR, if_pos e8]⟩
  rw [if_neg e8, if_neg e8]
  refine g_istore_n dT_readSheep_6 (by decide) rfl rfl ?_
  dsimp only [List.set]
  refine g_iload_n dT_readSheep_7 rfl ?_
  refine g_iconst (v := (-1)) dT_readSheep_8 (by decide) ?_
  refine g_icmp_ne dT_readSheep_9 rfl (fun h9 => ?_) (fun h9 => ?_)
  · refine g_aload_n dT_readSheep_14 rfl ?_
    refine gV0v dT_readSheep_15 kT_readSheep_32 rfl rfl (cT_nextToken ht h120 hT.2.1) (Nat.le_of_ble_eq_true rfl) ?_
    refine g_mono (fun r w2 h => ?_) (lT_rs1 ht h120 e8 (nextF_TI hT.2.1) h8)
    rw [sheepR, if_neg e8]
    exact h
  · exact absurd (nI_pos' (show n < 2 ^ 31 by omega)) (by rw [h9]; decide)
