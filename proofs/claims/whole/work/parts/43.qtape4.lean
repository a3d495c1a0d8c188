theorem so_3 {T : TT} : soR T = 3 ↔ (T.2.2 = 3 ∨ T.2.2 = 5) := by unfold soR; grind
theorem VT.tk {f : Nat → Int32} {t : Nat} {T : TT} (h : VT f t T) : T.2.2 = tkF f t T.1 := by obtain ⟨e, he, rfl⟩ := h; rfl
theorem VT.sg {f : Nat → Int32} {t : Nat} {T : TT} (h : VT f t T) (h3 : T.2.2 = 3 ∨ T.2.2 = 5) : T.1 < t ∧ (T.2.2 = 3 ↔ f T.1 = 59) := by
  have e := h.tk
  have hl : T.1 < t := tkF_lt (f := f) (by rw [← e]; rcases h3 with h3 | h3 <;> rw [h3] <;> decide)
  refine ⟨hl, ?_⟩
  rw [e] at h3 ⊢
  unfold tkF at *
  rw [if_pos hl] at h3 ⊢
  unfold clsF at *
  grind
theorem nx_mono {f : Nat → Int32} {t : Nat} {T : TT} (h : VT f t T) (h0 : T.2.2 ≠ 0) : T.1 < (nextF f t T.2.1).1 := by
  have h1 := h.ti
  have h2 := h1.2.2 h0
  have h3 := (skN_le (f := f) h1.2.1).1
  show T.1 < skN f t T.2.1
  omega
theorem tn_mono {f : Nat → Int32} {t : Nat} {T : TT} {mx : Int32} (h : VT f t T) : T.1 ≤ (tnF f t T mx).2.1 := by
  unfold tnF
  split
  · rename_i h2; exact Nat.le_of_lt (nx_mono h (by rw [h2.1]; decide))
  · exact Nat.le_refl _
theorem tn_in {f : Nat → Int32} {t : Nat} {T : TT} {mx : Int32} (h : VT f t T) (h1 : ¬ (tnF f t T mx).1 = -1) : 0 ≤ (tnF f t T mx).1 ∧ (tnF f t T mx).1 ≤ mx := by
  obtain ⟨e, h2⟩ := tn_va h1
  rw [e]
  exact ⟨h.va, h2⟩
/-- what holds of an item's reading: the token behind, and the hill's ranges where it stood -/
def OKR (f : Nat → Int32) (t b : Nat) (T : TT) (R : RR) : Prop := VT f t R.2.1 ∧ T.1 ≤ R.2.1.1 ∧ (¬ R.1 = 0 → ∃ n', IVA n' b R.2.2)
theorem OKR.tr {f : Nat → Int32} {t b : Nat} {T T2 : TT} {R : RR} (h : OKR f t b T2 R) (h1 : T.1 ≤ T2.1) : OKR f t b T R := ⟨h.1, Nat.le_trans h1 h.2.1, h.2.2⟩
theorem rd_ok {f : Nat → Int32} {t b : Nat} {T : TT} {mx : Int32} {A : HA} {st : HA → Int32 → HA} (hV : VT f t T) (hs : ∀ v, (0 ≤ v ∧ v ≤ mx) → ∃ n', IVA n' b (st A v)) : OKR f t b T (rdN (tnF f t T mx) A st) := by
  unfold rdN
  by_cases h : (tnF f t T mx).1 = -1
  · rw [if_pos h]; exact ⟨tn_VT hV, tn_mono hV, fun z => absurd rfl z⟩
  · rw [if_neg h]; exact ⟨tn_VT hV, tn_mono hV, fun _ => hs _ (tn_in hV h)⟩
theorem op_ok {f : Nat → Int32} {t b x : Nat} {T : TT} {mx : Int32} {A : HA} {st : HA → Int32 → HA} (hV : VT f t T) (h0 : ∃ n', IVA n' b A) (hs : ∀ v, (0 ≤ v ∧ v ≤ mx) → ∃ n', IVA n' b (st A v)) : OKR f t b T (opF f t x mx st T A) := by
  unfold opF
  by_cases h : wdP f T x
  · rw [if_pos h]; exact (rd_ok hV.next hs).tr (Nat.le_of_lt (nx_mono hV (by rw [h.1]; decide)))
  · rw [if_neg h]; exact ⟨hV, Nat.le_refl _, fun _ => h0⟩
theorem IVA.add {n b : Nat} {A : HA} (h : IVA n b A) (hn : n < 8) {k c : Int32} (hk : 0 ≤ k ∧ k ≤ 6) (hc : 0 ≤ c ∧ c ≤ 15) : IVA (n + 1) b (addF n k c A) := by
  have h1 := ((((h.K (j := n) hk).C (j := n) hc).F (j := n) (v := 0) (by decide)).L (j := n) (v := 0) (by decide)).O (j := n) (v := 0) (by decide)
  refine ⟨⟨rfl, by omega, h1.fo, h1.ke, ?_, h1.wo, h1.pa, h1.ho⟩, h1.2⟩
  rcases h1.ca with e | ⟨q, hq, e⟩
  · exact Or.inl e
  · exact Or.inr ⟨q, by omega, e⟩
theorem item_ok {f : Nat → Int32} {t b n : Nat} {T : TT} {A : HA} (hV : VT f t T) (hI : IVA n b A) : OKR f t b T (itemR f t n T A) ∧ (¬ (itemR f t n T A).1 = 0 → T.1 < (itemR f t n T A).2.1.1) := by
  have hw : ∀ x, wdP f T x → T.1 < (nextF f t T.2.1).1 := fun x h => nx_mono hV (by rw [h.1]; decide)
  unfold itemR
  by_cases hk : kwF f T 7 0 = -1
  · rw [if_pos hk]
    by_cases h7 : wdP f T 7
    · rw [if_pos h7]
      have h := rd_ok (b := b) (mx := 15) (A := A) (st := fun B v => sS B 0 v) hV.next (fun v hv => ⟨n, hI.s0 hv⟩)
      exact ⟨h.tr (Nat.le_of_lt (hw 7 h7)), fun _ => Nat.lt_of_lt_of_le (hw 7 h7) h.2.1⟩
    · rw [if_neg h7]
      by_cases h8 : wdP f T 8
      · rw [if_pos h8]
        have h := rd_ok (b := b) (mx := 15) (A := A) (st := fun B v => mkF v B) hV.next (fun v hv => ⟨n, mk_IV hI hv⟩)
        exact ⟨h.tr (Nat.le_of_lt (hw 8 h8)), fun _ => Nat.lt_of_lt_of_le (hw 8 h8) h.2.1⟩
      · rw [if_neg h8]
        by_cases h9 : wdP f T 9
        · rw [if_pos h9]
          unfold wolfR
          by_cases hn : (tnF f t (nextF f t T.2.1) 15).1 = -1
          · rw [if_pos hn]
            exact ⟨⟨tn_VT hV.next, Nat.le_trans (Nat.le_of_lt (hw 9 h9)) (tn_mono hV.next), fun z => absurd rfl z⟩, fun z => absurd rfl z⟩
          · rw [if_neg hn]
            have hi3 := hI.s3 (in15 (tn_in hV.next hn))
            have h := op_ok (b := b) (x := 13) (mx := 5) (st := fun B v => sS B 4 v) (tn_VT (mx := 15) hV.next) ⟨n, hi3⟩ (fun v hv => ⟨n, hi3.s4 hv⟩)
            have h5 := Nat.lt_of_lt_of_le (hw 9 h9) (tn_mono (mx := 15) hV.next)
            exact ⟨h.tr (Nat.le_of_lt h5), fun _ => Nat.lt_of_lt_of_le h5 h.2.1⟩
        · rw [if_neg h9]
          exact ⟨⟨hV, Nat.le_refl _, fun z => absurd rfl z⟩, fun z => absurd rfl z⟩
  · rw [if_neg hk]
    have hk7 := kM_kw.2.resolve_left hk
    have hlt := nx_mono hV (by rw [hk7.1]; decide)
    by_cases hn8 : n = 8
    · rw [show sheepR f t n (kwF f T 7 0) T A = (0, T, A) from if_pos hn8]
      exact ⟨⟨hV, Nat.le_refl _, fun z => absurd rfl z⟩, fun z => absurd rfl z⟩
    · have h8 := hI.n8
      rw [show sheepR f t n (kwF f T 7 0) T A = shR2 f t n (opF f t 10 15 (fun B v => sC B n v) (nextF f t T.2.1) (addF n (kwF f T 7 0) 0 A)) from if_neg hn8]
      have ha := hI.add (by omega) hk7.2 (c := 0) (by decide)
      have h1 := op_ok (b := b) (x := 10) (mx := 15) (st := fun B v => sC B n v) hV.next ⟨n + 1, ha⟩ (fun v hv => ⟨n + 1, ha.C hv⟩)
      have hg : OKR f t b (nextF f t T.2.1) (shR2 f t n (opF f t 10 15 (fun B v => sC B n v) (nextF f t T.2.1) (addF n (kwF f T 7 0) 0 A))) := by
        generalize opF f t 10 15 (fun B v => sC B n v) (nextF f t T.2.1) (addF n (kwF f T 7 0) 0 A) = r1 at h1
        unfold shR2
        by_cases e1 : r1.1 = 0
        · rw [if_pos e1]; exact h1
        · rw [if_neg e1]
          obtain ⟨n1, hn1⟩ := h1.2.2 e1
          have h2 := op_ok (b := b) (x := 11) (mx := 99) (st := fun B v => sF B n v) h1.1 ⟨n1, hn1⟩ (fun v hv => ⟨n1, hn1.F hv⟩)
          generalize opF f t 11 99 (fun B v => sF B n v) r1.2.1 r1.2.2 = r2 at h2
          unfold shR3
          by_cases e2 : r2.1 = 0
          · rw [if_pos e2]; exact h2.tr h1.2.1
          · rw [if_neg e2]
            obtain ⟨n2, hn2⟩ := h2.2.2 e2
            exact ((op_ok (b := b) (x := 12) (mx := 9999) (st := fun B v => sL B n v) h2.1 ⟨n2, hn2⟩ (fun v hv => ⟨n2, hn2.L hv⟩)).tr h2.2.1).tr h1.2.1
      exact ⟨hg.tr (Nat.le_of_lt hlt), fun _ => Nat.lt_of_lt_of_le hlt hg.2.1⟩
/-! the items, put onto the hill one after another -/
def apN (X : Wd) : Nat → HA → HA
  | 0, A => A
  | k + 1, A => apF (X 40 k) (X 41 k) (X 42 k) (X 43 k) (apN X k A)
theorem apN_cg {X Y : Wd} {A : HA} : ∀ i, smI i X Y → apN Y i A = apN X i A
  | 0, _ => rfl
  | i + 1, h => by
    have h1 := h i (by omega)
    unfold apN
    rw [apN_cg i (fun k hk => h k (by omega)), h1.1, h1.2.1, h1.2.2.1, h1.2.2.2]
theorem ap_7 {n n' b : Nat} {A : HA} {a b1 c d : Int32} (hI : IVA n b A) (hI' : IVA n' b (apF a b1 c d A)) (h1 : ¬ a = 10) (h2 : ¬ a = 11) (h3 : ¬ a = 12) : n < 8 := by
  have h8 := hI.n8
  have h9 := hI'.n8
  have e := hI'.n6
  unfold apF at e
  rw [if_neg h1, if_neg h2, if_neg h3, hI.n6, nI_clamp (by omega)] at e
  have e2 : nI (n + 1) = nI n' := e
  rw [nI_eq (by omega) (by omega)] at e2
  omega
theorem RM.cgW {S w w' : Wd} (h : RM S w) (hc : ∀ k, k ≠ 33 → (k < 40 ∨ 43 < k) → w' k = w k) (h3 : w' 33 3 = w 33 3) (h5 : w' 33 5 = w 33 5) (h7 : w' 33 7 = w 33 7) : RM S w' := by
  refine RM.mk (fun i hi => ?_) ?_ (fun hk i hi => ?_) ?_ ?_ (fun i hi => ?_) (fun q hq => ?_) ?_ (fun q hq => ?_)
  · rw [hc 34 (by decide) (by decide)]; exact h.row i hi
  · rw [h3]; exact h.kf
  · rw [hc 35 (by decide) (by decide)]; exact h.kr hk i hi
  · rw [h5]; exact h.te
  · rw [h7]; exact h.tl
  · rw [hc 38 (by decide) (by decide)]; exact h.tb i hi
  · rw [hc 37 (by decide) (by decide)]; exact h.fq q hq
  · rw [hc 37 (by decide) (by decide)]; exact h.f0
  · rw [hc 44 (by decide) (by decide), hc 45 (by decide) (by decide), hc 46 (by decide) (by decide)]; exact h.sh q hq
theorem pw_o {f : Nat → Int32} {wr : Int32} {T : TT} {W : Wd} {k : Nat} (h : k ≠ 33) : pw f wr T W k = W k := (q4_o h).trans (up_other _ _ _ _ h)
theorem pw_j {f : Nat → Int32} {wr : Int32} {T : TT} {W : Wd} {j : Nat} (h : (decide (8 ≤ j) && decide (j ≤ 12)) = false) : pw f wr T W 33 j = W 33 j := (q4_j (p_j h).1).trans (by rw [up_same]; exact if_neg (p_j h).2)
set_option maxRecDepth 4000 in
theorem cQ_isToldSo {l : Launch} {g : GG} {W : Wd} {B : HA} {n b : Nat} (hI : IVA n b B) {k : Nat} (hk : k < 120) (h7 : ¬ W 40 k = 10 → ¬ W 40 k = 11 → ¬ W 40 k = 12 → n < 8) : Res l g Q_isToldSo [.ref (g.1 33), .int (nI k)] (mput B W) (Is none (mput (apF (W 40 k) (W 41 k) (W 42 k) (W 43 k) B) W)) := by
  have h8 := hI.n8
  refine Res.of (by decide) (by simp [Value.category]) (Nat.le_of_ble_eq_true rfl) rfl ?_
  show Go l g Q_isToldSo 0 [some (.ref (g.1 33)), some (.int (nI k)), none, none, none] [] (mput B W) _
  refine g_aload_n dQ_isToldSo_0 rfl ?_
  refine g_getR2 (k2 := 41) dQ_isToldSo_1 fQ_48 rfl rfl (by decide) rfl ?_
  refine g_iload_n dQ_isToldSo_4 rfl ?_
  refine g_ialdN (i := k) dQ_isToldSo_5 rfl hk (by decide) ?_
  refine g_top (y := W 41 k) (by rw [mput_o _ _ (by decide)]) ?_
  refine g_istore_n dQ_isToldSo_6 (by decide) rfl rfl ?_
  dsimp only [List.set]
  refine g_aload_n dQ_isToldSo_7 rfl ?_
  refine g_getR2 (k2 := 42) dQ_isToldSo_8 fQ_51 rfl rfl (by decide) rfl ?_
  refine g_iload_n dQ_isToldSo_11 rfl ?_
  refine g_ialdN (i := k) dQ_isToldSo_12 rfl hk (by decide) ?_
  refine g_top (y := W 42 k) (by rw [mput_o _ _ (by decide)]) ?_
  refine g_istore_n dQ_isToldSo_13 (by decide) rfl rfl ?_
  dsimp only [List.set]
  refine g_aload_n dQ_isToldSo_14 rfl ?_
  refine g_getR2 (k2 := 40) dQ_isToldSo_15 fQ_45 rfl rfl (by decide) rfl ?_
  refine g_iload_n dQ_isToldSo_18 rfl ?_
  refine g_ialdN (i := k) dQ_isToldSo_19 rfl hk (by decide) ?_
  refine g_top (y := W 40 k) (by rw [mput_o _ _ (by decide)]) ?_
  refine g_split (10) (fun z10 => ?_) (fun z10 => ?_)
  · refine g_tabIn dQ_isToldSo_20 (by decide) (by decide) rfl rfl ?_
    refine g_aload_n dQ_isToldSo_48 rfl ?_
    refine g_getR2 (k2 := 34) dQ_isToldSo_49 fQ_9 rfl rfl (by decide) rfl ?_
    refine g_iconst (v := 3) dQ_isToldSo_52 (by decide) ?_
    refine g_iload_n dQ_isToldSo_53 rfl ?_
    refine g_mP (j := 0) (i := 3) dQ_isToldSo_54 rfl (by decide) (by decide) ?_
    refine g_goto dQ_isToldSo_55 rfl ?_
    refine g_vret dQ_isToldSo_140 rfl ?_
    first
      | (refine ⟨rfl, ?_⟩; rw [apF, if_pos z10])
      | (refine ⟨rfl, ?_⟩; rw [apF, if_neg z10, if_pos z11])
      | (refine ⟨rfl, ?_⟩; rw [apF, if_neg z10, if_neg z11, if_pos z12, if_neg (Int32.not_lt.mpr h80)])
      | (refine ⟨rfl, ?_⟩; rw [apF, if_neg z10, if_neg z11, if_pos z12, if_pos (Int32.not_le.mp h80), sS_id])
      | (refine ⟨rfl, ?_⟩; rw [apF, if_neg z10, if_neg z11, if_neg z12, hI.n6, nI_clamp (by omega)]; rfl)
  refine g_split (11) (fun z11 => ?_) (fun z11 => ?_)
  · refine g_tabIn dQ_isToldSo_20 (by decide) (by decide) rfl rfl ?_
    refine g_aload_n dQ_isToldSo_58 rfl ?_
    refine g_iload_n dQ_isToldSo_59 rfl ?_
    refine gV1v dQ_isToldSo_60 kQ_isToldSo_87 rfl rfl (eQ_keeperAt hI) (Nat.le_of_ble_eq_true rfl) ?_
    refine g_goto dQ_isToldSo_63 rfl ?_
    refine g_vret dQ_isToldSo_140 rfl ?_
    first
      | (refine ⟨rfl, ?_⟩; rw [apF, if_pos z10])
      | (refine ⟨rfl, ?_⟩; rw [apF, if_neg z10, if_pos z11])
      | (refine ⟨rfl, ?_⟩; rw [apF, if_neg z10, if_neg z11, if_pos z12, if_neg (Int32.not_lt.mpr h80)])
      | (refine ⟨rfl, ?_⟩; rw [apF, if_neg z10, if_neg z11, if_pos z12, if_pos (Int32.not_le.mp h80), sS_id])
      | (refine ⟨rfl, ?_⟩; rw [apF, if_neg z10, if_neg z11, if_neg z12, hI.n6, nI_clamp (by omega)]; rfl)
  refine g_split (12) (fun z12 => ?_) (fun z12 => ?_)
  · refine g_tabIn dQ_isToldSo_20 (by decide) (by decide) rfl rfl ?_
    refine g_aload_n dQ_isToldSo_66 rfl ?_
    refine g_getR2 (k2 := 34) dQ_isToldSo_67 fQ_9 rfl rfl (by decide) rfl ?_
    refine g_iconst (v := 5) dQ_isToldSo_70 (by decide) ?_
    refine g_iload_n dQ_isToldSo_71 rfl ?_
    refine g_mP (j := 3) (i := 5) dQ_isToldSo_72 rfl (by decide) (by decide) ?_
    refine g_aload_n dQ_isToldSo_73 rfl ?_
    refine g_getR2 (k2 := 34) dQ_isToldSo_74 fQ_9 rfl rfl (by decide) rfl ?_
    refine g_bipush (v := 6) dQ_isToldSo_77 (by decide) ?_
    refine g_iload_n dQ_isToldSo_79 rfl ?_
    refine g_if_ge dQ_isToldSo_80 rfl (fun h80 => ?_) (fun h80 => ?_)
    · refine g_iload_n dQ_isToldSo_93 rfl ?_
      refine g_mP (j := 4) (i := 6) dQ_isToldSo_94 rfl (by decide) (by decide) ?_
      refine g_goto dQ_isToldSo_95 rfl ?_
      refine g_vret dQ_isToldSo_140 rfl ?_
      first
        | (refine ⟨rfl, ?_⟩; rw [apF, if_pos z10])
        | (refine ⟨rfl, ?_⟩; rw [apF, if_neg z10, if_pos z11])
        | (refine ⟨rfl, ?_⟩; rw [apF, if_neg z10, if_neg z11, if_pos z12, if_neg (Int32.not_lt.mpr h80)])
        | (refine ⟨rfl, ?_⟩; rw [apF, if_neg z10, if_neg z11, if_pos z12, if_pos (Int32.not_le.mp h80), sS_id])
        | (refine ⟨rfl, ?_⟩; rw [apF, if_neg z10, if_neg z11, if_neg z12, hI.n6, nI_clamp (by omega)]; rfl)
    · refine g_aload_n dQ_isToldSo_83 rfl ?_
      refine g_getR2 (k2 := 34) dQ_isToldSo_84 fQ_9 rfl rfl (by decide) rfl ?_
      refine g_bipush (v := 6) dQ_isToldSo_87 (by decide) ?_
      refine g_mS (j := 4) (i := 6) dQ_isToldSo_89 rfl (by decide) (by decide) ?_
      refine g_goto dQ_isToldSo_90 rfl ?_
      refine g_mP (j := 4) (i := 6) dQ_isToldSo_94 rfl (by decide) (by decide) ?_
      refine g_goto dQ_isToldSo_95 rfl ?_
      refine g_vret dQ_isToldSo_140 rfl ?_
      first
        | (refine ⟨rfl, ?_⟩; rw [apF, if_pos z10])
        | (refine ⟨rfl, ?_⟩; rw [apF, if_neg z10, if_pos z11])
        | (refine ⟨rfl, ?_⟩; rw [apF, if_neg z10, if_neg z11, if_pos z12, if_neg (Int32.not_lt.mpr h80)])
        | (refine ⟨rfl, ?_⟩; rw [apF, if_neg z10, if_neg z11, if_pos z12, if_pos (Int32.not_le.mp h80), sS_id])
        | (refine ⟨rfl, ?_⟩; rw [apF, if_neg z10, if_neg z11, if_neg z12, hI.n6, nI_clamp (by omega)]; rfl)
  refine g_tabOut dQ_isToldSo_20 (by have q0 := lv_neT z10 (a := 10) rfl; have q1 := lv_neT z11 (a := 11) rfl; have q2 := lv_neT z12 (a := 12) rfl; omega) rfl ?_
  have h7n := h7 z10 z11 z12
  refine g_aload_n dQ_isToldSo_98 rfl ?_
  refine g_aload_n dQ_isToldSo_99 rfl ?_
  refine g_getR2 (k2 := 40) dQ_isToldSo_100 fQ_45 rfl rfl (by decide) rfl ?_
  refine g_iload_n dQ_isToldSo_103 rfl ?_
  refine g_ialdN (i := k) dQ_isToldSo_104 rfl hk (by decide) ?_
  refine g_top (y := W 40 k) (by rw [mput_o _ _ (by decide)]) ?_
  refine g_iload_n dQ_isToldSo_105 rfl ?_
  refine gV2 dQ_isToldSo_106 kQ_isToldSo_105 rfl rfl (cQ_comes hI.n6 h7n) (Nat.le_of_ble_eq_true rfl) ?_
  refine g_istore dQ_isToldSo_109 (by decide) rfl rfl ?_
  dsimp only [List.set]
  refine g_aload_n dQ_isToldSo_111 rfl ?_
  refine g_getR2 (k2 := 34) dQ_isToldSo_112 fQ_9 rfl rfl (by decide) rfl ?_
  refine g_iload dQ_isToldSo_115 rfl ?_
  refine g_iconst (v := 2) dQ_isToldSo_117 (by decide) ?_
  refine gS2 dQ_isToldSo_118 kQ_isToldSo_83 (cQ_sheepAt (f := 2)) (Nat.le_of_ble_eq_true rfl) ?_
  refine g_iload_n dQ_isToldSo_121 rfl ?_
  refine g_ms (f := 2) dQ_isToldSo_122 (by decide) (by omega) ?_
  refine g_aload_n dQ_isToldSo_123 rfl ?_
  refine g_getR2 (k2 := 34) dQ_isToldSo_124 fQ_9 rfl rfl (by decide) rfl ?_
  refine g_iload dQ_isToldSo_127 rfl ?_
  refine g_iconst (v := 3) dQ_isToldSo_129 (by decide) ?_
  refine gS2 dQ_isToldSo_130 kQ_isToldSo_83 (cQ_sheepAt (f := 3)) (Nat.le_of_ble_eq_true rfl) ?_
  refine g_aload_n dQ_isToldSo_133 rfl ?_
  refine g_getR2 (k2 := 43) dQ_isToldSo_134 fQ_54 rfl rfl (by decide) rfl ?_
  refine g_iload_n dQ_isToldSo_137 rfl ?_
  refine g_ialdN (i := k) dQ_isToldSo_138 rfl hk (by decide) ?_
  refine g_top (y := W 43 k) (by rw [mput_o _ _ (by decide)]) ?_
  refine g_ms (f := 3) dQ_isToldSo_139 (by decide) (by omega) ?_
  refine g_vret dQ_isToldSo_140 rfl ?_
  first
    | (refine ⟨rfl, ?_⟩; rw [apF, if_pos z10])
    | (refine ⟨rfl, ?_⟩; rw [apF, if_neg z10, if_pos z11])
    | (refine ⟨rfl, ?_⟩; rw [apF, if_neg z10, if_neg z11, if_pos z12, if_neg (Int32.not_lt.mpr h80)])
    | (refine ⟨rfl, ?_⟩; rw [apF, if_neg z10, if_neg z11, if_pos z12, if_pos (Int32.not_le.mp h80), sS_id])
    | (refine ⟨rfl, ?_⟩; rw [apF, if_neg z10, if_neg z11, if_neg z12, hI.n6, nI_clamp (by omega)]; rfl)
