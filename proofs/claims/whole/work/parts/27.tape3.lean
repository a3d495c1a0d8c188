theorem rdN_01 {r : Int32 × TT} {A : HA} {st : HA → Int32 → HA} : (rdN r A st).1 = 0 ∨ (rdN r A st).1 = 1 := by
  unfold rdN
  split
  · exact Or.inl rfl
  · exact Or.inr rfl
theorem opF_01 {f : Nat → Int32} {t x : Nat} {mx : Int32} {st : HA → Int32 → HA} {T : TT} {A : HA} : (opF f t x mx st T A).1 = 0 ∨ (opF f t x mx st T A).1 = 1 := by
  unfold opF
  split
  · exact rdN_01
  · exact Or.inr rfl
theorem wolfR_01 {f : Nat → Int32} {t : Nat} {T : TT} {A : HA} : (wolfR f t T A).1 = 0 ∨ (wolfR f t T A).1 = 1 := by
  unfold wolfR
  split
  · exact Or.inl rfl
  · exact opF_01
theorem shR3_01 {f : Nat → Int32} {t n : Nat} {r : RR} (h : r.1 = 0 ∨ r.1 = 1) : (shR3 f t n r).1 = 0 ∨ (shR3 f t n r).1 = 1 := by
  unfold shR3
  split
  · exact h
  · exact opF_01
theorem shR2_01 {f : Nat → Int32} {t n : Nat} {r : RR} (h : r.1 = 0 ∨ r.1 = 1) : (shR2 f t n r).1 = 0 ∨ (shR2 f t n r).1 = 1 := by
  unfold shR2
  split
  · exact h
  · exact shR3_01 opF_01
theorem sheepR_01 {f : Nat → Int32} {t n : Nat} {k : Int32} {T : TT} {A : HA} : (sheepR f t n k T A).1 = 0 ∨ (sheepR f t n k T A).1 = 1 := by
  unfold sheepR
  split
  · exact Or.inl rfl
  · exact shR2_01 opF_01
theorem nar01 {x : Int32} (h : x = 0 ∨ x = 1) : narrow .boolean (.int x) = .int x := by rcases h with rfl | rfl <;> rfl
theorem up_tz1 (A : HA) (T : TT) (w : Wd) (v : Int32) : up (tz A T w) 21 1 v = tz A T (up w 21 1 v) := by
  show up (hput 7 A (tw T w)) 21 1 v = hput 7 A (tw T (up w 21 1 v))
  rw [up_hput7 (by decide)]
  congr 1
  funext k
  by_cases h : k = 21
  · subst h
    rw [up_same, tw_21, tw_21, up_same]
    funext j
    show (if j = 1 then v else if j = 4 then T.2.2 else if j = 3 then nI T.2.1 else if j = 2 then nI T.1 else w 21 j) = (if j = 4 then T.2.2 else if j = 3 then nI T.2.1 else if j = 2 then nI T.1 else if j = 1 then v else w 21 j)
    repeat' split
    all_goals first | rfl | omega
  · rw [up_other _ _ _ _ h, tw_o h, tw_o h, up_other _ _ _ _ h]
theorem tw_hput {T : TT} {B : HA} {w : Wd} {h : Nat} (hh : 21 < h ∨ h + 6 ≤ 21) : tw T (hput h B w) = hput h B (tw T w) := by
  funext k
  by_cases h : k = 21
  · subst h
    rw [tw_21, hput_out (k := 21) B _ (by omega), hput_out (k := 21) B _ (by omega), tw_21]
  · rw [tw_o h]
    exact hput_cg B (tw_o h).symm
theorem nI_all (x : Int32) : ∃ k, x = nI k := ⟨x.toUInt32.toNat, by first | exact (Int32.ofNat_toNat_toUInt32 x).symm | (apply Int32.toBitVec_inj.mp; simp [nI]) | simp [nI]⟩
theorem tw_self (w : Wd) : ∃ T, tw T w = w := by
  obtain ⟨a, ea⟩ := nI_all (w 21 2)
  obtain ⟨b, eb⟩ := nI_all (w 21 3)
  refine ⟨(a, b, w 21 4), ?_⟩
  funext k
  by_cases h : k = 21
  · subst h
    rw [tw_21]
    funext j
    show (if j = 4 then w 21 4 else if j = 3 then nI b else if j = 2 then nI a else w 21 j) = w 21 j
    repeat' split
    all_goals first | rfl | (subst_vars; first | rfl | exact ea.symm | exact eb.symm)
  · exact tw_o h
set_option maxRecDepth 4000 in
theorem cT_readItem {l : Launch} {g : GG} {w : Wd} {A : HA} {T : TT} {t : Nat} (ht : w 21 1 = nI t) (h120 : t ≤ 120) {n : Nat} (hn : A.1 6 = nI n) (h8 : n ≤ 8) (hT : TI t T) : Res l g T_readItem [.ref (g.1 21), .ref (g.1 7)] (tz A T w) (Is (some (.int (itemR (w 22) t n T A).1)) (tz (itemR (w 22) t n T A).2.2 (itemR (w 22) t n T A).2.1 w)) := by
  refine Res.of (by decide) (by simp [Value.category]) (Nat.le_of_ble_eq_true rfl) rfl ?_
  show Go l g T_readItem 0 [some (.ref (g.1 21)), some (.ref (g.1 7)), none] [] (tz A T w) _
  refine g_aload_n dT_readItem_0 rfl ?_
  refine gV0 dT_readItem_1 kT_readItem_39 rfl rfl (cT_kindOfWord ht h120 hT) (Nat.le_of_ble_eq_true rfl) ?_
  refine g_istore_n dT_readItem_4 (by decide) rfl rfl ?_
  dsimp only [List.set]
  refine g_iload_n dT_readItem_5 rfl ?_
  refine g_iconst (v := (-1)) dT_readItem_6 (by decide) ?_
  refine g_icmp_eq dT_readItem_7 rfl (fun h7 => ?_) (fun h7 => ?_)
  · refine g_aload_n dT_readItem_17 rfl ?_
    refine g_ldcS dT_readItem_18 (by decide) fT_47 ?_
    refine gV1 dT_readItem_20 kT_readItem_49 rfl rfl (cT_skipWord ht h120 (x := 7) (by decide) hT) (Nat.le_of_ble_eq_true rfl) ?_
    refine g_if_eq dT_readItem_23 rfl (fun h23 => ?_) (fun h23 => ?_)
    · have h23 := bI_0.mp h23
      rw [swF_n h23]
      refine g_aload_n dT_readItem_32 rfl ?_
      refine g_ldcS dT_readItem_33 (by decide) fT_56 ?_
      refine gV1 dT_readItem_35 kT_readItem_49 rfl rfl (cT_skipWord ht h120 (x := 8) (by decide) hT) (Nat.le_of_ble_eq_true rfl) ?_
      refine g_if_eq dT_readItem_38 rfl (fun h38 => ?_) (fun h38 => ?_)
      · have h38 := bI_0.mp h38
        rw [swF_n h38]
        refine g_aload_n dT_readItem_47 rfl ?_
        refine g_ldcS dT_readItem_48 (by decide) fT_61 ?_
        refine gV1 dT_readItem_50 kT_readItem_49 rfl rfl (cT_skipWord ht h120 (x := 9) (by decide) hT) (Nat.le_of_ble_eq_true rfl) ?_
        refine g_if_eq dT_readItem_53 rfl (fun h53 => ?_) (fun h53 => ?_)
        · have h53 := bI_0.mp h53
          rw [swF_n h53]
          refine g_iconst (v := 0) dT_readItem_62 (by decide) ?_
          refine g_iret dT_readItem_63 rfl (by first | rfl | exact bI_n) ?_
          exact ⟨by rw [itemR, if_pos h7, if_neg h23, if_neg h38, if_neg h53], by rw [itemR, if_pos h7, if_neg h23, if_neg h38, if_neg h53]⟩
        · have h53 := Classical.not_not.mp (fun z => h53 (bI_0.mpr z))
          rw [swF_y h53]
          refine g_aload_n dT_readItem_56 rfl ?_
          refine g_aload_n dT_readItem_57 rfl ?_
          refine gV1 dT_readItem_58 kT_readItem_63 rfl rfl (cT_readWolf ht h120 (nextF_TI hT.2.1)) (Nat.le_of_ble_eq_true rfl) ?_
          refine g_iret dT_readItem_61 rfl (nar01 wolfR_01) ?_
          exact ⟨by rw [itemR, if_pos h7, if_neg h23, if_neg h38, if_pos h53], by rw [itemR, if_pos h7, if_neg h23, if_neg h38, if_pos h53]⟩
      · have h38 := Classical.not_not.mp (fun z => h38 (bI_0.mpr z))
        rw [swF_y h38]
        refine g_aload_n dT_readItem_41 rfl ?_
        refine g_aload_n dT_readItem_42 rfl ?_
        refine gV1 dT_readItem_43 kT_readItem_58 rfl rfl (cT_readKeeper ht h120 hn h8 (nextF_TI hT.2.1)) (Nat.le_of_ble_eq_true rfl) ?_
        refine g_iret dT_readItem_46 rfl (nar01 rdN_01) ?_
        exact ⟨by rw [itemR, if_pos h7, if_neg h23, if_pos h38], by rw [itemR, if_pos h7, if_neg h23, if_pos h38]⟩
    · have h23 := Classical.not_not.mp (fun z => h23 (bI_0.mpr z))
      rw [swF_y h23]
      refine g_aload_n dT_readItem_26 rfl ?_
      refine g_aload_n dT_readItem_27 rfl ?_
      refine gV1 dT_readItem_28 kT_readItem_53 rfl rfl (cT_readFold ht h120 (nextF_TI hT.2.1)) (Nat.le_of_ble_eq_true rfl) ?_
      refine g_iret dT_readItem_31 rfl (nar01 rdN_01) ?_
      exact ⟨by rw [itemR, if_pos h7, if_pos h23], by rw [itemR, if_pos h7, if_pos h23]⟩
  · refine g_aload_n dT_readItem_10 rfl ?_
    refine g_aload_n dT_readItem_11 rfl ?_
    refine g_iload_n dT_readItem_12 rfl ?_
    refine gV2 dT_readItem_13 kT_readItem_43 rfl rfl (cT_readSheep ht h120 hn h8 hT) (Nat.le_of_ble_eq_true rfl) ?_
    refine g_iret dT_readItem_16 rfl (nar01 sheepR_01) ?_
    exact ⟨by rw [itemR, if_neg h7], by rw [itemR, if_neg h7]⟩

set_option maxRecDepth 4000 in
theorem lT_onto {l : Launch} {g : GG} {w : Wd} {t : Nat} (ht : w 21 1 = nI t) (h120 : t ≤ 120) : ∀ (m : Nat) (i n : Nat) (T : TT) (A : HA), m + i = 121 → TI t T → A.1 6 = nI n → n ≤ 8 → Go l g T_readOnto 11 [some (.ref (g.1 21)), some (.ref (g.1 7)), some (.int (nI i))] [] (tz A T w) (Is (some (.int (ontoF (w 22) t m i T A).1)) (tz (ontoF (w 22) t m i T A).2.2 (ontoF (w 22) t m i T A).2.1 w)) := by
  intro m
  induction m with
  | zero =>
    intro i n T A hm hT hn h8
    obtain rfl : i = 121 := by omega
    refine g_iload_n dT_readOnto_11 rfl ?_
    refine g_bipush (v := 120) dT_readOnto_12 (by decide) ?_
    refine g_icmp_gt dT_readOnto_14 rfl (fun h14 => ?_) (fun h14 => ?_)
    · refine g_iconst (v := (-1)) dT_readOnto_66 (by decide) ?_
      refine g_aload_n dT_readOnto_67 rfl ?_
      refine g_tP dT_readOnto_68 fT_19 ?_
      refine g_isub dT_readOnto_71 ?_
      refine g_iret dT_readOnto_72 rfl rfl ?_
      exact ⟨rfl, rfl⟩
    · exact absurd (by decide) h14
  | succ m ih =>
    intro i n T A hm hT hn h8
    have hR := itemR_ok (f := w 22) hT hn h8
    have e6 : (A.1 6).toNatClampNeg = n := by rw [hn, nI_clamp (by omega)]
    refine g_iload_n dT_readOnto_11 rfl ?_
    refine g_bipush (v := 120) dT_readOnto_12 (by decide) ?_
    refine g_icmp_gt dT_readOnto_14 rfl (fun h14 => ?_) (fun h14 => ?_)
    · rw [show (120 : Int32) = nI 120 from rfl, nI_ltI (by omega) (by omega)] at h14
      omega
    · rw [show (120 : Int32) = nI 120 from rfl, nI_ltI (by omega) (by omega)] at h14
      refine g_aload_n dT_readOnto_17 rfl ?_
      refine g_aload_n dT_readOnto_18 rfl ?_
      refine gV1 dT_readOnto_19 kT_readOnto_35 rfl rfl (cT_readItem ht h120 hn h8 hT) (Nat.le_of_ble_eq_true rfl) ?_
      refine g_if_ne dT_readOnto_22 rfl (fun h22 => ?_) (fun h22 => ?_)
      · refine g_aload_n dT_readOnto_32 rfl ?_
        refine g_tK dT_readOnto_33 fT_25 ?_
        refine g_if_ne dT_readOnto_36 rfl (fun h36 => ?_) (fun h36 => ?_)
        · refine g_aload_n dT_readOnto_41 rfl ?_
          refine g_tK dT_readOnto_42 fT_25 ?_
          refine g_iconst (v := 3) dT_readOnto_45 (by decide) ?_
          refine g_icmp_eq dT_readOnto_46 rfl (fun h46 => ?_) (fun h46 => ?_)
          · refine g_aload_n dT_readOnto_56 rfl ?_
            refine gV0v dT_readOnto_57 kT_readOnto_32 rfl rfl (cT_nextToken ht h120 hR.1.2.1) (Nat.le_of_ble_eq_true rfl) ?_
            refine g_iinc (v := nI (i + 1)) dT_readOnto_60 rfl (nI_succ i).symm (by decide) rfl rfl ?_
            dsimp only [List.set]
            refine g_goto dT_readOnto_63 rfl ?_
            obtain ⟨n2, h82, hn2⟩ := hR.2
            refine g_mono (fun r w2 h => ?_) (ih (i + 1) n2 _ _ (by omega) (nextF_TI hR.1.2.1) hn2 h82)
            rw [ontoF, e6, if_neg h22, if_neg h36, if_pos h46]
            exact h
          · refine g_iconst (v := (-1)) dT_readOnto_49 (by decide) ?_
            refine g_aload_n dT_readOnto_50 rfl ?_
            refine g_tP dT_readOnto_51 fT_19 ?_
            refine g_isub dT_readOnto_54 ?_
            refine g_iret dT_readOnto_55 rfl rfl ?_
            exact ⟨by rw [ontoF, e6, if_neg h22, if_neg h36, if_neg h46], by rw [ontoF, e6, if_neg h22, if_neg h36, if_neg h46]⟩
        · refine g_iload_n dT_readOnto_39 rfl ?_
          refine g_iret dT_readOnto_40 rfl rfl ?_
          exact ⟨by rw [ontoF, e6, if_neg h22, if_pos h36], by rw [ontoF, e6, if_neg h22, if_pos h36]⟩
      · refine g_iconst (v := (-1)) dT_readOnto_25 (by decide) ?_
        refine g_aload_n dT_readOnto_26 rfl ?_
        refine g_tP dT_readOnto_27 fT_19 ?_
        refine g_isub dT_readOnto_30 ?_
        refine g_iret dT_readOnto_31 rfl rfl ?_
        exact ⟨by rw [ontoF, e6, if_pos h22], by rw [ontoF, e6, if_pos h22]⟩

set_option maxRecDepth 4000 in
theorem cT_readOnto {l : Launch} {g : GG} {w : Wd} {A : HA} {T : TT} {t : Nat} (ht : w 21 1 = nI t) (h120 : t ≤ 120) {n : Nat} (hn : A.1 6 = nI n) (h8 : n ≤ 8)  : Res l g T_readOnto [.ref (g.1 21), .ref (g.1 7)] (tz A T w) (Is (some (.int (textR (w 22) t A).1)) (tz (textR (w 22) t A).2.2 (textR (w 22) t A).2.1 w)) := by
  refine Res.of (by decide) (by simp [Value.category]) (Nat.le_of_ble_eq_true rfl) rfl ?_
  show Go l g T_readOnto 0 [some (.ref (g.1 21)), some (.ref (g.1 7)), none] [] (tz A T w) _
  refine g_aload_n dT_readOnto_0 rfl ?_
  refine g_iconst (v := 0) dT_readOnto_1 (by decide) ?_
  refine g_top (y := nI 0) rfl ?_
  refine g_tsB dT_readOnto_2 fT_22 ?_
  refine g_aload_n dT_readOnto_5 rfl ?_
  refine gV0v dT_readOnto_6 kT_readOnto_32 rfl rfl (cT_nextToken ht h120 (T := (T.1, 0, T.2.2)) (Nat.zero_le _)) (Nat.le_of_ble_eq_true rfl) ?_
  refine g_iconst (v := 1) dT_readOnto_9 (by decide) ?_
  refine g_istore_n dT_readOnto_10 (by decide) rfl rfl ?_
  dsimp only [List.set]
  exact lT_onto ht h120 120 1 n _ A (by omega) (nextF_TI (Nat.zero_le _)) hn h8

set_option maxRecDepth 4000 in
theorem cS_text {l : Launch} {g : GG} {w : Wd} {t : Nat} (ht : w 21 1 = nI t) (h120 : t ≤ 120) {n : Nat} (hn : w 1 6 = nI n) (h8 : n ≤ 8) : Res l g S_text [.ref (g.1 0)] w (IsU (textC w)) := by
  have et : (w 21 1).toNatClampNeg = t := by rw [ht, nI_clamp (by omega)]
  obtain ⟨T, eT⟩ := tw_self w
  refine Res.of (by decide) (by simp [Value.category]) (Nat.le_of_ble_eq_true rfl) rfl ?_
  show Go l g S_text 0 [some (.ref (g.1 0)), none] [] w _
  refine g_aload_n dS_text_0 rfl ?_
  refine g_getR2 (k2 := 7) dS_text_1 fS_16 rfl rfl (by decide) rfl ?_
  refine g_aload_n dS_text_4 rfl ?_
  refine g_getR2 (k2 := 1) dS_text_5 fS_12 rfl rfl (by decide) rfl ?_
  refine gV1v dS_text_8 kS_text_151 rfl rfl (cH_become isH7 isH1 (by decide)) (Nat.le_of_ble_eq_true rfl) ?_
  refine g_w (w1 := tz (hget w 1) T w) (by show _ = hput 7 (hget w 1) (tw T w); rw [eT]) ?_
  refine g_aload_n dS_text_11 rfl ?_
  refine g_getR2 (k2 := 21) dS_text_12 fS_43 rfl rfl (by decide) rfl ?_
  refine g_aload_n dS_text_15 rfl ?_
  refine g_getR2 (k2 := 7) dS_text_16 fS_16 rfl rfl (by decide) rfl ?_
  refine gV1 dS_text_19 kS_text_210 rfl rfl (cT_readOnto ht h120 (A := hget w 1) hn h8) (Nat.le_of_ble_eq_true rfl) ?_
  refine g_istore_n dS_text_22 (by decide) rfl rfl ?_
  dsimp only [List.set]
  refine g_aload_n dS_text_23 rfl ?_
  refine g_getR2 (k2 := 21) dS_text_24 fS_43 rfl rfl (by decide) rfl ?_
  refine g_iconst (v := 0) dS_text_27 (by decide) ?_
  refine g_putI dS_text_28 fS_207 rfl rfl rfl rfl ?_
  rw [up_tz1]
  refine g_iload_n dS_text_31 rfl ?_
  refine g_if_lt dS_text_32 rfl (fun h32 => ?_) (fun h32 => ?_)
  · refine g_iload_n dS_text_46 rfl ?_
    refine g_iret dS_text_47 rfl rfl ?_
    first
      | exact ⟨by rw [textC, et], _, _, by rw [textC, et, if_pos h32]⟩
      | exact ⟨by rw [textC, et], _, _, by rw [textC, et, if_neg h32, tw_hput (by decide), hput_comm _ _ _ (by decide), hget_hput]⟩
  · refine g_aload_n dS_text_35 rfl ?_
    refine g_getR2 (k2 := 1) dS_text_36 fS_12 rfl rfl (by decide) rfl ?_
    refine g_aload_n dS_text_39 rfl ?_
    refine g_getR2 (k2 := 7) dS_text_40 fS_16 rfl rfl (by decide) rfl ?_
    refine gV1v dS_text_43 kS_text_151 rfl rfl (cH_become isH1 isH7 (by decide)) (Nat.le_of_ble_eq_true rfl) ?_
    refine g_iload_n dS_text_46 rfl ?_
    refine g_iret dS_text_47 rfl rfl ?_
    first
      | exact ⟨by rw [textC, et], _, _, by rw [textC, et, if_pos h32]⟩
      | exact ⟨by rw [textC, et], _, _, by rw [textC, et, if_neg h32, tw_hput (by decide), hput_comm _ _ _ (by decide), hget_hput]⟩
