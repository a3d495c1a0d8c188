def rkI (k : Int32) : Nat := if k = -1 then 0 else if k = 0 then 1 else if k = 3 ∨ k = 6 then 3 else if k = 4 then 4 else 2
theorem rk_all : ∀ c, c < 7 → rkI (aboveK (nI c)) < rkI (nI c) ∧ -1 ≤ aboveK (nI c) ∧ aboveK (nI c) ≤ 6 := by decide +kernel
theorem rk_step {k : Int32} (h1 : 0 ≤ k) (h2 : k ≤ 6) : rkI (aboveK k) < rkI k ∧ -1 ≤ aboveK k ∧ aboveK k ≤ 6 := by
  obtain ⟨c, hc, rfl⟩ := nI_of2 (x := k) (M := 6) (n := 6) rfl (Int32.not_lt.mpr h1) h2
  exact rk_all c (by omega)
theorem rk_lt (k : Int32) : rkI k < 7 := by
  unfold rkI
  repeat' split
  all_goals omega
def spOK (n : Nat) (f : Nat → Int32) : Prop := ∀ i, i < 10 → f i = -1 ∨ ∃ c, c < n ∧ f i = nI c
theorem sp_neg {n : Nat} {f : Nat → Int32} (h : spOK n f) (h8 : n ≤ 8) {i : Nat} (hi : i < 10) : f i < 0 ↔ f i = -1 := by
  rcases h i hi with e | ⟨c, hc, e⟩
  · rw [e]; exact ⟨fun _ => rfl, fun _ => by decide⟩
  · rw [e]; exact ⟨fun z => absurd z (nI_pos (by omega)), fun z => absurd z (nIne (by omega))⟩
def imW (S : Wd) : Wd := up (up (upR (hput 13 (hget S 1) S) 20 (S 19)) 0 7 (S 0 6)) 0 3 1
theorem RM.image {S w : Wd} (h : RM S w) : RM (imW S) (up (upR w 35 (w 34)) 33 3 1) := by
  have oS : ∀ k, k ≠ 0 → (k < 13 ∨ 19 ≤ k) → k ≠ 20 → (imW S) k = S k := fun k h0 h1 h2 => by
    unfold imW
    rw [up_other _ _ _ _ h0, up_other _ _ _ _ h0, upR_other _ _ _ h2, hput_out _ _ (by omega)]
  have o13 : hget (imW S) 13 = hget S 1 := by
    unfold imW
    rw [hget_u (by decide), hget_u (by decide)]
    show hget (upR (hput 13 (hget S 1) S) 20 (S 19)) 13 = _
    have : hget (upR (hput 13 (hget S 1) S) 20 (S 19)) 13 = hget (hput 13 (hget S 1) S) 13 := by
      unfold hget
      rw [upR_other _ _ _ (by decide), upR_other _ _ _ (by decide), upR_other _ _ _ (by decide), upR_other _ _ _ (by decide), upR_other _ _ _ (by decide), upR_other _ _ _ (by decide)]
    rw [this, hget_hput]
  have o1 : hget (imW S) 1 = hget S 1 := by
    unfold hget
    rw [oS 1 (by decide) (by decide) (by decide), oS 2 (by decide) (by decide) (by decide), oS 3 (by decide) (by decide) (by decide), oS 4 (by decide) (by decide) (by decide), oS 5 (by decide) (by decide) (by decide), oS 6 (by decide) (by decide) (by decide)]
  have s03 : (imW S) 0 3 = 1 := by unfold imW; rw [up_same]; rfl
  have s06 : (imW S) 0 6 = S 0 6 := by
    unfold imW
    rw [up_same, up_same, upR_other _ _ _ (by decide), hput_out _ _ (by decide)]; rfl
  have s07 : (imW S) 0 7 = S 0 6 := by
    unfold imW
    rw [up_same, up_same]; rfl
  have s20 : (imW S) 20 = S 19 := by
    unfold imW
    rw [up_other _ _ _ _ (by decide), up_other _ _ _ _ (by decide), upR_same]
  have s19 : (imW S) 19 = S 19 := oS 19 (by decide) (by decide) (by decide)
  have oW : ∀ k, k ≠ 33 → k ≠ 35 → up (upR w 35 (w 34)) 33 3 1 k = w k := fun k h1 h2 => by rw [up_other _ _ _ _ h1, upR_other _ _ _ h2]
  have w33 : ∀ j, j ≠ 3 → up (upR w 35 (w 34)) 33 3 1 33 j = w 33 j := fun j hj => by
    rw [up_same, upR_other _ _ _ (by decide)]
    exact if_neg hj
  refine RM.mk (fun i hi => ?_) ?_ (fun hk i hi => ?_) ?_ ?_ (fun i hi => ?_) (fun q hq => ?_) ?_ (fun q hq => ?_)
  · rw [oW 34 (by decide) (by decide), o1, s06, s19]; exact h.row i hi
  · rw [s03, up_same]; rfl
  · rw [up_other _ _ _ _ (by decide), upR_same, o13, s07, s20]; exact h.row i hi
  · rw [w33 5 (by decide)]; exact h.te
  · rw [w33 7 (by decide), oS 21 (by decide) (by decide) (by decide)]; exact h.tl
  · rw [oW 38 (by decide) (by decide), oS 22 (by decide) (by decide) (by decide)]; exact h.tb i hi
  · rw [oW 37 (by decide) (by decide), oS 32 (by decide) (by decide) (by decide)]; exact h.fq q hq
  · rw [oW 37 (by decide) (by decide), oS 32 (by decide) (by decide) (by decide)]; exact h.f0
  · rw [oW 44 (by decide) (by decide), oW 45 (by decide) (by decide), oW 46 (by decide) (by decide), oS _ (by omega) (by omega) (by omega), oS _ (by omega) (by omega) (by omega)]; exact h.sh q hq
theorem RM.undo {S w : Wd} (h : RM S w) (hk3 : S 0 3 ≠ 0) : RM (up (upR (hput 1 (hget S 13) S) 19 (S 20)) 0 6 (S 0 7)) (upR w 34 (w 35)) := by
  generalize eS : up (upR (hput 1 (hget S 13) S) 19 (S 20)) 0 6 (S 0 7) = S2
  have oS : ∀ k, k ≠ 0 → 7 ≤ k → k ≠ 19 → S2 k = S k := fun k h0 h1 h2 => by
    rw [← eS, up_other _ _ _ _ h0, upR_other _ _ _ h2, hput_out _ _ (by omega)]
  have o1 : hget S2 1 = hget S 13 := by
    rw [← eS, hget_u (by decide)]
    have : hget (upR (hput 1 (hget S 13) S) 19 (S 20)) 1 = hget (hput 1 (hget S 13) S) 1 := by
      unfold hget
      rw [upR_other _ _ _ (by decide), upR_other _ _ _ (by decide), upR_other _ _ _ (by decide), upR_other _ _ _ (by decide), upR_other _ _ _ (by decide), upR_other _ _ _ (by decide)]
    rw [this, hget_hput]
  have o13 : hget S2 13 = hget S 13 := by
    unfold hget
    rw [oS 13 (by decide) (by decide) (by decide), oS 14 (by decide) (by decide) (by decide), oS 15 (by decide) (by decide) (by decide), oS 16 (by decide) (by decide) (by decide), oS 17 (by decide) (by decide) (by decide), oS 18 (by decide) (by decide) (by decide)]
  have s0 : ∀ j, j ≠ 6 → S2 0 j = S 0 j := fun j hj => by
    rw [← eS, up_same, upR_other _ _ _ (by decide), hput_out _ _ (by decide)]
    exact if_neg hj
  have s06 : S2 0 6 = S 0 7 := by rw [← eS, up_same]; rfl
  have s19 : S2 19 = S 20 := by rw [← eS, up_other _ _ _ _ (by decide), upR_same]
  have oW : ∀ k, k ≠ 34 → upR w 34 (w 35) k = w k := fun k h1 => upR_other _ _ _ h1
  refine RM.mk (fun i hi => ?_) ?_ (fun hk i hi => ?_) ?_ ?_ (fun i hi => ?_) (fun q hq => ?_) ?_ (fun q hq => ?_)
  · rw [upR_same, o1, s06, s19]; exact h.kr hk3 i hi
  · rw [oW 33 (by decide), s0 3 (by decide)]; exact h.kf
  · rw [oW 35 (by decide), o13, s0 7 (by decide), oS 20 (by decide) (by decide) (by decide)]; exact h.kr hk3 i hi
  · rw [oW 33 (by decide)]; exact h.te
  · rw [oW 33 (by decide), oS 21 (by decide) (by decide) (by decide)]; exact h.tl
  · rw [oW 38 (by decide), oS 22 (by decide) (by decide) (by decide)]; exact h.tb i hi
  · rw [oW 37 (by decide), oS 32 (by decide) (by decide) (by decide)]; exact h.fq q hq
  · rw [oW 37 (by decide), oS 32 (by decide) (by decide) (by decide)]; exact h.f0
  · rw [oW 44 (by decide), oW 45 (by decide), oW 46 (by decide), oS _ (by omega) (by omega) (by omega), oS _ (by omega) (by omega) (by omega)]; exact h.sh q hq
set_option maxRecDepth 4000 in
theorem cQ_hold {l : Launch} {g : GG} {S w : Wd} {A : HA} {n b : Nat} (hA : hget S 1 = A) (hR : RM S w) (hI : IVA n b A) {s h : Int32} : Res l g Q_hold [.ref (g.1 33), .int s, .int h] (mput A w) (IsQ (holdC s h S) w) := by
  have h8 := hI.n8
  refine Res.of (by decide) (by simp [Value.category]) (Nat.le_of_ble_eq_true rfl) rfl ?_
  show Go l g Q_hold 0 [some (.ref (g.1 33)), some (.int s), some (.int h)] [] (mput A w) _
  refine g_iload_n dQ_hold_0 rfl ?_
  refine gS1 dQ_hold_1 kQ_hold_333 cQ_isSpot (Nat.le_of_ble_eq_true rfl) ?_
  refine g_if_eq dQ_hold_4 rfl (fun h4 => ?_) (fun h4 => ?_)
  · have h4 := bI_0.mp h4
    refine g_aload_n dQ_hold_20 rfl ?_
    refine g_ldc dQ_hold_21 fQ_69 ?_
    refine gV1 dQ_hold_23 kQ_hold_75 rfl rfl (cQ_finding (q := 0) (by decide)) (Nat.le_of_ble_eq_true rfl) ?_
    refine g_iret dQ_hold_26 rfl rfl ?_
    exact IsQ_F hA hR (by decide) (by simp only [holdC, hasP, hA, gA1 hA, gA2 hA, gA3 hA, gA4 hA, gA5 hA, gA6 hA]; rw [if_neg (by grind)])
  · have h4 := Classical.not_not.mp (fun z => h4 (bI_0.mpr z))
    have h4b := h4
    obtain ⟨tz2, htz2, etz2⟩ := nI_of2 (x := s) (M := 9) (n := 9) rfl (Int32.not_lt.mpr h4.1) h4.2
    subst etz2
    refine g_iload_n dQ_hold_7 rfl ?_
    refine g_iconst (v := (-1)) dQ_hold_8 (by decide) ?_
    refine g_icmp_eq dQ_hold_9 rfl (fun h9 => ?_) (fun h9 => ?_)
    · refine g_w (hR.put hA) ?_
      refine g_aload_n dQ_hold_27 rfl ?_
      refine g_getR2 (k2 := 34) dQ_hold_28 fQ_9 rfl rfl (by decide) rfl ?_
      refine g_bipush (v := 8) dQ_hold_31 (by decide) ?_
      refine g_iload_n dQ_hold_33 rfl ?_
      refine g_iadd dQ_hold_34 ?_
      refine g_top (y := nI (8 + tz2)) (nI_add 8 tz2) ?_
      refine g_iload_n dQ_hold_35 rfl ?_
      refine g_iastN (i := (8 + tz2)) dQ_hold_36 rfl (by omega) (by decide) ?_
      refine g_iconst (v := 1) dQ_hold_37 (by decide) ?_
      refine g_iret dQ_hold_38 rfl rfl ?_
      exact IsQ_W (fun k hk => up_other _ _ _ _ (by omega)) (hR.spot (by omega) h) (by simp only [holdC, hasP, hA, gA1 hA, gA2 hA, gA3 hA, gA4 hA, gA5 hA, gA6 hA]; rw [if_pos ⟨h4b, by grind⟩, nI_clamp (by omega)])
    · refine g_aload_n dQ_hold_12 rfl ?_
      refine g_iload_n dQ_hold_13 rfl ?_
      refine gV1 dQ_hold_14 kQ_hold_119 rfl rfl (eQ_isSheep hI) (Nat.le_of_ble_eq_true rfl) ?_
      refine g_if_ne dQ_hold_17 rfl (fun h17 => ?_) (fun h17 => ?_)
      · have h17 := Classical.not_not.mp (fun z => h17 (bI_0.mpr z))
        refine g_w (hR.put hA) ?_
        refine g_aload_n dQ_hold_27 rfl ?_
        refine g_getR2 (k2 := 34) dQ_hold_28 fQ_9 rfl rfl (by decide) rfl ?_
        refine g_bipush (v := 8) dQ_hold_31 (by decide) ?_
        refine g_iload_n dQ_hold_33 rfl ?_
        refine g_iadd dQ_hold_34 ?_
        refine g_top (y := nI (8 + tz2)) (nI_add 8 tz2) ?_
        refine g_iload_n dQ_hold_35 rfl ?_
        refine g_iastN (i := (8 + tz2)) dQ_hold_36 rfl (by omega) (by decide) ?_
        refine g_iconst (v := 1) dQ_hold_37 (by decide) ?_
        refine g_iret dQ_hold_38 rfl rfl ?_
        exact IsQ_W (fun k hk => up_other _ _ _ _ (by omega)) (hR.spot (by omega) h) (by simp only [holdC, hasP, hA, gA1 hA, gA2 hA, gA3 hA, gA4 hA, gA5 hA, gA6 hA]; rw [if_pos ⟨h4b, by grind⟩, nI_clamp (by omega)])
      · have h17 := bI_0.mp h17
        refine g_aload_n dQ_hold_20 rfl ?_
        refine g_ldc dQ_hold_21 fQ_69 ?_
        refine gV1 dQ_hold_23 kQ_hold_75 rfl rfl (cQ_finding (q := 0) (by decide)) (Nat.le_of_ble_eq_true rfl) ?_
        refine g_iret dQ_hold_26 rfl rfl ?_
        exact IsQ_F hA hR (by decide) (by simp only [holdC, hasP, hA, gA1 hA, gA2 hA, gA3 hA, gA4 hA, gA5 hA, gA6 hA]; rw [if_neg (by grind)])

set_option maxRecDepth 4000 in
theorem cQ_above {l : Launch} {g : GG} {w : Wd} {k : Int32} (h1 : 0 ≤ k) (h2 : k ≤ 6) : Res l g Q_above [.int k] w (Is (some (.int (aboveK k))) w) := by
  refine Res.of (by decide) (by simp [Value.category]) (Nat.le_of_ble_eq_true rfl) rfl ?_
  show Go l g Q_above 0 [some (.int k)] [] w _
  refine g_iload_n dQ_above_0 rfl ?_
  refine g_if_ne dQ_above_1 rfl (fun h1 => ?_) (fun h1 => ?_)
  · refine g_iload_n dQ_above_8 rfl ?_
    refine g_iconst (v := 3) dQ_above_9 (by decide) ?_
    refine g_icmp_ne dQ_above_10 rfl (fun h10 => ?_) (fun h10 => ?_)
    · refine g_iload_n dQ_above_17 rfl ?_
      refine g_iconst (v := 4) dQ_above_18 (by decide) ?_
      refine g_icmp_ne dQ_above_19 rfl (fun h19 => ?_) (fun h19 => ?_)
      · refine g_iload_n dQ_above_26 rfl ?_
        refine g_bipush (v := 6) dQ_above_27 (by decide) ?_
        refine g_icmp_ne dQ_above_29 rfl (fun h29 => ?_) (fun h29 => ?_)
        · refine g_iconst (v := 0) dQ_above_36 (by decide) ?_
          refine g_iret dQ_above_37 rfl rfl ?_
          exact ⟨by grind [aboveK], rfl⟩
        · refine g_iconst (v := 1) dQ_above_32 (by decide) ?_
          refine g_goto dQ_above_33 rfl ?_
          refine g_iret dQ_above_37 rfl rfl ?_
          exact ⟨by grind [aboveK], rfl⟩
      · refine g_iconst (v := 3) dQ_above_22 (by decide) ?_
        refine g_goto dQ_above_23 rfl ?_
        refine g_iret dQ_above_37 rfl rfl ?_
        exact ⟨by grind [aboveK], rfl⟩
    · refine g_iconst (v := 2) dQ_above_13 (by decide) ?_
      refine g_goto dQ_above_14 rfl ?_
      refine g_iret dQ_above_37 rfl rfl ?_
      exact ⟨by grind [aboveK], rfl⟩
  · refine g_iconst (v := (-1)) dQ_above_4 (by decide) ?_
    refine g_goto dQ_above_5 rfl ?_
    refine g_iret dQ_above_37 rfl rfl ?_
    exact ⟨by grind [aboveK], rfl⟩

set_option maxRecDepth 4000 in
theorem lQ_isUnder {l : Launch} {g : GG} {w : Wd} {k a : Int32} : ∀ (m : Nat) (kk : Int32), (rkI kk < m) → (-1 ≤ kk) → (kk ≤ 6) → Go l g Q_isUnder 2 [some (.int k), some (.int a), some (.int kk)] [] w (Is (some (.int (undF kk a m))) w) := by
  intro m
  induction m with
  | zero => intro kk hm h1 h2; omega
  | succ m ih =>
    intro kk hm h1 h2
    refine g_iload_n dQ_isUnder_2 rfl ?_
    refine g_if_lt dQ_isUnder_3 rfl (fun h3 => ?_) (fun h3 => ?_)
    · refine g_iload_n dQ_isUnder_19 rfl ?_
      refine g_if_lt dQ_isUnder_20 rfl (fun h20 => ?_) (fun h20 => ?_)
      · refine g_iconst (v := 0) dQ_isUnder_27 (by decide) ?_
        refine g_iret dQ_isUnder_28 rfl (by first | rfl | exact bI_n) ?_
        exact ⟨by rw [undF]; grind, rfl⟩
      · refine g_iconst (v := 1) dQ_isUnder_23 (by decide) ?_
        refine g_goto dQ_isUnder_24 rfl ?_
        refine g_iret dQ_isUnder_28 rfl (by first | rfl | exact bI_n) ?_
        exact ⟨by rw [undF]; grind, rfl⟩
    · refine g_iload_n dQ_isUnder_6 rfl ?_
      refine g_iload_n dQ_isUnder_7 rfl ?_
      refine g_icmp_eq dQ_isUnder_8 rfl (fun h8 => ?_) (fun h8 => ?_)
      · refine g_iload_n dQ_isUnder_19 rfl ?_
        refine g_if_lt dQ_isUnder_20 rfl (fun h20 => ?_) (fun h20 => ?_)
        · refine g_iconst (v := 0) dQ_isUnder_27 (by decide) ?_
          refine g_iret dQ_isUnder_28 rfl (by first | rfl | exact bI_n) ?_
          exact ⟨by rw [undF]; grind, rfl⟩
        · refine g_iconst (v := 1) dQ_isUnder_23 (by decide) ?_
          refine g_goto dQ_isUnder_24 rfl ?_
          refine g_iret dQ_isUnder_28 rfl (by first | rfl | exact bI_n) ?_
          exact ⟨by rw [undF]; grind, rfl⟩
      · have hrk := rk_step (Int32.not_lt.mp h3) h2
        refine g_iload_n dQ_isUnder_11 rfl ?_
        refine gS1 dQ_isUnder_12 kQ_isUnder_344 (cQ_above (Int32.not_lt.mp h3) h2) (Nat.le_of_ble_eq_true rfl) ?_
        refine g_istore_n dQ_isUnder_15 (by decide) rfl rfl ?_
        dsimp only [List.set]
        refine g_goto dQ_isUnder_16 rfl ?_
        refine g_mono (fun r w2 hh => ?_) (ih (aboveK kk) (by omega) hrk.2.1 hrk.2.2)
        rw [undF, if_neg (by intro z; rw [z] at h3; exact h3 (by decide)), if_neg h8]
        exact hh

set_option maxRecDepth 4000 in
theorem cQ_isUnder {l : Launch} {g : GG} {w : Wd} {k a : Int32} (h : 0 ≤ k ∧ k ≤ 6) : Res l g Q_isUnder [.int k, .int a] w (Is (some (.int (undF k a 7))) w) := by
  refine Res.of (by decide) (by simp [Value.category]) (Nat.le_of_ble_eq_true rfl) rfl ?_
  show Go l g Q_isUnder 0 [some (.int k), some (.int a), none] [] w _
  refine g_iload_n dQ_isUnder_0 rfl ?_
  refine g_istore_n dQ_isUnder_1 (by decide) rfl rfl ?_
  dsimp only [List.set]
  exact lQ_isUnder 7 k (rk_lt k) (Int32.le_trans (by decide) h.1) h.2

set_option maxRecDepth 4000 in
theorem cQ_as {l : Launch} {g : GG} {S w : Wd} {A : HA} {n b : Nat} (hA : hget S 1 = A) (hR : RM S w) (hI : IVA n b A) {s k : Int32} (hsp : spOK n (S 19)) : Res l g Q_as [.ref (g.1 33), .int s, .int k] (mput A w) (IsQ (asC n s k S) w) := by
  have h8 := hI.n8
  refine Res.of (by decide) (by simp [Value.category]) (Nat.le_of_ble_eq_true rfl) rfl ?_
  show Go l g Q_as 0 [some (.ref (g.1 33)), some (.int s), some (.int k), none] [] (mput A w) _
  refine g_iload_n dQ_as_0 rfl ?_
  refine gS1 dQ_as_1 kQ_as_333 cQ_isSpot (Nat.le_of_ble_eq_true rfl) ?_
  refine g_if_eq dQ_as_4 rfl (fun h4 => ?_) (fun h4 => ?_)
  · have h4 := bI_0.mp h4
    refine g_aload_n dQ_as_14 rfl ?_
    refine g_ldc dQ_as_15 fQ_69 ?_
    refine gV1 dQ_as_17 kQ_as_75 rfl rfl (cQ_finding (q := 0) (by decide)) (Nat.le_of_ble_eq_true rfl) ?_
    refine g_iret dQ_as_20 rfl rfl ?_
    exact IsQ_F hA hR (by decide) (by rw [asC, if_neg (by grind)])
  · have h4 := Classical.not_not.mp (fun z => h4 (bI_0.mpr z))
    have h4b := h4
    obtain ⟨tz2, htz2, etz2⟩ := nI_of2 (x := s) (M := 9) (n := 9) rfl (Int32.not_lt.mpr h4.1) h4.2
    subst etz2
    have hsn := sp_neg hsp h8 (i := tz2) (by omega)
    refine g_iload_n dQ_as_7 rfl ?_
    refine gS1 dQ_as_8 kQ_as_101 cQ_isKind (Nat.le_of_ble_eq_true rfl) ?_
    refine g_if_ne dQ_as_11 rfl (fun h11 => ?_) (fun h11 => ?_)
    · have h11 := Classical.not_not.mp (fun z => h11 (bI_0.mpr z))
      refine g_aload_n dQ_as_21 rfl ?_
      refine g_getR2 (k2 := 34) dQ_as_22 fQ_9 rfl rfl (by decide) rfl ?_
      refine g_bipush (v := 8) dQ_as_25 (by decide) ?_
      refine g_iload_n dQ_as_27 rfl ?_
      refine g_iadd dQ_as_28 ?_
      refine g_top (y := nI (8 + tz2)) (nI_add 8 tz2) ?_
      refine g_ialdN (i := (8 + tz2)) dQ_as_29 rfl (by omega) (by decide) ?_
      refine g_top (y := S 19 tz2) (by rw [mput_sp _ _ (by omega)]; exact hR.sp (by omega)) ?_
      refine g_istore_n dQ_as_30 (by decide) rfl rfl ?_
      dsimp only [List.set]
      refine g_iload_n dQ_as_31 rfl ?_
      refine g_if_ge dQ_as_32 rfl (fun h32 => ?_) (fun h32 => ?_)
      · obtain ⟨cz, hcz, ecz⟩ := (hsp tz2 (by omega)).resolve_left (fun zz => absurd (zz ▸ h32) (by decide))
        refine g_lv (lv1 := [some (.ref (g.1 33)), some (.int (nI tz2)), some (.int k), some (.int (nI cz))]) (by rw [ecz]) ?_
        refine g_aload_n dQ_as_42 rfl ?_
        refine g_iload_n dQ_as_43 rfl ?_
        refine g_iconst (v := 0) dQ_as_44 (by decide) ?_
        refine gV2 dQ_as_45 kQ_as_108 rfl rfl (cQ_sheepIsK (by omega)) (Nat.le_of_ble_eq_true rfl) ?_
        refine g_iload_n dQ_as_48 rfl ?_
        refine gS2 dQ_as_49 kQ_as_336 (cQ_isUnder (hI.sh (j := cz) (by omega)).1) (Nat.le_of_ble_eq_true rfl) ?_
        refine g_if_eq dQ_as_52 rfl (fun h52 => ?_) (fun h52 => ?_)
        · have hin : 0 ≤ nI cz ∧ nI cz < A.1 6 := ⟨nI_pos' (by omega), by rw [hI.n6, nI_ltI (by omega) (by omega)]; exact hcz⟩
          refine g_aload_n dQ_as_59 rfl ?_
          refine g_ldcw dQ_as_60 fQ_339 ?_
          refine gV1 dQ_as_63 kQ_as_75 rfl rfl (cQ_finding (q := 2) (by decide)) (Nat.le_of_ble_eq_true rfl) ?_
          refine g_iret dQ_as_66 rfl rfl ?_
          first
            | exact IsQ_R hA hR (by simp only [asC, hasP, hA, gA1 hA, gA2 hA, gA3 hA, gA4 hA, gA5 hA, gA6 hA]; rw [nI_clamp (by omega), if_pos ⟨h4b, h11⟩, ecz, if_pos hin, nI_clamp (by omega), if_neg h52])
            | exact IsQ_F hA hR (by decide) (by simp only [asC, hasP, hA, gA1 hA, gA2 hA, gA3 hA, gA4 hA, gA5 hA, gA6 hA]; rw [nI_clamp (by omega), if_pos ⟨h4b, h11⟩, ecz, if_pos hin, nI_clamp (by omega), if_pos h52])
        · have hin : 0 ≤ nI cz ∧ nI cz < A.1 6 := ⟨nI_pos' (by omega), by rw [hI.n6, nI_ltI (by omega) (by omega)]; exact hcz⟩
          refine g_iload_n dQ_as_55 rfl ?_
          refine g_goto dQ_as_56 rfl ?_
          refine g_iret dQ_as_66 rfl rfl ?_
          first
            | exact IsQ_R hA hR (by simp only [asC, hasP, hA, gA1 hA, gA2 hA, gA3 hA, gA4 hA, gA5 hA, gA6 hA]; rw [nI_clamp (by omega), if_pos ⟨h4b, h11⟩, ecz, if_pos hin, nI_clamp (by omega), if_neg h52])
            | exact IsQ_F hA hR (by decide) (by simp only [asC, hasP, hA, gA1 hA, gA2 hA, gA3 hA, gA4 hA, gA5 hA, gA6 hA]; rw [nI_clamp (by omega), if_pos ⟨h4b, h11⟩, ecz, if_pos hin, nI_clamp (by omega), if_pos h52])
      · refine g_aload_n dQ_as_35 rfl ?_
        refine g_ldc dQ_as_36 fQ_234 ?_
        refine gV1 dQ_as_38 kQ_as_75 rfl rfl (cQ_finding (q := 5) (by decide)) (Nat.le_of_ble_eq_true rfl) ?_
        refine g_iret dQ_as_41 rfl rfl ?_
        exact IsQ_F hA hR (by decide) (by simp only [asC, hasP, hA, gA1 hA, gA2 hA, gA3 hA, gA4 hA, gA5 hA, gA6 hA]; rw [nI_clamp (by omega), if_pos ⟨h4b, h11⟩, if_neg (fun zz => h32 zz.1)])
    · have h11 := bI_0.mp h11
      refine g_aload_n dQ_as_14 rfl ?_
      refine g_ldc dQ_as_15 fQ_69 ?_
      refine gV1 dQ_as_17 kQ_as_75 rfl rfl (cQ_finding (q := 0) (by decide)) (Nat.le_of_ble_eq_true rfl) ?_
      refine g_iret dQ_as_20 rfl rfl ?_
      exact IsQ_F hA hR (by decide) (by rw [asC, if_neg (by grind)])

set_option maxRecDepth 4000 in
theorem lQ_count {l : Launch} {g : GG} {S w : Wd} {A : HA} {n b : Nat} (hA : hget S 1 = A) (hR : RM S w) (hI : IVA n b A) (hsp : spOK n (S 19)) {xx : Int32} : ∀ (m : Nat) (i : Nat), (10 - i < m) → (i ≤ 10) → Go l g Q_count 94 [some (.ref (g.1 33)), some (.int xx), some (.int (useF (S 19) i)), some (.int (nI i))] [] (mput A w) (Is (some (.int (useF (S 19) 10))) (mput A w)) := by
  intro m
  induction m with
  | zero => intro i hm hi; omega
  | succ m ih =>
    intro i hm hi
    refine g_iload_n dQ_count_94 rfl ?_
    refine g_bipush (v := 10) dQ_count_95 (by decide) ?_
    refine g_icmp_ge dQ_count_97 rfl (fun h97 => ?_) (fun h97 => ?_)
    · rw [show (10 : Int32) = nI 10 from rfl, nI_leI (by omega) (by omega)] at h97
      refine g_iload_n dQ_count_126 rfl ?_
      refine g_iret dQ_count_127 rfl rfl ?_
      exact ⟨by rw [show i = 10 by omega], rfl⟩
    · rw [show (10 : Int32) = nI 10 from rfl, nI_leI (by omega) (by omega)] at h97
      refine g_iload_n dQ_count_100 rfl ?_
      refine g_aload_n dQ_count_101 rfl ?_
      refine g_getR2 (k2 := 34) dQ_count_102 fQ_9 rfl rfl (by decide) rfl ?_
      refine g_bipush (v := 8) dQ_count_105 (by decide) ?_
      refine g_iload_n dQ_count_107 rfl ?_
      refine g_iadd dQ_count_108 ?_
      refine g_top (y := nI (8 + i)) (nI_add 8 i) ?_
      refine g_ialdN (i := (8 + i)) dQ_count_109 rfl (by omega) (by decide) ?_
      refine g_top (y := S 19 i) (by rw [mput_sp _ _ (by omega)]; exact hR.sp (by omega)) ?_
      refine g_if_ge dQ_count_110 rfl (fun h110 => ?_) (fun h110 => ?_)
      · refine g_iconst (v := 1) dQ_count_117 (by decide) ?_
        refine g_iadd dQ_count_118 ?_
        refine g_istore_n dQ_count_119 (by decide) rfl rfl ?_
        dsimp only [List.set]
        refine g_iinc (v := nI (i + 1)) dQ_count_120 rfl (nI_succ i).symm (by decide) rfl rfl ?_
        dsimp only [List.set]
        refine g_goto dQ_count_123 rfl ?_
        have hsn := sp_neg hsp hI.n8 (i := i) (by omega)
        refine g_lv (lv1 := [some (.ref (g.1 33)), some (.int xx), some (.int (useF (S 19) (i + 1))), some (.int (nI (i + 1)))]) (by rw [useF]; first | rw [if_pos (hsn.mp (Int32.not_le.mp h110)), Int32.add_zero] | rw [if_neg (fun z => absurd (hsn.mpr z) (Int32.not_lt.mpr h110))]) ?_
        exact ih (i + 1) (by omega) (by omega)
      · refine g_iconst (v := 0) dQ_count_113 (by decide) ?_
        refine g_goto dQ_count_114 rfl ?_
        refine g_iadd dQ_count_118 ?_
        refine g_istore_n dQ_count_119 (by decide) rfl rfl ?_
        dsimp only [List.set]
        refine g_iinc (v := nI (i + 1)) dQ_count_120 rfl (nI_succ i).symm (by decide) rfl rfl ?_
        dsimp only [List.set]
        refine g_goto dQ_count_123 rfl ?_
        have hsn := sp_neg hsp hI.n8 (i := i) (by omega)
        refine g_lv (lv1 := [some (.ref (g.1 33)), some (.int xx), some (.int (useF (S 19) (i + 1))), some (.int (nI (i + 1)))]) (by rw [useF]; first | rw [if_pos (hsn.mp (Int32.not_le.mp h110)), Int32.add_zero] | rw [if_neg (fun z => absurd (hsn.mpr z) (Int32.not_lt.mpr h110))]) ?_
        exact ih (i + 1) (by omega) (by omega)

set_option maxRecDepth 4000 in
theorem cQ_count {l : Launch} {g : GG} {S w : Wd} {A : HA} {n b : Nat} (hA : hget S 1 = A) (hR : RM S w) (hI : IVA n b A) {x : Int32} (hsp : spOK n (S 19)) : Res l g Q_count [.ref (g.1 33), .int x] (mput A w) (IsQ (countC n x S) w) := by
  have h8 := hI.n8
  refine Res.of (by decide) (by simp [Value.category]) (Nat.le_of_ble_eq_true rfl) rfl ?_
  show Go l g Q_count 0 [some (.ref (g.1 33)), some (.int x), none, none] [] (mput A w) _
  refine g_iconst (v := 0) dQ_count_0 (by decide) ?_
  refine g_istore_n dQ_count_1 (by decide) rfl rfl ?_
  dsimp only [List.set]
  refine g_iload_n dQ_count_2 rfl ?_
  refine g_split (0) (fun z0 => ?_) (fun z0 => ?_)
  · refine g_tabIn dQ_count_3 (by decide) (by decide) rfl rfl ?_
    refine g_aload_n dQ_count_48 rfl ?_
    refine g_getR2 (k2 := 34) dQ_count_49 fQ_9 rfl rfl (by decide) rfl ?_
    refine g_iconst (v := 0) dQ_count_52 (by decide) ?_
    refine g_mS (j := 5) (i := 0) dQ_count_53 rfl (by decide) (by decide) ?_
    refine g_iret dQ_count_54 rfl rfl ?_
    subst_vars
    exact IsQ_R rfl hR rfl
  refine g_split (1) (fun z1 => ?_) (fun z1 => ?_)
  · refine g_tabIn dQ_count_3 (by decide) (by decide) rfl rfl ?_
    refine g_aload_n dQ_count_55 rfl ?_
    refine g_getR2 (k2 := 34) dQ_count_56 fQ_9 rfl rfl (by decide) rfl ?_
    refine g_iconst (v := 1) dQ_count_59 (by decide) ?_
    refine g_mS (j := 6) (i := 1) dQ_count_60 rfl (by decide) (by decide) ?_
    refine g_iret dQ_count_61 rfl rfl ?_
    subst_vars
    exact IsQ_R rfl hR rfl
  refine g_split (2) (fun z2 => ?_) (fun z2 => ?_)
  · refine g_tabIn dQ_count_3 (by decide) (by decide) rfl rfl ?_
    refine g_aload_n dQ_count_62 rfl ?_
    refine g_iconst (v := 2) dQ_count_63 (by decide) ?_
    refine gV1 dQ_count_64 kQ_count_194 rfl rfl (cQ_sumOf hI.n6 hI.n8 (f := 2) (by decide)) (Nat.le_of_ble_eq_true rfl) ?_
    refine g_iret dQ_count_67 rfl rfl ?_
    subst_vars
    exact IsQ_R rfl hR rfl
  refine g_split (3) (fun z3 => ?_) (fun z3 => ?_)
  · refine g_tabIn dQ_count_3 (by decide) (by decide) rfl rfl ?_
    refine g_aload_n dQ_count_68 rfl ?_
    refine g_iconst (v := 4) dQ_count_69 (by decide) ?_
    refine gV1 dQ_count_70 kQ_count_194 rfl rfl (cQ_sumOf hI.n6 hI.n8 (f := 4) (by decide)) (Nat.le_of_ble_eq_true rfl) ?_
    refine g_iret dQ_count_73 rfl rfl ?_
    subst_vars
    exact IsQ_R rfl hR rfl
  refine g_split (4) (fun z4 => ?_) (fun z4 => ?_)
  · refine g_tabIn dQ_count_3 (by decide) (by decide) rfl rfl ?_
    refine g_aload_n dQ_count_74 rfl ?_
    refine g_iconst (v := 3) dQ_count_75 (by decide) ?_
    refine gV1 dQ_count_76 kQ_count_194 rfl rfl (cQ_sumOf hI.n6 hI.n8 (f := 3) (by decide)) (Nat.le_of_ble_eq_true rfl) ?_
    refine g_iret dQ_count_79 rfl rfl ?_
    subst_vars
    exact IsQ_R rfl hR rfl
  refine g_split (5) (fun z5 => ?_) (fun z5 => ?_)
  · refine g_tabIn dQ_count_3 (by decide) (by decide) rfl rfl ?_
    refine g_aload_n dQ_count_80 rfl ?_
    refine g_getI dQ_count_81 fQ_250 rfl rfl ?_
    refine g_top (y := S 21 1) (by rw [mput_o _ _ (by decide)]; exact hR.tl) ?_
    refine g_iret dQ_count_84 rfl rfl ?_
    subst_vars
    exact IsQ_R rfl hR rfl
  refine g_split (6) (fun z6 => ?_) (fun z6 => ?_)
  · refine g_tabIn dQ_count_3 (by decide) (by decide) rfl rfl ?_
    refine g_aload_n dQ_count_85 rfl ?_
    refine g_getR2 (k2 := 34) dQ_count_86 fQ_9 rfl rfl (by decide) rfl ?_
    refine g_iconst (v := 2) dQ_count_89 (by decide) ?_
    refine g_ialdN (i := 2) dQ_count_90 rfl (by decide) (by decide) ?_
    refine g_top (y := S 0 6) (by rw [mput_z]; exact hR.z) ?_
    refine g_iret dQ_count_91 rfl rfl ?_
    subst_vars
    exact IsQ_R rfl hR rfl
  refine g_split (7) (fun z7 => ?_) (fun z7 => ?_)
  · refine g_tabIn dQ_count_3 (by decide) (by decide) rfl rfl ?_
    refine g_iconst (v := 0) dQ_count_92 (by decide) ?_
    refine g_istore_n dQ_count_93 (by decide) rfl rfl ?_
    dsimp only [List.set]
    refine g_mono (fun r w2 hh => ?_) (lQ_count hA hR hI hsp 11 0 (by omega) (by omega))
    obtain ⟨rfl, rfl⟩ := hh
    subst_vars
    exact IsQ_R rfl hR rfl
  refine g_tabOut dQ_count_3 (by have q0 := lv_neT z0 (a := 0) rfl; have q1 := lv_neT z1 (a := 1) rfl; have q2 := lv_neT z2 (a := 2) rfl; have q3 := lv_neT z3 (a := 3) rfl; have q4 := lv_neT z4 (a := 4) rfl; have q5 := lv_neT z5 (a := 5) rfl; have q6 := lv_neT z6 (a := 6) rfl; have q7 := lv_neT z7 (a := 7) rfl; omega) rfl ?_
  refine g_aload_n dQ_count_128 rfl ?_
  refine g_ldc dQ_count_129 fQ_69 ?_
  refine gV1 dQ_count_131 kQ_count_75 rfl rfl (cQ_finding (q := 0) (by decide)) (Nat.le_of_ble_eq_true rfl) ?_
  refine g_iret dQ_count_134 rfl rfl ?_
  exact IsQ_F hA hR (by decide) (by simp only [countC, if_neg z0, if_neg z1, if_neg z2, if_neg z3, if_neg z4, if_neg z5, if_neg z6, if_neg z7])

set_option maxRecDepth 4000 in
theorem cQ_image {l : Launch} {g : GG} {S w : Wd} (hR : RM S w)  : Res l g Q_image [.ref (g.1 33)] w (IsQ (imageC S) w) := by
  refine Res.of (by decide) (by simp [Value.category]) (Nat.le_of_ble_eq_true rfl) rfl ?_
  show Go l g Q_image 0 [some (.ref (g.1 33))] [] w _
  refine g_aload_n dQ_image_0 rfl ?_
  refine g_getR2 (k2 := 34) dQ_image_1 fQ_9 rfl rfl (by decide) rfl ?_
  refine g_aload_n dQ_image_4 rfl ?_
  refine g_getR2 (k2 := 35) dQ_image_5 fQ_13 rfl rfl (by decide) rfl ?_
  refine gS2v dQ_image_8 kQ_image_70 (cQ_copyRow (a := 34) (b := 35) rfl rfl (by decide)) (Nat.le_of_ble_eq_true rfl) ?_
  refine g_aload_n dQ_image_11 rfl ?_
  refine g_iconst (v := 1) dQ_image_12 (by decide) ?_
  refine g_putI dQ_image_13 fQ_347 rfl rfl rfl rfl ?_
  refine g_iconst (v := 1) dQ_image_16 (by decide) ?_
  refine g_iret dQ_image_17 rfl rfl ?_
  exact IsQ_W (fun k hk => by rw [up_other _ _ _ _ (by omega), upR_other _ _ _ (by omega)]) hR.image rfl

set_option maxRecDepth 4000 in
theorem cQ_undo {l : Launch} {g : GG} {S w : Wd} (hR : RM S w)  : Res l g Q_undo [.ref (g.1 33)] w (IsQ (undoC S) w) := by
  refine Res.of (by decide) (by simp [Value.category]) (Nat.le_of_ble_eq_true rfl) rfl ?_
  show Go l g Q_undo 0 [some (.ref (g.1 33))] [] w _
  refine g_aload_n dQ_undo_0 rfl ?_
  refine g_getI dQ_undo_1 fQ_347 rfl rfl ?_
  refine g_if_ne dQ_undo_4 rfl (fun h4 => ?_) (fun h4 => ?_)
  · rw [hR.kf] at h4
    refine g_aload_n dQ_undo_14 rfl ?_
    refine g_getR2 (k2 := 35) dQ_undo_15 fQ_13 rfl rfl (by decide) rfl ?_
    refine g_aload_n dQ_undo_18 rfl ?_
    refine g_getR2 (k2 := 34) dQ_undo_19 fQ_9 rfl rfl (by decide) rfl ?_
    refine gS2v dQ_undo_22 kQ_undo_70 (cQ_copyRow (a := 35) (b := 34) rfl rfl (by decide)) (Nat.le_of_ble_eq_true rfl) ?_
    refine g_aload_n dQ_undo_25 rfl ?_
    refine g_getR2 (k2 := 34) dQ_undo_26 fQ_9 rfl rfl (by decide) rfl ?_
    refine g_iconst (v := 0) dQ_undo_29 (by decide) ?_
    refine g_ialdN (i := 0) dQ_undo_30 rfl (by decide) (by decide) ?_
    refine g_top (y := S 13 5) (by rw [upR_same, hR.kr h4 0 (by decide)]; rfl) ?_
    refine g_iret dQ_undo_31 rfl rfl ?_
    exact IsQ_W (fun k hk => upR_other _ _ _ (by omega)) (hR.undo h4) (by rw [undoC, if_neg h4])
  · rw [hR.kf] at h4
    refine g_aload_n dQ_undo_7 rfl ?_
    refine g_ldc dQ_undo_8 fQ_74 ?_
    refine gV1 dQ_undo_10 kQ_undo_75 rfl rfl (cQ_finding (q := 3) (by decide)) (Nat.le_of_ble_eq_true rfl) ?_
    refine g_iret dQ_undo_13 rfl rfl ?_
    exact IsQ_F0 hR (by decide) (by rw [undoC, if_pos h4])
