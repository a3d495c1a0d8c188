set_option maxRecDepth 4000 in
theorem cH_has {l : Launch} {g : GG} {h : Nat} {w : Wd} {A : HA} (hh : isH h) {s : Int32} : Res l g H_has [.ref (g.1 h), .int s] (hput h A w) (Is (some (.int (bI (0 ≤ s ∧ s < A.1 6)))) (hput h A w)) := by
  refine Res.of (by decide) (by simp [Value.category]) (Nat.le_of_ble_eq_true rfl) rfl ?_
  show Go l g H_has 0 [some (.ref (g.1 h)), some (.int s)] [] (hput h A w) _
  refine g_iload_n dH_has_0 rfl ?_
  refine g_if_lt dH_has_1 rfl (fun h1 => ?_) (fun h1 => ?_)
  · refine g_iconst (v := 0) dH_has_16 (by decide) ?_
    refine g_iret dH_has_17 rfl (by first | rfl | exact bI_n) ?_
    exact ⟨by grind [bI], rfl⟩
  · refine g_iload_n dH_has_4 rfl ?_
    refine g_aload_n dH_has_5 rfl ?_
    refine g_hI dH_has_6 fH_30 hh rfl ?_
    refine g_icmp_ge dH_has_9 rfl (fun h9 => ?_) (fun h9 => ?_)
    · refine g_iconst (v := 0) dH_has_16 (by decide) ?_
      refine g_iret dH_has_17 rfl (by first | rfl | exact bI_n) ?_
      exact ⟨by grind [bI], rfl⟩
    · refine g_iconst (v := 1) dH_has_12 (by decide) ?_
      refine g_goto dH_has_13 rfl ?_
      refine g_iret dH_has_17 rfl (by first | rfl | exact bI_n) ?_
      exact ⟨by grind [bI], rfl⟩

set_option maxRecDepth 4000 in
theorem cH_isFull {l : Launch} {g : GG} {h : Nat} {w : Wd} {A : HA} (hh : isH h)  : Res l g H_isFull [.ref (g.1 h)] (hput h A w) (Is (some (.int (bI (8 ≤ A.1 6)))) (hput h A w)) := by
  refine Res.of (by decide) (by simp [Value.category]) (Nat.le_of_ble_eq_true rfl) rfl ?_
  show Go l g H_isFull 0 [some (.ref (g.1 h))] [] (hput h A w) _
  refine g_aload_n dH_isFull_0 rfl ?_
  refine g_hI dH_isFull_1 fH_30 hh rfl ?_
  refine g_bipush (v := 8) dH_isFull_4 (by decide) ?_
  refine g_icmp_lt dH_isFull_6 rfl (fun h6 => ?_) (fun h6 => ?_)
  · refine g_iconst (v := 0) dH_isFull_13 (by decide) ?_
    refine g_iret dH_isFull_14 rfl (by first | rfl | exact bI_n) ?_
    exact ⟨by grind [bI], rfl⟩
  · refine g_iconst (v := 1) dH_isFull_9 (by decide) ?_
    refine g_goto dH_isFull_10 rfl ?_
    refine g_iret dH_isFull_14 rfl (by first | rfl | exact bI_n) ?_
    exact ⟨by grind [bI], rfl⟩

set_option maxRecDepth 4000 in
theorem cH_farA {l : Launch} {g : GG} {h : Nat} {w : Wd} {A : HA} (hh : isH h) {j : Nat} (hj : j < 8) : Res l g H_far [.ref (g.1 h), .int (nI j)] (hput h A w) (Is (some (.int (dist (A.2.2.1 j) (A.1 0)))) (hput h A w)) := by
  refine Res.of (by decide) (by simp [Value.category]) (Nat.le_of_ble_eq_true rfl) rfl ?_
  show Go l g H_far 0 [some (.ref (g.1 h)), some (.int (nI j))] [] (hput h A w) _
  refine g_aload_n dH_far_0 rfl ?_
  refine g_getR2 (k2 := h + 2) dH_far_1 fH_37 hh.o rfl (by decide) rfl ?_
  refine g_iload_n dH_far_4 rfl ?_
  refine g_ldC dH_far_5 hh (by omega) ?_
  refine g_aload_n dH_far_6 rfl ?_
  refine g_hI dH_far_7 fH_9 hh rfl ?_
  refine gN2 dH_far_10 kH_far_79 cS_distance (Nat.le_of_ble_eq_true rfl) ?_
  refine g_iret dH_far_13 rfl rfl ?_
  exact ⟨rfl, rfl⟩

set_option maxRecDepth 4000 in
theorem cH_feature {l : Launch} {g : GG} {h : Nat} {w : Wd} {A : HA} (hh : isH h) {x : Int32} : Res l g H_feature [.ref (g.1 h), .int x] (hput h A w) (Is (some (.int (if x = 0 then A.1 0 else if x = 1 then A.1 1 else if x = 2 then A.1 3 else if x = 3 then A.1 4 else A.1 2))) (hput h A w)) := by
  refine Res.of (by decide) (by simp [Value.category]) (Nat.le_of_ble_eq_true rfl) rfl ?_
  show Go l g H_feature 0 [some (.ref (g.1 h)), some (.int x)] [] (hput h A w) _
  refine g_iload_n dH_feature_0 rfl ?_
  refine g_split (0) (fun z0 => ?_) (fun z0 => ?_)
  · refine g_tabIn dH_feature_1 (by decide) (by decide) rfl rfl ?_
    refine g_aload_n dH_feature_32 rfl ?_
    refine g_hI dH_feature_33 fH_9 hh rfl ?_
    refine g_iret dH_feature_36 rfl rfl ?_
    exact ⟨by grind, rfl⟩
  refine g_split (1) (fun z1 => ?_) (fun z1 => ?_)
  · refine g_tabIn dH_feature_1 (by decide) (by decide) rfl rfl ?_
    refine g_aload_n dH_feature_37 rfl ?_
    refine g_hI dH_feature_38 fH_15 hh rfl ?_
    refine g_iret dH_feature_41 rfl rfl ?_
    exact ⟨by grind, rfl⟩
  refine g_split (2) (fun z2 => ?_) (fun z2 => ?_)
  · refine g_tabIn dH_feature_1 (by decide) (by decide) rfl rfl ?_
    refine g_aload_n dH_feature_42 rfl ?_
    refine g_hI dH_feature_43 fH_21 hh rfl ?_
    refine g_iret dH_feature_46 rfl rfl ?_
    exact ⟨by grind, rfl⟩
  refine g_split (3) (fun z3 => ?_) (fun z3 => ?_)
  · refine g_tabIn dH_feature_1 (by decide) (by decide) rfl rfl ?_
    refine g_aload_n dH_feature_47 rfl ?_
    refine g_hI dH_feature_48 fH_24 hh rfl ?_
    refine g_iret dH_feature_51 rfl rfl ?_
    exact ⟨by grind, rfl⟩
  refine g_tabOut dH_feature_1 (by have q0 := lv_neT z0 (a := 0) rfl; have q1 := lv_neT z1 (a := 1) rfl; have q2 := lv_neT z2 (a := 2) rfl; have q3 := lv_neT z3 (a := 3) rfl; omega) rfl ?_
  refine g_aload_n dH_feature_52 rfl ?_
  refine g_hI dH_feature_53 fH_18 hh rfl ?_
  refine g_iret dH_feature_56 rfl rfl ?_
  exact ⟨by grind, rfl⟩

set_option maxRecDepth 4000 in
theorem cH_straysAsSheep {l : Launch} {g : GG} {h : Nat} {w : Wd} {A : HA} (hh : isH h)  : Res l g H_straysAsSheep [.ref (g.1 h)] (hput h A w) (Is (some (.int (plainF A))) (hput h A w)) := by
  refine Res.of (by decide) (by simp [Value.category]) (Nat.le_of_ble_eq_true rfl) rfl ?_
  show Go l g H_straysAsSheep 0 [some (.ref (g.1 h))] [] (hput h A w) _
  refine g_aload_n dH_straysAsSheep_0 rfl ?_
  refine g_hI dH_straysAsSheep_1 fH_27 hh rfl ?_
  refine g_iconst (v := 3) dH_straysAsSheep_4 (by decide) ?_
  refine g_irem dH_straysAsSheep_5 (by decide) ?_
  refine g_if_ne dH_straysAsSheep_6 rfl (fun h6 => ?_) (fun h6 => ?_)
  · refine g_iconst (v := 0) dH_straysAsSheep_13 (by decide) ?_
    refine g_iret dH_straysAsSheep_14 rfl rfl ?_
    exact ⟨by simp_all [plainF], rfl⟩
  · refine g_iconst (v := 1) dH_straysAsSheep_9 (by decide) ?_
    refine g_goto dH_straysAsSheep_10 rfl ?_
    refine g_iret dH_straysAsSheep_14 rfl rfl ?_
    exact ⟨by simp_all [plainF], rfl⟩

set_option maxRecDepth 4000 in
theorem cH_straysAsRam {l : Launch} {g : GG} {h : Nat} {w : Wd} {A : HA} (hh : isH h) {j : Nat} (hj : j < 8) : Res l g H_straysAsRam [.ref (g.1 h), .int (nI j)] (hput h A w) (Is (some (.int (ramF A j))) (hput h A w)) := by
  refine Res.of (by decide) (by simp [Value.category]) (Nat.le_of_ble_eq_true rfl) rfl ?_
  show Go l g H_straysAsRam 0 [some (.ref (g.1 h)), some (.int (nI j))] [] (hput h A w) _
  refine g_aload_n dH_straysAsRam_0 rfl ?_
  refine g_getR2 (k2 := h + 3) dH_straysAsRam_1 fH_40 hh.o rfl (by decide) rfl ?_
  refine g_iload_n dH_straysAsRam_4 rfl ?_
  refine g_ldF dH_straysAsRam_5 hh (by omega) ?_
  refine g_bipush (v := 50) dH_straysAsRam_6 (by decide) ?_
  refine g_icmp_lt dH_straysAsRam_8 rfl (fun h8 => ?_) (fun h8 => ?_)
  · refine g_aload_n dH_straysAsRam_20 rfl ?_
    refine gV0 dH_straysAsRam_21 kH_straysAsRam_95 hh.o rfl (cH_straysAsSheep hh) (Nat.le_of_ble_eq_true rfl) ?_
    refine g_iret dH_straysAsRam_24 rfl rfl ?_
    exact ⟨by grind [ramF], rfl⟩
  · refine g_aload_n dH_straysAsRam_11 rfl ?_
    refine gV0 dH_straysAsRam_12 kH_straysAsRam_95 hh.o rfl (cH_straysAsSheep hh) (Nat.le_of_ble_eq_true rfl) ?_
    refine g_iconst (v := 1) dH_straysAsRam_15 (by decide) ?_
    refine g_iadd dH_straysAsRam_16 ?_
    refine g_goto dH_straysAsRam_17 rfl ?_
    refine g_iret dH_straysAsRam_24 rfl rfl ?_
    exact ⟨by grind [ramF], rfl⟩

set_option maxRecDepth 4000 in
theorem cH_straysAsEwe {l : Launch} {g : GG} {h : Nat} {w : Wd} {A : HA} (hh : isH h) {j : Nat} (hj : j < 8) : Res l g H_straysAsEwe [.ref (g.1 h), .int (nI j)] (hput h A w) (Is (some (.int (eweF A j))) (hput h A w)) := by
  refine Res.of (by decide) (by simp [Value.category]) (Nat.le_of_ble_eq_true rfl) rfl ?_
  show Go l g H_straysAsEwe 0 [some (.ref (g.1 h)), some (.int (nI j))] [] (hput h A w) _
  refine g_aload_n dH_straysAsEwe_0 rfl ?_
  refine g_getR2 (k2 := h + 3) dH_straysAsEwe_1 fH_40 hh.o rfl (by decide) rfl ?_
  refine g_iload_n dH_straysAsEwe_4 rfl ?_
  refine g_ldF dH_straysAsEwe_5 hh (by omega) ?_
  refine g_bipush (v := 30) dH_straysAsEwe_6 (by decide) ?_
  refine g_icmp_lt dH_straysAsEwe_8 rfl (fun h8 => ?_) (fun h8 => ?_)
  · refine g_aload_n dH_straysAsEwe_15 rfl ?_
    refine gV0 dH_straysAsEwe_16 kH_straysAsEwe_95 hh.o rfl (cH_straysAsSheep hh) (Nat.le_of_ble_eq_true rfl) ?_
    refine g_iret dH_straysAsEwe_19 rfl rfl ?_
    exact ⟨by grind [eweF], rfl⟩
  · refine g_iconst (v := (-1)) dH_straysAsEwe_11 (by decide) ?_
    refine g_goto dH_straysAsEwe_12 rfl ?_
    refine g_iret dH_straysAsEwe_19 rfl rfl ?_
    exact ⟨by grind [eweF], rfl⟩

set_option maxRecDepth 4000 in
theorem lH_sheepAt {l : Launch} {g : GG} {h : Nat} {w : Wd} {A : HA} (hh : isH h) {n : Nat} (hn : A.1 6 = nI n) (h8 : n ≤ 8) {p : Int32} : ∀ (m : Nat) (i : Nat), n - i < m → i ≤ n → Go l g H_sheepAt 4 [some (.ref (g.1 h)), some (.int p), some (.int (setF A.2.2.1 p i)), some (.int (nI i))] [] (hput h A w) (Is (some (.int (setF A.2.2.1 p n))) (hput h A w)) := by
  intro m
  induction m with
  | zero => intro i hm hi; omega
  | succ m ih =>
    intro i hm hi
    refine g_iload_n dH_sheepAt_4 rfl ?_
    refine g_aload_n dH_sheepAt_5 rfl ?_
    refine g_hI dH_sheepAt_6 fH_30 hh rfl ?_
    refine g_icmp_ge dH_sheepAt_9 rfl (fun h9 => ?_) (fun h9 => ?_)
    · rw [hn, nI_leI (by omega) (by omega)] at h9
      refine g_iload_n dH_sheepAt_34 rfl ?_
      refine g_iret dH_sheepAt_35 rfl rfl ?_
      exact ⟨by rw [show i = n by omega], rfl⟩
    · rw [hn, nI_leI (by omega) (by omega)] at h9
      refine g_aload_n dH_sheepAt_12 rfl ?_
      refine g_getR2 (k2 := h + 2) dH_sheepAt_13 fH_37 hh.o rfl (by decide) rfl ?_
      refine g_iload_n dH_sheepAt_16 rfl ?_
      refine g_ldC dH_sheepAt_17 hh (by omega) ?_
      refine g_iload_n dH_sheepAt_18 rfl ?_
      refine g_icmp_ne dH_sheepAt_19 rfl (fun h19 => ?_) (fun h19 => ?_)
      · rw [show setF A.2.2.1 p i = setF A.2.2.1 p (i + 1) from (if_neg h19).symm]
        refine g_iinc (v := nI (i + 1)) dH_sheepAt_28 rfl (nI_succ i).symm (by decide) rfl rfl ?_
        dsimp only [List.set]
        refine g_goto dH_sheepAt_31 rfl ?_
        exact ih (i + 1) (by omega) (by omega)
      · rw [show setF A.2.2.1 p i = setF A.2.2.1 p i from rfl]
        refine g_iload_n dH_sheepAt_22 rfl ?_
        refine g_iconst (v := 1) dH_sheepAt_23 (by decide) ?_
        refine g_iload_n dH_sheepAt_24 rfl ?_
        refine g_ishl dH_sheepAt_25 ?_
        refine g_ior dH_sheepAt_26 ?_
        refine g_istore_n dH_sheepAt_27 (by decide) rfl rfl ?_
        dsimp only [List.set]
        rw [show setF A.2.2.1 p i ||| 1 <<< (nI i &&& 31) = setF A.2.2.1 p (i + 1) from (if_pos h19).symm]
        refine g_iinc (v := nI (i + 1)) dH_sheepAt_28 rfl (nI_succ i).symm (by decide) rfl rfl ?_
        dsimp only [List.set]
        refine g_goto dH_sheepAt_31 rfl ?_
        exact ih (i + 1) (by omega) (by omega)

set_option maxRecDepth 4000 in
theorem cH_sheepAt {l : Launch} {g : GG} {h : Nat} {w : Wd} {A : HA} (hh : isH h) {n : Nat} (hn : A.1 6 = nI n) (h8 : n ≤ 8) {p : Int32} : Res l g H_sheepAt [.ref (g.1 h), .int p] (hput h A w) (Is (some (.int (setF A.2.2.1 p n))) (hput h A w)) := by
  refine Res.of (by decide) (by simp [Value.category]) (Nat.le_of_ble_eq_true rfl) rfl ?_
  show Go l g H_sheepAt 0 [some (.ref (g.1 h)), some (.int p), none, none] [] (hput h A w) _
  refine g_iconst (v := 0) dH_sheepAt_0 (by decide) ?_
  refine g_istore_n dH_sheepAt_1 (by decide) rfl rfl ?_
  dsimp only [List.set]
  refine g_iconst (v := 0) dH_sheepAt_2 (by decide) ?_
  refine g_istore_n dH_sheepAt_3 (by decide) rfl rfl ?_
  dsimp only [List.set]
  exact lH_sheepAt hh hn h8 (n + 1) 0 (by omega) (by omega)

set_option maxRecDepth 4000 in
theorem lH_total {l : Launch} {g : GG} {h : Nat} {w : Wd} {A : HA} (hh : isH h) {n : Nat} (hn : A.1 6 = nI n) (h8 : n ≤ 8) {c : Nat} (hc1 : 1 ≤ c) (hc2 : c ≤ 5) : ∀ (m : Nat) (i : Nat), n - i < m → i ≤ n → Go l g H_total 4 [some (.ref (g.1 h)), some (.ref (g.1 (h + c))), some (.int (sumF (hput h A w (h + c)) i)), some (.int (nI i))] [] (hput h A w) (Is (some (.int (sumF (hput h A w (h + c)) n))) (hput h A w)) := by
  intro m
  induction m with
  | zero => intro i hm hi; omega
  | succ m ih =>
    intro i hm hi
    refine g_iload_n dH_total_4 rfl ?_
    refine g_aload_n dH_total_5 rfl ?_
    refine g_hI dH_total_6 fH_30 hh rfl ?_
    refine g_icmp_ge dH_total_9 rfl (fun h9 => ?_) (fun h9 => ?_)
    · rw [hn, nI_leI (by omega) (by omega)] at h9
      refine g_iload_n dH_total_24 rfl ?_
      refine g_iret dH_total_25 rfl rfl ?_
      exact ⟨by rw [show i = n by omega], rfl⟩
    · rw [hn, nI_leI (by omega) (by omega)] at h9
      refine g_iload_n dH_total_12 rfl ?_
      refine g_aload_n dH_total_13 rfl ?_
      refine g_iload_n dH_total_14 rfl ?_
      refine g_ialdN dH_total_15 (hh.a hc1 hc2) (by omega) (by decide) ?_
      refine g_iadd dH_total_16 ?_
      refine g_istore_n dH_total_17 (by decide) rfl rfl ?_
      dsimp only [List.set]
      refine g_iinc (v := nI (i + 1)) dH_total_18 rfl (nI_succ i).symm (by decide) rfl rfl ?_
      dsimp only [List.set]
      refine g_goto dH_total_21 rfl ?_
      exact ih (i + 1) (by omega) (by omega)

set_option maxRecDepth 4000 in
theorem cH_total {l : Launch} {g : GG} {h : Nat} {w : Wd} {A : HA} (hh : isH h) {n : Nat} (hn : A.1 6 = nI n) (h8 : n ≤ 8) {c : Nat} (hc1 : 1 ≤ c) (hc2 : c ≤ 5) : Res l g H_total [.ref (g.1 h), .ref (g.1 (h + c))] (hput h A w) (Is (some (.int (sumF (hput h A w (h + c)) n))) (hput h A w)) := by
  refine Res.of (by decide) (by simp [Value.category]) (Nat.le_of_ble_eq_true rfl) rfl ?_
  show Go l g H_total 0 [some (.ref (g.1 h)), some (.ref (g.1 (h + c))), none, none] [] (hput h A w) _
  refine g_iconst (v := 0) dH_total_0 (by decide) ?_
  refine g_istore_n dH_total_1 (by decide) rfl rfl ?_
  dsimp only [List.set]
  refine g_iconst (v := 0) dH_total_2 (by decide) ?_
  refine g_istore_n dH_total_3 (by decide) rfl rfl ?_
  dsimp only [List.set]
  exact lH_total hh hn h8 hc1 hc2 (n + 1) 0 (by omega) (by omega)

set_option maxRecDepth 4000 in
theorem lH_farSheep {l : Launch} {g : GG} {h : Nat} {w : Wd} {A : HA} (hh : isH h) {n : Nat} (hn : A.1 6 = nI n) (h8 : n ≤ 8)  : ∀ (m : Nat) (i : Nat), n - i < m → i ≤ n → Go l g H_farSheep 4 [some (.ref (g.1 h)), some (.int (farF A.2.2.1 (A.1 0) i)), some (.int (nI i))] [] (hput h A w) (Is (some (.int (farF A.2.2.1 (A.1 0) n))) (hput h A w)) := by
  intro m
  induction m with
  | zero => intro i hm hi; omega
  | succ m ih =>
    intro i hm hi
    refine g_iload_n dH_farSheep_4 rfl ?_
    refine g_aload_n dH_farSheep_5 rfl ?_
    refine g_hI dH_farSheep_6 fH_30 hh rfl ?_
    refine g_icmp_ge dH_farSheep_9 rfl (fun h9 => ?_) (fun h9 => ?_)
    · rw [hn, nI_leI (by omega) (by omega)] at h9
      refine g_iload_n dH_farSheep_33 rfl ?_
      refine g_iret dH_farSheep_34 rfl rfl ?_
      exact ⟨by rw [show i = n by omega], rfl⟩
    · rw [hn, nI_leI (by omega) (by omega)] at h9
      refine g_aload_n dH_farSheep_12 rfl ?_
      refine g_iload_n dH_farSheep_13 rfl ?_
      refine gV1 dH_farSheep_14 kH_farSheep_63 hh.o rfl (cH_farA hh (by omega)) (Nat.le_of_ble_eq_true rfl) ?_
      refine g_iconst (v := 3) dH_farSheep_17 (by decide) ?_
      refine g_icmp_lt dH_farSheep_18 rfl (fun h18 => ?_) (fun h18 => ?_)
      · rw [show farF A.2.2.1 (A.1 0) i = farF A.2.2.1 (A.1 0) (i + 1) from (if_neg (Int32.not_le.mpr h18)).symm]
        refine g_iinc (v := nI (i + 1)) dH_farSheep_27 rfl (nI_succ i).symm (by decide) rfl rfl ?_
        dsimp only [List.set]
        refine g_goto dH_farSheep_30 rfl ?_
        exact ih (i + 1) (by omega) (by omega)
      · refine g_iload_n dH_farSheep_21 rfl ?_
        refine g_iconst (v := 1) dH_farSheep_22 (by decide) ?_
        refine g_iload_n dH_farSheep_23 rfl ?_
        refine g_ishl dH_farSheep_24 ?_
        refine g_ior dH_farSheep_25 ?_
        refine g_istore_n dH_farSheep_26 (by decide) rfl rfl ?_
        dsimp only [List.set]
        rw [show farF A.2.2.1 (A.1 0) i ||| 1 <<< (nI i &&& 31) = farF A.2.2.1 (A.1 0) (i + 1) from (if_pos (Int32.not_lt.mp h18)).symm]
        refine g_iinc (v := nI (i + 1)) dH_farSheep_27 rfl (nI_succ i).symm (by decide) rfl rfl ?_
        dsimp only [List.set]
        refine g_goto dH_farSheep_30 rfl ?_
        exact ih (i + 1) (by omega) (by omega)

set_option maxRecDepth 4000 in
theorem cH_farSheep {l : Launch} {g : GG} {h : Nat} {w : Wd} {A : HA} (hh : isH h) {n : Nat} (hn : A.1 6 = nI n) (h8 : n ≤ 8)  : Res l g H_farSheep [.ref (g.1 h)] (hput h A w) (Is (some (.int (farF A.2.2.1 (A.1 0) n))) (hput h A w)) := by
  refine Res.of (by decide) (by simp [Value.category]) (Nat.le_of_ble_eq_true rfl) rfl ?_
  show Go l g H_farSheep 0 [some (.ref (g.1 h)), none, none] [] (hput h A w) _
  refine g_iconst (v := 0) dH_farSheep_0 (by decide) ?_
  refine g_istore_n dH_farSheep_1 (by decide) rfl rfl ?_
  dsimp only [List.set]
  refine g_iconst (v := 0) dH_farSheep_2 (by decide) ?_
  refine g_istore_n dH_farSheep_3 (by decide) rfl rfl ?_
  dsimp only [List.set]
  exact lH_farSheep hh hn h8 (n + 1) 0 (by omega) (by omega)

set_option maxRecDepth 4000 in
theorem cH_allAtFold {l : Launch} {g : GG} {h : Nat} {w : Wd} {A : HA} (hh : isH h) {n : Nat} (hn : A.1 6 = nI n) (h8 : n ≤ 8)  : Res l g H_allAtFold [.ref (g.1 h)] (hput h A w) (Is (some (.int (bI (setF A.2.2.1 (A.1 0) n = 1 <<< (A.1 6 &&& 31) - 1)))) (hput h A w)) := by
  refine Res.of (by decide) (by simp [Value.category]) (Nat.le_of_ble_eq_true rfl) rfl ?_
  show Go l g H_allAtFold 0 [some (.ref (g.1 h))] [] (hput h A w) _
  refine g_aload_n dH_allAtFold_0 rfl ?_
  refine g_aload_n dH_allAtFold_1 rfl ?_
  refine g_hI dH_allAtFold_2 fH_9 hh rfl ?_
  refine gV1 dH_allAtFold_5 kH_allAtFold_83 hh.o rfl (cH_sheepAt hh hn h8) (Nat.le_of_ble_eq_true rfl) ?_
  refine g_iconst (v := 1) dH_allAtFold_8 (by decide) ?_
  refine g_aload_n dH_allAtFold_9 rfl ?_
  refine g_hI dH_allAtFold_10 fH_30 hh rfl ?_
  refine g_ishl dH_allAtFold_13 ?_
  refine g_iconst (v := 1) dH_allAtFold_14 (by decide) ?_
  refine g_isub dH_allAtFold_15 ?_
  refine g_icmp_ne dH_allAtFold_16 rfl (fun h16 => ?_) (fun h16 => ?_)
  · refine g_iconst (v := 0) dH_allAtFold_23 (by decide) ?_
    refine g_iret dH_allAtFold_24 rfl (by first | rfl | exact bI_n) ?_
    exact ⟨by rw [bI]; simp_all, rfl⟩
  · refine g_iconst (v := 1) dH_allAtFold_19 (by decide) ?_
    refine g_goto dH_allAtFold_20 rfl ?_
    refine g_iret dH_allAtFold_24 rfl (by first | rfl | exact bI_n) ?_
    exact ⟨by rw [bI]; simp_all, rfl⟩

set_option maxRecDepth 4000 in
theorem lH_sought {l : Launch} {g : GG} {h : Nat} {w : Wd} {A : HA} (hh : isH h) {n : Nat} (hn : A.1 6 = nI n) (h8 : n ≤ 8)  : ∀ (m : Nat) (i : Nat), n - i < m → i ≤ n → Go l g H_sought 6 [some (.ref (g.1 h)), some (.int (soF A.2.2.1 (A.1 0) i).1), some (.int (soF A.2.2.1 (A.1 0) i).2), some (.int (nI i))] [] (hput h A w) (Is (some (.int ((soF A.2.2.1 (A.1 0) n).1))) (hput h A w)) := by
  intro m
  induction m with
  | zero => intro i hm hi; omega
  | succ m ih =>
    intro i hm hi
    refine g_iload_n dH_sought_6 rfl ?_
    refine g_aload_n dH_sought_7 rfl ?_
    refine g_hI dH_sought_8 fH_30 hh rfl ?_
    refine g_icmp_ge dH_sought_11 rfl (fun h11 => ?_) (fun h11 => ?_)
    · rw [hn, nI_leI (by omega) (by omega)] at h11
      refine g_iload_n dH_sought_37 rfl ?_
      refine g_iret dH_sought_38 rfl rfl ?_
      exact ⟨by rw [show i = n by omega], rfl⟩
    · rw [hn, nI_leI (by omega) (by omega)] at h11
      refine g_aload_n dH_sought_14 rfl ?_
      refine g_iload_n dH_sought_15 rfl ?_
      refine gV1 dH_sought_16 kH_sought_63 hh.o rfl (cH_farA hh (by omega)) (Nat.le_of_ble_eq_true rfl) ?_
      refine g_iload_n dH_sought_19 rfl ?_
      refine g_icmp_le dH_sought_20 rfl (fun h20 => ?_) (fun h20 => ?_)
      · rw [show soF A.2.2.1 (A.1 0) i = soF A.2.2.1 (A.1 0) (i + 1) from (if_neg (Int32.not_lt.mpr h20)).symm]
        refine g_iinc (v := nI (i + 1)) dH_sought_31 rfl (nI_succ i).symm (by decide) rfl rfl ?_
        dsimp only [List.set]
        refine g_goto dH_sought_34 rfl ?_
        exact ih (i + 1) (by omega) (by omega)
      · refine g_aload_n dH_sought_23 rfl ?_
        refine g_iload_n dH_sought_24 rfl ?_
        refine gV1 dH_sought_25 kH_sought_63 hh.o rfl (cH_farA hh (by omega)) (Nat.le_of_ble_eq_true rfl) ?_
        refine g_istore_n dH_sought_28 (by decide) rfl rfl ?_
        dsimp only [List.set]
        refine g_iload_n dH_sought_29 rfl ?_
        refine g_istore_n dH_sought_30 (by decide) rfl rfl ?_
        dsimp only [List.set]
        have e9 : soF A.2.2.1 (A.1 0) (i + 1) = (nI i, dist (A.2.2.1 i) (A.1 0)) := if_pos (Int32.not_le.mp h20)
        refine g_lv (lv1 := [some (.ref (g.1 h)), some (.int (soF A.2.2.1 (A.1 0) (i + 1)).1), some (.int (soF A.2.2.1 (A.1 0) (i + 1)).2), some (.int (nI i))]) (by rw [e9]) ?_
        refine g_iinc (v := nI (i + 1)) dH_sought_31 rfl (nI_succ i).symm (by decide) rfl rfl ?_
        dsimp only [List.set]
        refine g_goto dH_sought_34 rfl ?_
        exact ih (i + 1) (by omega) (by omega)

set_option maxRecDepth 4000 in
theorem cH_sought {l : Launch} {g : GG} {h : Nat} {w : Wd} {A : HA} (hh : isH h) {n : Nat} (hn : A.1 6 = nI n) (h8 : n ≤ 8)  : Res l g H_sought [.ref (g.1 h)] (hput h A w) (Is (some (.int ((soF A.2.2.1 (A.1 0) n).1))) (hput h A w)) := by
  refine Res.of (by decide) (by simp [Value.category]) (Nat.le_of_ble_eq_true rfl) rfl ?_
  show Go l g H_sought 0 [some (.ref (g.1 h)), none, none, none] [] (hput h A w) _
  refine g_iconst (v := (-1)) dH_sought_0 (by decide) ?_
  refine g_istore_n dH_sought_1 (by decide) rfl rfl ?_
  dsimp only [List.set]
  refine g_iconst (v := 2) dH_sought_2 (by decide) ?_
  refine g_istore_n dH_sought_3 (by decide) rfl rfl ?_
  dsimp only [List.set]
  refine g_iconst (v := 0) dH_sought_4 (by decide) ?_
  refine g_istore_n dH_sought_5 (by decide) rfl rfl ?_
  dsimp only [List.set]
  exact lH_sought hh hn h8 (n + 1) 0 (by omega) (by omega)

set_option maxRecDepth 4000 in
theorem lH_mostAfraid {l : Launch} {g : GG} {h : Nat} {w : Wd} {A : HA} (hh : isH h) {n : Nat} (hn : A.1 6 = nI n) (h8 : n ≤ 8)  : ∀ (m : Nat) (i : Nat), n - i < m → i ≤ n → Go l g H_mostAfraid 6 [some (.ref (g.1 h)), some (.int (maF A.2.2.2.1 i).1), some (.int (maF A.2.2.2.1 i).2), some (.int (nI i))] [] (hput h A w) (Is (some (.int ((maF A.2.2.2.1 n).1))) (hput h A w)) := by
  intro m
  induction m with
  | zero => intro i hm hi; omega
  | succ m ih =>
    intro i hm hi
    refine g_iload_n dH_mostAfraid_6 rfl ?_
    refine g_aload_n dH_mostAfraid_7 rfl ?_
    refine g_hI dH_mostAfraid_8 fH_30 hh rfl ?_
    refine g_icmp_ge dH_mostAfraid_11 rfl (fun h11 => ?_) (fun h11 => ?_)
    · rw [hn, nI_leI (by omega) (by omega)] at h11
      refine g_iload_n dH_mostAfraid_39 rfl ?_
      refine g_iret dH_mostAfraid_40 rfl rfl ?_
      exact ⟨by rw [show i = n by omega], rfl⟩
    · rw [hn, nI_leI (by omega) (by omega)] at h11
      refine g_aload_n dH_mostAfraid_14 rfl ?_
      refine g_getR2 (k2 := h + 3) dH_mostAfraid_15 fH_40 hh.o rfl (by decide) rfl ?_
      refine g_iload_n dH_mostAfraid_18 rfl ?_
      refine g_ldF dH_mostAfraid_19 hh (by omega) ?_
      refine g_iload_n dH_mostAfraid_20 rfl ?_
      refine g_icmp_le dH_mostAfraid_21 rfl (fun h21 => ?_) (fun h21 => ?_)
      · rw [show maF A.2.2.2.1 i = maF A.2.2.2.1 (i + 1) from (if_neg (Int32.not_lt.mpr h21)).symm]
        refine g_iinc (v := nI (i + 1)) dH_mostAfraid_33 rfl (nI_succ i).symm (by decide) rfl rfl ?_
        dsimp only [List.set]
        refine g_goto dH_mostAfraid_36 rfl ?_
        exact ih (i + 1) (by omega) (by omega)
      · refine g_aload_n dH_mostAfraid_24 rfl ?_
        refine g_getR2 (k2 := h + 3) dH_mostAfraid_25 fH_40 hh.o rfl (by decide) rfl ?_
        refine g_iload_n dH_mostAfraid_28 rfl ?_
        refine g_ldF dH_mostAfraid_29 hh (by omega) ?_
        refine g_istore_n dH_mostAfraid_30 (by decide) rfl rfl ?_
        dsimp only [List.set]
        refine g_iload_n dH_mostAfraid_31 rfl ?_
        refine g_istore_n dH_mostAfraid_32 (by decide) rfl rfl ?_
        dsimp only [List.set]
        have e9 : maF A.2.2.2.1 (i + 1) = (nI i, A.2.2.2.1 i) := if_pos (Int32.not_le.mp h21)
        refine g_lv (lv1 := [some (.ref (g.1 h)), some (.int (maF A.2.2.2.1 (i + 1)).1), some (.int (maF A.2.2.2.1 (i + 1)).2), some (.int (nI i))]) (by rw [e9]) ?_
        refine g_iinc (v := nI (i + 1)) dH_mostAfraid_33 rfl (nI_succ i).symm (by decide) rfl rfl ?_
        dsimp only [List.set]
        refine g_goto dH_mostAfraid_36 rfl ?_
        exact ih (i + 1) (by omega) (by omega)

set_option maxRecDepth 4000 in
theorem cH_mostAfraid {l : Launch} {g : GG} {h : Nat} {w : Wd} {A : HA} (hh : isH h) {n : Nat} (hn : A.1 6 = nI n) (h8 : n ≤ 8)  : Res l g H_mostAfraid [.ref (g.1 h)] (hput h A w) (Is (some (.int ((maF A.2.2.2.1 n).1))) (hput h A w)) := by
  refine Res.of (by decide) (by simp [Value.category]) (Nat.le_of_ble_eq_true rfl) rfl ?_
  show Go l g H_mostAfraid 0 [some (.ref (g.1 h)), none, none, none] [] (hput h A w) _
  refine g_iconst (v := (-1)) dH_mostAfraid_0 (by decide) ?_
  refine g_istore_n dH_mostAfraid_1 (by decide) rfl rfl ?_
  dsimp only [List.set]
  refine g_iconst (v := (-1)) dH_mostAfraid_2 (by decide) ?_
  refine g_istore_n dH_mostAfraid_3 (by decide) rfl rfl ?_
  dsimp only [List.set]
  refine g_iconst (v := 0) dH_mostAfraid_4 (by decide) ?_
  refine g_istore_n dH_mostAfraid_5 (by decide) rfl rfl ?_
  dsimp only [List.set]
  exact lH_mostAfraid hh hn h8 (n + 1) 0 (by omega) (by omega)

set_option maxRecDepth 4000 in
theorem lH_cellsOut {l : Launch} {g : GG} {h : Nat} {w : Wd} {A : HA} (hh : isH h) {j : Nat} (hj : j < 8) : ∀ (m : Nat) (i : Nat), 16 - i < m → i ≤ 16 → Go l g H_cellsOutOfReachOf 4 [some (.ref (g.1 h)), some (.int (nI j)), some (.int (outF (A.2.2.1 j) i)), some (.int (nI i))] [] (hput h A w) (Is (some (.int (outF (A.2.2.1 j) 16))) (hput h A w)) := by
  intro m
  induction m with
  | zero => intro i hm hi; omega
  | succ m ih =>
    intro i hm hi
    refine g_iload_n dH_cellsOutOfReachOf_4 rfl ?_
    refine g_bipush (v := 16) dH_cellsOutOfReachOf_5 (by decide) ?_
    refine g_icmp_ge dH_cellsOutOfReachOf_7 rfl (fun h7 => ?_) (fun h7 => ?_)
    · rw [show (16 : Int32) = nI 16 from rfl, nI_leI (by omega) (by omega)] at h7
      refine g_iload_n dH_cellsOutOfReachOf_33 rfl ?_
      refine g_iret dH_cellsOutOfReachOf_34 rfl rfl ?_
      exact ⟨by rw [show i = 16 by omega], rfl⟩
    · rw [show (16 : Int32) = nI 16 from rfl, nI_leI (by omega) (by omega)] at h7
      refine g_iload_n dH_cellsOutOfReachOf_10 rfl ?_
      refine g_aload_n dH_cellsOutOfReachOf_11 rfl ?_
      refine g_getR2 (k2 := h + 2) dH_cellsOutOfReachOf_12 fH_37 hh.o rfl (by decide) rfl ?_
      refine g_iload_n dH_cellsOutOfReachOf_15 rfl ?_
      refine g_ldC dH_cellsOutOfReachOf_16 hh (by omega) ?_
      refine gN2 dH_cellsOutOfReachOf_17 kH_cellsOutOfReachOf_79 cS_distance (Nat.le_of_ble_eq_true rfl) ?_
      refine g_iconst (v := 2) dH_cellsOutOfReachOf_20 (by decide) ?_
      refine g_icmp_le dH_cellsOutOfReachOf_21 rfl (fun h21 => ?_) (fun h21 => ?_)
      · rw [show outF (A.2.2.1 j) i = outF (A.2.2.1 j) (i + 1) from (if_pos h21).symm]
        refine g_iinc (v := nI (i + 1)) dH_cellsOutOfReachOf_27 rfl (nI_succ i).symm (by decide) rfl rfl ?_
        dsimp only [List.set]
        refine g_goto dH_cellsOutOfReachOf_30 rfl ?_
        exact ih (i + 1) (by omega) (by omega)
      · refine g_iinc (v := outF (A.2.2.1 j) (i + 1)) dH_cellsOutOfReachOf_24 rfl (if_neg h21).symm (by decide) rfl rfl ?_
        dsimp only [List.set]
        refine g_iinc (v := nI (i + 1)) dH_cellsOutOfReachOf_27 rfl (nI_succ i).symm (by decide) rfl rfl ?_
        dsimp only [List.set]
        refine g_goto dH_cellsOutOfReachOf_30 rfl ?_
        exact ih (i + 1) (by omega) (by omega)

set_option maxRecDepth 4000 in
theorem cH_cellsOutOfReachOf {l : Launch} {g : GG} {h : Nat} {w : Wd} {A : HA} (hh : isH h) {j : Nat} (hj : j < 8) : Res l g H_cellsOutOfReachOf [.ref (g.1 h), .int (nI j)] (hput h A w) (Is (some (.int (outF (A.2.2.1 j) 16))) (hput h A w)) := by
  refine Res.of (by decide) (by simp [Value.category]) (Nat.le_of_ble_eq_true rfl) rfl ?_
  show Go l g H_cellsOutOfReachOf 0 [some (.ref (g.1 h)), some (.int (nI j)), none, none] [] (hput h A w) _
  refine g_iconst (v := 0) dH_cellsOutOfReachOf_0 (by decide) ?_
  refine g_istore_n dH_cellsOutOfReachOf_1 (by decide) rfl rfl ?_
  dsimp only [List.set]
  refine g_iconst (v := 0) dH_cellsOutOfReachOf_2 (by decide) ?_
  refine g_istore_n dH_cellsOutOfReachOf_3 (by decide) rfl rfl ?_
  dsimp only [List.set]
  exact lH_cellsOut hh hj 17 0 (by omega) (by omega)

set_option maxRecDepth 4000 in
theorem cH_hasCompany {l : Launch} {g : GG} {h : Nat} {w : Wd} {A : HA} (hh : isH h) {n : Nat} (hn : A.1 6 = nI n) (h8 : n ≤ 8) {j : Nat} (hj : j < 8) : Res l g H_hasCompany [.ref (g.1 h), .int (nI j)] (hput h A w) (Is (some (.int (bI (¬ setF A.2.2.1 (A.2.2.1 j) n = bitI j)))) (hput h A w)) := by
  refine Res.of (by decide) (by simp [Value.category]) (Nat.le_of_ble_eq_true rfl) rfl ?_
  show Go l g H_hasCompany 0 [some (.ref (g.1 h)), some (.int (nI j))] [] (hput h A w) _
  refine g_aload_n dH_hasCompany_0 rfl ?_
  refine g_aload_n dH_hasCompany_1 rfl ?_
  refine g_getR2 (k2 := h + 2) dH_hasCompany_2 fH_37 hh.o rfl (by decide) rfl ?_
  refine g_iload_n dH_hasCompany_5 rfl ?_
  refine g_ldC dH_hasCompany_6 hh (by omega) ?_
  refine gV1 dH_hasCompany_7 kH_hasCompany_83 hh.o rfl (cH_sheepAt hh hn h8) (Nat.le_of_ble_eq_true rfl) ?_
  refine g_iconst (v := 1) dH_hasCompany_10 (by decide) ?_
  refine g_iload_n dH_hasCompany_11 rfl ?_
  refine g_ishl dH_hasCompany_12 ?_
  refine g_icmp_eq dH_hasCompany_13 rfl (fun h13 => ?_) (fun h13 => ?_)
  · refine g_iconst (v := 0) dH_hasCompany_20 (by decide) ?_
    refine g_iret dH_hasCompany_21 rfl (by first | rfl | exact bI_n) ?_
    exact ⟨by first | exact congrArg (fun z => some (Value.int z)) (bI_f (fun z => z h13)).symm | exact congrArg (fun z => some (Value.int z)) (bI_t h13).symm, rfl⟩
  · refine g_iconst (v := 1) dH_hasCompany_16 (by decide) ?_
    refine g_goto dH_hasCompany_17 rfl ?_
    refine g_iret dH_hasCompany_21 rfl (by first | rfl | exact bI_n) ?_
    exact ⟨by first | exact congrArg (fun z => some (Value.int z)) (bI_f (fun z => z h13)).symm | exact congrArg (fun z => some (Value.int z)) (bI_t h13).symm, rfl⟩

set_option maxRecDepth 4000 in
theorem cH_strays {l : Launch} {g : GG} {h : Nat} {w : Wd} {A : HA} (hh : isH h) {n : Nat} (hn : A.1 6 = nI n) (h8 : n ≤ 8) {j : Nat} (hj : j < 8) : Res l g H_strays [.ref (g.1 h), .int (nI j)] (hput h A w) (Is (some (.int (straysF A n j))) (hput h A w)) := by
  refine Res.of (by decide) (by simp [Value.category]) (Nat.le_of_ble_eq_true rfl) rfl ?_
  show Go l g H_strays 0 [some (.ref (g.1 h)), some (.int (nI j))] [] (hput h A w) _
  refine g_aload_n dH_strays_0 rfl ?_
  refine g_getR2 (k2 := h + 1) dH_strays_1 fH_33 hh.o rfl (by decide) rfl ?_
  refine g_iload_n dH_strays_4 rfl ?_
  refine g_ldK dH_strays_5 hh (by omega) ?_
  refine g_split (1) (fun z1 => ?_) (fun z1 => ?_)
  · refine g_tabIn dH_strays_6 (by decide) (by decide) rfl rfl ?_
    refine g_aload_n dH_strays_44 rfl ?_
    refine g_iload_n dH_strays_45 rfl ?_
    refine gV1 dH_strays_46 kH_strays_86 hh.o rfl (cH_straysAsRam hh hj) (Nat.le_of_ble_eq_true rfl) ?_
    refine g_iret dH_strays_49 rfl rfl ?_
    exact ⟨by simp_all [straysF, bI_0], rfl⟩
  refine g_split (2) (fun z2 => ?_) (fun z2 => ?_)
  · refine g_tabIn dH_strays_6 (by decide) (by decide) rfl rfl ?_
    refine g_aload_n dH_strays_50 rfl ?_
    refine g_iload_n dH_strays_51 rfl ?_
    refine gV1 dH_strays_52 kH_strays_89 hh.o rfl (cH_straysAsEwe hh hj) (Nat.le_of_ble_eq_true rfl) ?_
    refine g_iret dH_strays_55 rfl rfl ?_
    exact ⟨by simp_all [straysF, bI_0], rfl⟩
  refine g_split (3) (fun z3 => ?_) (fun z3 => ?_)
  · refine g_tabIn dH_strays_6 (by decide) (by decide) rfl rfl ?_
    refine g_iconst (v := 2) dH_strays_56 (by decide) ?_
    refine g_aload_n dH_strays_57 rfl ?_
    refine g_iload_n dH_strays_58 rfl ?_
    refine gV1 dH_strays_59 kH_strays_89 hh.o rfl (cH_straysAsEwe hh hj) (Nat.le_of_ble_eq_true rfl) ?_
    refine g_imul dH_strays_62 ?_
    refine g_iret dH_strays_63 rfl rfl ?_
    exact ⟨by simp_all [straysF, bI_0], rfl⟩
  refine g_split (4) (fun z4 => ?_) (fun z4 => ?_)
  · refine g_tabIn dH_strays_6 (by decide) (by decide) rfl rfl ?_
    refine g_aload_n dH_strays_64 rfl ?_
    refine g_iload_n dH_strays_65 rfl ?_
    refine gV1 dH_strays_66 kH_strays_92 hh.o rfl (cH_hasCompany hh hn h8 hj) (Nat.le_of_ble_eq_true rfl) ?_
    refine g_if_eq dH_strays_69 rfl (fun h69 => ?_) (fun h69 => ?_)
    · rw [bI_0] at h69
      refine g_iconst (v := 2) dH_strays_76 (by decide) ?_
      refine g_aload_n dH_strays_77 rfl ?_
      refine g_iload_n dH_strays_78 rfl ?_
      refine gV1 dH_strays_79 kH_strays_89 hh.o rfl (cH_straysAsEwe hh hj) (Nat.le_of_ble_eq_true rfl) ?_
      refine g_imul dH_strays_82 ?_
      refine g_iret dH_strays_83 rfl rfl ?_
      exact ⟨by simp_all [straysF, bI_0], rfl⟩
    · rw [bI_0] at h69
      refine g_iconst (v := 0) dH_strays_72 (by decide) ?_
      refine g_goto dH_strays_73 rfl ?_
      refine g_iret dH_strays_83 rfl rfl ?_
      exact ⟨by simp_all [straysF, bI_0], rfl⟩
  refine g_split (5) (fun z5 => ?_) (fun z5 => ?_)
  · refine g_tabIn dH_strays_6 (by decide) (by decide) rfl rfl ?_
    refine g_iconst (v := 2) dH_strays_84 (by decide) ?_
    refine g_iret dH_strays_85 rfl rfl ?_
    exact ⟨by simp_all [straysF, bI_0], rfl⟩
  refine g_split (6) (fun z6 => ?_) (fun z6 => ?_)
  · refine g_tabIn dH_strays_6 (by decide) (by decide) rfl rfl ?_
    refine g_aload_n dH_strays_86 rfl ?_
    refine g_iload_n dH_strays_87 rfl ?_
    refine gV1 dH_strays_88 kH_strays_86 hh.o rfl (cH_straysAsRam hh hj) (Nat.le_of_ble_eq_true rfl) ?_
    refine g_iconst (v := 1) dH_strays_91 (by decide) ?_
    refine g_isub dH_strays_92 ?_
    refine g_iret dH_strays_93 rfl rfl ?_
    exact ⟨by simp_all [straysF, bI_0], rfl⟩
  refine g_tabOut dH_strays_6 (by have q0 := lv_neT z1 (a := 1) rfl; have q1 := lv_neT z2 (a := 2) rfl; have q2 := lv_neT z3 (a := 3) rfl; have q3 := lv_neT z4 (a := 4) rfl; have q4 := lv_neT z5 (a := 5) rfl; have q5 := lv_neT z6 (a := 6) rfl; omega) rfl ?_
  refine g_aload_n dH_strays_94 rfl ?_
  refine gV0 dH_strays_95 kH_strays_95 hh.o rfl (cH_straysAsSheep hh) (Nat.le_of_ble_eq_true rfl) ?_
  refine g_iret dH_strays_98 rfl rfl ?_
  exact ⟨by simp_all [straysF, bI_0], rfl⟩

set_option maxRecDepth 4000 in
theorem cH_strayedFrom {l : Launch} {g : GG} {h : Nat} {w : Wd} {A : HA} (hh : isH h) {p s : Int32} : Res l g H_strayedFrom [.ref (g.1 h), .int p, .int s] (hput h A w) (Is (some (.int (sfF (A.1 0) p s))) (hput h A w)) := by
  refine Res.of (by decide) (by simp [Value.category]) (Nat.le_of_ble_eq_true rfl) rfl ?_
  show Go l g H_strayedFrom 0 [some (.ref (g.1 h)), some (.int p), some (.int s), none] [] (hput h A w) _
  refine g_iload_n dH_strayedFrom_0 rfl ?_
  refine g_if_ge dH_strayedFrom_1 rfl (fun h1 => ?_) (fun h1 => ?_)
  · refine g_iload_n dH_strayedFrom_15 rfl ?_
    refine g_aload_n dH_strayedFrom_16 rfl ?_
    refine g_hI dH_strayedFrom_17 fH_9 hh rfl ?_
    refine g_icmp_gt dH_strayedFrom_20 rfl (fun h20 => ?_) (fun h20 => ?_)
    · refine g_iconst (v := 1) dH_strayedFrom_40 (by decide) ?_
      refine g_goto dH_strayedFrom_41 rfl ?_
      refine g_istore_n dH_strayedFrom_45 (by decide) rfl rfl ?_
      dsimp only [List.set]
      refine g_iload_n dH_strayedFrom_46 rfl ?_
      refine g_if_eq dH_strayedFrom_47 rfl (fun h47 => ?_) (fun h47 => ?_)
      · refine g_iload_n dH_strayedFrom_61 rfl ?_
        refine g_iload_n dH_strayedFrom_62 rfl ?_
        refine g_isub dH_strayedFrom_63 ?_
        refine g_iconst (v := 0) dH_strayedFrom_64 (by decide) ?_
        refine g_max dH_strayedFrom_65 lH_128 (by decide) (Nat.le_of_ble_eq_true rfl) ?_
        refine g_iret dH_strayedFrom_68 rfl rfl ?_
        exact ⟨by grind [sfF], rfl⟩
      · refine g_iload_n dH_strayedFrom_50 rfl ?_
        refine g_iload_n dH_strayedFrom_51 rfl ?_
        refine g_iadd dH_strayedFrom_52 ?_
        refine g_bipush (v := 15) dH_strayedFrom_53 (by decide) ?_
        refine g_min dH_strayedFrom_55 lH_116 (by decide) (Nat.le_of_ble_eq_true rfl) ?_
        refine g_goto dH_strayedFrom_58 rfl ?_
        refine g_iret dH_strayedFrom_68 rfl rfl ?_
        exact ⟨by grind [sfF], rfl⟩
    · refine g_iload_n dH_strayedFrom_23 rfl ?_
      refine g_aload_n dH_strayedFrom_24 rfl ?_
      refine g_hI dH_strayedFrom_25 fH_9 hh rfl ?_
      refine g_icmp_ne dH_strayedFrom_28 rfl (fun h28 => ?_) (fun h28 => ?_)
      · refine g_iconst (v := 0) dH_strayedFrom_44 (by decide) ?_
        refine g_istore_n dH_strayedFrom_45 (by decide) rfl rfl ?_
        dsimp only [List.set]
        refine g_iload_n dH_strayedFrom_46 rfl ?_
        refine g_if_eq dH_strayedFrom_47 rfl (fun h47 => ?_) (fun h47 => ?_)
        · refine g_iload_n dH_strayedFrom_61 rfl ?_
          refine g_iload_n dH_strayedFrom_62 rfl ?_
          refine g_isub dH_strayedFrom_63 ?_
          refine g_iconst (v := 0) dH_strayedFrom_64 (by decide) ?_
          refine g_max dH_strayedFrom_65 lH_128 (by decide) (Nat.le_of_ble_eq_true rfl) ?_
          refine g_iret dH_strayedFrom_68 rfl rfl ?_
          exact ⟨by grind [sfF], rfl⟩
        · refine g_iload_n dH_strayedFrom_50 rfl ?_
          refine g_iload_n dH_strayedFrom_51 rfl ?_
          refine g_iadd dH_strayedFrom_52 ?_
          refine g_bipush (v := 15) dH_strayedFrom_53 (by decide) ?_
          refine g_min dH_strayedFrom_55 lH_116 (by decide) (Nat.le_of_ble_eq_true rfl) ?_
          refine g_goto dH_strayedFrom_58 rfl ?_
          refine g_iret dH_strayedFrom_68 rfl rfl ?_
          exact ⟨by grind [sfF], rfl⟩
      · refine g_aload_n dH_strayedFrom_31 rfl ?_
        refine g_hI dH_strayedFrom_32 fH_9 hh rfl ?_
        refine g_bipush (v := 15) dH_strayedFrom_35 (by decide) ?_
        refine g_icmp_ge dH_strayedFrom_37 rfl (fun h37 => ?_) (fun h37 => ?_)
        · refine g_iconst (v := 0) dH_strayedFrom_44 (by decide) ?_
          refine g_istore_n dH_strayedFrom_45 (by decide) rfl rfl ?_
          dsimp only [List.set]
          refine g_iload_n dH_strayedFrom_46 rfl ?_
          refine g_if_eq dH_strayedFrom_47 rfl (fun h47 => ?_) (fun h47 => ?_)
          · refine g_iload_n dH_strayedFrom_61 rfl ?_
            refine g_iload_n dH_strayedFrom_62 rfl ?_
            refine g_isub dH_strayedFrom_63 ?_
            refine g_iconst (v := 0) dH_strayedFrom_64 (by decide) ?_
            refine g_max dH_strayedFrom_65 lH_128 (by decide) (Nat.le_of_ble_eq_true rfl) ?_
            refine g_iret dH_strayedFrom_68 rfl rfl ?_
            exact ⟨by grind [sfF], rfl⟩
          · refine g_iload_n dH_strayedFrom_50 rfl ?_
            refine g_iload_n dH_strayedFrom_51 rfl ?_
            refine g_iadd dH_strayedFrom_52 ?_
            refine g_bipush (v := 15) dH_strayedFrom_53 (by decide) ?_
            refine g_min dH_strayedFrom_55 lH_116 (by decide) (Nat.le_of_ble_eq_true rfl) ?_
            refine g_goto dH_strayedFrom_58 rfl ?_
            refine g_iret dH_strayedFrom_68 rfl rfl ?_
            exact ⟨by grind [sfF], rfl⟩
        · refine g_iconst (v := 1) dH_strayedFrom_40 (by decide) ?_
          refine g_goto dH_strayedFrom_41 rfl ?_
          refine g_istore_n dH_strayedFrom_45 (by decide) rfl rfl ?_
          dsimp only [List.set]
          refine g_iload_n dH_strayedFrom_46 rfl ?_
          refine g_if_eq dH_strayedFrom_47 rfl (fun h47 => ?_) (fun h47 => ?_)
          · refine g_iload_n dH_strayedFrom_61 rfl ?_
            refine g_iload_n dH_strayedFrom_62 rfl ?_
            refine g_isub dH_strayedFrom_63 ?_
            refine g_iconst (v := 0) dH_strayedFrom_64 (by decide) ?_
            refine g_max dH_strayedFrom_65 lH_128 (by decide) (Nat.le_of_ble_eq_true rfl) ?_
            refine g_iret dH_strayedFrom_68 rfl rfl ?_
            exact ⟨by grind [sfF], rfl⟩
          · refine g_iload_n dH_strayedFrom_50 rfl ?_
            refine g_iload_n dH_strayedFrom_51 rfl ?_
            refine g_iadd dH_strayedFrom_52 ?_
            refine g_bipush (v := 15) dH_strayedFrom_53 (by decide) ?_
            refine g_min dH_strayedFrom_55 lH_116 (by decide) (Nat.le_of_ble_eq_true rfl) ?_
            refine g_goto dH_strayedFrom_58 rfl ?_
            refine g_iret dH_strayedFrom_68 rfl rfl ?_
            exact ⟨by grind [sfF], rfl⟩
  · refine g_iload_n dH_strayedFrom_4 rfl ?_
    refine g_aload_n dH_strayedFrom_5 rfl ?_
    refine g_hI dH_strayedFrom_6 fH_9 hh rfl ?_
    refine g_iload_n dH_strayedFrom_9 rfl ?_
    refine g_ineg dH_strayedFrom_10 ?_
    refine gN3 dH_strayedFrom_11 kH_strayedFrom_124 cS_towards (Nat.le_of_ble_eq_true rfl) ?_
    refine g_iret dH_strayedFrom_14 rfl rfl ?_
    exact ⟨by grind [sfF], rfl⟩
