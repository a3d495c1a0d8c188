set_option maxRecDepth 4000 in
theorem cS_isWithin {l : Launch} {g : GG} {v a b : Int32} {w : Wd} : Res l g S_isWithin [.int v, .int a, .int b] w (Is (some (.int (bI (a ≤ v ∧ v ≤ b)))) w) := by
  refine Res.of (by decide) (by simp [Value.category]) (Nat.le_of_ble_eq_true rfl) rfl ?_
  show Go l g S_isWithin 0 [some (.int v), some (.int a), some (.int b)] [] w _
  refine g_iload_n dS_isWithin_0 rfl ?_
  refine g_iload_n dS_isWithin_1 rfl ?_
  refine g_icmp_lt dS_isWithin_2 rfl (fun h2 => ?_) (fun h2 => ?_)
  · refine g_iconst (v := 0) dS_isWithin_14 (by decide) ?_
    refine g_iret dS_isWithin_15 rfl (by first | rfl | exact bI_n) ?_
    exact ⟨by grind [bI], rfl⟩
  · refine g_iload_n dS_isWithin_5 rfl ?_
    refine g_iload_n dS_isWithin_6 rfl ?_
    refine g_icmp_gt dS_isWithin_7 rfl (fun h7 => ?_) (fun h7 => ?_)
    · refine g_iconst (v := 0) dS_isWithin_14 (by decide) ?_
      refine g_iret dS_isWithin_15 rfl (by first | rfl | exact bI_n) ?_
      exact ⟨by grind [bI], rfl⟩
    · refine g_iconst (v := 1) dS_isWithin_10 (by decide) ?_
      refine g_goto dS_isWithin_11 rfl ?_
      refine g_iret dS_isWithin_15 rfl (by first | rfl | exact bI_n) ?_
      exact ⟨by grind [bI], rfl⟩

set_option maxRecDepth 4000 in
theorem cS_isCell {l : Launch} {g : GG} {v : Int32} {w : Wd} : Res l g S_isCell [.int v] w (Is (some (.int (bI (0 ≤ v ∧ v ≤ 15)))) w) := by
  refine Res.of (by decide) (by simp [Value.category]) (Nat.le_of_ble_eq_true rfl) rfl ?_
  show Go l g S_isCell 0 [some (.int v)] [] w _
  refine g_iload_n dS_isCell_0 rfl ?_
  refine g_iconst (v := 0) dS_isCell_1 (by decide) ?_
  refine g_bipush (v := 15) dS_isCell_2 (by decide) ?_
  refine gS3 dS_isCell_4 kS_isCell_81 cS_isWithin (Nat.le_of_ble_eq_true rfl) ?_
  refine g_iret dS_isCell_7 rfl (by first | rfl | exact bI_n) ?_
  exact ⟨rfl, rfl⟩

set_option maxRecDepth 4000 in
theorem cS_isKind {l : Launch} {g : GG} {v : Int32} {w : Wd} : Res l g S_isKind [.int v] w (Is (some (.int (bI (0 ≤ v ∧ v ≤ 6)))) w) := by
  refine Res.of (by decide) (by simp [Value.category]) (Nat.le_of_ble_eq_true rfl) rfl ?_
  show Go l g S_isKind 0 [some (.int v)] [] w _
  refine g_iload_n dS_isKind_0 rfl ?_
  refine g_iconst (v := 0) dS_isKind_1 (by decide) ?_
  refine g_bipush (v := 6) dS_isKind_2 (by decide) ?_
  refine gS3 dS_isKind_4 kS_isKind_81 cS_isWithin (Nat.le_of_ble_eq_true rfl) ?_
  refine g_iret dS_isKind_7 rfl (by first | rfl | exact bI_n) ?_
  exact ⟨rfl, rfl⟩

set_option maxRecDepth 4000 in
theorem cS_isSpot {l : Launch} {g : GG} {v : Int32} {w : Wd} : Res l g S_isSpot [.int v] w (Is (some (.int (bI (0 ≤ v ∧ v ≤ 9)))) w) := by
  refine Res.of (by decide) (by simp [Value.category]) (Nat.le_of_ble_eq_true rfl) rfl ?_
  show Go l g S_isSpot 0 [some (.int v)] [] w _
  refine g_iload_n dS_isSpot_0 rfl ?_
  refine g_iconst (v := 0) dS_isSpot_1 (by decide) ?_
  refine g_bipush (v := 9) dS_isSpot_2 (by decide) ?_
  refine gS3 dS_isSpot_4 kS_isSpot_81 cS_isWithin (Nat.le_of_ble_eq_true rfl) ?_
  refine g_iret dS_isSpot_7 rfl (by first | rfl | exact bI_n) ?_
  exact ⟨rfl, rfl⟩

set_option maxRecDepth 4000 in
theorem cS_isSheet {l : Launch} {g : GG} {v : Int32} {w : Wd} : Res l g S_isSheet [.int v] w (Is (some (.int (bI (0 ≤ v ∧ v ≤ 3)))) w) := by
  refine Res.of (by decide) (by simp [Value.category]) (Nat.le_of_ble_eq_true rfl) rfl ?_
  show Go l g S_isSheet 0 [some (.int v)] [] w _
  refine g_iload_n dS_isSheet_0 rfl ?_
  refine g_iconst (v := 0) dS_isSheet_1 (by decide) ?_
  refine g_iconst (v := 3) dS_isSheet_2 (by decide) ?_
  refine gS3 dS_isSheet_3 kS_isSheet_81 cS_isWithin (Nat.le_of_ble_eq_true rfl) ?_
  refine g_iret dS_isSheet_6 rfl (by first | rfl | exact bI_n) ?_
  exact ⟨rfl, rfl⟩

set_option maxRecDepth 4000 in
theorem cS_distance {l : Launch} {g : GG} {a b : Int32} {w : Wd} : Res l g S_distance [.int a, .int b] w (Is (some (.int (dist a b))) w) := by
  refine Res.of (by decide) (by simp [Value.category]) (Nat.le_of_ble_eq_true rfl) rfl ?_
  show Go l g S_distance 0 [some (.int a), some (.int b)] [] w _
  refine g_iload_n dS_distance_0 rfl ?_
  refine g_iload_n dS_distance_1 rfl ?_
  refine g_icmp_ge dS_distance_2 rfl (fun h2 => ?_) (fun h2 => ?_)
  · refine g_iload_n dS_distance_11 rfl ?_
    refine g_iload_n dS_distance_12 rfl ?_
    refine g_isub dS_distance_13 ?_
    refine g_iret dS_distance_14 rfl rfl ?_
    exact ⟨by grind [dist], rfl⟩
  · refine g_iload_n dS_distance_5 rfl ?_
    refine g_iload_n dS_distance_6 rfl ?_
    refine g_isub dS_distance_7 ?_
    refine g_goto dS_distance_8 rfl ?_
    refine g_iret dS_distance_14 rfl rfl ?_
    exact ⟨by grind [dist], rfl⟩

set_option maxRecDepth 4000 in
theorem cS_towards {l : Launch} {g : GG} {a b s : Int32} {w : Wd} : Res l g S_towards [.int a, .int b, .int s] w (Is (some (.int (tow a b s))) w) := by
  refine Res.of (by decide) (by simp [Value.category]) (Nat.le_of_ble_eq_true rfl) rfl ?_
  show Go l g S_towards 0 [some (.int a), some (.int b), some (.int s)] [] w _
  refine g_iload_n dS_towards_0 rfl ?_
  refine g_iload_n dS_towards_1 rfl ?_
  refine g_icmp_ge dS_towards_2 rfl (fun h2 => ?_) (fun h2 => ?_)
  · refine g_iload_n dS_towards_15 rfl ?_
    refine g_iload_n dS_towards_16 rfl ?_
    refine g_isub dS_towards_17 ?_
    refine g_iload_n dS_towards_18 rfl ?_
    refine g_max dS_towards_19 lS_262 (by decide) (Nat.le_of_ble_eq_true rfl) ?_
    refine g_iret dS_towards_22 rfl rfl ?_
    exact ⟨by grind [tow], rfl⟩
  · refine g_iload_n dS_towards_5 rfl ?_
    refine g_iload_n dS_towards_6 rfl ?_
    refine g_iadd dS_towards_7 ?_
    refine g_iload_n dS_towards_8 rfl ?_
    refine g_min dS_towards_9 lS_257 (by decide) (Nat.le_of_ble_eq_true rfl) ?_
    refine g_goto dS_towards_12 rfl ?_
    refine g_iret dS_towards_22 rfl rfl ?_
    exact ⟨by grind [tow], rfl⟩

set_option maxRecDepth 4000 in
theorem cS_fearsOf {l : Launch} {g : GG} {k : Int32} {w : Wd} : Res l g S_fearsOf [.int k] w (Is (some (.int (fearsK k))) w) := by
  refine Res.of (by decide) (by simp [Value.category]) (Nat.le_of_ble_eq_true rfl) rfl ?_
  show Go l g S_fearsOf 0 [some (.int k)] [] w _
  refine g_iload_n dS_fearsOf_0 rfl ?_
  refine g_split (1) (fun z1 => ?_) (fun z1 => ?_)
  · refine g_tabIn dS_fearsOf_1 (by decide) (by decide) rfl rfl ?_
    refine g_iconst (v := 5) dS_fearsOf_40 (by decide) ?_
    refine g_iret dS_fearsOf_41 rfl rfl ?_
    exact ⟨by simp_all [fearsK], rfl⟩
  refine g_split (2) (fun z2 => ?_) (fun z2 => ?_)
  · refine g_tabIn dS_fearsOf_1 (by decide) (by decide) rfl rfl ?_
    refine g_bipush (v := 20) dS_fearsOf_42 (by decide) ?_
    refine g_iret dS_fearsOf_44 rfl rfl ?_
    exact ⟨by simp_all [fearsK], rfl⟩
  refine g_split (3) (fun z3 => ?_) (fun z3 => ?_)
  · refine g_tabIn dS_fearsOf_1 (by decide) (by decide) rfl rfl ?_
    refine g_bipush (v := 25) dS_fearsOf_45 (by decide) ?_
    refine g_iret dS_fearsOf_47 rfl rfl ?_
    exact ⟨by simp_all [fearsK], rfl⟩
  refine g_split (4) (fun z4 => ?_) (fun z4 => ?_)
  · refine g_tabIn dS_fearsOf_1 (by decide) (by decide) rfl rfl ?_
    refine g_bipush (v := 25) dS_fearsOf_45 (by decide) ?_
    refine g_iret dS_fearsOf_47 rfl rfl ?_
    exact ⟨by simp_all [fearsK], rfl⟩
  refine g_split (5) (fun z5 => ?_) (fun z5 => ?_)
  · refine g_tabIn dS_fearsOf_1 (by decide) (by decide) rfl rfl ?_
    refine g_iconst (v := 0) dS_fearsOf_48 (by decide) ?_
    refine g_iret dS_fearsOf_49 rfl rfl ?_
    exact ⟨by simp_all [fearsK], rfl⟩
  refine g_split (6) (fun z6 => ?_) (fun z6 => ?_)
  · refine g_tabIn dS_fearsOf_1 (by decide) (by decide) rfl rfl ?_
    refine g_iconst (v := 0) dS_fearsOf_48 (by decide) ?_
    refine g_iret dS_fearsOf_49 rfl rfl ?_
    exact ⟨by simp_all [fearsK], rfl⟩
  refine g_tabOut dS_fearsOf_1 (by have q0 := lv_neT z1 (a := 1) rfl; have q1 := lv_neT z2 (a := 2) rfl; have q2 := lv_neT z3 (a := 3) rfl; have q3 := lv_neT z4 (a := 4) rfl; have q4 := lv_neT z5 (a := 5) rfl; have q5 := lv_neT z6 (a := 6) rfl; omega) rfl ?_
  refine g_bipush (v := 10) dS_fearsOf_50 (by decide) ?_
  refine g_iret dS_fearsOf_52 rfl rfl ?_
  exact ⟨by simp_all [fearsK], rfl⟩

set_option maxRecDepth 4000 in
theorem cS_calmsOf {l : Launch} {g : GG} {k : Int32} {w : Wd} : Res l g S_calmsOf [.int k] w (Is (some (.int (calmsK k))) w) := by
  refine Res.of (by decide) (by simp [Value.category]) (Nat.le_of_ble_eq_true rfl) rfl ?_
  show Go l g S_calmsOf 0 [some (.int k)] [] w _
  refine g_iload_n dS_calmsOf_0 rfl ?_
  refine g_split (1) (fun z1 => ?_) (fun z1 => ?_)
  · refine g_lookup dS_calmsOf_1 rfl rfl rfl ?_
    refine g_iconst (v := 2) dS_calmsOf_36 (by decide) ?_
    refine g_iret dS_calmsOf_37 rfl rfl ?_
    exact ⟨by simp_all [calmsK], rfl⟩
  refine g_split (4) (fun z4 => ?_) (fun z4 => ?_)
  · refine g_lookup dS_calmsOf_1 rfl rfl rfl ?_
    refine g_iconst (v := 0) dS_calmsOf_40 (by decide) ?_
    refine g_iret dS_calmsOf_41 rfl rfl ?_
    exact ⟨by simp_all [calmsK], rfl⟩
  refine g_split (6) (fun z6 => ?_) (fun z6 => ?_)
  · refine g_lookup dS_calmsOf_1 rfl rfl rfl ?_
    refine g_iconst (v := 4) dS_calmsOf_38 (by decide) ?_
    refine g_iret dS_calmsOf_39 rfl rfl ?_
    exact ⟨by simp_all [calmsK], rfl⟩
  refine g_lookup (off := 41) dS_calmsOf_1 rfl (by show Op.lookupswitch.offset [(1, 35), (4, 39), (6, 37)] _ _ = _; rw [lv_osw (a := 1) z1 rfl, lv_osw (a := 4) z4 rfl, lv_osw (a := 6) z6 rfl]; rfl) rfl ?_
  refine g_iconst (v := 1) dS_calmsOf_42 (by decide) ?_
  refine g_iret dS_calmsOf_43 rfl rfl ?_
  exact ⟨by simp_all [calmsK], rfl⟩

set_option maxRecDepth 4000 in
theorem cS_lightOf {l : Launch} {g : GG} {k : Int32} {w : Wd} : Res l g S_lightOf [.int k] w (Is (some (.int (lightK k))) w) := by
  refine Res.of (by decide) (by simp [Value.category]) (Nat.le_of_ble_eq_true rfl) rfl ?_
  show Go l g S_lightOf 0 [some (.int k)] [] w _
  refine g_iload_n dS_lightOf_0 rfl ?_
  refine g_split (1) (fun z1 => ?_) (fun z1 => ?_)
  · refine g_tabIn dS_lightOf_1 (by decide) (by decide) rfl rfl ?_
    refine g_iconst (v := 1) dS_lightOf_40 (by decide) ?_
    refine g_iret dS_lightOf_41 rfl rfl ?_
    exact ⟨by simp_all [lightK], rfl⟩
  refine g_split (2) (fun z2 => ?_) (fun z2 => ?_)
  · refine g_tabIn dS_lightOf_1 (by decide) (by decide) rfl rfl ?_
    refine g_iconst (v := 2) dS_lightOf_46 (by decide) ?_
    refine g_iret dS_lightOf_47 rfl rfl ?_
    exact ⟨by simp_all [lightK], rfl⟩
  refine g_split (3) (fun z3 => ?_) (fun z3 => ?_)
  · refine g_tabIn dS_lightOf_1 (by decide) (by decide) rfl rfl ?_
    refine g_iconst (v := 3) dS_lightOf_42 (by decide) ?_
    refine g_iret dS_lightOf_43 rfl rfl ?_
    exact ⟨by simp_all [lightK], rfl⟩
  refine g_split (4) (fun z4 => ?_) (fun z4 => ?_)
  · refine g_tabIn dS_lightOf_1 (by decide) (by decide) rfl rfl ?_
    refine g_iconst (v := 4) dS_lightOf_44 (by decide) ?_
    refine g_iret dS_lightOf_45 rfl rfl ?_
    exact ⟨by simp_all [lightK], rfl⟩
  refine g_split (5) (fun z5 => ?_) (fun z5 => ?_)
  · refine g_tabIn dS_lightOf_1 (by decide) (by decide) rfl rfl ?_
    refine g_iconst (v := 1) dS_lightOf_40 (by decide) ?_
    refine g_iret dS_lightOf_41 rfl rfl ?_
    exact ⟨by simp_all [lightK], rfl⟩
  refine g_split (6) (fun z6 => ?_) (fun z6 => ?_)
  · refine g_tabIn dS_lightOf_1 (by decide) (by decide) rfl rfl ?_
    refine g_iconst (v := 1) dS_lightOf_40 (by decide) ?_
    refine g_iret dS_lightOf_41 rfl rfl ?_
    exact ⟨by simp_all [lightK], rfl⟩
  refine g_tabOut dS_lightOf_1 (by have q0 := lv_neT z1 (a := 1) rfl; have q1 := lv_neT z2 (a := 2) rfl; have q2 := lv_neT z3 (a := 3) rfl; have q3 := lv_neT z4 (a := 4) rfl; have q4 := lv_neT z5 (a := 5) rfl; have q5 := lv_neT z6 (a := 6) rfl; omega) rfl ?_
  refine g_iconst (v := 2) dS_lightOf_46 (by decide) ?_
  refine g_iret dS_lightOf_47 rfl rfl ?_
  exact ⟨by simp_all [lightK], rfl⟩

set_option maxRecDepth 4000 in
theorem cS_kindAbove {l : Launch} {g : GG} {k : Int32} {w : Wd} : Res l g S_kindAbove [.int k] w (Is (some (.int (aboveK k))) w) := by
  refine Res.of (by decide) (by simp [Value.category]) (Nat.le_of_ble_eq_true rfl) rfl ?_
  show Go l g S_kindAbove 0 [some (.int k)] [] w _
  refine g_iload_n dS_kindAbove_0 rfl ?_
  refine g_split (1) (fun z1 => ?_) (fun z1 => ?_)
  · refine g_tabIn dS_kindAbove_1 (by decide) (by decide) rfl rfl ?_
    refine g_iconst (v := 0) dS_kindAbove_40 (by decide) ?_
    refine g_iret dS_kindAbove_41 rfl rfl ?_
    exact ⟨by simp_all [aboveK], rfl⟩
  refine g_split (2) (fun z2 => ?_) (fun z2 => ?_)
  · refine g_tabIn dS_kindAbove_1 (by decide) (by decide) rfl rfl ?_
    refine g_iconst (v := 0) dS_kindAbove_40 (by decide) ?_
    refine g_iret dS_kindAbove_41 rfl rfl ?_
    exact ⟨by simp_all [aboveK], rfl⟩
  refine g_split (3) (fun z3 => ?_) (fun z3 => ?_)
  · refine g_tabIn dS_kindAbove_1 (by decide) (by decide) rfl rfl ?_
    refine g_iconst (v := 2) dS_kindAbove_42 (by decide) ?_
    refine g_iret dS_kindAbove_43 rfl rfl ?_
    exact ⟨by simp_all [aboveK], rfl⟩
  refine g_split (4) (fun z4 => ?_) (fun z4 => ?_)
  · refine g_tabIn dS_kindAbove_1 (by decide) (by decide) rfl rfl ?_
    refine g_iconst (v := 3) dS_kindAbove_44 (by decide) ?_
    refine g_iret dS_kindAbove_45 rfl rfl ?_
    exact ⟨by simp_all [aboveK], rfl⟩
  refine g_split (5) (fun z5 => ?_) (fun z5 => ?_)
  · refine g_tabIn dS_kindAbove_1 (by decide) (by decide) rfl rfl ?_
    refine g_iconst (v := 0) dS_kindAbove_40 (by decide) ?_
    refine g_iret dS_kindAbove_41 rfl rfl ?_
    exact ⟨by simp_all [aboveK], rfl⟩
  refine g_split (6) (fun z6 => ?_) (fun z6 => ?_)
  · refine g_tabIn dS_kindAbove_1 (by decide) (by decide) rfl rfl ?_
    refine g_iconst (v := 1) dS_kindAbove_46 (by decide) ?_
    refine g_iret dS_kindAbove_47 rfl rfl ?_
    exact ⟨by simp_all [aboveK], rfl⟩
  refine g_tabOut dS_kindAbove_1 (by have q0 := lv_neT z1 (a := 1) rfl; have q1 := lv_neT z2 (a := 2) rfl; have q2 := lv_neT z3 (a := 3) rfl; have q3 := lv_neT z4 (a := 4) rfl; have q4 := lv_neT z5 (a := 5) rfl; have q5 := lv_neT z6 (a := 6) rfl; omega) rfl ?_
  refine g_iconst (v := (-1)) dS_kindAbove_48 (by decide) ?_
  refine g_iret dS_kindAbove_49 rfl rfl ?_
  exact ⟨by simp_all [aboveK], rfl⟩

set_option maxRecDepth 4000 in
theorem cH_far {l : Launch} {g : GG} {h j : Nat} {w : Wd} (hh : isH h) (hj : j < 8) : Res l g H_far [.ref (g.1 h), .int (nI j)] w (Is (some (.int (dist (w (h + 2) j) (w h 0)))) w) := by
  refine Res.of (by decide) (by simp [Value.category]) (Nat.le_of_ble_eq_true rfl) rfl ?_
  show Go l g H_far 0 [some (.ref (g.1 h)), some (.int (nI j))] [] w _
  refine g_aload_n dH_far_0 rfl ?_
  refine g_getR2 (k2 := (h + 2)) dH_far_1 fH_37 hh.o rfl (by decide) rfl ?_
  refine g_iload_n dH_far_4 rfl ?_
  refine g_ialdN dH_far_5 (hh.a (by decide) (by decide)) (by omega) (by decide) ?_
  refine g_aload_n dH_far_6 rfl ?_
  refine g_getI dH_far_7 fH_9 hh.o rfl ?_
  refine gN2 dH_far_10 kH_far_79 cS_distance (Nat.le_of_ble_eq_true rfl) ?_
  refine g_iret dH_far_13 rfl rfl ?_
  exact ⟨rfl, rfl⟩
