theorem soM_1 (f : Nat → Int32) (fo : Int32) (n : Nat) : (soM f fo (n + 1)).1 = if (soM f fo n).2 < abI (f n - fo) then nI n else (soM f fo n).1 := rfl
theorem soM_2 (f : Nat → Int32) (fo : Int32) (n : Nat) : (soM f fo (n + 1)).2 = mxI (soM f fo n).2 (abI (f n - fo)) := rfl
theorem maM_1 (f : Nat → Int32) (n : Nat) : (maM f (n + 1)).1 = if (maM f n).2 < f n then nI n else (maM f n).1 := rfl
theorem maM_2 (f : Nat → Int32) (n : Nat) : (maM f (n + 1)).2 = mxI (maM f n).2 (f n) := rfl
theorem neM_1 (f : Nat → Int32) (ca wo : Int32) (n : Nat) : (neM f ca wo (n + 1)).1 = if (if nI n = ca then 16 else abI (f n - wo)) < (neM f ca wo n).2 then nI n else (neM f ca wo n).1 := rfl
theorem neM_2 (f : Nat → Int32) (ca wo : Int32) (n : Nat) : (neM f ca wo (n + 1)).2 = mnI (neM f ca wo n).2 (if nI n = ca then 16 else abI (f n - wo)) := rfl
theorem sfF_neg {fo p s : Int32} (h : ¬ 0 ≤ s) : sfF fo p s = tow p fo (-s) := if_pos (Int32.not_le.mp h)
theorem sfF_pos {fo p s : Int32} (h : 0 ≤ s) : sfF fo p s = if fo < p ∨ (p = fo ∧ fo < 15) then mnI (p + s) 15 else mxI (p - s) 0 := if_neg (Int32.not_lt.mpr h)
theorem neg1_lt : (-1 : Int32) < 0 := by decide
set_option maxRecDepth 4000 in
theorem cQ_strays {l : Launch} {g : GG} {w : Wd} {A : HA} {n : Nat} (hn : A.1 6 = nI n) (h8 : n ≤ 8) {j : Nat} (hj : j < 8) : Res l g Q_strays [.ref (g.1 33), .int (nI j)] (mput A w) (Is (some (.int (straysM A n j))) (mput A w)) := by
  refine Res.of (by decide) (by simp [Value.category]) (Nat.le_of_ble_eq_true rfl) rfl ?_
  show Go l g Q_strays 0 [some (.ref (g.1 33)), some (.int (nI j)), none, none, none] [] (mput A w) _
  refine g_aload_n dQ_strays_0 rfl ?_
  refine g_getR2 (k2 := 34) dQ_strays_1 fQ_9 rfl rfl (by decide) rfl ?_
  refine g_iconst (v := 0) dQ_strays_4 (by decide) ?_
  refine g_mS (j := 5) (i := 0) dQ_strays_5 rfl (by decide) (by decide) ?_
  refine g_iconst (v := 3) dQ_strays_6 (by decide) ?_
  refine g_irem dQ_strays_7 (by decide) ?_
  refine g_if_ne dQ_strays_8 rfl (fun h8_ => ?_) (fun h8_ => ?_)
  · refine g_iconst (v := 0) dQ_strays_15 (by decide) ?_
    refine g_istore_n dQ_strays_16 (by decide) rfl rfl ?_
    dsimp only [List.set]
    refine g_lv (lv1 := [some (.ref (g.1 33)), some (.int (nI j)), some (.int (plainF A)), none, none]) (by simp [plainF, h8_]) ?_
    refine g_aload_n dQ_strays_17 rfl ?_
    refine g_iload_n dQ_strays_18 rfl ?_
    refine g_iconst (v := 2) dQ_strays_19 (by decide) ?_
    refine gV2 dQ_strays_20 kQ_strays_108 rfl rfl (cQ_sheepIsF (by omega)) (Nat.le_of_ble_eq_true rfl) ?_
    refine g_bipush (v := 50) dQ_strays_23 (by decide) ?_
    refine g_icmp_lt dQ_strays_25 rfl (fun h25 => ?_) (fun h25 => ?_)
    · refine g_iload_n dQ_strays_34 rfl ?_
      refine g_istore_n dQ_strays_35 (by decide) rfl rfl ?_
      dsimp only [List.set]
      refine g_lv (lv1 := [some (.ref (g.1 33)), some (.int (nI j)), some (.int (plainF A)), some (.int (ramF A j)), none]) (by grind [ramF]) ?_
      refine g_aload_n dQ_strays_36 rfl ?_
      refine g_iload_n dQ_strays_37 rfl ?_
      refine g_iconst (v := 2) dQ_strays_38 (by decide) ?_
      refine gV2 dQ_strays_39 kQ_strays_108 rfl rfl (cQ_sheepIsF (by omega)) (Nat.le_of_ble_eq_true rfl) ?_
      refine g_bipush (v := 30) dQ_strays_42 (by decide) ?_
      refine g_icmp_lt dQ_strays_44 rfl (fun h44 => ?_) (fun h44 => ?_)
      · refine g_iload_n dQ_strays_51 rfl ?_
        refine g_istore dQ_strays_52 (by decide) rfl rfl ?_
        dsimp only [List.set]
        refine g_lv (lv1 := [some (.ref (g.1 33)), some (.int (nI j)), some (.int (plainF A)), some (.int (ramF A j)), some (.int (eweF A j))]) (by grind [eweF]) ?_
        refine g_aload_n dQ_strays_54 rfl ?_
        refine g_iload_n dQ_strays_55 rfl ?_
        refine g_iconst (v := 0) dQ_strays_56 (by decide) ?_
        refine gV2 dQ_strays_57 kQ_strays_108 rfl rfl (cQ_sheepIsK (by omega)) (Nat.le_of_ble_eq_true rfl) ?_
        refine g_split (1) (fun z1 => ?_) (fun z1 => ?_)
        · refine g_tabIn dQ_strays_60 (by decide) (by decide) rfl rfl ?_
          refine g_iload_n dQ_strays_100 rfl ?_
          refine g_iret dQ_strays_101 rfl rfl ?_
          exact ⟨by grind [straysM], rfl⟩
        refine g_split (2) (fun z2 => ?_) (fun z2 => ?_)
        · refine g_tabIn dQ_strays_60 (by decide) (by decide) rfl rfl ?_
          refine g_iload dQ_strays_102 rfl ?_
          refine g_iret dQ_strays_104 rfl rfl ?_
          exact ⟨by grind [straysM], rfl⟩
        refine g_split (3) (fun z3 => ?_) (fun z3 => ?_)
        · refine g_tabIn dQ_strays_60 (by decide) (by decide) rfl rfl ?_
          refine g_iconst (v := 2) dQ_strays_105 (by decide) ?_
          refine g_iload dQ_strays_106 rfl ?_
          refine g_imul dQ_strays_108 ?_
          refine g_iret dQ_strays_109 rfl rfl ?_
          exact ⟨by grind [straysM], rfl⟩
        refine g_split (4) (fun z4 => ?_) (fun z4 => ?_)
        · refine g_tabIn dQ_strays_60 (by decide) (by decide) rfl rfl ?_
          refine g_aload_n dQ_strays_110 rfl ?_
          refine g_iload_n dQ_strays_111 rfl ?_
          refine gV1 dQ_strays_112 kQ_strays_116 rfl rfl (cQ_isAlone hn h8 hj) (Nat.le_of_ble_eq_true rfl) ?_
          refine g_if_eq dQ_strays_115 rfl (fun h115 => ?_) (fun h115 => ?_)
          · rw [bI_0] at h115
            refine g_iconst (v := 0) dQ_strays_125 (by decide) ?_
            refine g_iret dQ_strays_126 rfl rfl ?_
            exact ⟨by grind [straysM], rfl⟩
          · rw [bI_0] at h115
            refine g_iconst (v := 2) dQ_strays_118 (by decide) ?_
            refine g_iload dQ_strays_119 rfl ?_
            refine g_imul dQ_strays_121 ?_
            refine g_goto dQ_strays_122 rfl ?_
            refine g_iret dQ_strays_126 rfl rfl ?_
            exact ⟨by grind [straysM], rfl⟩
        refine g_split (5) (fun z5 => ?_) (fun z5 => ?_)
        · refine g_tabIn dQ_strays_60 (by decide) (by decide) rfl rfl ?_
          refine g_iconst (v := 2) dQ_strays_127 (by decide) ?_
          refine g_iret dQ_strays_128 rfl rfl ?_
          exact ⟨by grind [straysM], rfl⟩
        refine g_split (6) (fun z6 => ?_) (fun z6 => ?_)
        · refine g_tabIn dQ_strays_60 (by decide) (by decide) rfl rfl ?_
          refine g_iload_n dQ_strays_129 rfl ?_
          refine g_iconst (v := 1) dQ_strays_130 (by decide) ?_
          refine g_isub dQ_strays_131 ?_
          refine g_iret dQ_strays_132 rfl rfl ?_
          exact ⟨by grind [straysM], rfl⟩
        refine g_tabOut dQ_strays_60 (by have q0 := lv_neT z1 (a := 1) rfl; have q1 := lv_neT z2 (a := 2) rfl; have q2 := lv_neT z3 (a := 3) rfl; have q3 := lv_neT z4 (a := 4) rfl; have q4 := lv_neT z5 (a := 5) rfl; have q5 := lv_neT z6 (a := 6) rfl; omega) rfl ?_
        refine g_iload_n dQ_strays_133 rfl ?_
        refine g_iret dQ_strays_134 rfl rfl ?_
        exact ⟨by grind [straysM], rfl⟩
      · refine g_iconst (v := (-1)) dQ_strays_47 (by decide) ?_
        refine g_goto dQ_strays_48 rfl ?_
        refine g_istore dQ_strays_52 (by decide) rfl rfl ?_
        dsimp only [List.set]
        refine g_lv (lv1 := [some (.ref (g.1 33)), some (.int (nI j)), some (.int (plainF A)), some (.int (ramF A j)), some (.int (eweF A j))]) (by grind [eweF]) ?_
        refine g_aload_n dQ_strays_54 rfl ?_
        refine g_iload_n dQ_strays_55 rfl ?_
        refine g_iconst (v := 0) dQ_strays_56 (by decide) ?_
        refine gV2 dQ_strays_57 kQ_strays_108 rfl rfl (cQ_sheepIsK (by omega)) (Nat.le_of_ble_eq_true rfl) ?_
        refine g_split (1) (fun z1 => ?_) (fun z1 => ?_)
        · refine g_tabIn dQ_strays_60 (by decide) (by decide) rfl rfl ?_
          refine g_iload_n dQ_strays_100 rfl ?_
          refine g_iret dQ_strays_101 rfl rfl ?_
          exact ⟨by grind [straysM], rfl⟩
        refine g_split (2) (fun z2 => ?_) (fun z2 => ?_)
        · refine g_tabIn dQ_strays_60 (by decide) (by decide) rfl rfl ?_
          refine g_iload dQ_strays_102 rfl ?_
          refine g_iret dQ_strays_104 rfl rfl ?_
          exact ⟨by grind [straysM], rfl⟩
        refine g_split (3) (fun z3 => ?_) (fun z3 => ?_)
        · refine g_tabIn dQ_strays_60 (by decide) (by decide) rfl rfl ?_
          refine g_iconst (v := 2) dQ_strays_105 (by decide) ?_
          refine g_iload dQ_strays_106 rfl ?_
          refine g_imul dQ_strays_108 ?_
          refine g_iret dQ_strays_109 rfl rfl ?_
          exact ⟨by grind [straysM], rfl⟩
        refine g_split (4) (fun z4 => ?_) (fun z4 => ?_)
        · refine g_tabIn dQ_strays_60 (by decide) (by decide) rfl rfl ?_
          refine g_aload_n dQ_strays_110 rfl ?_
          refine g_iload_n dQ_strays_111 rfl ?_
          refine gV1 dQ_strays_112 kQ_strays_116 rfl rfl (cQ_isAlone hn h8 hj) (Nat.le_of_ble_eq_true rfl) ?_
          refine g_if_eq dQ_strays_115 rfl (fun h115 => ?_) (fun h115 => ?_)
          · rw [bI_0] at h115
            refine g_iconst (v := 0) dQ_strays_125 (by decide) ?_
            refine g_iret dQ_strays_126 rfl rfl ?_
            exact ⟨by grind [straysM], rfl⟩
          · rw [bI_0] at h115
            refine g_iconst (v := 2) dQ_strays_118 (by decide) ?_
            refine g_iload dQ_strays_119 rfl ?_
            refine g_imul dQ_strays_121 ?_
            refine g_goto dQ_strays_122 rfl ?_
            refine g_iret dQ_strays_126 rfl rfl ?_
            exact ⟨by grind [straysM], rfl⟩
        refine g_split (5) (fun z5 => ?_) (fun z5 => ?_)
        · refine g_tabIn dQ_strays_60 (by decide) (by decide) rfl rfl ?_
          refine g_iconst (v := 2) dQ_strays_127 (by decide) ?_
          refine g_iret dQ_strays_128 rfl rfl ?_
          exact ⟨by grind [straysM], rfl⟩
        refine g_split (6) (fun z6 => ?_) (fun z6 => ?_)
        · refine g_tabIn dQ_strays_60 (by decide) (by decide) rfl rfl ?_
          refine g_iload_n dQ_strays_129 rfl ?_
          refine g_iconst (v := 1) dQ_strays_130 (by decide) ?_
          refine g_isub dQ_strays_131 ?_
          refine g_iret dQ_strays_132 rfl rfl ?_
          exact ⟨by grind [straysM], rfl⟩
        refine g_tabOut dQ_strays_60 (by have q0 := lv_neT z1 (a := 1) rfl; have q1 := lv_neT z2 (a := 2) rfl; have q2 := lv_neT z3 (a := 3) rfl; have q3 := lv_neT z4 (a := 4) rfl; have q4 := lv_neT z5 (a := 5) rfl; have q5 := lv_neT z6 (a := 6) rfl; omega) rfl ?_
        refine g_iload_n dQ_strays_133 rfl ?_
        refine g_iret dQ_strays_134 rfl rfl ?_
        exact ⟨by grind [straysM], rfl⟩
    · refine g_iload_n dQ_strays_28 rfl ?_
      refine g_iconst (v := 1) dQ_strays_29 (by decide) ?_
      refine g_iadd dQ_strays_30 ?_
      refine g_goto dQ_strays_31 rfl ?_
      refine g_istore_n dQ_strays_35 (by decide) rfl rfl ?_
      dsimp only [List.set]
      refine g_lv (lv1 := [some (.ref (g.1 33)), some (.int (nI j)), some (.int (plainF A)), some (.int (ramF A j)), none]) (by grind [ramF]) ?_
      refine g_aload_n dQ_strays_36 rfl ?_
      refine g_iload_n dQ_strays_37 rfl ?_
      refine g_iconst (v := 2) dQ_strays_38 (by decide) ?_
      refine gV2 dQ_strays_39 kQ_strays_108 rfl rfl (cQ_sheepIsF (by omega)) (Nat.le_of_ble_eq_true rfl) ?_
      refine g_bipush (v := 30) dQ_strays_42 (by decide) ?_
      refine g_icmp_lt dQ_strays_44 rfl (fun h44 => ?_) (fun h44 => ?_)
      · refine g_iload_n dQ_strays_51 rfl ?_
        refine g_istore dQ_strays_52 (by decide) rfl rfl ?_
        dsimp only [List.set]
        refine g_lv (lv1 := [some (.ref (g.1 33)), some (.int (nI j)), some (.int (plainF A)), some (.int (ramF A j)), some (.int (eweF A j))]) (by grind [eweF]) ?_
        refine g_aload_n dQ_strays_54 rfl ?_
        refine g_iload_n dQ_strays_55 rfl ?_
        refine g_iconst (v := 0) dQ_strays_56 (by decide) ?_
        refine gV2 dQ_strays_57 kQ_strays_108 rfl rfl (cQ_sheepIsK (by omega)) (Nat.le_of_ble_eq_true rfl) ?_
        refine g_split (1) (fun z1 => ?_) (fun z1 => ?_)
        · refine g_tabIn dQ_strays_60 (by decide) (by decide) rfl rfl ?_
          refine g_iload_n dQ_strays_100 rfl ?_
          refine g_iret dQ_strays_101 rfl rfl ?_
          exact ⟨by grind [straysM], rfl⟩
        refine g_split (2) (fun z2 => ?_) (fun z2 => ?_)
        · refine g_tabIn dQ_strays_60 (by decide) (by decide) rfl rfl ?_
          refine g_iload dQ_strays_102 rfl ?_
          refine g_iret dQ_strays_104 rfl rfl ?_
          exact ⟨by grind [straysM], rfl⟩
        refine g_split (3) (fun z3 => ?_) (fun z3 => ?_)
        · refine g_tabIn dQ_strays_60 (by decide) (by decide) rfl rfl ?_
          refine g_iconst (v := 2) dQ_strays_105 (by decide) ?_
          refine g_iload dQ_strays_106 rfl ?_
          refine g_imul dQ_strays_108 ?_
          refine g_iret dQ_strays_109 rfl rfl ?_
          exact ⟨by grind [straysM], rfl⟩
        refine g_split (4) (fun z4 => ?_) (fun z4 => ?_)
        · refine g_tabIn dQ_strays_60 (by decide) (by decide) rfl rfl ?_
          refine g_aload_n dQ_strays_110 rfl ?_
          refine g_iload_n dQ_strays_111 rfl ?_
          refine gV1 dQ_strays_112 kQ_strays_116 rfl rfl (cQ_isAlone hn h8 hj) (Nat.le_of_ble_eq_true rfl) ?_
          refine g_if_eq dQ_strays_115 rfl (fun h115 => ?_) (fun h115 => ?_)
          · rw [bI_0] at h115
            refine g_iconst (v := 0) dQ_strays_125 (by decide) ?_
            refine g_iret dQ_strays_126 rfl rfl ?_
            exact ⟨by grind [straysM], rfl⟩
          · rw [bI_0] at h115
            refine g_iconst (v := 2) dQ_strays_118 (by decide) ?_
            refine g_iload dQ_strays_119 rfl ?_
            refine g_imul dQ_strays_121 ?_
            refine g_goto dQ_strays_122 rfl ?_
            refine g_iret dQ_strays_126 rfl rfl ?_
            exact ⟨by grind [straysM], rfl⟩
        refine g_split (5) (fun z5 => ?_) (fun z5 => ?_)
        · refine g_tabIn dQ_strays_60 (by decide) (by decide) rfl rfl ?_
          refine g_iconst (v := 2) dQ_strays_127 (by decide) ?_
          refine g_iret dQ_strays_128 rfl rfl ?_
          exact ⟨by grind [straysM], rfl⟩
        refine g_split (6) (fun z6 => ?_) (fun z6 => ?_)
        · refine g_tabIn dQ_strays_60 (by decide) (by decide) rfl rfl ?_
          refine g_iload_n dQ_strays_129 rfl ?_
          refine g_iconst (v := 1) dQ_strays_130 (by decide) ?_
          refine g_isub dQ_strays_131 ?_
          refine g_iret dQ_strays_132 rfl rfl ?_
          exact ⟨by grind [straysM], rfl⟩
        refine g_tabOut dQ_strays_60 (by have q0 := lv_neT z1 (a := 1) rfl; have q1 := lv_neT z2 (a := 2) rfl; have q2 := lv_neT z3 (a := 3) rfl; have q3 := lv_neT z4 (a := 4) rfl; have q4 := lv_neT z5 (a := 5) rfl; have q5 := lv_neT z6 (a := 6) rfl; omega) rfl ?_
        refine g_iload_n dQ_strays_133 rfl ?_
        refine g_iret dQ_strays_134 rfl rfl ?_
        exact ⟨by grind [straysM], rfl⟩
      · refine g_iconst (v := (-1)) dQ_strays_47 (by decide) ?_
        refine g_goto dQ_strays_48 rfl ?_
        refine g_istore dQ_strays_52 (by decide) rfl rfl ?_
        dsimp only [List.set]
        refine g_lv (lv1 := [some (.ref (g.1 33)), some (.int (nI j)), some (.int (plainF A)), some (.int (ramF A j)), some (.int (eweF A j))]) (by grind [eweF]) ?_
        refine g_aload_n dQ_strays_54 rfl ?_
        refine g_iload_n dQ_strays_55 rfl ?_
        refine g_iconst (v := 0) dQ_strays_56 (by decide) ?_
        refine gV2 dQ_strays_57 kQ_strays_108 rfl rfl (cQ_sheepIsK (by omega)) (Nat.le_of_ble_eq_true rfl) ?_
        refine g_split (1) (fun z1 => ?_) (fun z1 => ?_)
        · refine g_tabIn dQ_strays_60 (by decide) (by decide) rfl rfl ?_
          refine g_iload_n dQ_strays_100 rfl ?_
          refine g_iret dQ_strays_101 rfl rfl ?_
          exact ⟨by grind [straysM], rfl⟩
        refine g_split (2) (fun z2 => ?_) (fun z2 => ?_)
        · refine g_tabIn dQ_strays_60 (by decide) (by decide) rfl rfl ?_
          refine g_iload dQ_strays_102 rfl ?_
          refine g_iret dQ_strays_104 rfl rfl ?_
          exact ⟨by grind [straysM], rfl⟩
        refine g_split (3) (fun z3 => ?_) (fun z3 => ?_)
        · refine g_tabIn dQ_strays_60 (by decide) (by decide) rfl rfl ?_
          refine g_iconst (v := 2) dQ_strays_105 (by decide) ?_
          refine g_iload dQ_strays_106 rfl ?_
          refine g_imul dQ_strays_108 ?_
          refine g_iret dQ_strays_109 rfl rfl ?_
          exact ⟨by grind [straysM], rfl⟩
        refine g_split (4) (fun z4 => ?_) (fun z4 => ?_)
        · refine g_tabIn dQ_strays_60 (by decide) (by decide) rfl rfl ?_
          refine g_aload_n dQ_strays_110 rfl ?_
          refine g_iload_n dQ_strays_111 rfl ?_
          refine gV1 dQ_strays_112 kQ_strays_116 rfl rfl (cQ_isAlone hn h8 hj) (Nat.le_of_ble_eq_true rfl) ?_
          refine g_if_eq dQ_strays_115 rfl (fun h115 => ?_) (fun h115 => ?_)
          · rw [bI_0] at h115
            refine g_iconst (v := 0) dQ_strays_125 (by decide) ?_
            refine g_iret dQ_strays_126 rfl rfl ?_
            exact ⟨by grind [straysM], rfl⟩
          · rw [bI_0] at h115
            refine g_iconst (v := 2) dQ_strays_118 (by decide) ?_
            refine g_iload dQ_strays_119 rfl ?_
            refine g_imul dQ_strays_121 ?_
            refine g_goto dQ_strays_122 rfl ?_
            refine g_iret dQ_strays_126 rfl rfl ?_
            exact ⟨by grind [straysM], rfl⟩
        refine g_split (5) (fun z5 => ?_) (fun z5 => ?_)
        · refine g_tabIn dQ_strays_60 (by decide) (by decide) rfl rfl ?_
          refine g_iconst (v := 2) dQ_strays_127 (by decide) ?_
          refine g_iret dQ_strays_128 rfl rfl ?_
          exact ⟨by grind [straysM], rfl⟩
        refine g_split (6) (fun z6 => ?_) (fun z6 => ?_)
        · refine g_tabIn dQ_strays_60 (by decide) (by decide) rfl rfl ?_
          refine g_iload_n dQ_strays_129 rfl ?_
          refine g_iconst (v := 1) dQ_strays_130 (by decide) ?_
          refine g_isub dQ_strays_131 ?_
          refine g_iret dQ_strays_132 rfl rfl ?_
          exact ⟨by grind [straysM], rfl⟩
        refine g_tabOut dQ_strays_60 (by have q0 := lv_neT z1 (a := 1) rfl; have q1 := lv_neT z2 (a := 2) rfl; have q2 := lv_neT z3 (a := 3) rfl; have q3 := lv_neT z4 (a := 4) rfl; have q4 := lv_neT z5 (a := 5) rfl; have q5 := lv_neT z6 (a := 6) rfl; omega) rfl ?_
        refine g_iload_n dQ_strays_133 rfl ?_
        refine g_iret dQ_strays_134 rfl rfl ?_
        exact ⟨by grind [straysM], rfl⟩
  · refine g_iconst (v := 1) dQ_strays_11 (by decide) ?_
    refine g_goto dQ_strays_12 rfl ?_
    refine g_istore_n dQ_strays_16 (by decide) rfl rfl ?_
    dsimp only [List.set]
    refine g_lv (lv1 := [some (.ref (g.1 33)), some (.int (nI j)), some (.int (plainF A)), none, none]) (by simp [plainF, h8_]) ?_
    refine g_aload_n dQ_strays_17 rfl ?_
    refine g_iload_n dQ_strays_18 rfl ?_
    refine g_iconst (v := 2) dQ_strays_19 (by decide) ?_
    refine gV2 dQ_strays_20 kQ_strays_108 rfl rfl (cQ_sheepIsF (by omega)) (Nat.le_of_ble_eq_true rfl) ?_
    refine g_bipush (v := 50) dQ_strays_23 (by decide) ?_
    refine g_icmp_lt dQ_strays_25 rfl (fun h25 => ?_) (fun h25 => ?_)
    · refine g_iload_n dQ_strays_34 rfl ?_
      refine g_istore_n dQ_strays_35 (by decide) rfl rfl ?_
      dsimp only [List.set]
      refine g_lv (lv1 := [some (.ref (g.1 33)), some (.int (nI j)), some (.int (plainF A)), some (.int (ramF A j)), none]) (by grind [ramF]) ?_
      refine g_aload_n dQ_strays_36 rfl ?_
      refine g_iload_n dQ_strays_37 rfl ?_
      refine g_iconst (v := 2) dQ_strays_38 (by decide) ?_
      refine gV2 dQ_strays_39 kQ_strays_108 rfl rfl (cQ_sheepIsF (by omega)) (Nat.le_of_ble_eq_true rfl) ?_
      refine g_bipush (v := 30) dQ_strays_42 (by decide) ?_
      refine g_icmp_lt dQ_strays_44 rfl (fun h44 => ?_) (fun h44 => ?_)
      · refine g_iload_n dQ_strays_51 rfl ?_
        refine g_istore dQ_strays_52 (by decide) rfl rfl ?_
        dsimp only [List.set]
        refine g_lv (lv1 := [some (.ref (g.1 33)), some (.int (nI j)), some (.int (plainF A)), some (.int (ramF A j)), some (.int (eweF A j))]) (by grind [eweF]) ?_
        refine g_aload_n dQ_strays_54 rfl ?_
        refine g_iload_n dQ_strays_55 rfl ?_
        refine g_iconst (v := 0) dQ_strays_56 (by decide) ?_
        refine gV2 dQ_strays_57 kQ_strays_108 rfl rfl (cQ_sheepIsK (by omega)) (Nat.le_of_ble_eq_true rfl) ?_
        refine g_split (1) (fun z1 => ?_) (fun z1 => ?_)
        · refine g_tabIn dQ_strays_60 (by decide) (by decide) rfl rfl ?_
          refine g_iload_n dQ_strays_100 rfl ?_
          refine g_iret dQ_strays_101 rfl rfl ?_
          exact ⟨by grind [straysM], rfl⟩
        refine g_split (2) (fun z2 => ?_) (fun z2 => ?_)
        · refine g_tabIn dQ_strays_60 (by decide) (by decide) rfl rfl ?_
          refine g_iload dQ_strays_102 rfl ?_
          refine g_iret dQ_strays_104 rfl rfl ?_
          exact ⟨by grind [straysM], rfl⟩
        refine g_split (3) (fun z3 => ?_) (fun z3 => ?_)
        · refine g_tabIn dQ_strays_60 (by decide) (by decide) rfl rfl ?_
          refine g_iconst (v := 2) dQ_strays_105 (by decide) ?_
          refine g_iload dQ_strays_106 rfl ?_
          refine g_imul dQ_strays_108 ?_
          refine g_iret dQ_strays_109 rfl rfl ?_
          exact ⟨by grind [straysM], rfl⟩
        refine g_split (4) (fun z4 => ?_) (fun z4 => ?_)
        · refine g_tabIn dQ_strays_60 (by decide) (by decide) rfl rfl ?_
          refine g_aload_n dQ_strays_110 rfl ?_
          refine g_iload_n dQ_strays_111 rfl ?_
          refine gV1 dQ_strays_112 kQ_strays_116 rfl rfl (cQ_isAlone hn h8 hj) (Nat.le_of_ble_eq_true rfl) ?_
          refine g_if_eq dQ_strays_115 rfl (fun h115 => ?_) (fun h115 => ?_)
          · rw [bI_0] at h115
            refine g_iconst (v := 0) dQ_strays_125 (by decide) ?_
            refine g_iret dQ_strays_126 rfl rfl ?_
            exact ⟨by grind [straysM], rfl⟩
          · rw [bI_0] at h115
            refine g_iconst (v := 2) dQ_strays_118 (by decide) ?_
            refine g_iload dQ_strays_119 rfl ?_
            refine g_imul dQ_strays_121 ?_
            refine g_goto dQ_strays_122 rfl ?_
            refine g_iret dQ_strays_126 rfl rfl ?_
            exact ⟨by grind [straysM], rfl⟩
        refine g_split (5) (fun z5 => ?_) (fun z5 => ?_)
        · refine g_tabIn dQ_strays_60 (by decide) (by decide) rfl rfl ?_
          refine g_iconst (v := 2) dQ_strays_127 (by decide) ?_
          refine g_iret dQ_strays_128 rfl rfl ?_
          exact ⟨by grind [straysM], rfl⟩
        refine g_split (6) (fun z6 => ?_) (fun z6 => ?_)
        · refine g_tabIn dQ_strays_60 (by decide) (by decide) rfl rfl ?_
          refine g_iload_n dQ_strays_129 rfl ?_
          refine g_iconst (v := 1) dQ_strays_130 (by decide) ?_
          refine g_isub dQ_strays_131 ?_
          refine g_iret dQ_strays_132 rfl rfl ?_
          exact ⟨by grind [straysM], rfl⟩
        refine g_tabOut dQ_strays_60 (by have q0 := lv_neT z1 (a := 1) rfl; have q1 := lv_neT z2 (a := 2) rfl; have q2 := lv_neT z3 (a := 3) rfl; have q3 := lv_neT z4 (a := 4) rfl; have q4 := lv_neT z5 (a := 5) rfl; have q5 := lv_neT z6 (a := 6) rfl; omega) rfl ?_
        refine g_iload_n dQ_strays_133 rfl ?_
        refine g_iret dQ_strays_134 rfl rfl ?_
        exact ⟨by grind [straysM], rfl⟩
      · refine g_iconst (v := (-1)) dQ_strays_47 (by decide) ?_
        refine g_goto dQ_strays_48 rfl ?_
        refine g_istore dQ_strays_52 (by decide) rfl rfl ?_
        dsimp only [List.set]
        refine g_lv (lv1 := [some (.ref (g.1 33)), some (.int (nI j)), some (.int (plainF A)), some (.int (ramF A j)), some (.int (eweF A j))]) (by grind [eweF]) ?_
        refine g_aload_n dQ_strays_54 rfl ?_
        refine g_iload_n dQ_strays_55 rfl ?_
        refine g_iconst (v := 0) dQ_strays_56 (by decide) ?_
        refine gV2 dQ_strays_57 kQ_strays_108 rfl rfl (cQ_sheepIsK (by omega)) (Nat.le_of_ble_eq_true rfl) ?_
        refine g_split (1) (fun z1 => ?_) (fun z1 => ?_)
        · refine g_tabIn dQ_strays_60 (by decide) (by decide) rfl rfl ?_
          refine g_iload_n dQ_strays_100 rfl ?_
          refine g_iret dQ_strays_101 rfl rfl ?_
          exact ⟨by grind [straysM], rfl⟩
        refine g_split (2) (fun z2 => ?_) (fun z2 => ?_)
        · refine g_tabIn dQ_strays_60 (by decide) (by decide) rfl rfl ?_
          refine g_iload dQ_strays_102 rfl ?_
          refine g_iret dQ_strays_104 rfl rfl ?_
          exact ⟨by grind [straysM], rfl⟩
        refine g_split (3) (fun z3 => ?_) (fun z3 => ?_)
        · refine g_tabIn dQ_strays_60 (by decide) (by decide) rfl rfl ?_
          refine g_iconst (v := 2) dQ_strays_105 (by decide) ?_
          refine g_iload dQ_strays_106 rfl ?_
          refine g_imul dQ_strays_108 ?_
          refine g_iret dQ_strays_109 rfl rfl ?_
          exact ⟨by grind [straysM], rfl⟩
        refine g_split (4) (fun z4 => ?_) (fun z4 => ?_)
        · refine g_tabIn dQ_strays_60 (by decide) (by decide) rfl rfl ?_
          refine g_aload_n dQ_strays_110 rfl ?_
          refine g_iload_n dQ_strays_111 rfl ?_
          refine gV1 dQ_strays_112 kQ_strays_116 rfl rfl (cQ_isAlone hn h8 hj) (Nat.le_of_ble_eq_true rfl) ?_
          refine g_if_eq dQ_strays_115 rfl (fun h115 => ?_) (fun h115 => ?_)
          · rw [bI_0] at h115
            refine g_iconst (v := 0) dQ_strays_125 (by decide) ?_
            refine g_iret dQ_strays_126 rfl rfl ?_
            exact ⟨by grind [straysM], rfl⟩
          · rw [bI_0] at h115
            refine g_iconst (v := 2) dQ_strays_118 (by decide) ?_
            refine g_iload dQ_strays_119 rfl ?_
            refine g_imul dQ_strays_121 ?_
            refine g_goto dQ_strays_122 rfl ?_
            refine g_iret dQ_strays_126 rfl rfl ?_
            exact ⟨by grind [straysM], rfl⟩
        refine g_split (5) (fun z5 => ?_) (fun z5 => ?_)
        · refine g_tabIn dQ_strays_60 (by decide) (by decide) rfl rfl ?_
          refine g_iconst (v := 2) dQ_strays_127 (by decide) ?_
          refine g_iret dQ_strays_128 rfl rfl ?_
          exact ⟨by grind [straysM], rfl⟩
        refine g_split (6) (fun z6 => ?_) (fun z6 => ?_)
        · refine g_tabIn dQ_strays_60 (by decide) (by decide) rfl rfl ?_
          refine g_iload_n dQ_strays_129 rfl ?_
          refine g_iconst (v := 1) dQ_strays_130 (by decide) ?_
          refine g_isub dQ_strays_131 ?_
          refine g_iret dQ_strays_132 rfl rfl ?_
          exact ⟨by grind [straysM], rfl⟩
        refine g_tabOut dQ_strays_60 (by have q0 := lv_neT z1 (a := 1) rfl; have q1 := lv_neT z2 (a := 2) rfl; have q2 := lv_neT z3 (a := 3) rfl; have q3 := lv_neT z4 (a := 4) rfl; have q4 := lv_neT z5 (a := 5) rfl; have q5 := lv_neT z6 (a := 6) rfl; omega) rfl ?_
        refine g_iload_n dQ_strays_133 rfl ?_
        refine g_iret dQ_strays_134 rfl rfl ?_
        exact ⟨by grind [straysM], rfl⟩
    · refine g_iload_n dQ_strays_28 rfl ?_
      refine g_iconst (v := 1) dQ_strays_29 (by decide) ?_
      refine g_iadd dQ_strays_30 ?_
      refine g_goto dQ_strays_31 rfl ?_
      refine g_istore_n dQ_strays_35 (by decide) rfl rfl ?_
      dsimp only [List.set]
      refine g_lv (lv1 := [some (.ref (g.1 33)), some (.int (nI j)), some (.int (plainF A)), some (.int (ramF A j)), none]) (by grind [ramF]) ?_
      refine g_aload_n dQ_strays_36 rfl ?_
      refine g_iload_n dQ_strays_37 rfl ?_
      refine g_iconst (v := 2) dQ_strays_38 (by decide) ?_
      refine gV2 dQ_strays_39 kQ_strays_108 rfl rfl (cQ_sheepIsF (by omega)) (Nat.le_of_ble_eq_true rfl) ?_
      refine g_bipush (v := 30) dQ_strays_42 (by decide) ?_
      refine g_icmp_lt dQ_strays_44 rfl (fun h44 => ?_) (fun h44 => ?_)
      · refine g_iload_n dQ_strays_51 rfl ?_
        refine g_istore dQ_strays_52 (by decide) rfl rfl ?_
        dsimp only [List.set]
        refine g_lv (lv1 := [some (.ref (g.1 33)), some (.int (nI j)), some (.int (plainF A)), some (.int (ramF A j)), some (.int (eweF A j))]) (by grind [eweF]) ?_
        refine g_aload_n dQ_strays_54 rfl ?_
        refine g_iload_n dQ_strays_55 rfl ?_
        refine g_iconst (v := 0) dQ_strays_56 (by decide) ?_
        refine gV2 dQ_strays_57 kQ_strays_108 rfl rfl (cQ_sheepIsK (by omega)) (Nat.le_of_ble_eq_true rfl) ?_
        refine g_split (1) (fun z1 => ?_) (fun z1 => ?_)
        · refine g_tabIn dQ_strays_60 (by decide) (by decide) rfl rfl ?_
          refine g_iload_n dQ_strays_100 rfl ?_
          refine g_iret dQ_strays_101 rfl rfl ?_
          exact ⟨by grind [straysM], rfl⟩
        refine g_split (2) (fun z2 => ?_) (fun z2 => ?_)
        · refine g_tabIn dQ_strays_60 (by decide) (by decide) rfl rfl ?_
          refine g_iload dQ_strays_102 rfl ?_
          refine g_iret dQ_strays_104 rfl rfl ?_
          exact ⟨by grind [straysM], rfl⟩
        refine g_split (3) (fun z3 => ?_) (fun z3 => ?_)
        · refine g_tabIn dQ_strays_60 (by decide) (by decide) rfl rfl ?_
          refine g_iconst (v := 2) dQ_strays_105 (by decide) ?_
          refine g_iload dQ_strays_106 rfl ?_
          refine g_imul dQ_strays_108 ?_
          refine g_iret dQ_strays_109 rfl rfl ?_
          exact ⟨by grind [straysM], rfl⟩
        refine g_split (4) (fun z4 => ?_) (fun z4 => ?_)
        · refine g_tabIn dQ_strays_60 (by decide) (by decide) rfl rfl ?_
          refine g_aload_n dQ_strays_110 rfl ?_
          refine g_iload_n dQ_strays_111 rfl ?_
          refine gV1 dQ_strays_112 kQ_strays_116 rfl rfl (cQ_isAlone hn h8 hj) (Nat.le_of_ble_eq_true rfl) ?_
          refine g_if_eq dQ_strays_115 rfl (fun h115 => ?_) (fun h115 => ?_)
          · rw [bI_0] at h115
            refine g_iconst (v := 0) dQ_strays_125 (by decide) ?_
            refine g_iret dQ_strays_126 rfl rfl ?_
            exact ⟨by grind [straysM], rfl⟩
          · rw [bI_0] at h115
            refine g_iconst (v := 2) dQ_strays_118 (by decide) ?_
            refine g_iload dQ_strays_119 rfl ?_
            refine g_imul dQ_strays_121 ?_
            refine g_goto dQ_strays_122 rfl ?_
            refine g_iret dQ_strays_126 rfl rfl ?_
            exact ⟨by grind [straysM], rfl⟩
        refine g_split (5) (fun z5 => ?_) (fun z5 => ?_)
        · refine g_tabIn dQ_strays_60 (by decide) (by decide) rfl rfl ?_
          refine g_iconst (v := 2) dQ_strays_127 (by decide) ?_
          refine g_iret dQ_strays_128 rfl rfl ?_
          exact ⟨by grind [straysM], rfl⟩
        refine g_split (6) (fun z6 => ?_) (fun z6 => ?_)
        · refine g_tabIn dQ_strays_60 (by decide) (by decide) rfl rfl ?_
          refine g_iload_n dQ_strays_129 rfl ?_
          refine g_iconst (v := 1) dQ_strays_130 (by decide) ?_
          refine g_isub dQ_strays_131 ?_
          refine g_iret dQ_strays_132 rfl rfl ?_
          exact ⟨by grind [straysM], rfl⟩
        refine g_tabOut dQ_strays_60 (by have q0 := lv_neT z1 (a := 1) rfl; have q1 := lv_neT z2 (a := 2) rfl; have q2 := lv_neT z3 (a := 3) rfl; have q3 := lv_neT z4 (a := 4) rfl; have q4 := lv_neT z5 (a := 5) rfl; have q5 := lv_neT z6 (a := 6) rfl; omega) rfl ?_
        refine g_iload_n dQ_strays_133 rfl ?_
        refine g_iret dQ_strays_134 rfl rfl ?_
        exact ⟨by grind [straysM], rfl⟩
      · refine g_iconst (v := (-1)) dQ_strays_47 (by decide) ?_
        refine g_goto dQ_strays_48 rfl ?_
        refine g_istore dQ_strays_52 (by decide) rfl rfl ?_
        dsimp only [List.set]
        refine g_lv (lv1 := [some (.ref (g.1 33)), some (.int (nI j)), some (.int (plainF A)), some (.int (ramF A j)), some (.int (eweF A j))]) (by grind [eweF]) ?_
        refine g_aload_n dQ_strays_54 rfl ?_
        refine g_iload_n dQ_strays_55 rfl ?_
        refine g_iconst (v := 0) dQ_strays_56 (by decide) ?_
        refine gV2 dQ_strays_57 kQ_strays_108 rfl rfl (cQ_sheepIsK (by omega)) (Nat.le_of_ble_eq_true rfl) ?_
        refine g_split (1) (fun z1 => ?_) (fun z1 => ?_)
        · refine g_tabIn dQ_strays_60 (by decide) (by decide) rfl rfl ?_
          refine g_iload_n dQ_strays_100 rfl ?_
          refine g_iret dQ_strays_101 rfl rfl ?_
          exact ⟨by grind [straysM], rfl⟩
        refine g_split (2) (fun z2 => ?_) (fun z2 => ?_)
        · refine g_tabIn dQ_strays_60 (by decide) (by decide) rfl rfl ?_
          refine g_iload dQ_strays_102 rfl ?_
          refine g_iret dQ_strays_104 rfl rfl ?_
          exact ⟨by grind [straysM], rfl⟩
        refine g_split (3) (fun z3 => ?_) (fun z3 => ?_)
        · refine g_tabIn dQ_strays_60 (by decide) (by decide) rfl rfl ?_
          refine g_iconst (v := 2) dQ_strays_105 (by decide) ?_
          refine g_iload dQ_strays_106 rfl ?_
          refine g_imul dQ_strays_108 ?_
          refine g_iret dQ_strays_109 rfl rfl ?_
          exact ⟨by grind [straysM], rfl⟩
        refine g_split (4) (fun z4 => ?_) (fun z4 => ?_)
        · refine g_tabIn dQ_strays_60 (by decide) (by decide) rfl rfl ?_
          refine g_aload_n dQ_strays_110 rfl ?_
          refine g_iload_n dQ_strays_111 rfl ?_
          refine gV1 dQ_strays_112 kQ_strays_116 rfl rfl (cQ_isAlone hn h8 hj) (Nat.le_of_ble_eq_true rfl) ?_
          refine g_if_eq dQ_strays_115 rfl (fun h115 => ?_) (fun h115 => ?_)
          · rw [bI_0] at h115
            refine g_iconst (v := 0) dQ_strays_125 (by decide) ?_
            refine g_iret dQ_strays_126 rfl rfl ?_
            exact ⟨by grind [straysM], rfl⟩
          · rw [bI_0] at h115
            refine g_iconst (v := 2) dQ_strays_118 (by decide) ?_
            refine g_iload dQ_strays_119 rfl ?_
            refine g_imul dQ_strays_121 ?_
            refine g_goto dQ_strays_122 rfl ?_
            refine g_iret dQ_strays_126 rfl rfl ?_
            exact ⟨by grind [straysM], rfl⟩
        refine g_split (5) (fun z5 => ?_) (fun z5 => ?_)
        · refine g_tabIn dQ_strays_60 (by decide) (by decide) rfl rfl ?_
          refine g_iconst (v := 2) dQ_strays_127 (by decide) ?_
          refine g_iret dQ_strays_128 rfl rfl ?_
          exact ⟨by grind [straysM], rfl⟩
        refine g_split (6) (fun z6 => ?_) (fun z6 => ?_)
        · refine g_tabIn dQ_strays_60 (by decide) (by decide) rfl rfl ?_
          refine g_iload_n dQ_strays_129 rfl ?_
          refine g_iconst (v := 1) dQ_strays_130 (by decide) ?_
          refine g_isub dQ_strays_131 ?_
          refine g_iret dQ_strays_132 rfl rfl ?_
          exact ⟨by grind [straysM], rfl⟩
        refine g_tabOut dQ_strays_60 (by have q0 := lv_neT z1 (a := 1) rfl; have q1 := lv_neT z2 (a := 2) rfl; have q2 := lv_neT z3 (a := 3) rfl; have q3 := lv_neT z4 (a := 4) rfl; have q4 := lv_neT z5 (a := 5) rfl; have q5 := lv_neT z6 (a := 6) rfl; omega) rfl ?_
        refine g_iload_n dQ_strays_133 rfl ?_
        refine g_iret dQ_strays_134 rfl rfl ?_
        exact ⟨by grind [straysM], rfl⟩

set_option maxRecDepth 4000 in
theorem lQ_setAt {l : Launch} {g : GG} {w : Wd} {A : HA} {n : Nat} (hn : A.1 6 = nI n) (h8 : n ≤ 8) {p : Int32} : ∀ (m : Nat) (i : Nat), n - i < m → i ≤ n → Go l g Q_setAt 4 [some (.ref (g.1 33)), some (.int p), some (.int (setF A.2.2.1 p i)), some (.int (nI i))] [] (mput A w) (Is (some (.int (setF A.2.2.1 p n))) (mput A w)) := by
  intro m
  induction m with
  | zero => intro i hm hi; omega
  | succ m ih =>
    intro i hm hi
    refine g_iload_n dQ_setAt_4 rfl ?_
    refine g_aload_n dQ_setAt_5 rfl ?_
    refine g_getR2 (k2 := 34) dQ_setAt_6 fQ_9 rfl rfl (by decide) rfl ?_
    refine g_iconst (v := 1) dQ_setAt_9 (by decide) ?_
    refine g_mS (j := 6) (i := 1) dQ_setAt_10 rfl (by decide) (by decide) ?_
    refine g_icmp_ge dQ_setAt_11 rfl (fun h11 => ?_) (fun h11 => ?_)
    · rw [hn, nI_leI (by omega) (by omega)] at h11
      refine g_iload_n dQ_setAt_40 rfl ?_
      refine g_iret dQ_setAt_41 rfl rfl ?_
      exact ⟨by rw [show i = n by omega], rfl⟩
    · rw [hn, nI_leI (by omega) (by omega)] at h11
      refine g_iload_n dQ_setAt_14 rfl ?_
      refine g_aload_n dQ_setAt_15 rfl ?_
      refine g_iload_n dQ_setAt_16 rfl ?_
      refine g_iconst (v := 1) dQ_setAt_17 (by decide) ?_
      refine gV2 dQ_setAt_18 kQ_setAt_108 rfl rfl (cQ_sheepIsC (by omega)) (Nat.le_of_ble_eq_true rfl) ?_
      refine g_iload_n dQ_setAt_21 rfl ?_
      refine g_icmp_ne dQ_setAt_22 rfl (fun h22 => ?_) (fun h22 => ?_)
      · refine g_iconst (v := 0) dQ_setAt_31 (by decide) ?_
        refine g_ior dQ_setAt_32 ?_
        refine g_istore_n dQ_setAt_33 (by decide) rfl rfl ?_
        dsimp only [List.set]
        refine g_lv (lv1 := [some (.ref (g.1 33)), some (.int p), some (.int (setF A.2.2.1 p (i + 1))), some (.int (nI i))]) (by simp only [setF]; split <;> simp_all [bitI]) ?_
        refine g_iinc (v := nI (i + 1)) dQ_setAt_34 rfl (nI_succ i).symm (by decide) rfl rfl ?_
        dsimp only [List.set]
        refine g_goto dQ_setAt_37 rfl ?_
        exact ih (i + 1) (by omega) (by omega)
      · refine g_iconst (v := 1) dQ_setAt_25 (by decide) ?_
        refine g_iload_n dQ_setAt_26 rfl ?_
        refine g_ishl dQ_setAt_27 ?_
        refine g_goto dQ_setAt_28 rfl ?_
        refine g_ior dQ_setAt_32 ?_
        refine g_istore_n dQ_setAt_33 (by decide) rfl rfl ?_
        dsimp only [List.set]
        refine g_lv (lv1 := [some (.ref (g.1 33)), some (.int p), some (.int (setF A.2.2.1 p (i + 1))), some (.int (nI i))]) (by simp only [setF]; split <;> simp_all [bitI]) ?_
        refine g_iinc (v := nI (i + 1)) dQ_setAt_34 rfl (nI_succ i).symm (by decide) rfl rfl ?_
        dsimp only [List.set]
        refine g_goto dQ_setAt_37 rfl ?_
        exact ih (i + 1) (by omega) (by omega)

set_option maxRecDepth 4000 in
theorem cQ_setAt {l : Launch} {g : GG} {w : Wd} {A : HA} {n : Nat} (hn : A.1 6 = nI n) (h8 : n ≤ 8) {p : Int32} : Res l g Q_setAt [.ref (g.1 33), .int p] (mput A w) (Is (some (.int (setF A.2.2.1 p n))) (mput A w)) := by
  refine Res.of (by decide) (by simp [Value.category]) (Nat.le_of_ble_eq_true rfl) rfl ?_
  show Go l g Q_setAt 0 [some (.ref (g.1 33)), some (.int p), none, none] [] (mput A w) _
  refine g_iconst (v := 0) dQ_setAt_0 (by decide) ?_
  refine g_istore_n dQ_setAt_1 (by decide) rfl rfl ?_
  dsimp only [List.set]
  refine g_iconst (v := 0) dQ_setAt_2 (by decide) ?_
  refine g_istore_n dQ_setAt_3 (by decide) rfl rfl ?_
  dsimp only [List.set]
  exact lQ_setAt hn h8 (n + 1) 0 (by omega) (by omega)

set_option maxRecDepth 4000 in
theorem lQ_lostSet {l : Launch} {g : GG} {w : Wd} {A : HA} {n : Nat} (hn : A.1 6 = nI n) (h8 : n ≤ 8)  : ∀ (m : Nat) (i : Nat), n - i < m → i ≤ n → Go l g Q_lostSet 4 [some (.ref (g.1 33)), some (.int (lsM A.2.2.1 (A.1 0) i)), some (.int (nI i))] [] (mput A w) (Is (some (.int (lsM A.2.2.1 (A.1 0) n))) (mput A w)) := by
  intro m
  induction m with
  | zero => intro i hm hi; omega
  | succ m ih =>
    intro i hm hi
    refine g_iload_n dQ_lostSet_4 rfl ?_
    refine g_aload_n dQ_lostSet_5 rfl ?_
    refine g_getR2 (k2 := 34) dQ_lostSet_6 fQ_9 rfl rfl (by decide) rfl ?_
    refine g_iconst (v := 1) dQ_lostSet_9 (by decide) ?_
    refine g_mS (j := 6) (i := 1) dQ_lostSet_10 rfl (by decide) (by decide) ?_
    refine g_icmp_ge dQ_lostSet_11 rfl (fun h11 => ?_) (fun h11 => ?_)
    · rw [hn, nI_leI (by omega) (by omega)] at h11
      refine g_iload_n dQ_lostSet_39 rfl ?_
      refine g_iret dQ_lostSet_40 rfl rfl ?_
      exact ⟨by rw [show i = n by omega], rfl⟩
    · rw [hn, nI_leI (by omega) (by omega)] at h11
      refine g_iload_n dQ_lostSet_14 rfl ?_
      refine g_aload_n dQ_lostSet_15 rfl ?_
      refine g_iload_n dQ_lostSet_16 rfl ?_
      refine gV1 dQ_lostSet_17 kQ_lostSet_122 rfl rfl (cQ_far (by omega)) (Nat.le_of_ble_eq_true rfl) ?_
      refine g_iconst (v := 3) dQ_lostSet_20 (by decide) ?_
      refine g_icmp_lt dQ_lostSet_21 rfl (fun h21 => ?_) (fun h21 => ?_)
      · refine g_iconst (v := 0) dQ_lostSet_30 (by decide) ?_
        refine g_ior dQ_lostSet_31 ?_
        refine g_istore_n dQ_lostSet_32 (by decide) rfl rfl ?_
        dsimp only [List.set]
        refine g_lv (lv1 := [some (.ref (g.1 33)), some (.int (lsM A.2.2.1 (A.1 0) (i + 1))), some (.int (nI i))]) (by simp only [lsM]; first | rw [if_pos (Int32.not_lt.mp h21)]; rfl | rw [if_neg (Int32.not_le.mpr h21)]) ?_
        refine g_iinc (v := nI (i + 1)) dQ_lostSet_33 rfl (nI_succ i).symm (by decide) rfl rfl ?_
        dsimp only [List.set]
        refine g_goto dQ_lostSet_36 rfl ?_
        exact ih (i + 1) (by omega) (by omega)
      · refine g_iconst (v := 1) dQ_lostSet_24 (by decide) ?_
        refine g_iload_n dQ_lostSet_25 rfl ?_
        refine g_ishl dQ_lostSet_26 ?_
        refine g_goto dQ_lostSet_27 rfl ?_
        refine g_ior dQ_lostSet_31 ?_
        refine g_istore_n dQ_lostSet_32 (by decide) rfl rfl ?_
        dsimp only [List.set]
        refine g_lv (lv1 := [some (.ref (g.1 33)), some (.int (lsM A.2.2.1 (A.1 0) (i + 1))), some (.int (nI i))]) (by simp only [lsM]; first | rw [if_pos (Int32.not_lt.mp h21)]; rfl | rw [if_neg (Int32.not_le.mpr h21)]) ?_
        refine g_iinc (v := nI (i + 1)) dQ_lostSet_33 rfl (nI_succ i).symm (by decide) rfl rfl ?_
        dsimp only [List.set]
        refine g_goto dQ_lostSet_36 rfl ?_
        exact ih (i + 1) (by omega) (by omega)

set_option maxRecDepth 4000 in
theorem cQ_lostSet {l : Launch} {g : GG} {w : Wd} {A : HA} {n : Nat} (hn : A.1 6 = nI n) (h8 : n ≤ 8)  : Res l g Q_lostSet [.ref (g.1 33)] (mput A w) (Is (some (.int (lsM A.2.2.1 (A.1 0) n))) (mput A w)) := by
  refine Res.of (by decide) (by simp [Value.category]) (Nat.le_of_ble_eq_true rfl) rfl ?_
  show Go l g Q_lostSet 0 [some (.ref (g.1 33)), none, none] [] (mput A w) _
  refine g_iconst (v := 0) dQ_lostSet_0 (by decide) ?_
  refine g_istore_n dQ_lostSet_1 (by decide) rfl rfl ?_
  dsimp only [List.set]
  refine g_iconst (v := 0) dQ_lostSet_2 (by decide) ?_
  refine g_istore_n dQ_lostSet_3 (by decide) rfl rfl ?_
  dsimp only [List.set]
  exact lQ_lostSet hn h8 (n + 1) 0 (by omega) (by omega)

set_option maxRecDepth 4000 in
theorem cQ_areHome {l : Launch} {g : GG} {w : Wd} {A : HA} {n : Nat} (hn : A.1 6 = nI n) (h8 : n ≤ 8)  : Res l g Q_areHome [.ref (g.1 33)] (mput A w) (Is (some (.int (bI (setF A.2.2.1 (A.1 0) n = 1 <<< (A.1 6 &&& 31) - 1)))) (mput A w)) := by
  refine Res.of (by decide) (by simp [Value.category]) (Nat.le_of_ble_eq_true rfl) rfl ?_
  show Go l g Q_areHome 0 [some (.ref (g.1 33))] [] (mput A w) _
  refine g_aload_n dQ_areHome_0 rfl ?_
  refine g_aload_n dQ_areHome_1 rfl ?_
  refine g_getR2 (k2 := 34) dQ_areHome_2 fQ_9 rfl rfl (by decide) rfl ?_
  refine g_iconst (v := 3) dQ_areHome_5 (by decide) ?_
  refine g_mS (j := 0) (i := 3) dQ_areHome_6 rfl (by decide) (by decide) ?_
  refine gV1 dQ_areHome_7 kQ_areHome_145 rfl rfl (cQ_setAt hn h8) (Nat.le_of_ble_eq_true rfl) ?_
  refine g_iconst (v := 1) dQ_areHome_10 (by decide) ?_
  refine g_aload_n dQ_areHome_11 rfl ?_
  refine g_getR2 (k2 := 34) dQ_areHome_12 fQ_9 rfl rfl (by decide) rfl ?_
  refine g_iconst (v := 1) dQ_areHome_15 (by decide) ?_
  refine g_mS (j := 6) (i := 1) dQ_areHome_16 rfl (by decide) (by decide) ?_
  refine g_ishl dQ_areHome_17 ?_
  refine g_iconst (v := 1) dQ_areHome_18 (by decide) ?_
  refine g_isub dQ_areHome_19 ?_
  refine g_icmp_ne dQ_areHome_20 rfl (fun h20 => ?_) (fun h20 => ?_)
  · refine g_iconst (v := 0) dQ_areHome_27 (by decide) ?_
    refine g_iret dQ_areHome_28 rfl (by first | rfl | exact bI_n) ?_
    exact ⟨by rw [bI]; simp_all, rfl⟩
  · refine g_iconst (v := 1) dQ_areHome_23 (by decide) ?_
    refine g_goto dQ_areHome_24 rfl ?_
    refine g_iret dQ_areHome_28 rfl (by first | rfl | exact bI_n) ?_
    exact ⟨by rw [bI]; simp_all, rfl⟩

set_option maxRecDepth 4000 in
theorem lQ_sumOf {l : Launch} {g : GG} {w : Wd} {A : HA} {n : Nat} (hn : A.1 6 = nI n) (h8 : n ≤ 8) {f : Nat} (hf : f < 5) : ∀ (m : Nat) (i : Nat), n - i < m → i ≤ n → Go l g Q_sumOf 4 [some (.ref (g.1 33)), some (.int (nI f)), some (.int (sumF (fld A f) i)), some (.int (nI i))] [] (mput A w) (Is (some (.int (sumF (fld A f) n))) (mput A w)) := by
  intro m
  induction m with
  | zero => intro i hm hi; omega
  | succ m ih =>
    intro i hm hi
    refine g_iload_n dQ_sumOf_4 rfl ?_
    refine g_aload_n dQ_sumOf_5 rfl ?_
    refine g_getR2 (k2 := 34) dQ_sumOf_6 fQ_9 rfl rfl (by decide) rfl ?_
    refine g_iconst (v := 1) dQ_sumOf_9 (by decide) ?_
    refine g_mS (j := 6) (i := 1) dQ_sumOf_10 rfl (by decide) (by decide) ?_
    refine g_icmp_ge dQ_sumOf_11 rfl (fun h11 => ?_) (fun h11 => ?_)
    · rw [hn, nI_leI (by omega) (by omega)] at h11
      refine g_iload_n dQ_sumOf_29 rfl ?_
      refine g_iret dQ_sumOf_30 rfl rfl ?_
      exact ⟨by rw [show i = n by omega], rfl⟩
    · rw [hn, nI_leI (by omega) (by omega)] at h11
      refine g_iload_n dQ_sumOf_14 rfl ?_
      refine g_aload_n dQ_sumOf_15 rfl ?_
      refine g_iload_n dQ_sumOf_16 rfl ?_
      refine g_iload_n dQ_sumOf_17 rfl ?_
      refine gV2 dQ_sumOf_18 kQ_sumOf_108 rfl rfl (cQ_sheepIs (by omega) (by omega)) (Nat.le_of_ble_eq_true rfl) ?_
      refine g_iadd dQ_sumOf_21 ?_
      refine g_istore_n dQ_sumOf_22 (by decide) rfl rfl ?_
      dsimp only [List.set]
      refine g_iinc (v := nI (i + 1)) dQ_sumOf_23 rfl (nI_succ i).symm (by decide) rfl rfl ?_
      dsimp only [List.set]
      refine g_goto dQ_sumOf_26 rfl ?_
      exact ih (i + 1) (by omega) (by omega)

set_option maxRecDepth 4000 in
theorem cQ_sumOf {l : Launch} {g : GG} {w : Wd} {A : HA} {n : Nat} (hn : A.1 6 = nI n) (h8 : n ≤ 8) {f : Nat} (hf : f < 5) : Res l g Q_sumOf [.ref (g.1 33), .int (nI f)] (mput A w) (Is (some (.int (sumF (fld A f) n))) (mput A w)) := by
  refine Res.of (by decide) (by simp [Value.category]) (Nat.le_of_ble_eq_true rfl) rfl ?_
  show Go l g Q_sumOf 0 [some (.ref (g.1 33)), some (.int (nI f)), none, none] [] (mput A w) _
  refine g_iconst (v := 0) dQ_sumOf_0 (by decide) ?_
  refine g_istore_n dQ_sumOf_1 (by decide) rfl rfl ?_
  dsimp only [List.set]
  refine g_iconst (v := 0) dQ_sumOf_2 (by decide) ?_
  refine g_istore_n dQ_sumOf_3 (by decide) rfl rfl ?_
  dsimp only [List.set]
  exact lQ_sumOf hn h8 hf (n + 1) 0 (by omega) (by omega)

set_option maxRecDepth 4000 in
theorem lQ_sought {l : Launch} {g : GG} {w : Wd} {A : HA} {n : Nat} (hn : A.1 6 = nI n) (h8 : n ≤ 8)  : ∀ (m : Nat) (i : Nat), n - i < m → i ≤ n → Go l g Q_sought 6 [some (.ref (g.1 33)), some (.int (soM A.2.2.1 (A.1 0) i).1), some (.int (soM A.2.2.1 (A.1 0) i).2), some (.int (nI i))] [] (mput A w) (Is (some (.int ((soM A.2.2.1 (A.1 0) n).1))) (mput A w)) := by
  intro m
  induction m with
  | zero => intro i hm hi; omega
  | succ m ih =>
    intro i hm hi
    refine g_iload_n dQ_sought_6 rfl ?_
    refine g_aload_n dQ_sought_7 rfl ?_
    refine g_getR2 (k2 := 34) dQ_sought_8 fQ_9 rfl rfl (by decide) rfl ?_
    refine g_iconst (v := 1) dQ_sought_11 (by decide) ?_
    refine g_mS (j := 6) (i := 1) dQ_sought_12 rfl (by decide) (by decide) ?_
    refine g_icmp_ge dQ_sought_13 rfl (fun h13 => ?_) (fun h13 => ?_)
    · rw [hn, nI_leI (by omega) (by omega)] at h13
      refine g_iload_n dQ_sought_47 rfl ?_
      refine g_iret dQ_sought_48 rfl rfl ?_
      exact ⟨by rw [show i = n by omega], rfl⟩
    · rw [hn, nI_leI (by omega) (by omega)] at h13
      refine g_aload_n dQ_sought_16 rfl ?_
      refine g_iload_n dQ_sought_17 rfl ?_
      refine gV1 dQ_sought_18 kQ_sought_122 rfl rfl (cQ_far (by omega)) (Nat.le_of_ble_eq_true rfl) ?_
      refine g_iload_n dQ_sought_21 rfl ?_
      refine g_icmp_le dQ_sought_22 rfl (fun h22 => ?_) (fun h22 => ?_)
      · refine g_iload_n dQ_sought_29 rfl ?_
        refine g_istore_n dQ_sought_30 (by decide) rfl rfl ?_
        dsimp only [List.set]
        refine g_iload_n dQ_sought_31 rfl ?_
        refine g_aload_n dQ_sought_32 rfl ?_
        refine g_iload_n dQ_sought_33 rfl ?_
        refine gV1 dQ_sought_34 kQ_sought_122 rfl rfl (cQ_far (by omega)) (Nat.le_of_ble_eq_true rfl) ?_
        refine g_max dQ_sought_37 lQ_151 (by decide) (Nat.le_of_ble_eq_true rfl) ?_
        refine g_istore_n dQ_sought_40 (by decide) rfl rfl ?_
        dsimp only [List.set]
        refine g_lv (lv1 := [some (.ref (g.1 33)), some (.int (soM A.2.2.1 (A.1 0) (i + 1)).1), some (.int (soM A.2.2.1 (A.1 0) (i + 1)).2), some (.int (nI i))]) (by rw [soM_1, soM_2]; grind) ?_
        refine g_iinc (v := nI (i + 1)) dQ_sought_41 rfl (nI_succ i).symm (by decide) rfl rfl ?_
        dsimp only [List.set]
        refine g_goto dQ_sought_44 rfl ?_
        exact ih (i + 1) (by omega) (by omega)
      · refine g_iload_n dQ_sought_25 rfl ?_
        refine g_goto dQ_sought_26 rfl ?_
        refine g_istore_n dQ_sought_30 (by decide) rfl rfl ?_
        dsimp only [List.set]
        refine g_iload_n dQ_sought_31 rfl ?_
        refine g_aload_n dQ_sought_32 rfl ?_
        refine g_iload_n dQ_sought_33 rfl ?_
        refine gV1 dQ_sought_34 kQ_sought_122 rfl rfl (cQ_far (by omega)) (Nat.le_of_ble_eq_true rfl) ?_
        refine g_max dQ_sought_37 lQ_151 (by decide) (Nat.le_of_ble_eq_true rfl) ?_
        refine g_istore_n dQ_sought_40 (by decide) rfl rfl ?_
        dsimp only [List.set]
        refine g_lv (lv1 := [some (.ref (g.1 33)), some (.int (soM A.2.2.1 (A.1 0) (i + 1)).1), some (.int (soM A.2.2.1 (A.1 0) (i + 1)).2), some (.int (nI i))]) (by rw [soM_1, soM_2]; grind) ?_
        refine g_iinc (v := nI (i + 1)) dQ_sought_41 rfl (nI_succ i).symm (by decide) rfl rfl ?_
        dsimp only [List.set]
        refine g_goto dQ_sought_44 rfl ?_
        exact ih (i + 1) (by omega) (by omega)

set_option maxRecDepth 4000 in
theorem cQ_sought {l : Launch} {g : GG} {w : Wd} {A : HA} {n : Nat} (hn : A.1 6 = nI n) (h8 : n ≤ 8)  : Res l g Q_sought [.ref (g.1 33)] (mput A w) (Is (some (.int ((soM A.2.2.1 (A.1 0) n).1))) (mput A w)) := by
  refine Res.of (by decide) (by simp [Value.category]) (Nat.le_of_ble_eq_true rfl) rfl ?_
  show Go l g Q_sought 0 [some (.ref (g.1 33)), none, none, none] [] (mput A w) _
  refine g_iconst (v := (-1)) dQ_sought_0 (by decide) ?_
  refine g_istore_n dQ_sought_1 (by decide) rfl rfl ?_
  dsimp only [List.set]
  refine g_iconst (v := 2) dQ_sought_2 (by decide) ?_
  refine g_istore_n dQ_sought_3 (by decide) rfl rfl ?_
  dsimp only [List.set]
  refine g_iconst (v := 0) dQ_sought_4 (by decide) ?_
  refine g_istore_n dQ_sought_5 (by decide) rfl rfl ?_
  dsimp only [List.set]
  exact lQ_sought hn h8 (n + 1) 0 (by omega) (by omega)

set_option maxRecDepth 4000 in
theorem lQ_mostAfraid {l : Launch} {g : GG} {w : Wd} {A : HA} {n : Nat} (hn : A.1 6 = nI n) (h8 : n ≤ 8)  : ∀ (m : Nat) (i : Nat), n - i < m → i ≤ n → Go l g Q_mostAfraid 6 [some (.ref (g.1 33)), some (.int (maM A.2.2.2.1 i).1), some (.int (maM A.2.2.2.1 i).2), some (.int (nI i))] [] (mput A w) (Is (some (.int ((maM A.2.2.2.1 n).1))) (mput A w)) := by
  intro m
  induction m with
  | zero => intro i hm hi; omega
  | succ m ih =>
    intro i hm hi
    refine g_iload_n dQ_mostAfraid_6 rfl ?_
    refine g_aload_n dQ_mostAfraid_7 rfl ?_
    refine g_getR2 (k2 := 34) dQ_mostAfraid_8 fQ_9 rfl rfl (by decide) rfl ?_
    refine g_iconst (v := 1) dQ_mostAfraid_11 (by decide) ?_
    refine g_mS (j := 6) (i := 1) dQ_mostAfraid_12 rfl (by decide) (by decide) ?_
    refine g_icmp_ge dQ_mostAfraid_13 rfl (fun h13 => ?_) (fun h13 => ?_)
    · rw [hn, nI_leI (by omega) (by omega)] at h13
      refine g_iload_n dQ_mostAfraid_49 rfl ?_
      refine g_iret dQ_mostAfraid_50 rfl rfl ?_
      exact ⟨by rw [show i = n by omega], rfl⟩
    · rw [hn, nI_leI (by omega) (by omega)] at h13
      refine g_aload_n dQ_mostAfraid_16 rfl ?_
      refine g_iload_n dQ_mostAfraid_17 rfl ?_
      refine g_iconst (v := 2) dQ_mostAfraid_18 (by decide) ?_
      refine gV2 dQ_mostAfraid_19 kQ_mostAfraid_108 rfl rfl (cQ_sheepIsF (by omega)) (Nat.le_of_ble_eq_true rfl) ?_
      refine g_iload_n dQ_mostAfraid_22 rfl ?_
      refine g_icmp_le dQ_mostAfraid_23 rfl (fun h23 => ?_) (fun h23 => ?_)
      · refine g_iload_n dQ_mostAfraid_30 rfl ?_
        refine g_istore_n dQ_mostAfraid_31 (by decide) rfl rfl ?_
        dsimp only [List.set]
        refine g_iload_n dQ_mostAfraid_32 rfl ?_
        refine g_aload_n dQ_mostAfraid_33 rfl ?_
        refine g_iload_n dQ_mostAfraid_34 rfl ?_
        refine g_iconst (v := 2) dQ_mostAfraid_35 (by decide) ?_
        refine gV2 dQ_mostAfraid_36 kQ_mostAfraid_108 rfl rfl (cQ_sheepIsF (by omega)) (Nat.le_of_ble_eq_true rfl) ?_
        refine g_max dQ_mostAfraid_39 lQ_151 (by decide) (Nat.le_of_ble_eq_true rfl) ?_
        refine g_istore_n dQ_mostAfraid_42 (by decide) rfl rfl ?_
        dsimp only [List.set]
        refine g_lv (lv1 := [some (.ref (g.1 33)), some (.int (maM A.2.2.2.1 (i + 1)).1), some (.int (maM A.2.2.2.1 (i + 1)).2), some (.int (nI i))]) (by rw [maM_1, maM_2]; grind) ?_
        refine g_iinc (v := nI (i + 1)) dQ_mostAfraid_43 rfl (nI_succ i).symm (by decide) rfl rfl ?_
        dsimp only [List.set]
        refine g_goto dQ_mostAfraid_46 rfl ?_
        exact ih (i + 1) (by omega) (by omega)
      · refine g_iload_n dQ_mostAfraid_26 rfl ?_
        refine g_goto dQ_mostAfraid_27 rfl ?_
        refine g_istore_n dQ_mostAfraid_31 (by decide) rfl rfl ?_
        dsimp only [List.set]
        refine g_iload_n dQ_mostAfraid_32 rfl ?_
        refine g_aload_n dQ_mostAfraid_33 rfl ?_
        refine g_iload_n dQ_mostAfraid_34 rfl ?_
        refine g_iconst (v := 2) dQ_mostAfraid_35 (by decide) ?_
        refine gV2 dQ_mostAfraid_36 kQ_mostAfraid_108 rfl rfl (cQ_sheepIsF (by omega)) (Nat.le_of_ble_eq_true rfl) ?_
        refine g_max dQ_mostAfraid_39 lQ_151 (by decide) (Nat.le_of_ble_eq_true rfl) ?_
        refine g_istore_n dQ_mostAfraid_42 (by decide) rfl rfl ?_
        dsimp only [List.set]
        refine g_lv (lv1 := [some (.ref (g.1 33)), some (.int (maM A.2.2.2.1 (i + 1)).1), some (.int (maM A.2.2.2.1 (i + 1)).2), some (.int (nI i))]) (by rw [maM_1, maM_2]; grind) ?_
        refine g_iinc (v := nI (i + 1)) dQ_mostAfraid_43 rfl (nI_succ i).symm (by decide) rfl rfl ?_
        dsimp only [List.set]
        refine g_goto dQ_mostAfraid_46 rfl ?_
        exact ih (i + 1) (by omega) (by omega)

set_option maxRecDepth 4000 in
theorem cQ_mostAfraid {l : Launch} {g : GG} {w : Wd} {A : HA} {n : Nat} (hn : A.1 6 = nI n) (h8 : n ≤ 8)  : Res l g Q_mostAfraid [.ref (g.1 33)] (mput A w) (Is (some (.int ((maM A.2.2.2.1 n).1))) (mput A w)) := by
  refine Res.of (by decide) (by simp [Value.category]) (Nat.le_of_ble_eq_true rfl) rfl ?_
  show Go l g Q_mostAfraid 0 [some (.ref (g.1 33)), none, none, none] [] (mput A w) _
  refine g_iconst (v := (-1)) dQ_mostAfraid_0 (by decide) ?_
  refine g_istore_n dQ_mostAfraid_1 (by decide) rfl rfl ?_
  dsimp only [List.set]
  refine g_iconst (v := (-1)) dQ_mostAfraid_2 (by decide) ?_
  refine g_istore_n dQ_mostAfraid_3 (by decide) rfl rfl ?_
  dsimp only [List.set]
  refine g_iconst (v := 0) dQ_mostAfraid_4 (by decide) ?_
  refine g_istore_n dQ_mostAfraid_5 (by decide) rfl rfl ?_
  dsimp only [List.set]
  exact lQ_mostAfraid hn h8 (n + 1) 0 (by omega) (by omega)

set_option maxRecDepth 4000 in
theorem lQ_nearest {l : Launch} {g : GG} {w : Wd} {A : HA} {n : Nat} (hn : A.1 6 = nI n) (h8 : n ≤ 8)  : ∀ (m : Nat) (i : Nat), n - i < m → i ≤ n → Go l g Q_nearest 7 [some (.ref (g.1 33)), some (.int (neM A.2.2.1 (A.1 2) (A.1 3) i).1), some (.int (neM A.2.2.1 (A.1 2) (A.1 3) i).2), some (.int (nI i)), none] [] (mput A w) (Is (some (.int ((neM A.2.2.1 (A.1 2) (A.1 3) n).1))) (mput A w)) := by
  intro m
  induction m with
  | zero => intro i hm hi; omega
  | succ m ih =>
    intro i hm hi
    refine g_iload_n dQ_nearest_7 rfl ?_
    refine g_aload_n dQ_nearest_8 rfl ?_
    refine g_getR2 (k2 := 34) dQ_nearest_9 fQ_9 rfl rfl (by decide) rfl ?_
    refine g_iconst (v := 1) dQ_nearest_12 (by decide) ?_
    refine g_mS (j := 6) (i := 1) dQ_nearest_13 rfl (by decide) (by decide) ?_
    refine g_icmp_ge dQ_nearest_14 rfl (fun h14 => ?_) (fun h14 => ?_)
    · rw [hn, nI_leI (by omega) (by omega)] at h14
      refine g_iload_n dQ_nearest_76 rfl ?_
      refine g_iret dQ_nearest_77 rfl rfl ?_
      exact ⟨by rw [show i = n by omega], rfl⟩
    · rw [hn, nI_leI (by omega) (by omega)] at h14
      refine g_iload_n dQ_nearest_17 rfl ?_
      refine g_aload_n dQ_nearest_18 rfl ?_
      refine g_getR2 (k2 := 34) dQ_nearest_19 fQ_9 rfl rfl (by decide) rfl ?_
      refine g_bipush (v := 7) dQ_nearest_22 (by decide) ?_
      refine g_mS (j := 2) (i := 7) dQ_nearest_24 rfl (by decide) (by decide) ?_
      refine g_icmp_ne dQ_nearest_25 rfl (fun h25 => ?_) (fun h25 => ?_)
      · refine g_aload_n dQ_nearest_33 rfl ?_
        refine g_iload_n dQ_nearest_34 rfl ?_
        refine g_iconst (v := 1) dQ_nearest_35 (by decide) ?_
        refine gV2 dQ_nearest_36 kQ_nearest_108 rfl rfl (cQ_sheepIsC (by omega)) (Nat.le_of_ble_eq_true rfl) ?_
        refine g_aload_n dQ_nearest_39 rfl ?_
        refine g_getR2 (k2 := 34) dQ_nearest_40 fQ_9 rfl rfl (by decide) rfl ?_
        refine g_iconst (v := 5) dQ_nearest_43 (by decide) ?_
        refine g_mS (j := 3) (i := 5) dQ_nearest_44 rfl (by decide) (by decide) ?_
        refine g_isub dQ_nearest_45 ?_
        refine g_abs dQ_nearest_46 lQ_111 (by decide) (Nat.le_of_ble_eq_true rfl) ?_
        refine g_istore dQ_nearest_49 (by decide) rfl rfl ?_
        dsimp only [List.set]
        refine g_lv (lv1 := [some (.ref (g.1 33)), some (.int (neM A.2.2.1 (A.1 2) (A.1 3) i).1), some (.int (neM A.2.2.1 (A.1 2) (A.1 3) i).2), some (.int (nI i)), some (.int (if nI i = A.1 2 then 16 else abI (A.2.2.1 i - A.1 3)))]) (by grind) ?_
        refine g_iload dQ_nearest_51 rfl ?_
        refine g_iload_n dQ_nearest_53 rfl ?_
        refine g_icmp_ge dQ_nearest_54 rfl (fun h54 => ?_) (fun h54 => ?_)
        · refine g_iload_n dQ_nearest_61 rfl ?_
          refine g_istore_n dQ_nearest_62 (by decide) rfl rfl ?_
          dsimp only [List.set]
          refine g_iload_n dQ_nearest_63 rfl ?_
          refine g_iload dQ_nearest_64 rfl ?_
          refine g_min dQ_nearest_66 lQ_148 (by decide) (Nat.le_of_ble_eq_true rfl) ?_
          refine g_istore_n dQ_nearest_69 (by decide) rfl rfl ?_
          dsimp only [List.set]
          refine g_lv (lv1 := [some (.ref (g.1 33)), some (.int (neM A.2.2.1 (A.1 2) (A.1 3) (i + 1)).1), some (.int (neM A.2.2.1 (A.1 2) (A.1 3) (i + 1)).2), some (.int (nI i)), some (.int (if nI i = A.1 2 then 16 else abI (A.2.2.1 i - A.1 3)))]) (by rw [neM_1, neM_2]; grind) ?_
          refine g_drop 4 rfl ?_
          dsimp only [List.set]
          refine g_iinc (v := nI (i + 1)) dQ_nearest_70 rfl (nI_succ i).symm (by decide) rfl rfl ?_
          dsimp only [List.set]
          refine g_goto dQ_nearest_73 rfl ?_
          exact ih (i + 1) (by omega) (by omega)
        · refine g_iload_n dQ_nearest_57 rfl ?_
          refine g_goto dQ_nearest_58 rfl ?_
          refine g_istore_n dQ_nearest_62 (by decide) rfl rfl ?_
          dsimp only [List.set]
          refine g_iload_n dQ_nearest_63 rfl ?_
          refine g_iload dQ_nearest_64 rfl ?_
          refine g_min dQ_nearest_66 lQ_148 (by decide) (Nat.le_of_ble_eq_true rfl) ?_
          refine g_istore_n dQ_nearest_69 (by decide) rfl rfl ?_
          dsimp only [List.set]
          refine g_lv (lv1 := [some (.ref (g.1 33)), some (.int (neM A.2.2.1 (A.1 2) (A.1 3) (i + 1)).1), some (.int (neM A.2.2.1 (A.1 2) (A.1 3) (i + 1)).2), some (.int (nI i)), some (.int (if nI i = A.1 2 then 16 else abI (A.2.2.1 i - A.1 3)))]) (by rw [neM_1, neM_2]; grind) ?_
          refine g_drop 4 rfl ?_
          dsimp only [List.set]
          refine g_iinc (v := nI (i + 1)) dQ_nearest_70 rfl (nI_succ i).symm (by decide) rfl rfl ?_
          dsimp only [List.set]
          refine g_goto dQ_nearest_73 rfl ?_
          exact ih (i + 1) (by omega) (by omega)
      · refine g_bipush (v := 16) dQ_nearest_28 (by decide) ?_
        refine g_goto dQ_nearest_30 rfl ?_
        refine g_istore dQ_nearest_49 (by decide) rfl rfl ?_
        dsimp only [List.set]
        refine g_lv (lv1 := [some (.ref (g.1 33)), some (.int (neM A.2.2.1 (A.1 2) (A.1 3) i).1), some (.int (neM A.2.2.1 (A.1 2) (A.1 3) i).2), some (.int (nI i)), some (.int (if nI i = A.1 2 then 16 else abI (A.2.2.1 i - A.1 3)))]) (by grind) ?_
        refine g_iload dQ_nearest_51 rfl ?_
        refine g_iload_n dQ_nearest_53 rfl ?_
        refine g_icmp_ge dQ_nearest_54 rfl (fun h54 => ?_) (fun h54 => ?_)
        · refine g_iload_n dQ_nearest_61 rfl ?_
          refine g_istore_n dQ_nearest_62 (by decide) rfl rfl ?_
          dsimp only [List.set]
          refine g_iload_n dQ_nearest_63 rfl ?_
          refine g_iload dQ_nearest_64 rfl ?_
          refine g_min dQ_nearest_66 lQ_148 (by decide) (Nat.le_of_ble_eq_true rfl) ?_
          refine g_istore_n dQ_nearest_69 (by decide) rfl rfl ?_
          dsimp only [List.set]
          refine g_lv (lv1 := [some (.ref (g.1 33)), some (.int (neM A.2.2.1 (A.1 2) (A.1 3) (i + 1)).1), some (.int (neM A.2.2.1 (A.1 2) (A.1 3) (i + 1)).2), some (.int (nI i)), some (.int (if nI i = A.1 2 then 16 else abI (A.2.2.1 i - A.1 3)))]) (by rw [neM_1, neM_2]; grind) ?_
          refine g_drop 4 rfl ?_
          dsimp only [List.set]
          refine g_iinc (v := nI (i + 1)) dQ_nearest_70 rfl (nI_succ i).symm (by decide) rfl rfl ?_
          dsimp only [List.set]
          refine g_goto dQ_nearest_73 rfl ?_
          exact ih (i + 1) (by omega) (by omega)
        · refine g_iload_n dQ_nearest_57 rfl ?_
          refine g_goto dQ_nearest_58 rfl ?_
          refine g_istore_n dQ_nearest_62 (by decide) rfl rfl ?_
          dsimp only [List.set]
          refine g_iload_n dQ_nearest_63 rfl ?_
          refine g_iload dQ_nearest_64 rfl ?_
          refine g_min dQ_nearest_66 lQ_148 (by decide) (Nat.le_of_ble_eq_true rfl) ?_
          refine g_istore_n dQ_nearest_69 (by decide) rfl rfl ?_
          dsimp only [List.set]
          refine g_lv (lv1 := [some (.ref (g.1 33)), some (.int (neM A.2.2.1 (A.1 2) (A.1 3) (i + 1)).1), some (.int (neM A.2.2.1 (A.1 2) (A.1 3) (i + 1)).2), some (.int (nI i)), some (.int (if nI i = A.1 2 then 16 else abI (A.2.2.1 i - A.1 3)))]) (by rw [neM_1, neM_2]; grind) ?_
          refine g_drop 4 rfl ?_
          dsimp only [List.set]
          refine g_iinc (v := nI (i + 1)) dQ_nearest_70 rfl (nI_succ i).symm (by decide) rfl rfl ?_
          dsimp only [List.set]
          refine g_goto dQ_nearest_73 rfl ?_
          exact ih (i + 1) (by omega) (by omega)

set_option maxRecDepth 4000 in
theorem cQ_nearest {l : Launch} {g : GG} {w : Wd} {A : HA} {n : Nat} (hn : A.1 6 = nI n) (h8 : n ≤ 8)  : Res l g Q_nearest [.ref (g.1 33)] (mput A w) (Is (some (.int ((neM A.2.2.1 (A.1 2) (A.1 3) n).1))) (mput A w)) := by
  refine Res.of (by decide) (by simp [Value.category]) (Nat.le_of_ble_eq_true rfl) rfl ?_
  show Go l g Q_nearest 0 [some (.ref (g.1 33)), none, none, none, none] [] (mput A w) _
  refine g_iconst (v := (-1)) dQ_nearest_0 (by decide) ?_
  refine g_istore_n dQ_nearest_1 (by decide) rfl rfl ?_
  dsimp only [List.set]
  refine g_bipush (v := 16) dQ_nearest_2 (by decide) ?_
  refine g_istore_n dQ_nearest_4 (by decide) rfl rfl ?_
  dsimp only [List.set]
  refine g_iconst (v := 0) dQ_nearest_5 (by decide) ?_
  refine g_istore_n dQ_nearest_6 (by decide) rfl rfl ?_
  dsimp only [List.set]
  exact lQ_nearest hn h8 (n + 1) 0 (by omega) (by omega)

set_option maxRecDepth 4000 in
theorem cQ_awayFrom {l : Launch} {g : GG} {w : Wd} {A : HA} {p s : Int32} : Res l g Q_awayFrom [.ref (g.1 33), .int p, .int s] (mput A w) (Is (some (.int (if A.1 0 < p ∨ (p = A.1 0 ∧ A.1 0 < 15) then mnI (p + s) 15 else mxI (p - s) 0))) (mput A w)) := by
  refine Res.of (by decide) (by simp [Value.category]) (Nat.le_of_ble_eq_true rfl) rfl ?_
  show Go l g Q_awayFrom 0 [some (.ref (g.1 33)), some (.int p), some (.int s), none] [] (mput A w) _
  refine g_iload_n dQ_awayFrom_0 rfl ?_
  refine g_aload_n dQ_awayFrom_1 rfl ?_
  refine g_getR2 (k2 := 34) dQ_awayFrom_2 fQ_9 rfl rfl (by decide) rfl ?_
  refine g_iconst (v := 3) dQ_awayFrom_5 (by decide) ?_
  refine g_mS (j := 0) (i := 3) dQ_awayFrom_6 rfl (by decide) (by decide) ?_
  refine g_icmp_gt dQ_awayFrom_7 rfl (fun h7 => ?_) (fun h7 => ?_)
  · refine g_iconst (v := 1) dQ_awayFrom_26 (by decide) ?_
    refine g_goto dQ_awayFrom_27 rfl ?_
    refine g_istore_n dQ_awayFrom_31 (by decide) rfl rfl ?_
    dsimp only [List.set]
    refine g_iload_n dQ_awayFrom_32 rfl ?_
    refine g_if_eq dQ_awayFrom_33 rfl (fun h33 => ?_) (fun h33 => ?_)
    · exact absurd h33 (by decide)
    · refine g_bipush (v := 15) dQ_awayFrom_36 (by decide) ?_
      refine g_iload_n dQ_awayFrom_38 rfl ?_
      refine g_iload_n dQ_awayFrom_39 rfl ?_
      refine g_iadd dQ_awayFrom_40 ?_
      refine g_min dQ_awayFrom_41 lQ_148 (by decide) (Nat.le_of_ble_eq_true rfl) ?_
      refine g_goto dQ_awayFrom_44 rfl ?_
      refine g_iret dQ_awayFrom_54 rfl rfl ?_
      exact ⟨by grind [mnI, mxI], rfl⟩
  · refine g_iload_n dQ_awayFrom_10 rfl ?_
    refine g_aload_n dQ_awayFrom_11 rfl ?_
    refine g_getR2 (k2 := 34) dQ_awayFrom_12 fQ_9 rfl rfl (by decide) rfl ?_
    refine g_iconst (v := 3) dQ_awayFrom_15 (by decide) ?_
    refine g_mS (j := 0) (i := 3) dQ_awayFrom_16 rfl (by decide) (by decide) ?_
    refine g_icmp_ne dQ_awayFrom_17 rfl (fun h17 => ?_) (fun h17 => ?_)
    · refine g_iconst (v := 0) dQ_awayFrom_30 (by decide) ?_
      refine g_istore_n dQ_awayFrom_31 (by decide) rfl rfl ?_
      dsimp only [List.set]
      refine g_iload_n dQ_awayFrom_32 rfl ?_
      refine g_if_eq dQ_awayFrom_33 rfl (fun h33 => ?_) (fun h33 => ?_)
      · refine g_iconst (v := 0) dQ_awayFrom_47 (by decide) ?_
        refine g_iload_n dQ_awayFrom_48 rfl ?_
        refine g_iload_n dQ_awayFrom_49 rfl ?_
        refine g_isub dQ_awayFrom_50 ?_
        refine g_max dQ_awayFrom_51 lQ_151 (by decide) (Nat.le_of_ble_eq_true rfl) ?_
        refine g_iret dQ_awayFrom_54 rfl rfl ?_
        exact ⟨by grind [mnI, mxI], rfl⟩
      · exact absurd h33 (by decide)
    · refine g_iload_n dQ_awayFrom_20 rfl ?_
      refine g_bipush (v := 15) dQ_awayFrom_21 (by decide) ?_
      refine g_icmp_ge dQ_awayFrom_23 rfl (fun h23 => ?_) (fun h23 => ?_)
      · refine g_iconst (v := 0) dQ_awayFrom_30 (by decide) ?_
        refine g_istore_n dQ_awayFrom_31 (by decide) rfl rfl ?_
        dsimp only [List.set]
        refine g_iload_n dQ_awayFrom_32 rfl ?_
        refine g_if_eq dQ_awayFrom_33 rfl (fun h33 => ?_) (fun h33 => ?_)
        · refine g_iconst (v := 0) dQ_awayFrom_47 (by decide) ?_
          refine g_iload_n dQ_awayFrom_48 rfl ?_
          refine g_iload_n dQ_awayFrom_49 rfl ?_
          refine g_isub dQ_awayFrom_50 ?_
          refine g_max dQ_awayFrom_51 lQ_151 (by decide) (Nat.le_of_ble_eq_true rfl) ?_
          refine g_iret dQ_awayFrom_54 rfl rfl ?_
          exact ⟨by grind [mnI, mxI], rfl⟩
        · exact absurd h33 (by decide)
      · refine g_iconst (v := 1) dQ_awayFrom_26 (by decide) ?_
        refine g_goto dQ_awayFrom_27 rfl ?_
        refine g_istore_n dQ_awayFrom_31 (by decide) rfl rfl ?_
        dsimp only [List.set]
        refine g_iload_n dQ_awayFrom_32 rfl ?_
        refine g_if_eq dQ_awayFrom_33 rfl (fun h33 => ?_) (fun h33 => ?_)
        · exact absurd h33 (by decide)
        · refine g_bipush (v := 15) dQ_awayFrom_36 (by decide) ?_
          refine g_iload_n dQ_awayFrom_38 rfl ?_
          refine g_iload_n dQ_awayFrom_39 rfl ?_
          refine g_iadd dQ_awayFrom_40 ?_
          refine g_min dQ_awayFrom_41 lQ_148 (by decide) (Nat.le_of_ble_eq_true rfl) ?_
          refine g_goto dQ_awayFrom_44 rfl ?_
          refine g_iret dQ_awayFrom_54 rfl rfl ?_
          exact ⟨by grind [mnI, mxI], rfl⟩

set_option maxRecDepth 4000 in
theorem lQ_sheepGo {l : Launch} {g : GG} {w : Wd} {A : HA} {n : Nat} (hn : A.1 6 = nI n) (h8 : n ≤ 8)  : ∀ (m : Nat) (i : Nat), n - i < m → i ≤ n → Go l g Q_sheepGo 2 [some (.ref (g.1 33)), some (.int (nI i)), none, none] [] (mput (stM (w 33 5) n i A) w) (Is none (mput (stM (w 33 5) n n A) w)) := by
  intro m
  induction m with
  | zero => intro i hm hi; omega
  | succ m ih =>
    intro i hm hi
    refine g_iload_n dQ_sheepGo_2 rfl ?_
    refine g_aload_n dQ_sheepGo_3 rfl ?_
    refine g_getR2 (k2 := 34) dQ_sheepGo_4 fQ_9 rfl rfl (by decide) rfl ?_
    refine g_iconst (v := 1) dQ_sheepGo_7 (by decide) ?_
    refine g_mS (j := 6) (i := 1) dQ_sheepGo_8 rfl (by decide) (by decide) ?_
    refine g_icmp_ge dQ_sheepGo_9 rfl (fun h9 => ?_) (fun h9 => ?_)
    · rw [stM_S, hn, nI_leI (by omega) (by omega)] at h9
      refine g_vret dQ_sheepGo_88 rfl ?_
      exact ⟨rfl, by rw [show i = n by omega]⟩
    · rw [stM_S, hn, nI_leI (by omega) (by omega)] at h9
      refine g_aload_n dQ_sheepGo_12 rfl ?_
      refine g_iload_n dQ_sheepGo_13 rfl ?_
      refine gV1 dQ_sheepGo_14 kQ_sheepGo_125 rfl rfl (cQ_strays (n := n) (by rw [stM_S]; exact hn) h8 (by omega)) (Nat.le_of_ble_eq_true rfl) ?_
      refine g_istore_n dQ_sheepGo_17 (by decide) rfl rfl ?_
      dsimp only [List.set]
      refine g_aload_n dQ_sheepGo_18 rfl ?_
      refine g_iload_n dQ_sheepGo_19 rfl ?_
      refine g_iconst (v := 1) dQ_sheepGo_20 (by decide) ?_
      refine gV2 dQ_sheepGo_21 kQ_sheepGo_108 rfl rfl (cQ_sheepIsC (by omega)) (Nat.le_of_ble_eq_true rfl) ?_
      refine g_istore_n dQ_sheepGo_24 (by decide) rfl rfl ?_
      dsimp only [List.set]
      refine g_iload_n dQ_sheepGo_25 rfl ?_
      refine g_aload_n dQ_sheepGo_26 rfl ?_
      refine g_getR2 (k2 := 34) dQ_sheepGo_27 fQ_9 rfl rfl (by decide) rfl ?_
      refine g_bipush (v := 7) dQ_sheepGo_30 (by decide) ?_
      refine g_mS (j := 2) (i := 7) dQ_sheepGo_32 rfl (by decide) (by decide) ?_
      refine g_icmp_eq dQ_sheepGo_33 rfl (fun h33 => ?_) (fun h33 => ?_)
      · refine g_drop 2 rfl ?_
        refine g_drop 3 rfl ?_
        dsimp only [List.set]
        refine g_w (w1 := mput (stM (w 33 5) n (i + 1) A) w) (by
            show mput _ w = mput (stSM (w 33 5) n i (stM (w 33 5) n i A)) w
            first | (rw [stSM, if_pos (And.intro h33 h44), sfF_neg h57]; rfl) | (rw [stSM, if_pos (And.intro h33 h44), sfF_pos h57]; rfl) | (unfold stSM; split <;> first | with_reducible rfl | (exfalso; grind))) ?_
        refine g_iinc (v := nI (i + 1)) dQ_sheepGo_82 rfl (nI_succ i).symm (by decide) rfl rfl ?_
        dsimp only [List.set]
        refine g_goto dQ_sheepGo_85 rfl ?_
        exact ih (i + 1) (by omega) (by omega)
      · refine g_aload_n dQ_sheepGo_36 rfl ?_
        refine g_getI dQ_sheepGo_37 fQ_154 rfl rfl ?_
        rw [mput_o _ w (by decide)]
        refine g_iload_n dQ_sheepGo_40 rfl ?_
        refine gS2 dQ_sheepGo_41 kQ_sheepGo_158 cQ_hasBit (Nat.le_of_ble_eq_true rfl) ?_
        refine g_if_ne dQ_sheepGo_44 rfl (fun h44 => ?_) (fun h44 => ?_)
        · rw [bI_0] at h44
          refine g_drop 2 rfl ?_
          refine g_drop 3 rfl ?_
          dsimp only [List.set]
          refine g_w (w1 := mput (stM (w 33 5) n (i + 1) A) w) (by
              show mput _ w = mput (stSM (w 33 5) n i (stM (w 33 5) n i A)) w
              first | (rw [stSM, if_pos (And.intro h33 h44), sfF_neg h57]; rfl) | (rw [stSM, if_pos (And.intro h33 h44), sfF_pos h57]; rfl) | (unfold stSM; split <;> first | with_reducible rfl | (exfalso; grind))) ?_
          refine g_iinc (v := nI (i + 1)) dQ_sheepGo_82 rfl (nI_succ i).symm (by decide) rfl rfl ?_
          dsimp only [List.set]
          refine g_goto dQ_sheepGo_85 rfl ?_
          exact ih (i + 1) (by omega) (by omega)
        · rw [bI_0] at h44
          refine g_aload_n dQ_sheepGo_47 rfl ?_
          refine g_getR2 (k2 := 34) dQ_sheepGo_48 fQ_9 rfl rfl (by decide) rfl ?_
          refine g_iload_n dQ_sheepGo_51 rfl ?_
          refine g_iconst (v := 1) dQ_sheepGo_52 (by decide) ?_
          refine gS2 dQ_sheepGo_53 kQ_sheepGo_83 (cQ_sheepAt (f := 1)) (Nat.le_of_ble_eq_true rfl) ?_
          refine g_iload_n dQ_sheepGo_56 rfl ?_
          refine g_if_ge dQ_sheepGo_57 rfl (fun h57 => ?_) (fun h57 => ?_)
          · refine g_aload_n dQ_sheepGo_75 rfl ?_
            refine g_iload_n dQ_sheepGo_76 rfl ?_
            refine g_iload_n dQ_sheepGo_77 rfl ?_
            refine gV2 dQ_sheepGo_78 kQ_sheepGo_165 rfl rfl cQ_awayFrom (Nat.le_of_ble_eq_true rfl) ?_
            refine g_ms (f := 1) dQ_sheepGo_81 (by decide) (by omega) ?_
            refine g_drop 2 rfl ?_
            refine g_drop 3 rfl ?_
            dsimp only [List.set]
            refine g_w (w1 := mput (stM (w 33 5) n (i + 1) A) w) (by
                show mput _ w = mput (stSM (w 33 5) n i (stM (w 33 5) n i A)) w
                first | (rw [stSM, if_pos (And.intro h33 h44), sfF_neg h57]; rfl) | (rw [stSM, if_pos (And.intro h33 h44), sfF_pos h57]; rfl) | (unfold stSM; split <;> first | with_reducible rfl | (exfalso; grind))) ?_
            refine g_iinc (v := nI (i + 1)) dQ_sheepGo_82 rfl (nI_succ i).symm (by decide) rfl rfl ?_
            dsimp only [List.set]
            refine g_goto dQ_sheepGo_85 rfl ?_
            exact ih (i + 1) (by omega) (by omega)
          · refine g_iload_n dQ_sheepGo_60 rfl ?_
            refine g_aload_n dQ_sheepGo_61 rfl ?_
            refine g_getR2 (k2 := 34) dQ_sheepGo_62 fQ_9 rfl rfl (by decide) rfl ?_
            refine g_iconst (v := 3) dQ_sheepGo_65 (by decide) ?_
            refine g_mS (j := 0) (i := 3) dQ_sheepGo_66 rfl (by decide) (by decide) ?_
            refine g_iload_n dQ_sheepGo_67 rfl ?_
            refine g_ineg dQ_sheepGo_68 ?_
            refine gS3 dQ_sheepGo_69 kQ_sheepGo_161 cQ_towards (Nat.le_of_ble_eq_true rfl) ?_
            refine g_goto dQ_sheepGo_72 rfl ?_
            refine g_ms (f := 1) dQ_sheepGo_81 (by decide) (by omega) ?_
            refine g_drop 2 rfl ?_
            refine g_drop 3 rfl ?_
            dsimp only [List.set]
            refine g_w (w1 := mput (stM (w 33 5) n (i + 1) A) w) (by
                show mput _ w = mput (stSM (w 33 5) n i (stM (w 33 5) n i A)) w
                first | (rw [stSM, if_pos (And.intro h33 h44), sfF_neg h57]; rfl) | (rw [stSM, if_pos (And.intro h33 h44), sfF_pos h57]; rfl) | (unfold stSM; split <;> first | with_reducible rfl | (exfalso; grind))) ?_
            refine g_iinc (v := nI (i + 1)) dQ_sheepGo_82 rfl (nI_succ i).symm (by decide) rfl rfl ?_
            dsimp only [List.set]
            refine g_goto dQ_sheepGo_85 rfl ?_
            exact ih (i + 1) (by omega) (by omega)

set_option maxRecDepth 4000 in
theorem cQ_sheepGo {l : Launch} {g : GG} {w : Wd} {A : HA} {n : Nat} (hn : A.1 6 = nI n) (h8 : n ≤ 8)  : Res l g Q_sheepGo [.ref (g.1 33)] (mput A w) (Is (none) (mput (stM (w 33 5) n n A) w)) := by
  refine Res.of (by decide) (by simp [Value.category]) (Nat.le_of_ble_eq_true rfl) rfl ?_
  show Go l g Q_sheepGo 0 [some (.ref (g.1 33)), none, none, none] [] (mput A w) _
  refine g_iconst (v := 0) dQ_sheepGo_0 (by decide) ?_
  refine g_istore_n dQ_sheepGo_1 (by decide) rfl rfl ?_
  dsimp only [List.set]
  exact lQ_sheepGo hn h8 (n + 1) 0 (by omega) (by omega)

set_option maxRecDepth 4000 in
theorem lQ_wolfGoes {l : Launch} {g : GG} {w : Wd} {A : HA} {n : Nat} (hn : A.1 6 = nI n) (h8 : n ≤ 8)  : ∀ (m : Nat) (i : Nat), n - i < m → i ≤ n → Go l g Q_wolfGoes 69 [some (.ref (g.1 33)), none, some (.int (nI i)), none, none] [] (mput (frM i A) w) (Is none (mput (frM n A) w)) := by
  intro m
  induction m with
  | zero => intro i hm hi; omega
  | succ m ih =>
    intro i hm hi
    refine g_iload_n dQ_wolfGoes_69 rfl ?_
    refine g_aload_n dQ_wolfGoes_70 rfl ?_
    refine g_getR2 (k2 := 34) dQ_wolfGoes_71 fQ_9 rfl rfl (by decide) rfl ?_
    refine g_iconst (v := 1) dQ_wolfGoes_74 (by decide) ?_
    refine g_mS (j := 6) (i := 1) dQ_wolfGoes_75 rfl (by decide) (by decide) ?_
    refine g_icmp_ge dQ_wolfGoes_76 rfl (fun h76 => ?_) (fun h76 => ?_)
    · rw [frM_S, hn, nI_leI (by omega) (by omega)] at h76
      refine g_vret dQ_wolfGoes_161 rfl ?_
      exact ⟨rfl, by rw [show i = n by omega]⟩
    · rw [frM_S, hn, nI_leI (by omega) (by omega)] at h76
      refine g_iload_n dQ_wolfGoes_79 rfl ?_
      refine g_aload_n dQ_wolfGoes_80 rfl ?_
      refine g_getR2 (k2 := 34) dQ_wolfGoes_81 fQ_9 rfl rfl (by decide) rfl ?_
      refine g_bipush (v := 7) dQ_wolfGoes_84 (by decide) ?_
      refine g_mS (j := 2) (i := 7) dQ_wolfGoes_86 rfl (by decide) (by decide) ?_
      refine g_icmp_eq dQ_wolfGoes_87 rfl (fun h87 => ?_) (fun h87 => ?_)
      · refine g_iconst (v := 0) dQ_wolfGoes_114 (by decide) ?_
        refine g_istore_n dQ_wolfGoes_115 (by decide) rfl rfl ?_
        dsimp only [List.set]
        refine g_iload_n dQ_wolfGoes_116 rfl ?_
        refine g_if_eq dQ_wolfGoes_117 rfl (fun h117 => ?_) (fun h117 => ?_)
        · refine g_iconst (v := 0) dQ_wolfGoes_128 (by decide) ?_
          refine g_istore dQ_wolfGoes_129 (by decide) rfl rfl ?_
          dsimp only [List.set]
          refine g_aload_n dQ_wolfGoes_131 rfl ?_
          refine g_getR2 (k2 := 34) dQ_wolfGoes_132 fQ_9 rfl rfl (by decide) rfl ?_
          refine g_iload_n dQ_wolfGoes_135 rfl ?_
          refine g_iconst (v := 2) dQ_wolfGoes_136 (by decide) ?_
          refine gS2 dQ_wolfGoes_137 kQ_wolfGoes_83 (cQ_sheepAt (f := 2)) (Nat.le_of_ble_eq_true rfl) ?_
          refine g_bipush (v := 99) dQ_wolfGoes_140 (by decide) ?_
          refine g_aload_n dQ_wolfGoes_142 rfl ?_
          refine g_iload_n dQ_wolfGoes_143 rfl ?_
          refine g_iconst (v := 2) dQ_wolfGoes_144 (by decide) ?_
          refine gV2 dQ_wolfGoes_145 kQ_wolfGoes_108 rfl rfl (cQ_sheepIsF (by omega)) (Nat.le_of_ble_eq_true rfl) ?_
          refine g_iload dQ_wolfGoes_148 rfl ?_
          refine g_iadd dQ_wolfGoes_150 ?_
          refine g_min dQ_wolfGoes_151 lQ_148 (by decide) (Nat.le_of_ble_eq_true rfl) ?_
          refine g_ms (f := 2) dQ_wolfGoes_154 (by decide) (by omega) ?_
          refine g_drop 3 rfl ?_
          refine g_drop 4 rfl ?_
          dsimp only [List.set]
          refine g_w (w1 := mput (frM (i + 1) A) w) (by
              show mput _ w = mput (frSM i (frM i A)) w
              unfold frSM
              split <;> first | rfl | (exfalso; grind)) ?_
          refine g_iinc (v := nI (i + 1)) dQ_wolfGoes_155 rfl (nI_succ i).symm (by decide) rfl rfl ?_
          dsimp only [List.set]
          refine g_goto dQ_wolfGoes_158 rfl ?_
          exact ih (i + 1) (by omega) (by omega)
        · exact absurd h117 (by decide)
      · refine g_aload_n dQ_wolfGoes_90 rfl ?_
        refine g_iload_n dQ_wolfGoes_91 rfl ?_
        refine g_iconst (v := 1) dQ_wolfGoes_92 (by decide) ?_
        refine gV2 dQ_wolfGoes_93 kQ_wolfGoes_108 rfl rfl (cQ_sheepIsC (by omega)) (Nat.le_of_ble_eq_true rfl) ?_
        refine g_aload_n dQ_wolfGoes_96 rfl ?_
        refine g_getR2 (k2 := 34) dQ_wolfGoes_97 fQ_9 rfl rfl (by decide) rfl ?_
        refine g_iconst (v := 5) dQ_wolfGoes_100 (by decide) ?_
        refine g_mS (j := 3) (i := 5) dQ_wolfGoes_101 rfl (by decide) (by decide) ?_
        refine g_isub dQ_wolfGoes_102 ?_
        refine g_abs dQ_wolfGoes_103 lQ_111 (by decide) (Nat.le_of_ble_eq_true rfl) ?_
        refine g_iconst (v := 2) dQ_wolfGoes_106 (by decide) ?_
        refine g_icmp_gt dQ_wolfGoes_107 rfl (fun h107 => ?_) (fun h107 => ?_)
        · refine g_iconst (v := 0) dQ_wolfGoes_114 (by decide) ?_
          refine g_istore_n dQ_wolfGoes_115 (by decide) rfl rfl ?_
          dsimp only [List.set]
          refine g_iload_n dQ_wolfGoes_116 rfl ?_
          refine g_if_eq dQ_wolfGoes_117 rfl (fun h117 => ?_) (fun h117 => ?_)
          · refine g_iconst (v := 0) dQ_wolfGoes_128 (by decide) ?_
            refine g_istore dQ_wolfGoes_129 (by decide) rfl rfl ?_
            dsimp only [List.set]
            refine g_aload_n dQ_wolfGoes_131 rfl ?_
            refine g_getR2 (k2 := 34) dQ_wolfGoes_132 fQ_9 rfl rfl (by decide) rfl ?_
            refine g_iload_n dQ_wolfGoes_135 rfl ?_
            refine g_iconst (v := 2) dQ_wolfGoes_136 (by decide) ?_
            refine gS2 dQ_wolfGoes_137 kQ_wolfGoes_83 (cQ_sheepAt (f := 2)) (Nat.le_of_ble_eq_true rfl) ?_
            refine g_bipush (v := 99) dQ_wolfGoes_140 (by decide) ?_
            refine g_aload_n dQ_wolfGoes_142 rfl ?_
            refine g_iload_n dQ_wolfGoes_143 rfl ?_
            refine g_iconst (v := 2) dQ_wolfGoes_144 (by decide) ?_
            refine gV2 dQ_wolfGoes_145 kQ_wolfGoes_108 rfl rfl (cQ_sheepIsF (by omega)) (Nat.le_of_ble_eq_true rfl) ?_
            refine g_iload dQ_wolfGoes_148 rfl ?_
            refine g_iadd dQ_wolfGoes_150 ?_
            refine g_min dQ_wolfGoes_151 lQ_148 (by decide) (Nat.le_of_ble_eq_true rfl) ?_
            refine g_ms (f := 2) dQ_wolfGoes_154 (by decide) (by omega) ?_
            refine g_drop 3 rfl ?_
            refine g_drop 4 rfl ?_
            dsimp only [List.set]
            refine g_w (w1 := mput (frM (i + 1) A) w) (by
                show mput _ w = mput (frSM i (frM i A)) w
                unfold frSM
                split <;> first | rfl | (exfalso; grind)) ?_
            refine g_iinc (v := nI (i + 1)) dQ_wolfGoes_155 rfl (nI_succ i).symm (by decide) rfl rfl ?_
            dsimp only [List.set]
            refine g_goto dQ_wolfGoes_158 rfl ?_
            exact ih (i + 1) (by omega) (by omega)
          · exact absurd h117 (by decide)
        · refine g_iconst (v := 1) dQ_wolfGoes_110 (by decide) ?_
          refine g_goto dQ_wolfGoes_111 rfl ?_
          refine g_istore_n dQ_wolfGoes_115 (by decide) rfl rfl ?_
          dsimp only [List.set]
          refine g_iload_n dQ_wolfGoes_116 rfl ?_
          refine g_if_eq dQ_wolfGoes_117 rfl (fun h117 => ?_) (fun h117 => ?_)
          · exact absurd h117 (by decide)
          · refine g_aload_n dQ_wolfGoes_120 rfl ?_
            refine g_iload_n dQ_wolfGoes_121 rfl ?_
            refine gV1 dQ_wolfGoes_122 kQ_wolfGoes_128 rfl rfl (cQ_fears (by omega)) (Nat.le_of_ble_eq_true rfl) ?_
            refine g_goto dQ_wolfGoes_125 rfl ?_
            refine g_istore dQ_wolfGoes_129 (by decide) rfl rfl ?_
            dsimp only [List.set]
            refine g_aload_n dQ_wolfGoes_131 rfl ?_
            refine g_getR2 (k2 := 34) dQ_wolfGoes_132 fQ_9 rfl rfl (by decide) rfl ?_
            refine g_iload_n dQ_wolfGoes_135 rfl ?_
            refine g_iconst (v := 2) dQ_wolfGoes_136 (by decide) ?_
            refine gS2 dQ_wolfGoes_137 kQ_wolfGoes_83 (cQ_sheepAt (f := 2)) (Nat.le_of_ble_eq_true rfl) ?_
            refine g_bipush (v := 99) dQ_wolfGoes_140 (by decide) ?_
            refine g_aload_n dQ_wolfGoes_142 rfl ?_
            refine g_iload_n dQ_wolfGoes_143 rfl ?_
            refine g_iconst (v := 2) dQ_wolfGoes_144 (by decide) ?_
            refine gV2 dQ_wolfGoes_145 kQ_wolfGoes_108 rfl rfl (cQ_sheepIsF (by omega)) (Nat.le_of_ble_eq_true rfl) ?_
            refine g_iload dQ_wolfGoes_148 rfl ?_
            refine g_iadd dQ_wolfGoes_150 ?_
            refine g_min dQ_wolfGoes_151 lQ_148 (by decide) (Nat.le_of_ble_eq_true rfl) ?_
            refine g_ms (f := 2) dQ_wolfGoes_154 (by decide) (by omega) ?_
            refine g_drop 3 rfl ?_
            refine g_drop 4 rfl ?_
            dsimp only [List.set]
            refine g_w (w1 := mput (frM (i + 1) A) w) (by
                show mput _ w = mput (frSM i (frM i A)) w
                unfold frSM
                split <;> first | rfl | (exfalso; grind)) ?_
            refine g_iinc (v := nI (i + 1)) dQ_wolfGoes_155 rfl (nI_succ i).symm (by decide) rfl rfl ?_
            dsimp only [List.set]
            refine g_goto dQ_wolfGoes_158 rfl ?_
            exact ih (i + 1) (by omega) (by omega)

set_option maxRecDepth 4000 in
theorem cQ_wolfGoes {l : Launch} {g : GG} {w : Wd} {A : HA} {n : Nat} (hn : A.1 6 = nI n) (h8 : n ≤ 8)  : Res l g Q_wolfGoes [.ref (g.1 33)] (mput A w) (Is (none) (mput (prM n A) w)) := by
  refine Res.of (by decide) (by simp [Value.category]) (Nat.le_of_ble_eq_true rfl) rfl ?_
  show Go l g Q_wolfGoes 0 [some (.ref (g.1 33)), none, none, none, none] [] (mput A w) _
  refine g_aload_n dQ_wolfGoes_0 rfl ?_
  refine g_getR2 (k2 := 34) dQ_wolfGoes_1 fQ_9 rfl rfl (by decide) rfl ?_
  refine g_iconst (v := 5) dQ_wolfGoes_4 (by decide) ?_
  refine g_mS (j := 3) (i := 5) dQ_wolfGoes_5 rfl (by decide) (by decide) ?_
  refine g_if_lt dQ_wolfGoes_6 rfl (fun h6 => ?_) (fun h6 => ?_)
  · refine g_vret dQ_wolfGoes_29 rfl ?_
    exact ⟨rfl, by unfold prM; split <;> first | with_reducible rfl | (exfalso; grind)⟩
  · refine g_aload_n dQ_wolfGoes_9 rfl ?_
    refine g_getR2 (k2 := 34) dQ_wolfGoes_10 fQ_9 rfl rfl (by decide) rfl ?_
    refine g_iconst (v := 5) dQ_wolfGoes_13 (by decide) ?_
    refine g_mS (j := 3) (i := 5) dQ_wolfGoes_14 rfl (by decide) (by decide) ?_
    refine g_aload_n dQ_wolfGoes_15 rfl ?_
    refine g_getR2 (k2 := 34) dQ_wolfGoes_16 fQ_9 rfl rfl (by decide) rfl ?_
    refine g_iconst (v := 4) dQ_wolfGoes_19 (by decide) ?_
    refine g_mS (j := 1) (i := 4) dQ_wolfGoes_20 rfl (by decide) (by decide) ?_
    refine g_isub dQ_wolfGoes_21 ?_
    refine g_abs dQ_wolfGoes_22 lQ_111 (by decide) (Nat.le_of_ble_eq_true rfl) ?_
    refine g_iconst (v := 1) dQ_wolfGoes_25 (by decide) ?_
    refine g_icmp_gt dQ_wolfGoes_26 rfl (fun h26 => ?_) (fun h26 => ?_)
    · refine g_aload_n dQ_wolfGoes_30 rfl ?_
      refine gV0 dQ_wolfGoes_31 kQ_wolfGoes_168 rfl rfl (cQ_nearest hn h8) (Nat.le_of_ble_eq_true rfl) ?_
      refine g_istore_n dQ_wolfGoes_34 (by decide) rfl rfl ?_
      dsimp only [List.set]
      refine g_iload_n dQ_wolfGoes_35 rfl ?_
      refine g_if_lt dQ_wolfGoes_36 rfl (fun h36 => ?_) (fun h36 => ?_)
      · refine g_iconst (v := 0) dQ_wolfGoes_67 (by decide) ?_
        refine g_istore_n dQ_wolfGoes_68 (by decide) rfl rfl ?_
        dsimp only [List.set]
        refine g_drop 1 rfl ?_
        dsimp only [List.set]
        refine g_mono (Q' := Is none (mput (frM n (wmM n A)) w)) (fun r w2 h => ⟨h.1, h.2.trans (by unfold prM; split <;> first | with_reducible rfl | (exfalso; grind))⟩) ?_
        refine g_w (w1 := mput (frM 0 (wmM n A)) w) (by
            show mput _ w = mput (wmM n A) w
            first | rw [wmM, if_pos h36] | rw [wmM, if_neg h36, ec, nI_clamp (by omega)]) ?_
        exact lQ_wolfGoes (n := n) (by rw [wmM_6]; exact hn) h8 (n + 1) 0 (by omega) (by omega)
      · obtain ⟨c, hc, ec⟩ := (neM_lt A.2.2.1 (A.1 2) (A.1 3) n).resolve_left (fun z => h36 (z ▸ neg1_lt))
        refine g_aload_n dQ_wolfGoes_39 rfl ?_
        refine g_getR2 (k2 := 34) dQ_wolfGoes_40 fQ_9 rfl rfl (by decide) rfl ?_
        refine g_iconst (v := 5) dQ_wolfGoes_43 (by decide) ?_
        refine g_aload_n dQ_wolfGoes_44 rfl ?_
        refine g_getR2 (k2 := 34) dQ_wolfGoes_45 fQ_9 rfl rfl (by decide) rfl ?_
        refine g_iconst (v := 5) dQ_wolfGoes_48 (by decide) ?_
        refine g_mS (j := 3) (i := 5) dQ_wolfGoes_49 rfl (by decide) (by decide) ?_
        refine g_aload_n dQ_wolfGoes_50 rfl ?_
        refine g_iload_n dQ_wolfGoes_51 rfl ?_
        refine g_top ec ?_
        refine g_iconst (v := 1) dQ_wolfGoes_52 (by decide) ?_
        refine gV2 dQ_wolfGoes_53 kQ_wolfGoes_108 rfl rfl (cQ_sheepIsC (by omega)) (Nat.le_of_ble_eq_true rfl) ?_
        refine g_aload_n dQ_wolfGoes_56 rfl ?_
        refine g_getR2 (k2 := 34) dQ_wolfGoes_57 fQ_9 rfl rfl (by decide) rfl ?_
        refine g_bipush (v := 6) dQ_wolfGoes_60 (by decide) ?_
        refine g_mS (j := 4) (i := 6) dQ_wolfGoes_62 rfl (by decide) (by decide) ?_
        refine gS3 dQ_wolfGoes_63 kQ_wolfGoes_161 cQ_towards (Nat.le_of_ble_eq_true rfl) ?_
        refine g_mP (j := 3) (i := 5) dQ_wolfGoes_66 rfl (by decide) (by decide) ?_
        refine g_iconst (v := 0) dQ_wolfGoes_67 (by decide) ?_
        refine g_istore_n dQ_wolfGoes_68 (by decide) rfl rfl ?_
        dsimp only [List.set]
        refine g_drop 1 rfl ?_
        dsimp only [List.set]
        refine g_mono (Q' := Is none (mput (frM n (wmM n A)) w)) (fun r w2 h => ⟨h.1, h.2.trans (by unfold prM; split <;> first | with_reducible rfl | (exfalso; grind))⟩) ?_
        refine g_w (w1 := mput (frM 0 (wmM n A)) w) (by
            show mput _ w = mput (wmM n A) w
            first | rw [wmM, if_pos h36] | rw [wmM, if_neg h36, ec, nI_clamp (by omega)]) ?_
        exact lQ_wolfGoes (n := n) (by rw [wmM_6]; exact hn) h8 (n + 1) 0 (by omega) (by omega)
    · refine g_vret dQ_wolfGoes_29 rfl ?_
      exact ⟨rfl, by unfold prM; split <;> first | with_reducible rfl | (exfalso; grind)⟩
