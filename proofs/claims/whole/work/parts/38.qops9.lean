theorem cpF_0 (f m : Nat → Int32) (base : Nat) : cpF f m base 0 = f := by
  funext i
  unfold cpF
  rw [if_neg (by omega)]
theorem mvF_0 (m f : Nat → Int32) (base : Nat) : mvF m f base 0 = m := by
  funext i
  unfold mvF
  rw [if_neg (by omega)]
theorem run_iff {f n z : Nat} (hf : f < 2 ^ 31) (hn : n < 2 ^ 31) (hz : z ≤ 40) : runP (nI f) (nI n) (nI z) ↔ f + n ≤ z := by
  constructor
  · rintro ⟨_, _, h3, h4⟩
    have h5 := (nI_leI hn (by omega)).mp h3
    rw [pk_sub h5, nI_leI hf (by omega)] at h4
    omega
  · intro h
    refine ⟨nI_pos' hf, nI_pos' hn, (nI_leI hn (by omega)).mpr (by omega), ?_⟩
    rw [pk_sub (by omega), nI_leI hf (by omega)]
    omega
theorem lsum {f n z : Nat} (hf : f < 2 ^ 31) (hn : n < 2 ^ 31) (hz : z ≤ 40) : ((nI z).toInt64 < (nI f).toInt64 + (nI n).toInt64) ↔ z < f + n := by
  rw [nI_l hf, nI_l hn, nI_l (by omega), show lN f + lN n = lN (f + n) from (Int64.ofNat_add f n).symm, pk_lLT (by omega) (by omega)]
theorem lsum2 {f n z : Nat} (hf : f < 2 ^ 31) (hn : n < 2 ^ 31) (hz : z ≤ 40) : ((nI f).toInt64 + (nI n).toInt64 ≤ (nI z).toInt64) ↔ f + n ≤ z := by
  rw [nI_l hf, nI_l hn, nI_l (by omega), show lN f + lN n = lN (f + n) from (Int64.ofNat_add f n).symm, pk_lLE (by omega) (by omega)]
set_option maxRecDepth 4000 in
theorem lQ_sheet {l : Launch} {g : GG} {w : Wd} {q : Nat} (hq : q < 4) {b n : Int32} : ∀ (m : Nat) (i : Nat), (40 - i < m) → (i ≤ 40) → Go l g Q_sheet 86 [some (.ref (g.1 33)), some (.int (nI q)), some (.int b), some (.int n), some (.int (nI i))] [] (upR w 46 (zfl (w 46) (40 * q) i)) (Is (some (.int (w 45 q))) (upR w 46 (zfl (w 46) (40 * q) 40))) := by
  intro m
  induction m with
  | zero => intro i hm hi; omega
  | succ m ih =>
    intro i hm hi
    refine g_iload dQ_sheet_86 rfl ?_
    refine g_bipush (v := 40) dQ_sheet_88 (by decide) ?_
    refine g_icmp_ge dQ_sheet_90 rfl (fun h90 => ?_) (fun h90 => ?_)
    · rw [show (40 : Int32) = nI 40 from rfl, nI_leI (by omega) (by omega)] at h90
      obtain rfl : i = 40 := by omega
      refine g_aload_n dQ_sheet_112 rfl ?_
      refine g_getR2 (k2 := 45) dQ_sheet_113 fQ_60 rfl rfl (by decide) rfl ?_
      refine g_iload_n dQ_sheet_116 rfl ?_
      refine g_ialdN (i := q) dQ_sheet_117 rfl hq (by decide) ?_
      refine g_top (y := w 45 q) (by rw [upR_other _ _ _ (by decide)]) ?_
      refine g_iret dQ_sheet_118 rfl rfl ?_
      exact ⟨rfl, rfl⟩
    · rw [show (40 : Int32) = nI 40 from rfl, nI_leI (by omega) (by omega)] at h90
      refine g_aload_n dQ_sheet_93 rfl ?_
      refine g_getR2 (k2 := 46) dQ_sheet_94 fQ_63 rfl rfl (by decide) rfl ?_
      refine g_bipush (v := 40) dQ_sheet_97 (by decide) ?_
      refine g_iload_n dQ_sheet_99 rfl ?_
      refine g_imul dQ_sheet_100 ?_
      refine g_iload dQ_sheet_101 rfl ?_
      refine g_iadd dQ_sheet_103 ?_
      refine g_top (y := nI (40 * q + i)) (by rw [show (40 : Int32) = nI 40 from rfl, pk_mul, nI_add]) ?_
      refine g_iconst (v := 0) dQ_sheet_104 (by decide) ?_
      refine g_iastN (i := (40 * q + i)) dQ_sheet_105 rfl (by omega) (by decide) ?_
      rw [upR_up, zfl_s]
      refine g_iinc (v := nI (i + 1)) dQ_sheet_106 rfl (nI_succ i).symm (by decide) rfl rfl ?_
      dsimp only [List.set]
      refine g_goto dQ_sheet_109 rfl ?_
      exact ih (i + 1) (by omega) (by omega)

set_option maxRecDepth 4000 in
theorem cQ_sheet {l : Launch} {g : GG} {S w : Wd} (hR : RM S w) {s b n : Int32} : Res l g Q_sheet [.ref (g.1 33), .int s, .int b, .int n] w (IsQ (sheetC s b n S) w) := by
  refine Res.of (by decide) (by simp [Value.category]) (Nat.le_of_ble_eq_true rfl) rfl ?_
  show Go l g Q_sheet 0 [some (.ref (g.1 33)), some (.int s), some (.int b), some (.int n), none] [] w _
  refine g_iload_n dQ_sheet_0 rfl ?_
  refine gS1 dQ_sheet_1 kQ_sheet_231 cQ_isSheet (Nat.le_of_ble_eq_true rfl) ?_
  refine g_if_eq dQ_sheet_4 rfl (fun h4 => ?_) (fun h4 => ?_)
  · have h4 := bI_0.mp h4
    refine g_aload_n dQ_sheet_29 rfl ?_
    refine g_ldc dQ_sheet_30 fQ_69 ?_
    refine gV1 dQ_sheet_32 kQ_sheet_75 rfl rfl (cQ_finding (q := 0) (by decide)) (Nat.le_of_ble_eq_true rfl) ?_
    refine g_iret dQ_sheet_35 rfl rfl ?_
    exact IsQ_F0 hR (by decide) (by rw [sheetC, if_neg (by grind)])
  · have h4 := Classical.not_not.mp (fun z => h4 (bI_0.mpr z))
    have h4b := h4
    obtain ⟨q, hq, eq⟩ := sh_q h4
    subst eq
    refine g_iload_n dQ_sheet_7 rfl ?_
    refine g_if_eq dQ_sheet_8 rfl (fun h8 => ?_) (fun h8 => ?_)
    · have hs4 : okSh (nI q) ∧ okB b := ⟨h4b, by grind⟩
      refine g_iload_n dQ_sheet_36 rfl ?_
      refine g_if_ge dQ_sheet_37 rfl (fun h37 => ?_) (fun h37 => ?_)
      · refine g_iload_n dQ_sheet_48 rfl ?_
        refine g_bipush (v := 40) dQ_sheet_49 (by decide) ?_
        refine g_icmp_le dQ_sheet_51 rfl (fun h51 => ?_) (fun h51 => ?_)
        · refine g_aload_n dQ_sheet_61 rfl ?_
          refine g_getR2 (k2 := 44) dQ_sheet_62 fQ_57 rfl rfl (by decide) rfl ?_
          refine g_iload_n dQ_sheet_65 rfl ?_
          refine g_iload_n dQ_sheet_66 rfl ?_
          refine g_iastN (i := q) dQ_sheet_67 rfl hq (by decide) ?_
          refine g_aload_n dQ_sheet_68 rfl ?_
          refine g_getR2 (k2 := 45) dQ_sheet_69 fQ_60 rfl rfl (by decide) rfl ?_
          refine g_iload_n dQ_sheet_72 rfl ?_
          refine g_iload_n dQ_sheet_73 rfl ?_
          refine g_if_ne dQ_sheet_74 rfl (fun h74 => ?_) (fun h74 => ?_)
          · refine g_iload_n dQ_sheet_81 rfl ?_
            refine g_top (y := if b = 0 then 0 else n) (by first | rw [if_pos h74] | rw [if_neg h74]) ?_
            refine g_iastN (i := q) dQ_sheet_82 rfl hq (by decide) ?_
            refine g_iconst (v := 0) dQ_sheet_83 (by decide) ?_
            refine g_istore dQ_sheet_84 (by decide) rfl rfl ?_
            dsimp only [List.set]
            refine g_w (w1 := upR (up (up w 44 q b) 45 q (if b = 0 then 0 else n)) 46 (zfl ((up (up w 44 q b) 45 q (if b = 0 then 0 else n)) 46) (40 * q) 0)) (by rw [zfl_0, upR_id _ _ rfl]) ?_
            refine g_mono (fun r w2 hh => ?_) (lQ_sheet (w := (up (up w 44 q b) 45 q (if b = 0 then 0 else n))) hq 41 0 (by omega) (by omega))
            obtain ⟨rfl, rfl⟩ := hh
            rw [up_other _ _ _ _ (show (46 : Nat) ≠ 45 by decide), up_other _ _ _ _ (show (46 : Nat) ≠ 44 by decide), up_same]
            exact IsQ_W (fun k hk => by rw [upR_other _ _ _ (by omega), up_other _ _ _ _ (by omega), up_other _ _ _ _ (by omega)]) (hR.sheet hq b n) (by rw [sheetC, if_pos hs4, if_neg (Int32.not_lt.mpr h37), if_pos h51, nI_clamp (by omega)]; exact Prod.ext (if_pos rfl).symm rfl)
          · refine g_iconst (v := 0) dQ_sheet_77 (by decide) ?_
            refine g_goto dQ_sheet_78 rfl ?_
            refine g_top (y := if b = 0 then 0 else n) (by first | rw [if_pos h74] | rw [if_neg h74]) ?_
            refine g_iastN (i := q) dQ_sheet_82 rfl hq (by decide) ?_
            refine g_iconst (v := 0) dQ_sheet_83 (by decide) ?_
            refine g_istore dQ_sheet_84 (by decide) rfl rfl ?_
            dsimp only [List.set]
            refine g_w (w1 := upR (up (up w 44 q b) 45 q (if b = 0 then 0 else n)) 46 (zfl ((up (up w 44 q b) 45 q (if b = 0 then 0 else n)) 46) (40 * q) 0)) (by rw [zfl_0, upR_id _ _ rfl]) ?_
            refine g_mono (fun r w2 hh => ?_) (lQ_sheet (w := (up (up w 44 q b) 45 q (if b = 0 then 0 else n))) hq 41 0 (by omega) (by omega))
            obtain ⟨rfl, rfl⟩ := hh
            rw [up_other _ _ _ _ (show (46 : Nat) ≠ 45 by decide), up_other _ _ _ _ (show (46 : Nat) ≠ 44 by decide), up_same]
            exact IsQ_W (fun k hk => by rw [upR_other _ _ _ (by omega), up_other _ _ _ _ (by omega), up_other _ _ _ _ (by omega)]) (hR.sheet hq b n) (by rw [sheetC, if_pos hs4, if_neg (Int32.not_lt.mpr h37), if_pos h51, nI_clamp (by omega)]; exact Prod.ext (if_pos rfl).symm rfl)
        · refine g_aload_n dQ_sheet_54 rfl ?_
          refine g_ldc dQ_sheet_55 fQ_69 ?_
          refine gV1 dQ_sheet_57 kQ_sheet_75 rfl rfl (cQ_finding (q := 0) (by decide)) (Nat.le_of_ble_eq_true rfl) ?_
          refine g_iret dQ_sheet_60 rfl rfl ?_
          exact IsQ_F0 hR (by decide) (by rw [sheetC, if_pos hs4, if_neg (Int32.not_lt.mpr h37), if_neg h51])
      · refine g_aload_n dQ_sheet_40 rfl ?_
        refine g_ldcw dQ_sheet_41 fQ_340 ?_
        refine gV1 dQ_sheet_44 kQ_sheet_75 rfl rfl (cQ_finding (q := 6) (by decide)) (Nat.le_of_ble_eq_true rfl) ?_
        refine g_iret dQ_sheet_47 rfl rfl ?_
        exact IsQ_F0 hR (by decide) (by rw [sheetC, if_pos hs4, if_pos (Int32.not_le.mp h37)])
    · refine g_iload_n dQ_sheet_11 rfl ?_
      refine g_bipush (v := 8) dQ_sheet_12 (by decide) ?_
      refine g_icmp_eq dQ_sheet_14 rfl (fun h14 => ?_) (fun h14 => ?_)
      · have hs4 : okSh (nI q) ∧ okB b := ⟨h4b, by grind⟩
        refine g_iload_n dQ_sheet_36 rfl ?_
        refine g_if_ge dQ_sheet_37 rfl (fun h37 => ?_) (fun h37 => ?_)
        · refine g_iload_n dQ_sheet_48 rfl ?_
          refine g_bipush (v := 40) dQ_sheet_49 (by decide) ?_
          refine g_icmp_le dQ_sheet_51 rfl (fun h51 => ?_) (fun h51 => ?_)
          · refine g_aload_n dQ_sheet_61 rfl ?_
            refine g_getR2 (k2 := 44) dQ_sheet_62 fQ_57 rfl rfl (by decide) rfl ?_
            refine g_iload_n dQ_sheet_65 rfl ?_
            refine g_iload_n dQ_sheet_66 rfl ?_
            refine g_iastN (i := q) dQ_sheet_67 rfl hq (by decide) ?_
            refine g_aload_n dQ_sheet_68 rfl ?_
            refine g_getR2 (k2 := 45) dQ_sheet_69 fQ_60 rfl rfl (by decide) rfl ?_
            refine g_iload_n dQ_sheet_72 rfl ?_
            refine g_iload_n dQ_sheet_73 rfl ?_
            refine g_if_ne dQ_sheet_74 rfl (fun h74 => ?_) (fun h74 => ?_)
            · refine g_iload_n dQ_sheet_81 rfl ?_
              refine g_top (y := if b = 0 then 0 else n) (by first | rw [if_pos h74] | rw [if_neg h74]) ?_
              refine g_iastN (i := q) dQ_sheet_82 rfl hq (by decide) ?_
              refine g_iconst (v := 0) dQ_sheet_83 (by decide) ?_
              refine g_istore dQ_sheet_84 (by decide) rfl rfl ?_
              dsimp only [List.set]
              refine g_w (w1 := upR (up (up w 44 q b) 45 q (if b = 0 then 0 else n)) 46 (zfl ((up (up w 44 q b) 45 q (if b = 0 then 0 else n)) 46) (40 * q) 0)) (by rw [zfl_0, upR_id _ _ rfl]) ?_
              refine g_mono (fun r w2 hh => ?_) (lQ_sheet (w := (up (up w 44 q b) 45 q (if b = 0 then 0 else n))) hq 41 0 (by omega) (by omega))
              obtain ⟨rfl, rfl⟩ := hh
              rw [up_other _ _ _ _ (show (46 : Nat) ≠ 45 by decide), up_other _ _ _ _ (show (46 : Nat) ≠ 44 by decide), up_same]
              exact IsQ_W (fun k hk => by rw [upR_other _ _ _ (by omega), up_other _ _ _ _ (by omega), up_other _ _ _ _ (by omega)]) (hR.sheet hq b n) (by rw [sheetC, if_pos hs4, if_neg (Int32.not_lt.mpr h37), if_pos h51, nI_clamp (by omega)]; exact Prod.ext (if_pos rfl).symm rfl)
            · refine g_iconst (v := 0) dQ_sheet_77 (by decide) ?_
              refine g_goto dQ_sheet_78 rfl ?_
              refine g_top (y := if b = 0 then 0 else n) (by first | rw [if_pos h74] | rw [if_neg h74]) ?_
              refine g_iastN (i := q) dQ_sheet_82 rfl hq (by decide) ?_
              refine g_iconst (v := 0) dQ_sheet_83 (by decide) ?_
              refine g_istore dQ_sheet_84 (by decide) rfl rfl ?_
              dsimp only [List.set]
              refine g_w (w1 := upR (up (up w 44 q b) 45 q (if b = 0 then 0 else n)) 46 (zfl ((up (up w 44 q b) 45 q (if b = 0 then 0 else n)) 46) (40 * q) 0)) (by rw [zfl_0, upR_id _ _ rfl]) ?_
              refine g_mono (fun r w2 hh => ?_) (lQ_sheet (w := (up (up w 44 q b) 45 q (if b = 0 then 0 else n))) hq 41 0 (by omega) (by omega))
              obtain ⟨rfl, rfl⟩ := hh
              rw [up_other _ _ _ _ (show (46 : Nat) ≠ 45 by decide), up_other _ _ _ _ (show (46 : Nat) ≠ 44 by decide), up_same]
              exact IsQ_W (fun k hk => by rw [upR_other _ _ _ (by omega), up_other _ _ _ _ (by omega), up_other _ _ _ _ (by omega)]) (hR.sheet hq b n) (by rw [sheetC, if_pos hs4, if_neg (Int32.not_lt.mpr h37), if_pos h51, nI_clamp (by omega)]; exact Prod.ext (if_pos rfl).symm rfl)
          · refine g_aload_n dQ_sheet_54 rfl ?_
            refine g_ldc dQ_sheet_55 fQ_69 ?_
            refine gV1 dQ_sheet_57 kQ_sheet_75 rfl rfl (cQ_finding (q := 0) (by decide)) (Nat.le_of_ble_eq_true rfl) ?_
            refine g_iret dQ_sheet_60 rfl rfl ?_
            exact IsQ_F0 hR (by decide) (by rw [sheetC, if_pos hs4, if_neg (Int32.not_lt.mpr h37), if_neg h51])
        · refine g_aload_n dQ_sheet_40 rfl ?_
          refine g_ldcw dQ_sheet_41 fQ_340 ?_
          refine gV1 dQ_sheet_44 kQ_sheet_75 rfl rfl (cQ_finding (q := 6) (by decide)) (Nat.le_of_ble_eq_true rfl) ?_
          refine g_iret dQ_sheet_47 rfl rfl ?_
          exact IsQ_F0 hR (by decide) (by rw [sheetC, if_pos hs4, if_pos (Int32.not_le.mp h37)])
      · refine g_iload_n dQ_sheet_17 rfl ?_
        refine g_bipush (v := 16) dQ_sheet_18 (by decide) ?_
        refine g_icmp_eq dQ_sheet_20 rfl (fun h20 => ?_) (fun h20 => ?_)
        · have hs4 : okSh (nI q) ∧ okB b := ⟨h4b, by grind⟩
          refine g_iload_n dQ_sheet_36 rfl ?_
          refine g_if_ge dQ_sheet_37 rfl (fun h37 => ?_) (fun h37 => ?_)
          · refine g_iload_n dQ_sheet_48 rfl ?_
            refine g_bipush (v := 40) dQ_sheet_49 (by decide) ?_
            refine g_icmp_le dQ_sheet_51 rfl (fun h51 => ?_) (fun h51 => ?_)
            · refine g_aload_n dQ_sheet_61 rfl ?_
              refine g_getR2 (k2 := 44) dQ_sheet_62 fQ_57 rfl rfl (by decide) rfl ?_
              refine g_iload_n dQ_sheet_65 rfl ?_
              refine g_iload_n dQ_sheet_66 rfl ?_
              refine g_iastN (i := q) dQ_sheet_67 rfl hq (by decide) ?_
              refine g_aload_n dQ_sheet_68 rfl ?_
              refine g_getR2 (k2 := 45) dQ_sheet_69 fQ_60 rfl rfl (by decide) rfl ?_
              refine g_iload_n dQ_sheet_72 rfl ?_
              refine g_iload_n dQ_sheet_73 rfl ?_
              refine g_if_ne dQ_sheet_74 rfl (fun h74 => ?_) (fun h74 => ?_)
              · refine g_iload_n dQ_sheet_81 rfl ?_
                refine g_top (y := if b = 0 then 0 else n) (by first | rw [if_pos h74] | rw [if_neg h74]) ?_
                refine g_iastN (i := q) dQ_sheet_82 rfl hq (by decide) ?_
                refine g_iconst (v := 0) dQ_sheet_83 (by decide) ?_
                refine g_istore dQ_sheet_84 (by decide) rfl rfl ?_
                dsimp only [List.set]
                refine g_w (w1 := upR (up (up w 44 q b) 45 q (if b = 0 then 0 else n)) 46 (zfl ((up (up w 44 q b) 45 q (if b = 0 then 0 else n)) 46) (40 * q) 0)) (by rw [zfl_0, upR_id _ _ rfl]) ?_
                refine g_mono (fun r w2 hh => ?_) (lQ_sheet (w := (up (up w 44 q b) 45 q (if b = 0 then 0 else n))) hq 41 0 (by omega) (by omega))
                obtain ⟨rfl, rfl⟩ := hh
                rw [up_other _ _ _ _ (show (46 : Nat) ≠ 45 by decide), up_other _ _ _ _ (show (46 : Nat) ≠ 44 by decide), up_same]
                exact IsQ_W (fun k hk => by rw [upR_other _ _ _ (by omega), up_other _ _ _ _ (by omega), up_other _ _ _ _ (by omega)]) (hR.sheet hq b n) (by rw [sheetC, if_pos hs4, if_neg (Int32.not_lt.mpr h37), if_pos h51, nI_clamp (by omega)]; exact Prod.ext (if_pos rfl).symm rfl)
              · refine g_iconst (v := 0) dQ_sheet_77 (by decide) ?_
                refine g_goto dQ_sheet_78 rfl ?_
                refine g_top (y := if b = 0 then 0 else n) (by first | rw [if_pos h74] | rw [if_neg h74]) ?_
                refine g_iastN (i := q) dQ_sheet_82 rfl hq (by decide) ?_
                refine g_iconst (v := 0) dQ_sheet_83 (by decide) ?_
                refine g_istore dQ_sheet_84 (by decide) rfl rfl ?_
                dsimp only [List.set]
                refine g_w (w1 := upR (up (up w 44 q b) 45 q (if b = 0 then 0 else n)) 46 (zfl ((up (up w 44 q b) 45 q (if b = 0 then 0 else n)) 46) (40 * q) 0)) (by rw [zfl_0, upR_id _ _ rfl]) ?_
                refine g_mono (fun r w2 hh => ?_) (lQ_sheet (w := (up (up w 44 q b) 45 q (if b = 0 then 0 else n))) hq 41 0 (by omega) (by omega))
                obtain ⟨rfl, rfl⟩ := hh
                rw [up_other _ _ _ _ (show (46 : Nat) ≠ 45 by decide), up_other _ _ _ _ (show (46 : Nat) ≠ 44 by decide), up_same]
                exact IsQ_W (fun k hk => by rw [upR_other _ _ _ (by omega), up_other _ _ _ _ (by omega), up_other _ _ _ _ (by omega)]) (hR.sheet hq b n) (by rw [sheetC, if_pos hs4, if_neg (Int32.not_lt.mpr h37), if_pos h51, nI_clamp (by omega)]; exact Prod.ext (if_pos rfl).symm rfl)
            · refine g_aload_n dQ_sheet_54 rfl ?_
              refine g_ldc dQ_sheet_55 fQ_69 ?_
              refine gV1 dQ_sheet_57 kQ_sheet_75 rfl rfl (cQ_finding (q := 0) (by decide)) (Nat.le_of_ble_eq_true rfl) ?_
              refine g_iret dQ_sheet_60 rfl rfl ?_
              exact IsQ_F0 hR (by decide) (by rw [sheetC, if_pos hs4, if_neg (Int32.not_lt.mpr h37), if_neg h51])
          · refine g_aload_n dQ_sheet_40 rfl ?_
            refine g_ldcw dQ_sheet_41 fQ_340 ?_
            refine gV1 dQ_sheet_44 kQ_sheet_75 rfl rfl (cQ_finding (q := 6) (by decide)) (Nat.le_of_ble_eq_true rfl) ?_
            refine g_iret dQ_sheet_47 rfl rfl ?_
            exact IsQ_F0 hR (by decide) (by rw [sheetC, if_pos hs4, if_pos (Int32.not_le.mp h37)])
        · refine g_iload_n dQ_sheet_23 rfl ?_
          refine g_bipush (v := 32) dQ_sheet_24 (by decide) ?_
          refine g_icmp_eq dQ_sheet_26 rfl (fun h26 => ?_) (fun h26 => ?_)
          · have hs4 : okSh (nI q) ∧ okB b := ⟨h4b, by grind⟩
            refine g_iload_n dQ_sheet_36 rfl ?_
            refine g_if_ge dQ_sheet_37 rfl (fun h37 => ?_) (fun h37 => ?_)
            · refine g_iload_n dQ_sheet_48 rfl ?_
              refine g_bipush (v := 40) dQ_sheet_49 (by decide) ?_
              refine g_icmp_le dQ_sheet_51 rfl (fun h51 => ?_) (fun h51 => ?_)
              · refine g_aload_n dQ_sheet_61 rfl ?_
                refine g_getR2 (k2 := 44) dQ_sheet_62 fQ_57 rfl rfl (by decide) rfl ?_
                refine g_iload_n dQ_sheet_65 rfl ?_
                refine g_iload_n dQ_sheet_66 rfl ?_
                refine g_iastN (i := q) dQ_sheet_67 rfl hq (by decide) ?_
                refine g_aload_n dQ_sheet_68 rfl ?_
                refine g_getR2 (k2 := 45) dQ_sheet_69 fQ_60 rfl rfl (by decide) rfl ?_
                refine g_iload_n dQ_sheet_72 rfl ?_
                refine g_iload_n dQ_sheet_73 rfl ?_
                refine g_if_ne dQ_sheet_74 rfl (fun h74 => ?_) (fun h74 => ?_)
                · refine g_iload_n dQ_sheet_81 rfl ?_
                  refine g_top (y := if b = 0 then 0 else n) (by first | rw [if_pos h74] | rw [if_neg h74]) ?_
                  refine g_iastN (i := q) dQ_sheet_82 rfl hq (by decide) ?_
                  refine g_iconst (v := 0) dQ_sheet_83 (by decide) ?_
                  refine g_istore dQ_sheet_84 (by decide) rfl rfl ?_
                  dsimp only [List.set]
                  refine g_w (w1 := upR (up (up w 44 q b) 45 q (if b = 0 then 0 else n)) 46 (zfl ((up (up w 44 q b) 45 q (if b = 0 then 0 else n)) 46) (40 * q) 0)) (by rw [zfl_0, upR_id _ _ rfl]) ?_
                  refine g_mono (fun r w2 hh => ?_) (lQ_sheet (w := (up (up w 44 q b) 45 q (if b = 0 then 0 else n))) hq 41 0 (by omega) (by omega))
                  obtain ⟨rfl, rfl⟩ := hh
                  rw [up_other _ _ _ _ (show (46 : Nat) ≠ 45 by decide), up_other _ _ _ _ (show (46 : Nat) ≠ 44 by decide), up_same]
                  exact IsQ_W (fun k hk => by rw [upR_other _ _ _ (by omega), up_other _ _ _ _ (by omega), up_other _ _ _ _ (by omega)]) (hR.sheet hq b n) (by rw [sheetC, if_pos hs4, if_neg (Int32.not_lt.mpr h37), if_pos h51, nI_clamp (by omega)]; exact Prod.ext (if_pos rfl).symm rfl)
                · refine g_iconst (v := 0) dQ_sheet_77 (by decide) ?_
                  refine g_goto dQ_sheet_78 rfl ?_
                  refine g_top (y := if b = 0 then 0 else n) (by first | rw [if_pos h74] | rw [if_neg h74]) ?_
                  refine g_iastN (i := q) dQ_sheet_82 rfl hq (by decide) ?_
                  refine g_iconst (v := 0) dQ_sheet_83 (by decide) ?_
                  refine g_istore dQ_sheet_84 (by decide) rfl rfl ?_
                  dsimp only [List.set]
                  refine g_w (w1 := upR (up (up w 44 q b) 45 q (if b = 0 then 0 else n)) 46 (zfl ((up (up w 44 q b) 45 q (if b = 0 then 0 else n)) 46) (40 * q) 0)) (by rw [zfl_0, upR_id _ _ rfl]) ?_
                  refine g_mono (fun r w2 hh => ?_) (lQ_sheet (w := (up (up w 44 q b) 45 q (if b = 0 then 0 else n))) hq 41 0 (by omega) (by omega))
                  obtain ⟨rfl, rfl⟩ := hh
                  rw [up_other _ _ _ _ (show (46 : Nat) ≠ 45 by decide), up_other _ _ _ _ (show (46 : Nat) ≠ 44 by decide), up_same]
                  exact IsQ_W (fun k hk => by rw [upR_other _ _ _ (by omega), up_other _ _ _ _ (by omega), up_other _ _ _ _ (by omega)]) (hR.sheet hq b n) (by rw [sheetC, if_pos hs4, if_neg (Int32.not_lt.mpr h37), if_pos h51, nI_clamp (by omega)]; exact Prod.ext (if_pos rfl).symm rfl)
              · refine g_aload_n dQ_sheet_54 rfl ?_
                refine g_ldc dQ_sheet_55 fQ_69 ?_
                refine gV1 dQ_sheet_57 kQ_sheet_75 rfl rfl (cQ_finding (q := 0) (by decide)) (Nat.le_of_ble_eq_true rfl) ?_
                refine g_iret dQ_sheet_60 rfl rfl ?_
                exact IsQ_F0 hR (by decide) (by rw [sheetC, if_pos hs4, if_neg (Int32.not_lt.mpr h37), if_neg h51])
            · refine g_aload_n dQ_sheet_40 rfl ?_
              refine g_ldcw dQ_sheet_41 fQ_340 ?_
              refine gV1 dQ_sheet_44 kQ_sheet_75 rfl rfl (cQ_finding (q := 6) (by decide)) (Nat.le_of_ble_eq_true rfl) ?_
              refine g_iret dQ_sheet_47 rfl rfl ?_
              exact IsQ_F0 hR (by decide) (by rw [sheetC, if_pos hs4, if_pos (Int32.not_le.mp h37)])
          · refine g_aload_n dQ_sheet_29 rfl ?_
            refine g_ldc dQ_sheet_30 fQ_69 ?_
            refine gV1 dQ_sheet_32 kQ_sheet_75 rfl rfl (cQ_finding (q := 0) (by decide)) (Nat.le_of_ble_eq_true rfl) ?_
            refine g_iret dQ_sheet_35 rfl rfl ?_
            exact IsQ_F0 hR (by decide) (by rw [sheetC, if_neg (by grind)])

set_option maxRecDepth 4000 in
theorem cQ_cutTo {l : Launch} {g : GG} {w : Wd} {v b : Int32} : Res l g Q_cutTo [.int v, .int b] w (Is (some (.int (cutI b v))) w) := by
  refine Res.of (by decide) (by simp [Value.category]) (Nat.le_of_ble_eq_true rfl) rfl ?_
  show Go l g Q_cutTo 0 [some (.int v), some (.int b)] [] w _
  refine g_iload_n dQ_cutTo_0 rfl ?_
  refine g_bipush (v := 8) dQ_cutTo_1 (by decide) ?_
  refine g_icmp_ne dQ_cutTo_3 rfl (fun h3 => ?_) (fun h3 => ?_)
  · refine g_iload_n dQ_cutTo_11 rfl ?_
    refine g_bipush (v := 16) dQ_cutTo_12 (by decide) ?_
    refine g_icmp_ne dQ_cutTo_14 rfl (fun h14 => ?_) (fun h14 => ?_)
    · refine g_iload_n dQ_cutTo_22 rfl ?_
      refine g_iret dQ_cutTo_23 rfl rfl ?_
      exact ⟨by first | rw [cutI, if_pos h3] | rw [cutI, if_neg h3, if_pos h14] | rw [cutI, if_neg h3, if_neg h14], rfl⟩
    · refine g_iload_n dQ_cutTo_17 rfl ?_
      refine g_i2s dQ_cutTo_18 ?_
      refine g_goto dQ_cutTo_19 rfl ?_
      refine g_iret dQ_cutTo_23 rfl rfl ?_
      exact ⟨by first | rw [cutI, if_pos h3] | rw [cutI, if_neg h3, if_pos h14] | rw [cutI, if_neg h3, if_neg h14], rfl⟩
  · refine g_iload_n dQ_cutTo_6 rfl ?_
    refine g_i2b dQ_cutTo_7 ?_
    refine g_goto dQ_cutTo_8 rfl ?_
    refine g_iret dQ_cutTo_23 rfl rfl ?_
    exact ⟨by first | rw [cutI, if_pos h3] | rw [cutI, if_neg h3, if_pos h14] | rw [cutI, if_neg h3, if_neg h14], rfl⟩

set_option maxRecDepth 4000 in
theorem cQ_write {l : Launch} {g : GG} {S w : Wd} (hR : RM S w) {s i v : Int32} (hzz : ∀ q, q < 4 → ∃ z, z ≤ 40 ∧ S (24 + 2 * q) 1 = nI z)  : Res l g Q_write [.ref (g.1 33), .int s, .int i, .int v] w (IsQ (writeC s i v S) w) := by
  refine Res.of (by decide) (by simp [Value.category]) (Nat.le_of_ble_eq_true rfl) rfl ?_
  show Go l g Q_write 0 [some (.ref (g.1 33)), some (.int s), some (.int i), some (.int v)] [] w _
  refine g_iload_n dQ_write_0 rfl ?_
  refine gS1 dQ_write_1 kQ_write_231 cQ_isSheet (Nat.le_of_ble_eq_true rfl) ?_
  refine g_if_ne dQ_write_4 rfl (fun h4 => ?_) (fun h4 => ?_)
  · have h4 := Classical.not_not.mp (fun z => h4 (bI_0.mpr z))
    have h4b := h4
    obtain ⟨q, hq, eq⟩ := sh_q h4
    subst eq
    have hb : w 44 q = shB S (nI q) := by unfold shB; rw [nI_clamp (by omega)]; exact (hR.sh q hq).1
    obtain ⟨z, hz, ez⟩ := hzz q hq
    have eb : shZ S (nI q) = nI z := by unfold shZ; rw [nI_clamp (by omega)]; exact ez
    have ew : w 45 q = nI z := (hR.sh q hq).2.1.trans ez
    refine g_aload_n dQ_write_14 rfl ?_
    refine g_getR2 (k2 := 44) dQ_write_15 fQ_57 rfl rfl (by decide) rfl ?_
    refine g_iload_n dQ_write_18 rfl ?_
    refine g_ialdN (i := q) dQ_write_19 rfl hq (by decide) ?_
    refine g_top (y := shB S (nI q)) hb ?_
    refine g_if_ne dQ_write_20 rfl (fun h20 => ?_) (fun h20 => ?_)
    · refine g_iload_n dQ_write_30 rfl ?_
      refine g_iconst (v := 0) dQ_write_31 (by decide) ?_
      refine g_aload_n dQ_write_32 rfl ?_
      refine g_getR2 (k2 := 45) dQ_write_33 fQ_60 rfl rfl (by decide) rfl ?_
      refine g_iload_n dQ_write_36 rfl ?_
      refine g_ialdN (i := q) dQ_write_37 rfl hq (by decide) ?_
      refine g_top (y := nI z) ew ?_
      refine g_iconst (v := 1) dQ_write_38 (by decide) ?_
      refine g_isub dQ_write_39 ?_
      refine gS3 dQ_write_40 kQ_write_79 cQ_within (Nat.le_of_ble_eq_true rfl) ?_
      refine g_if_ne dQ_write_43 rfl (fun h43 => ?_) (fun h43 => ?_)
      · have h43 := Classical.not_not.mp (fun z => h43 (bI_0.mpr z))
        have h43b := h43
        obtain ⟨cz, hcz, ecz⟩ := idx_z hz h43.1 h43.2
        subst ecz
        refine g_aload_n dQ_write_53 rfl ?_
        refine g_getR2 (k2 := 46) dQ_write_54 fQ_63 rfl rfl (by decide) rfl ?_
        refine g_bipush (v := 40) dQ_write_57 (by decide) ?_
        refine g_iload_n dQ_write_59 rfl ?_
        refine g_imul dQ_write_60 ?_
        refine g_iload_n dQ_write_61 rfl ?_
        refine g_iadd dQ_write_62 ?_
        refine g_top (y := nI (40 * q + cz)) (by rw [show (40 : Int32) = nI 40 from rfl, pk_mul, nI_add]) ?_
        refine g_iload_n dQ_write_63 rfl ?_
        refine g_aload_n dQ_write_64 rfl ?_
        refine g_getR2 (k2 := 44) dQ_write_65 fQ_57 rfl rfl (by decide) rfl ?_
        refine g_iload_n dQ_write_68 rfl ?_
        refine g_ialdN (i := q) dQ_write_69 rfl hq (by decide) ?_
        refine g_top (y := shB S (nI q)) hb ?_
        refine gS2 dQ_write_70 kQ_write_341 cQ_cutTo (Nat.le_of_ble_eq_true rfl) ?_
        refine g_iastN (i := (40 * q + cz)) dQ_write_73 rfl (by omega) (by decide) ?_
        refine g_iconst (v := 1) dQ_write_74 (by decide) ?_
        refine g_iret dQ_write_75 rfl rfl ?_
        exact IsQ_W (fun k hk => up_other _ _ _ _ (by omega)) (hR.num hq (by omega) _) (by rw [writeC, if_pos h4b, if_neg h20, eb, if_pos h43b, nI_clamp (by omega), nI_clamp (by omega)])
      · have h43 := bI_0.mp h43
        refine g_aload_n dQ_write_46 rfl ?_
        refine g_ldc dQ_write_47 fQ_69 ?_
        refine gV1 dQ_write_49 kQ_write_75 rfl rfl (cQ_finding (q := 0) (by decide)) (Nat.le_of_ble_eq_true rfl) ?_
        refine g_iret dQ_write_52 rfl rfl ?_
        exact IsQ_F0 hR (by decide) (by rw [writeC, if_pos h4b, if_neg h20, eb, if_neg h43])
    · refine g_aload_n dQ_write_23 rfl ?_
      refine g_ldc dQ_write_24 fQ_234 ?_
      refine gV1 dQ_write_26 kQ_write_75 rfl rfl (cQ_finding (q := 5) (by decide)) (Nat.le_of_ble_eq_true rfl) ?_
      refine g_iret dQ_write_29 rfl rfl ?_
      exact IsQ_F0 hR (by decide) (by rw [writeC, if_pos h4b, if_pos h20])
  · have h4 := bI_0.mp h4
    refine g_aload_n dQ_write_7 rfl ?_
    refine g_ldc dQ_write_8 fQ_69 ?_
    refine gV1 dQ_write_10 kQ_write_75 rfl rfl (cQ_finding (q := 0) (by decide)) (Nat.le_of_ble_eq_true rfl) ?_
    refine g_iret dQ_write_13 rfl rfl ?_
    exact IsQ_F0 hR (by decide) (by rw [writeC, if_neg h4])

set_option maxRecDepth 4000 in
theorem lQ_copy1 {l : Launch} {g : GG} {w : Wd} {q t f d n : Nat} (hq : q < 4) (ht : t < 4) (hf : f + n ≤ 40) (hd : d + n ≤ 40) {Q : Option Value → Wd → Prop} : ∀ (m : Nat) (i : Nat), (n - i < m) → (i ≤ n) → (Go l g Q_copy 162 [some (.ref (g.1 33)), some (.int (nI q)), some (.int (nI f)), some (.int (nI t)), some (.int (nI d)), some (.int (nI n)), some (.int (nI n))] [] (upR w 47 (mvF (w 47) (w 46) (40 * q + f) n)) Q) → Go l g Q_copy 128 [some (.ref (g.1 33)), some (.int (nI q)), some (.int (nI f)), some (.int (nI t)), some (.int (nI d)), some (.int (nI n)), some (.int (nI i))] [] (upR w 47 (mvF (w 47) (w 46) (40 * q + f) i)) (Q) := by
  intro m
  induction m with
  | zero => intro i hm hi hk; omega
  | succ m ih =>
    intro i hm hi hk
    refine g_iload dQ_copy_128 rfl ?_
    refine g_iload dQ_copy_130 rfl ?_
    refine g_icmp_ge dQ_copy_132 rfl (fun h132 => ?_) (fun h132 => ?_)
    · rw [nI_leI (by omega) (by omega)] at h132
      obtain rfl : i = n := by omega
      exact hk
    · rw [nI_leI (by omega) (by omega)] at h132
      refine g_aload_n dQ_copy_135 rfl ?_
      refine g_getR2 (k2 := 47) dQ_copy_136 fQ_66 rfl rfl (by decide) rfl ?_
      refine g_iload dQ_copy_139 rfl ?_
      refine g_aload_n dQ_copy_141 rfl ?_
      refine g_getR2 (k2 := 46) dQ_copy_142 fQ_63 rfl rfl (by decide) rfl ?_
      refine g_bipush (v := 40) dQ_copy_145 (by decide) ?_
      refine g_iload_n dQ_copy_147 rfl ?_
      refine g_imul dQ_copy_148 ?_
      refine g_iload_n dQ_copy_149 rfl ?_
      refine g_iadd dQ_copy_150 ?_
      refine g_iload dQ_copy_151 rfl ?_
      refine g_iadd dQ_copy_153 ?_
      refine g_top (y := nI (40 * q + f + i)) (by rw [show (40 : Int32) = nI 40 from rfl, pk_mul, nI_add, nI_add]) ?_
      refine g_ialdN (i := (40 * q + f + i)) dQ_copy_154 rfl (by omega) (by decide) ?_
      refine g_top (y := w 46 (40 * q + f + i)) (by rw [upR_other _ _ _ (by decide)]) ?_
      refine g_iastN (i := i) dQ_copy_155 rfl (by omega) (by decide) ?_
      rw [upR_up, mvF_s]
      refine g_iinc (v := nI (i + 1)) dQ_copy_156 rfl (nI_succ i).symm (by decide) rfl rfl ?_
      dsimp only [List.set]
      refine g_goto dQ_copy_159 rfl ?_
      exact ih (i + 1) (by omega) (by omega) hk

set_option maxRecDepth 4000 in
theorem lQ_copy2 {l : Launch} {g : GG} {w : Wd} {q t f d n : Nat} (hq : q < 4) (ht : t < 4) (hf : f + n ≤ 40) (hd : d + n ≤ 40) {mm : Nat → Int32} : ∀ (m : Nat) (i : Nat), (n - i < m) → (i ≤ n) → Go l g Q_copy 165 [some (.ref (g.1 33)), some (.int (nI q)), some (.int (nI f)), some (.int (nI t)), some (.int (nI d)), some (.int (nI n)), some (.int (nI i))] [] (upR (upR w 47 mm) 46 (cpF (w 46) mm (40 * t + d) i)) (Is (some (.int (nI n))) (upR (upR w 47 mm) 46 (cpF (w 46) mm (40 * t + d) n))) := by
  intro m
  induction m with
  | zero => intro i hm hi; omega
  | succ m ih =>
    intro i hm hi
    refine g_iload dQ_copy_165 rfl ?_
    refine g_iload dQ_copy_167 rfl ?_
    refine g_icmp_ge dQ_copy_169 rfl (fun h169 => ?_) (fun h169 => ?_)
    · rw [nI_leI (by omega) (by omega)] at h169
      obtain rfl : i = n := by omega
      refine g_iload dQ_copy_200 rfl ?_
      refine g_iret dQ_copy_202 rfl rfl ?_
      exact ⟨rfl, rfl⟩
    · rw [nI_leI (by omega) (by omega)] at h169
      refine g_aload_n dQ_copy_172 rfl ?_
      refine g_getR2 (k2 := 46) dQ_copy_173 fQ_63 rfl rfl (by decide) rfl ?_
      refine g_bipush (v := 40) dQ_copy_176 (by decide) ?_
      refine g_iload_n dQ_copy_178 rfl ?_
      refine g_imul dQ_copy_179 ?_
      refine g_iload dQ_copy_180 rfl ?_
      refine g_iadd dQ_copy_182 ?_
      refine g_iload dQ_copy_183 rfl ?_
      refine g_iadd dQ_copy_185 ?_
      refine g_top (y := nI (40 * t + d + i)) (by rw [show (40 : Int32) = nI 40 from rfl, pk_mul, nI_add, nI_add]) ?_
      refine g_aload_n dQ_copy_186 rfl ?_
      refine g_getR2 (k2 := 47) dQ_copy_187 fQ_66 rfl rfl (by decide) rfl ?_
      refine g_iload dQ_copy_190 rfl ?_
      refine g_ialdN (i := i) dQ_copy_192 rfl (by omega) (by decide) ?_
      refine g_top (y := mm i) (by rw [upR_other _ _ _ (by decide), upR_same]) ?_
      refine g_iastN (i := (40 * t + d + i)) dQ_copy_193 rfl (by omega) (by decide) ?_
      rw [upR_up, cpF_s]
      refine g_iinc (v := nI (i + 1)) dQ_copy_194 rfl (nI_succ i).symm (by decide) rfl rfl ?_
      dsimp only [List.set]
      refine g_goto dQ_copy_197 rfl ?_
      exact ih (i + 1) (by omega) (by omega)

set_option maxRecDepth 4000 in
theorem cQ_copy {l : Launch} {g : GG} {S w : Wd} (hR : RM S w) {s f t d n : Int32} (hzz : ∀ q, q < 4 → ∃ z, z ≤ 40 ∧ S (24 + 2 * q) 1 = nI z)  : Res l g Q_copy [.ref (g.1 33), .int s, .int f, .int t, .int d, .int n] w (IsQ (copyC s f t d n S) w) := by
  refine Res.of (by decide) (by simp [Value.category]) (Nat.le_of_ble_eq_true rfl) rfl ?_
  show Go l g Q_copy 0 [some (.ref (g.1 33)), some (.int s), some (.int f), some (.int t), some (.int d), some (.int n), none] [] w _
  refine g_iload_n dQ_copy_0 rfl ?_
  refine gS1 dQ_copy_1 kQ_copy_231 cQ_isSheet (Nat.le_of_ble_eq_true rfl) ?_
  refine g_if_eq dQ_copy_4 rfl (fun h4 => ?_) (fun h4 => ?_)
  · have h4 := bI_0.mp h4
    refine g_aload_n dQ_copy_14 rfl ?_
    refine g_ldc dQ_copy_15 fQ_69 ?_
    refine gV1 dQ_copy_17 kQ_copy_75 rfl rfl (cQ_finding (q := 0) (by decide)) (Nat.le_of_ble_eq_true rfl) ?_
    refine g_iret dQ_copy_20 rfl rfl ?_
    exact IsQ_F0 hR (by decide) (by rw [copyC, if_neg (by grind)])
  · have h4 := Classical.not_not.mp (fun z => h4 (bI_0.mpr z))
    have h4b := h4
    obtain ⟨q, hq, eq⟩ := sh_q h4
    subst eq
    have hb : w 44 q = shB S (nI q) := by unfold shB; rw [nI_clamp (by omega)]; exact (hR.sh q hq).1
    obtain ⟨z, hz, ez⟩ := hzz q hq
    have eb : shZ S (nI q) = nI z := by unfold shZ; rw [nI_clamp (by omega)]; exact ez
    have ew : w 45 q = nI z := (hR.sh q hq).2.1.trans ez
    refine g_iload_n dQ_copy_7 rfl ?_
    refine gS1 dQ_copy_8 kQ_copy_231 cQ_isSheet (Nat.le_of_ble_eq_true rfl) ?_
    refine g_if_ne dQ_copy_11 rfl (fun h11 => ?_) (fun h11 => ?_)
    · have h11 := Classical.not_not.mp (fun z => h11 (bI_0.mpr z))
      have h11b := h11
      obtain ⟨q2, hq2, eq2⟩ := sh_q h11
      subst eq2
      have hb2 : w 44 q2 = shB S (nI q2) := by unfold shB; rw [nI_clamp (by omega)]; exact (hR.sh q2 hq2).1
      obtain ⟨z2, hz2, ez2⟩ := hzz q2 hq2
      have eb2 : shZ S (nI q2) = nI z2 := by unfold shZ; rw [nI_clamp (by omega)]; exact ez2
      have ew2 : w 45 q2 = nI z2 := (hR.sh q2 hq2).2.1.trans ez2
      have hok : okSh (nI q) ∧ okSh (nI q2) := ⟨h4b, h11b⟩
      refine g_aload_n dQ_copy_21 rfl ?_
      refine g_getR2 (k2 := 44) dQ_copy_22 fQ_57 rfl rfl (by decide) rfl ?_
      refine g_iload_n dQ_copy_25 rfl ?_
      refine g_ialdN (i := q) dQ_copy_26 rfl hq (by decide) ?_
      refine g_top (y := shB S (nI q)) hb ?_
      refine g_if_eq dQ_copy_27 rfl (fun h27 => ?_) (fun h27 => ?_)
      · refine g_aload_n dQ_copy_39 rfl ?_
        refine g_ldc dQ_copy_40 fQ_234 ?_
        refine gV1 dQ_copy_42 kQ_copy_75 rfl rfl (cQ_finding (q := 5) (by decide)) (Nat.le_of_ble_eq_true rfl) ?_
        refine g_iret dQ_copy_45 rfl rfl ?_
        exact IsQ_F0 hR (by decide) (by rw [copyC, if_pos hok, if_pos (by grind)])
      · refine g_aload_n dQ_copy_30 rfl ?_
        refine g_getR2 (k2 := 44) dQ_copy_31 fQ_57 rfl rfl (by decide) rfl ?_
        refine g_iload_n dQ_copy_34 rfl ?_
        refine g_ialdN (i := q2) dQ_copy_35 rfl hq2 (by decide) ?_
        refine g_top (y := shB S (nI q2)) hb2 ?_
        refine g_if_ne dQ_copy_36 rfl (fun h36 => ?_) (fun h36 => ?_)
        · have hnz0 : ¬ (shB S (nI q) = 0 ∨ shB S (nI q2) = 0) := by grind
          refine g_aload_n dQ_copy_46 rfl ?_
          refine g_getR2 (k2 := 44) dQ_copy_47 fQ_57 rfl rfl (by decide) rfl ?_
          refine g_iload_n dQ_copy_50 rfl ?_
          refine g_ialdN (i := q) dQ_copy_51 rfl hq (by decide) ?_
          refine g_top (y := shB S (nI q)) hb ?_
          refine g_aload_n dQ_copy_52 rfl ?_
          refine g_getR2 (k2 := 44) dQ_copy_53 fQ_57 rfl rfl (by decide) rfl ?_
          refine g_iload_n dQ_copy_56 rfl ?_
          refine g_ialdN (i := q2) dQ_copy_57 rfl hq2 (by decide) ?_
          refine g_top (y := shB S (nI q2)) hb2 ?_
          refine g_icmp_eq dQ_copy_58 rfl (fun h58 => ?_) (fun h58 => ?_)
          · refine g_iload_n dQ_copy_69 rfl ?_
            refine g_if_lt dQ_copy_70 rfl (fun h70 => ?_) (fun h70 => ?_)
            · refine g_aload_n dQ_copy_118 rfl ?_
              refine g_ldc dQ_copy_119 fQ_69 ?_
              refine gV1 dQ_copy_121 kQ_copy_75 rfl rfl (cQ_finding (q := 0) (by decide)) (Nat.le_of_ble_eq_true rfl) ?_
              refine g_iret dQ_copy_124 rfl rfl ?_
              exact IsQ_F0 hR (by decide) (by rw [copyC, if_pos hok, if_neg hnz0, if_pos h58, eb, eb2, if_neg (by first | exact (fun zz => absurd zz.1.1 (Int32.not_le.mpr h70)) | exact (fun zz => absurd zz.2.1 (Int32.not_le.mpr h75)) | exact (fun zz => absurd zz.1.2.1 (Int32.not_le.mpr h80)) | exact (fun zz => by have := (run_iff hfz hnz hz).mp zz.1; omega) | exact (fun zz => by have := (run_iff hdz hnz hz2).mp zz.2; omega))])
            · refine g_iload dQ_copy_73 rfl ?_
              refine g_if_lt dQ_copy_75 rfl (fun h75 => ?_) (fun h75 => ?_)
              · refine g_aload_n dQ_copy_118 rfl ?_
                refine g_ldc dQ_copy_119 fQ_69 ?_
                refine gV1 dQ_copy_121 kQ_copy_75 rfl rfl (cQ_finding (q := 0) (by decide)) (Nat.le_of_ble_eq_true rfl) ?_
                refine g_iret dQ_copy_124 rfl rfl ?_
                exact IsQ_F0 hR (by decide) (by rw [copyC, if_pos hok, if_neg hnz0, if_pos h58, eb, eb2, if_neg (by first | exact (fun zz => absurd zz.1.1 (Int32.not_le.mpr h70)) | exact (fun zz => absurd zz.2.1 (Int32.not_le.mpr h75)) | exact (fun zz => absurd zz.1.2.1 (Int32.not_le.mpr h80)) | exact (fun zz => by have := (run_iff hfz hnz hz).mp zz.1; omega) | exact (fun zz => by have := (run_iff hdz hnz hz2).mp zz.2; omega))])
              · refine g_iload dQ_copy_78 rfl ?_
                refine g_if_lt dQ_copy_80 rfl (fun h80 => ?_) (fun h80 => ?_)
                · refine g_aload_n dQ_copy_118 rfl ?_
                  refine g_ldc dQ_copy_119 fQ_69 ?_
                  refine gV1 dQ_copy_121 kQ_copy_75 rfl rfl (cQ_finding (q := 0) (by decide)) (Nat.le_of_ble_eq_true rfl) ?_
                  refine g_iret dQ_copy_124 rfl rfl ?_
                  exact IsQ_F0 hR (by decide) (by rw [copyC, if_pos hok, if_neg hnz0, if_pos h58, eb, eb2, if_neg (by first | exact (fun zz => absurd zz.1.1 (Int32.not_le.mpr h70)) | exact (fun zz => absurd zz.2.1 (Int32.not_le.mpr h75)) | exact (fun zz => absurd zz.1.2.1 (Int32.not_le.mpr h80)) | exact (fun zz => by have := (run_iff hfz hnz hz).mp zz.1; omega) | exact (fun zz => by have := (run_iff hdz hnz hz2).mp zz.2; omega))])
                · obtain ⟨fz, hfz, efz⟩ := nI_of h70
                  obtain ⟨dz, hdz, edz⟩ := nI_of h75
                  obtain ⟨nz, hnz, enz⟩ := nI_of h80
                  subst efz
                  subst edz
                  subst enz
                  refine g_iload_n dQ_copy_83 rfl ?_
                  refine g_i2l dQ_copy_84 ?_
                  refine g_iload dQ_copy_85 rfl ?_
                  refine g_i2l dQ_copy_87 ?_
                  refine g_ladd dQ_copy_88 ?_
                  refine g_aload_n dQ_copy_89 rfl ?_
                  refine g_getR2 (k2 := 45) dQ_copy_90 fQ_60 rfl rfl (by decide) rfl ?_
                  refine g_iload_n dQ_copy_93 rfl ?_
                  refine g_ialdN (i := q) dQ_copy_94 rfl hq (by decide) ?_
                  refine g_top (y := nI z) ew ?_
                  refine g_i2l dQ_copy_95 ?_
                  refine g_lcmp dQ_copy_96 ?_
                  refine g_if_gt dQ_copy_97 rfl (fun h97 => ?_) (fun h97 => ?_)
                  · rw [lg_cmp_gt, lsum hfz hnz hz] at h97
                    refine g_aload_n dQ_copy_118 rfl ?_
                    refine g_ldc dQ_copy_119 fQ_69 ?_
                    refine gV1 dQ_copy_121 kQ_copy_75 rfl rfl (cQ_finding (q := 0) (by decide)) (Nat.le_of_ble_eq_true rfl) ?_
                    refine g_iret dQ_copy_124 rfl rfl ?_
                    exact IsQ_F0 hR (by decide) (by rw [copyC, if_pos hok, if_neg hnz0, if_pos h58, eb, eb2, if_neg (by first | exact (fun zz => absurd zz.1.1 (Int32.not_le.mpr h70)) | exact (fun zz => absurd zz.2.1 (Int32.not_le.mpr h75)) | exact (fun zz => absurd zz.1.2.1 (Int32.not_le.mpr h80)) | exact (fun zz => by have := (run_iff hfz hnz hz).mp zz.1; omega) | exact (fun zz => by have := (run_iff hdz hnz hz2).mp zz.2; omega))])
                  · rw [lg_cmp_gt, lsum hfz hnz hz] at h97
                    refine g_iload dQ_copy_100 rfl ?_
                    refine g_i2l dQ_copy_102 ?_
                    refine g_iload dQ_copy_103 rfl ?_
                    refine g_i2l dQ_copy_105 ?_
                    refine g_ladd dQ_copy_106 ?_
                    refine g_aload_n dQ_copy_107 rfl ?_
                    refine g_getR2 (k2 := 45) dQ_copy_108 fQ_60 rfl rfl (by decide) rfl ?_
                    refine g_iload_n dQ_copy_111 rfl ?_
                    refine g_ialdN (i := q2) dQ_copy_112 rfl hq2 (by decide) ?_
                    refine g_top (y := nI z2) ew2 ?_
                    refine g_i2l dQ_copy_113 ?_
                    refine g_lcmp dQ_copy_114 ?_
                    refine g_if_le dQ_copy_115 rfl (fun h115 => ?_) (fun h115 => ?_)
                    · rw [lg_cmp_le, lsum2 hdz hnz hz2] at h115
                      refine g_iconst (v := 0) dQ_copy_125 (by decide) ?_
                      refine g_istore dQ_copy_126 (by decide) rfl rfl ?_
                      dsimp only [List.set]
                      refine g_w (w1 := upR w 47 (mvF (w 47) (w 46) (40 * q + fz) 0)) (by rw [mvF_0, upR_id _ _ rfl]) ?_
                      refine lQ_copy1 hq hq2 (n := nz) (f := fz) (d := dz) (by omega) (by omega) (nz + 1) 0 (by omega) (by omega) ?_
                      refine g_iconst (v := 0) dQ_copy_162 (by decide) ?_
                      refine g_istore dQ_copy_163 (by decide) rfl rfl ?_
                      dsimp only [List.set]
                      refine g_w (w1 := upR (upR w 47 (mvF (w 47) (w 46) (40 * q + fz) nz)) 46 (cpF (w 46) (mvF (w 47) (w 46) (40 * q + fz) nz) (40 * q2 + dz) 0)) (by rw [cpF_0, upR_id (upR w 47 _) 46 (by rw [upR_other _ _ _ (by decide)])]) ?_
                      refine g_mono (fun r w2 hh => ?_) (lQ_copy2 (q := q) (f := fz) hq hq2 (n := nz) (d := dz) (by omega) (by omega) (nz + 1) 0 (by omega) (by omega))
                      obtain ⟨rfl, rfl⟩ := hh
                      exact IsQ_W (fun k hk => by rw [upR_other _ _ _ (by omega), upR_other _ _ _ (by omega)]) (hR.copy hq hq2 (by omega) (by omega)) (by rw [copyC, if_pos hok, if_neg hnz0, if_pos h58, eb, eb2, if_pos ⟨(run_iff hfz hnz hz).mpr (by omega), (run_iff hdz hnz hz2).mpr (by omega)⟩]; unfold shN; rw [nI_clamp (by omega), nI_clamp (by omega), nI_clamp (by omega), nI_clamp (by omega), nI_clamp (by omega)])
                    · rw [lg_cmp_le, lsum2 hdz hnz hz2] at h115
                      refine g_aload_n dQ_copy_118 rfl ?_
                      refine g_ldc dQ_copy_119 fQ_69 ?_
                      refine gV1 dQ_copy_121 kQ_copy_75 rfl rfl (cQ_finding (q := 0) (by decide)) (Nat.le_of_ble_eq_true rfl) ?_
                      refine g_iret dQ_copy_124 rfl rfl ?_
                      exact IsQ_F0 hR (by decide) (by rw [copyC, if_pos hok, if_neg hnz0, if_pos h58, eb, eb2, if_neg (by first | exact (fun zz => absurd zz.1.1 (Int32.not_le.mpr h70)) | exact (fun zz => absurd zz.2.1 (Int32.not_le.mpr h75)) | exact (fun zz => absurd zz.1.2.1 (Int32.not_le.mpr h80)) | exact (fun zz => by have := (run_iff hfz hnz hz).mp zz.1; omega) | exact (fun zz => by have := (run_iff hdz hnz hz2).mp zz.2; omega))])
          · refine g_aload_n dQ_copy_61 rfl ?_
            refine g_ldcw dQ_copy_62 fQ_339 ?_
            refine gV1 dQ_copy_65 kQ_copy_75 rfl rfl (cQ_finding (q := 2) (by decide)) (Nat.le_of_ble_eq_true rfl) ?_
            refine g_iret dQ_copy_68 rfl rfl ?_
            exact IsQ_F0 hR (by decide) (by rw [copyC, if_pos hok, if_neg hnz0, if_neg h58])
        · refine g_aload_n dQ_copy_39 rfl ?_
          refine g_ldc dQ_copy_40 fQ_234 ?_
          refine gV1 dQ_copy_42 kQ_copy_75 rfl rfl (cQ_finding (q := 5) (by decide)) (Nat.le_of_ble_eq_true rfl) ?_
          refine g_iret dQ_copy_45 rfl rfl ?_
          exact IsQ_F0 hR (by decide) (by rw [copyC, if_pos hok, if_pos (by grind)])
    · have h11 := bI_0.mp h11
      refine g_aload_n dQ_copy_14 rfl ?_
      refine g_ldc dQ_copy_15 fQ_69 ?_
      refine gV1 dQ_copy_17 kQ_copy_75 rfl rfl (cQ_finding (q := 0) (by decide)) (Nat.le_of_ble_eq_true rfl) ?_
      refine g_iret dQ_copy_20 rfl rfl ?_
      exact IsQ_F0 hR (by decide) (by rw [copyC, if_neg (by grind)])

set_option maxRecDepth 4000 in
theorem lQ_feed {l : Launch} {g : GG} {b nn : Int32} : ∀ (m t : Nat) (S w : Wd), m ≤ 4 → RM S w → S 21 1 = nI t → t + m ≤ 120 → Go l g Q_feed 38 [some (.ref (g.1 33)), some (.int b), some (.int nn), some (.int (nI m - 1))] [] w (fun r w' => r = some (.int (nI (t + m))) ∧ RM (fdW b m t S) w' ∧ ∀ k, k < 33 → w' k = w k) := by
  intro m
  induction m with
  | zero =>
    intro t S w hm hR ht hr
    refine g_iload_n dQ_feed_38 rfl ?_
    refine g_if_lt dQ_feed_39 rfl (fun h39 => ?_) (fun h39 => ?_)
    · refine g_aload_n dQ_feed_77 rfl ?_
      refine g_getI dQ_feed_78 fQ_250 rfl rfl ?_
      refine g_top (y := nI (t + 0)) (by rw [hR.tl]; exact ht) ?_
      refine g_iret dQ_feed_81 rfl rfl ?_
      exact ⟨rfl, hR, fun _ _ => rfl⟩
    · exact absurd (by decide) h39
  | succ m ih =>
    intro t S w hm hR ht hr
    refine g_lv (lv1 := [some (.ref (g.1 33)), some (.int b), some (.int nn), some (.int (nI m))]) (by rw [nI_succ, Int32.add_sub_cancel]) ?_
    refine g_iload_n dQ_feed_38 rfl ?_
    refine g_if_lt dQ_feed_39 rfl (fun h39 => ?_) (fun h39 => ?_)
    · exact absurd h39 (nI_pos (show m < 2 ^ 31 by omega))
    · refine g_aload_n dQ_feed_42 rfl ?_
      refine g_getR2 (k2 := 38) dQ_feed_43 fQ_22 rfl rfl (by decide) rfl ?_
      refine g_aload_n dQ_feed_46 rfl ?_
      refine g_getI dQ_feed_47 fQ_250 rfl rfl ?_
      refine g_top (y := nI t) (by rw [hR.tl]; exact ht) ?_
      refine g_iload_n dQ_feed_50 rfl ?_
      refine g_bipush (v := 8) dQ_feed_51 (by decide) ?_
      refine g_iload_n dQ_feed_53 rfl ?_
      refine g_imul dQ_feed_54 ?_
      refine g_ishr dQ_feed_55 ?_
      refine g_sipush (v := 255) dQ_feed_56 (by decide) ?_
      refine g_iand dQ_feed_59 ?_
      refine g_top (y := byF b m) (by_eq b (by omega)) ?_
      refine g_iastN (i := t) dQ_feed_60 rfl (by omega) (by decide) ?_
      refine g_aload_n dQ_feed_61 rfl ?_
      refine g_dup dQ_feed_62 rfl ?_
      refine g_getI dQ_feed_63 fQ_250 rfl rfl ?_
      refine g_top (y := nI t) (by rw [up_other _ _ _ _ (by decide), hR.tl]; exact ht) ?_
      refine g_iconst (v := 1) dQ_feed_66 (by decide) ?_
      refine g_iadd dQ_feed_67 ?_
      refine g_top (y := nI (t + 1)) (nI_succ t).symm ?_
      refine g_putI dQ_feed_68 fQ_250 rfl rfl rfl rfl ?_
      refine g_iinc (v := nI m - 1) dQ_feed_71 rfl (by rw [Int32.sub_eq_add_neg]; rfl) (by decide) rfl rfl ?_
      dsimp only [List.set]
      refine g_goto dQ_feed_74 rfl ?_
      refine g_mono (fun r w2 hh => ⟨by rw [hh.1, show t + (m + 1) = t + 1 + m by omega], hh.2.1, fun k hk => (hh.2.2 k hk).trans (by rw [up_other _ _ _ _ (by omega), up_other _ _ _ _ (by omega)])⟩) (ih (t + 1) (fd1 (byF b m) t S) _ (by omega) ((hR.tby t (byF b m)).tlen (nI (t + 1))) (fd1_21 _ _ _) (by omega))

set_option maxRecDepth 4000 in
theorem cQ_feed {l : Launch} {g : GG} {S w : Wd} (hR : RM S w) {b n : Int32} {t : Nat} (ht : S 21 1 = nI t) (h120 : t ≤ 120) : Res l g Q_feed [.ref (g.1 33), .int b, .int n] w (IsQ (feedC b n S) w) := by
  refine Res.of (by decide) (by simp [Value.category]) (Nat.le_of_ble_eq_true rfl) rfl ?_
  show Go l g Q_feed 0 [some (.ref (g.1 33)), some (.int b), some (.int n), none] [] w _
  refine g_iload_n dQ_feed_0 rfl ?_
  refine g_iconst (v := 1) dQ_feed_1 (by decide) ?_
  refine g_iconst (v := 4) dQ_feed_2 (by decide) ?_
  refine gS3 dQ_feed_3 kQ_feed_79 cQ_within (Nat.le_of_ble_eq_true rfl) ?_
  refine g_if_ne dQ_feed_6 rfl (fun h6 => ?_) (fun h6 => ?_)
  · have h6 := Classical.not_not.mp (fun z => h6 (bI_0.mpr z))
    have h6b := h6
    obtain ⟨mz, hmz, emz⟩ := nI_of2 (x := n) (M := 4) (n := 4) rfl (Int32.not_lt.mpr (Int32.le_trans (by decide) h6.1)) h6.2
    subst emz
    refine g_aload_n dQ_feed_16 rfl ?_
    refine g_getI dQ_feed_17 fQ_250 rfl rfl ?_
    refine g_top (y := nI t) (by rw [hR.tl]; exact ht) ?_
    refine g_iload_n dQ_feed_20 rfl ?_
    refine g_iadd dQ_feed_21 ?_
    refine g_top (y := nI (t + mz)) (nI_add t mz) ?_
    refine g_bipush (v := 120) dQ_feed_22 (by decide) ?_
    refine g_icmp_le dQ_feed_24 rfl (fun h24 => ?_) (fun h24 => ?_)
    · rw [show (120 : Int32) = nI 120 from rfl, nI_leI (by omega) (by omega)] at h24
      refine g_iload_n dQ_feed_34 rfl ?_
      refine g_iconst (v := 1) dQ_feed_35 (by decide) ?_
      refine g_isub dQ_feed_36 ?_
      refine g_istore_n dQ_feed_37 (by decide) rfl rfl ?_
      dsimp only [List.set]
      refine g_mono (fun r w2 hh => ?_) (lQ_feed mz t S w hmz hR ht h24)
      rw [show feedC b (nI mz) S = (nI (t + mz), fdW b mz t S) by rw [feedC, if_pos h6b, ht, if_pos ((tpRoom h120 hmz).mpr h24), nI_clamp (by omega), nI_clamp (by omega), nI_add]]
      exact hh
    · rw [show (120 : Int32) = nI 120 from rfl, nI_leI (by omega) (by omega)] at h24
      refine g_aload_n dQ_feed_27 rfl ?_
      refine g_ldc dQ_feed_28 fQ_104 ?_
      refine gV1 dQ_feed_30 kQ_feed_75 rfl rfl (cQ_finding (q := 1) (by decide)) (Nat.le_of_ble_eq_true rfl) ?_
      refine g_iret dQ_feed_33 rfl rfl ?_
      exact IsQ_F0 hR (by decide) (by rw [feedC, if_pos h6b, ht, if_neg (fun zz => h24 ((tpRoom h120 hmz).mp zz))])
  · have h6 := bI_0.mp h6
    refine g_aload_n dQ_feed_9 rfl ?_
    refine g_ldc dQ_feed_10 fQ_69 ?_
    refine gV1 dQ_feed_12 kQ_feed_75 rfl rfl (cQ_finding (q := 0) (by decide)) (Nat.le_of_ble_eq_true rfl) ?_
    refine g_iret dQ_feed_15 rfl rfl ?_
    exact IsQ_F0 hR (by decide) (by rw [feedC, if_neg h6])
