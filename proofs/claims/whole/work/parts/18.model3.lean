theorem carM_up {n : Nat} {A B : HA} (h : carM n A) (e : B.1 2 = A.1 2) : carM n B := by unfold carM; rw [e]; exact h
theorem carM_te {n : Nat} {A : HA} (h : carM n A) : carM n (teM n A) := by
  unfold teM
  split
  · unfold seM se2M
    split
    · rcases soM_lt A.2.2.1 (A.1 0) n with h2 | ⟨c, hc, h2⟩
      · exact Or.inl (by show (sS _ 2 _).1 2 < 0; rw [sS_s, h2]; decide)
      · exact Or.inr ⟨c, hc, by rw [sS_s, h2]⟩
    · exact carM_up h rfl
  · unfold caM ca2M
    split
    · exact Or.inl (by show (-1 : Int32) < 0; decide)
    · refine carM_up h ?_
      unfold ca1M mkM
      split <;> rfl
theorem carM_hour {t : Int32} {n : Nat} {A : HA} (h : carM n A) : carM n (hourM t n A) :=
  carM_up (A := teM n (prM n (stM t n n A))) (carM_te (carM_up h (by rw [prM_2, stM_S]))) (by show (ttM n _).1 2 = _; rw [ttM_S])
theorem carM_hours {t : Int32} {n : Nat} {A : HA} (h : carM n A) : ∀ m, carM n (hoursM t n m A)
  | 0 => h
  | m + 1 => carM_hour (carM_hours h m)
def qf (q : Nat) (w : Wd) : Wd := up (up w 37 (q + 1) (w 37 (q + 1) + 1)) 37 0 (w 37 0 + 1)
theorem find_ix (q : Nat) : (-1000001 : Int32) - (-1000001 - nI q) + 1 = nI (q + 1) := by
  have e : ∀ a x : Int32, a - (a - x) + 1 = x + 1 := by intro a x; grind
  rw [nI_succ]; exact e _ _
theorem cpy_step {w : Wd} {a b i : Nat} : up (upR w b (va_cpy (w a) (w b) 0 0 i)) b i (w a i) = upR w b (va_cpy (w a) (w b) 0 0 (i + 1)) := by
  rw [upR_up]; congr 1
  funext j
  unfold upd va_cpy
  by_cases h : j = i
  · subst h; rw [if_pos rfl, if_pos (by omega)]; simp
  · rw [if_neg h]
    by_cases h2 : j < i
    · rw [if_pos (by omega), if_pos (by omega)]
    · rw [if_neg (by omega), if_neg (by omega)]
theorem cpy_0 {w : Wd} {a b : Nat} : upR w b (va_cpy (w a) (w b) 0 0 0) = w := by
  funext k
  unfold upR
  split
  · subst_vars; funext j; unfold va_cpy; rw [if_neg (by omega)]
  · rfl
set_option maxRecDepth 4000 in
theorem cQ_keeperAt {l : Launch} {g : GG} {w : Wd} {A : HA} {n : Nat} (hn : A.1 6 = nI n) (h8 : n ≤ 8) (hc : carM n A) {v : Int32} : Res l g Q_keeperAt [.ref (g.1 33), .int v] (mput A w) (Is none (mput (mkM v A) w)) := by
  refine Res.of (by decide) (by simp [Value.category]) (Nat.le_of_ble_eq_true rfl) rfl ?_
  show Go l g Q_keeperAt 0 [some (.ref (g.1 33)), some (.int v)] [] (mput A w) _
  refine g_aload_n dQ_keeperAt_0 rfl ?_
  refine g_getR2 (k2 := 34) dQ_keeperAt_1 fQ_9 rfl rfl (by decide) rfl ?_
  refine g_iconst (v := 4) dQ_keeperAt_4 (by decide) ?_
  refine g_iload_n dQ_keeperAt_5 rfl ?_
  refine g_mP (j := 1) (i := 4) dQ_keeperAt_6 rfl (by decide) (by decide) ?_
  refine g_aload_n dQ_keeperAt_7 rfl ?_
  refine g_getR2 (k2 := 34) dQ_keeperAt_8 fQ_9 rfl rfl (by decide) rfl ?_
  refine g_bipush (v := 7) dQ_keeperAt_11 (by decide) ?_
  refine g_mS (j := 2) (i := 7) dQ_keeperAt_13 rfl (by decide) (by decide) ?_
  refine g_if_lt dQ_keeperAt_14 rfl (fun h14 => ?_) (fun h14 => ?_)
  · rw [sS_n (show (2 : Nat) ≠ 1 by decide)] at h14
    refine g_vret dQ_keeperAt_34 rfl ?_
    exact ⟨rfl, by first | rw [mkM, if_pos h14] | (rw [mkM, if_neg h14, ec, nI_clamp (by omega)]; rfl)⟩
  · rw [sS_n (show (2 : Nat) ≠ 1 by decide)] at h14
    obtain ⟨c, hcn, ec⟩ := hc.resolve_left h14
    refine g_aload_n dQ_keeperAt_17 rfl ?_
    refine g_getR2 (k2 := 34) dQ_keeperAt_18 fQ_9 rfl rfl (by decide) rfl ?_
    refine g_aload_n dQ_keeperAt_21 rfl ?_
    refine g_getR2 (k2 := 34) dQ_keeperAt_22 fQ_9 rfl rfl (by decide) rfl ?_
    refine g_bipush (v := 7) dQ_keeperAt_25 (by decide) ?_
    refine g_mS (j := 2) (i := 7) dQ_keeperAt_27 rfl (by decide) (by decide) ?_
    refine g_top (y := nI c) ((sS_n (by decide)).trans ec) ?_
    refine g_iconst (v := 1) dQ_keeperAt_28 (by decide) ?_
    refine gS2 dQ_keeperAt_29 kQ_keeperAt_83 (cQ_sheepAt (f := 1)) (Nat.le_of_ble_eq_true rfl) ?_
    refine g_iload_n dQ_keeperAt_32 rfl ?_
    refine g_ms (f := 1) dQ_keeperAt_33 (by decide) (by omega) ?_
    refine g_vret dQ_keeperAt_34 rfl ?_
    exact ⟨rfl, by first | rw [mkM, if_pos h14] | (rw [mkM, if_neg h14, ec, nI_clamp (by omega)]; rfl)⟩

set_option maxRecDepth 4000 in
theorem cQ_keeperTo {l : Launch} {g : GG} {w : Wd} {A : HA} {n : Nat} (hn : A.1 6 = nI n) (h8 : n ≤ 8) (hc : carM n A) {v : Int32} : Res l g Q_keeperTo [.ref (g.1 33), .int v] (mput A w) (Is (some (.int (A.1 1))) (mput (mkM v A) w)) := by
  refine Res.of (by decide) (by simp [Value.category]) (Nat.le_of_ble_eq_true rfl) rfl ?_
  show Go l g Q_keeperTo 0 [some (.ref (g.1 33)), some (.int v), none] [] (mput A w) _
  refine g_aload_n dQ_keeperTo_0 rfl ?_
  refine g_getR2 (k2 := 34) dQ_keeperTo_1 fQ_9 rfl rfl (by decide) rfl ?_
  refine g_iconst (v := 4) dQ_keeperTo_4 (by decide) ?_
  refine g_mS (j := 1) (i := 4) dQ_keeperTo_5 rfl (by decide) (by decide) ?_
  refine g_istore_n dQ_keeperTo_6 (by decide) rfl rfl ?_
  dsimp only [List.set]
  refine g_aload_n dQ_keeperTo_7 rfl ?_
  refine g_iload_n dQ_keeperTo_8 rfl ?_
  refine gV1v dQ_keeperTo_9 kQ_keeperTo_87 rfl rfl (cQ_keeperAt hn h8 hc) (Nat.le_of_ble_eq_true rfl) ?_
  refine g_iload_n dQ_keeperTo_12 rfl ?_
  refine g_iret dQ_keeperTo_13 rfl rfl ?_
  exact ⟨rfl, rfl⟩

set_option maxRecDepth 4000 in
theorem cQ_carries {l : Launch} {g : GG} {w : Wd} {A : HA} {n : Nat} (hn : A.1 6 = nI n) (h8 : n ≤ 8) {c : Nat} (hcn : c < n) (ec : A.1 2 = nI c) : Res l g Q_carries [.ref (g.1 33)] (mput A w) (Is none (mput (caM A) w)) := by
  refine Res.of (by decide) (by simp [Value.category]) (Nat.le_of_ble_eq_true rfl) rfl ?_
  show Go l g Q_carries 0 [some (.ref (g.1 33)), none] [] (mput A w) _
  refine g_aload_n dQ_carries_0 rfl ?_
  refine g_getR2 (k2 := 34) dQ_carries_1 fQ_9 rfl rfl (by decide) rfl ?_
  refine g_bipush (v := 7) dQ_carries_4 (by decide) ?_
  refine g_mS (j := 2) (i := 7) dQ_carries_6 rfl (by decide) (by decide) ?_
  refine g_top (y := nI c) ec ?_
  refine g_istore_n dQ_carries_7 (by decide) rfl rfl ?_
  dsimp only [List.set]
  refine g_aload_n dQ_carries_8 rfl ?_
  refine g_aload_n dQ_carries_9 rfl ?_
  refine g_getR2 (k2 := 34) dQ_carries_10 fQ_9 rfl rfl (by decide) rfl ?_
  refine g_iconst (v := 4) dQ_carries_13 (by decide) ?_
  refine g_mS (j := 1) (i := 4) dQ_carries_14 rfl (by decide) (by decide) ?_
  refine g_aload_n dQ_carries_15 rfl ?_
  refine g_getR2 (k2 := 34) dQ_carries_16 fQ_9 rfl rfl (by decide) rfl ?_
  refine g_iconst (v := 3) dQ_carries_19 (by decide) ?_
  refine g_mS (j := 0) (i := 3) dQ_carries_20 rfl (by decide) (by decide) ?_
  refine g_aload_n dQ_carries_21 rfl ?_
  refine g_iload_n dQ_carries_22 rfl ?_
  refine gV1 dQ_carries_23 kQ_carries_134 rfl rfl (cQ_light (by omega)) (Nat.le_of_ble_eq_true rfl) ?_
  refine gS3 dQ_carries_26 kQ_carries_161 cQ_towards (Nat.le_of_ble_eq_true rfl) ?_
  refine gV1v dQ_carries_29 kQ_carries_87 rfl rfl (cQ_keeperAt hn h8 (Or.inr ⟨c, hcn, ec⟩)) (Nat.le_of_ble_eq_true rfl) ?_
  refine g_w (w1 := mput (ca1M A) w) (by rw [ca1M, ec, nI_clamp (by omega)]) ?_
  refine g_aload_n dQ_carries_32 rfl ?_
  refine g_getR2 (k2 := 34) dQ_carries_33 fQ_9 rfl rfl (by decide) rfl ?_
  refine g_iconst (v := 4) dQ_carries_36 (by decide) ?_
  refine g_mS (j := 1) (i := 4) dQ_carries_37 rfl (by decide) (by decide) ?_
  refine g_aload_n dQ_carries_38 rfl ?_
  refine g_getR2 (k2 := 34) dQ_carries_39 fQ_9 rfl rfl (by decide) rfl ?_
  refine g_iconst (v := 3) dQ_carries_42 (by decide) ?_
  refine g_mS (j := 0) (i := 3) dQ_carries_43 rfl (by decide) (by decide) ?_
  refine g_icmp_ne dQ_carries_44 rfl (fun h44 => ?_) (fun h44 => ?_)
  · refine g_vret dQ_carries_90 rfl ?_
    exact ⟨rfl, by first | rw [caM, ec, nI_clamp (by omega), ca2M, if_neg h44] | (rw [caM, ec, nI_clamp (by omega), ca2M, if_pos h44]; rfl)⟩
  · refine g_aload_n dQ_carries_47 rfl ?_
    refine g_getR2 (k2 := 34) dQ_carries_48 fQ_9 rfl rfl (by decide) rfl ?_
    refine g_iload_n dQ_carries_51 rfl ?_
    refine g_iconst (v := 4) dQ_carries_52 (by decide) ?_
    refine gS2 dQ_carries_53 kQ_carries_83 (cQ_sheepAt (f := 4)) (Nat.le_of_ble_eq_true rfl) ?_
    refine g_sipush (v := 9999) dQ_carries_56 (by decide) ?_
    refine g_aload_n dQ_carries_59 rfl ?_
    refine g_iload_n dQ_carries_60 rfl ?_
    refine g_iconst (v := 4) dQ_carries_61 (by decide) ?_
    refine gV2 dQ_carries_62 kQ_carries_108 rfl rfl (cQ_sheepIsO (by omega)) (Nat.le_of_ble_eq_true rfl) ?_
    refine g_iconst (v := 1) dQ_carries_65 (by decide) ?_
    refine g_iadd dQ_carries_66 ?_
    refine g_min dQ_carries_67 lQ_148 (by decide) (Nat.le_of_ble_eq_true rfl) ?_
    refine g_ms (f := 4) dQ_carries_70 (by decide) (by omega) ?_
    refine g_aload_n dQ_carries_71 rfl ?_
    refine g_getR2 (k2 := 34) dQ_carries_72 fQ_9 rfl rfl (by decide) rfl ?_
    refine g_iload_n dQ_carries_75 rfl ?_
    refine g_iconst (v := 2) dQ_carries_76 (by decide) ?_
    refine gS2 dQ_carries_77 kQ_carries_83 (cQ_sheepAt (f := 2)) (Nat.le_of_ble_eq_true rfl) ?_
    refine g_iconst (v := 0) dQ_carries_80 (by decide) ?_
    refine g_ms (f := 2) dQ_carries_81 (by decide) (by omega) ?_
    refine g_aload_n dQ_carries_82 rfl ?_
    refine g_getR2 (k2 := 34) dQ_carries_83 fQ_9 rfl rfl (by decide) rfl ?_
    refine g_bipush (v := 7) dQ_carries_86 (by decide) ?_
    refine g_iconst (v := (-1)) dQ_carries_88 (by decide) ?_
    refine g_mP (j := 2) (i := 7) dQ_carries_89 rfl (by decide) (by decide) ?_
    refine g_vret dQ_carries_90 rfl ?_
    exact ⟨rfl, by first | rw [caM, ec, nI_clamp (by omega), ca2M, if_neg h44] | (rw [caM, ec, nI_clamp (by omega), ca2M, if_pos h44]; rfl)⟩

set_option maxRecDepth 4000 in
theorem cQ_seeks {l : Launch} {g : GG} {w : Wd} {A : HA} {n : Nat} (hn : A.1 6 = nI n) (h8 : n ≤ 8)  : Res l g Q_seeks [.ref (g.1 33)] (mput A w) (Is none (mput (seM n A) w)) := by
  refine Res.of (by decide) (by simp [Value.category]) (Nat.le_of_ble_eq_true rfl) rfl ?_
  show Go l g Q_seeks 0 [some (.ref (g.1 33)), none] [] (mput A w) _
  rcases soM_lt A.2.2.1 (A.1 0) n with ec | ⟨c, hcn, ec⟩
  · refine g_aload_n dQ_seeks_0 rfl ?_
    refine gV0 dQ_seeks_1 kQ_seeks_172 rfl rfl (cQ_sought hn h8) (Nat.le_of_ble_eq_true rfl) ?_
    refine g_top ec ?_
    refine g_istore_n dQ_seeks_4 (by decide) rfl rfl ?_
    dsimp only [List.set]
    refine g_aload_n dQ_seeks_5 rfl ?_
    refine g_getR2 (k2 := 34) dQ_seeks_6 fQ_9 rfl rfl (by decide) rfl ?_
    refine g_iconst (v := 4) dQ_seeks_9 (by decide) ?_
    refine g_aload_n dQ_seeks_10 rfl ?_
    refine g_getR2 (k2 := 34) dQ_seeks_11 fQ_9 rfl rfl (by decide) rfl ?_
    refine g_iconst (v := 4) dQ_seeks_14 (by decide) ?_
    refine g_mS (j := 1) (i := 4) dQ_seeks_15 rfl (by decide) (by decide) ?_
    refine g_iload_n dQ_seeks_16 rfl ?_
    refine g_if_ge dQ_seeks_17 rfl (fun h17 => ?_) (fun h17 => ?_)
    · exact absurd h17 (by decide)
    · refine g_aload_n dQ_seeks_20 rfl ?_
      refine g_getR2 (k2 := 34) dQ_seeks_21 fQ_9 rfl rfl (by decide) rfl ?_
      refine g_iconst (v := 3) dQ_seeks_24 (by decide) ?_
      refine g_mS (j := 0) (i := 3) dQ_seeks_25 rfl (by decide) (by decide) ?_
      refine g_goto dQ_seeks_26 rfl ?_
      refine g_iconst (v := 2) dQ_seeks_35 (by decide) ?_
      refine gS3 dQ_seeks_36 kQ_seeks_161 cQ_towards (Nat.le_of_ble_eq_true rfl) ?_
      refine g_mP (j := 1) (i := 4) dQ_seeks_39 rfl (by decide) (by decide) ?_
      refine g_w (w1 := mput (se1M (-1) A) w) (by rfl) ?_
      refine g_iload_n dQ_seeks_40 rfl ?_
      refine g_if_lt dQ_seeks_41 rfl (fun h41 => ?_) (fun h41 => ?_)
      · refine g_vret dQ_seeks_67 rfl ?_
        refine ⟨rfl, ?_⟩
        show _ = mput (se2M _ (se1M _ A)) w
        rw [ec]
        rfl
      · exact absurd (by decide) h41
  · refine g_aload_n dQ_seeks_0 rfl ?_
    refine gV0 dQ_seeks_1 kQ_seeks_172 rfl rfl (cQ_sought hn h8) (Nat.le_of_ble_eq_true rfl) ?_
    refine g_top ec ?_
    refine g_istore_n dQ_seeks_4 (by decide) rfl rfl ?_
    dsimp only [List.set]
    refine g_aload_n dQ_seeks_5 rfl ?_
    refine g_getR2 (k2 := 34) dQ_seeks_6 fQ_9 rfl rfl (by decide) rfl ?_
    refine g_iconst (v := 4) dQ_seeks_9 (by decide) ?_
    refine g_aload_n dQ_seeks_10 rfl ?_
    refine g_getR2 (k2 := 34) dQ_seeks_11 fQ_9 rfl rfl (by decide) rfl ?_
    refine g_iconst (v := 4) dQ_seeks_14 (by decide) ?_
    refine g_mS (j := 1) (i := 4) dQ_seeks_15 rfl (by decide) (by decide) ?_
    refine g_iload_n dQ_seeks_16 rfl ?_
    refine g_if_ge dQ_seeks_17 rfl (fun h17 => ?_) (fun h17 => ?_)
    · refine g_aload_n dQ_seeks_29 rfl ?_
      refine g_iload_n dQ_seeks_30 rfl ?_
      refine g_iconst (v := 1) dQ_seeks_31 (by decide) ?_
      refine gV2 dQ_seeks_32 kQ_seeks_108 rfl rfl (cQ_sheepIsC (by omega)) (Nat.le_of_ble_eq_true rfl) ?_
      refine g_iconst (v := 2) dQ_seeks_35 (by decide) ?_
      refine gS3 dQ_seeks_36 kQ_seeks_161 cQ_towards (Nat.le_of_ble_eq_true rfl) ?_
      refine g_mP (j := 1) (i := 4) dQ_seeks_39 rfl (by decide) (by decide) ?_
      refine g_w (w1 := mput (se1M (nI c) A) w) (by rw [se1M, if_neg (nI_pos (show c < 2 ^ 31 by omega)), nI_clamp (show c < 2 ^ 31 by omega)]) ?_
      refine g_iload_n dQ_seeks_40 rfl ?_
      refine g_if_lt dQ_seeks_41 rfl (fun h41 => ?_) (fun h41 => ?_)
      · exact absurd h41 (nI_pos (show c < 2 ^ 31 by omega))
      · refine g_aload_n dQ_seeks_44 rfl ?_
        refine g_getR2 (k2 := 34) dQ_seeks_45 fQ_9 rfl rfl (by decide) rfl ?_
        refine g_iconst (v := 4) dQ_seeks_48 (by decide) ?_
        refine g_mS (j := 1) (i := 4) dQ_seeks_49 rfl (by decide) (by decide) ?_
        refine g_aload_n dQ_seeks_50 rfl ?_
        refine g_iload_n dQ_seeks_51 rfl ?_
        refine g_iconst (v := 1) dQ_seeks_52 (by decide) ?_
        refine gV2 dQ_seeks_53 kQ_seeks_108 rfl rfl (cQ_sheepIsC (by omega)) (Nat.le_of_ble_eq_true rfl) ?_
        refine g_icmp_ne dQ_seeks_56 rfl (fun h56 => ?_) (fun h56 => ?_)
        · refine g_vret dQ_seeks_67 rfl ?_
          refine ⟨rfl, ?_⟩
          show _ = mput (se2M _ (se1M _ A)) w
          rw [ec]
          rw [se2M, nI_clamp (show c < 2 ^ 31 by omega)]
          first | rw [if_neg (fun z => h56 z.2)] | rw [if_pos ⟨nI_pos' (show c < 2 ^ 31 by omega), h56⟩]
        · refine g_aload_n dQ_seeks_59 rfl ?_
          refine g_getR2 (k2 := 34) dQ_seeks_60 fQ_9 rfl rfl (by decide) rfl ?_
          refine g_bipush (v := 7) dQ_seeks_63 (by decide) ?_
          refine g_iload_n dQ_seeks_65 rfl ?_
          refine g_mP (j := 2) (i := 7) dQ_seeks_66 rfl (by decide) (by decide) ?_
          refine g_vret dQ_seeks_67 rfl ?_
          refine ⟨rfl, ?_⟩
          show _ = mput (se2M _ (se1M _ A)) w
          rw [ec]
          rw [se2M, nI_clamp (show c < 2 ^ 31 by omega)]
          first | rw [if_neg (fun z => h56 z.2)] | rw [if_pos ⟨nI_pos' (show c < 2 ^ 31 by omega), h56⟩]
    · exact absurd (nI_pos' (show c < 2 ^ 31 by omega)) h17

set_option maxRecDepth 4000 in
theorem lQ_hour {l : Launch} {g : GG} {w : Wd} {A : HA} {n : Nat} (hn : A.1 6 = nI n) (h8 : n ≤ 8)  : ∀ (m : Nat) (i : Nat), n - i < m → i ≤ n → Go l g Q_hour 31 [some (.ref (g.1 33)), some (.int (nI i))] [] (mput (ttM i A) w) (Is none (mput (enM (ttM n A)) w)) := by
  intro m
  induction m with
  | zero => intro i hm hi; omega
  | succ m ih =>
    intro i hm hi
    refine g_iload_n dQ_hour_31 rfl ?_
    refine g_aload_n dQ_hour_32 rfl ?_
    refine g_getR2 (k2 := 34) dQ_hour_33 fQ_9 rfl rfl (by decide) rfl ?_
    refine g_iconst (v := 1) dQ_hour_36 (by decide) ?_
    refine g_mS (j := 6) (i := 1) dQ_hour_37 rfl (by decide) (by decide) ?_
    refine g_icmp_ge dQ_hour_38 rfl (fun h38 => ?_) (fun h38 => ?_)
    · rw [ttM_S, hn, nI_leI (by omega) (by omega)] at h38
      refine g_aload_n dQ_hour_109 rfl ?_
      refine g_getR2 (k2 := 34) dQ_hour_110 fQ_9 rfl rfl (by decide) rfl ?_
      refine g_iconst (v := 0) dQ_hour_113 (by decide) ?_
      refine g_dup2 dQ_hour_114 rfl rfl ?_
      refine g_mS (j := 5) (i := 0) dQ_hour_115 rfl (by decide) (by decide) ?_
      refine g_iconst (v := 1) dQ_hour_116 (by decide) ?_
      refine g_iadd dQ_hour_117 ?_
      refine g_mP (j := 5) (i := 0) dQ_hour_118 rfl (by decide) (by decide) ?_
      refine g_vret dQ_hour_119 rfl ?_
      exact ⟨rfl, by rw [show i = n by omega]; rfl⟩
    · rw [ttM_S, hn, nI_leI (by omega) (by omega)] at h38
      refine g_aload_n dQ_hour_41 rfl ?_
      refine g_getR2 (k2 := 34) dQ_hour_42 fQ_9 rfl rfl (by decide) rfl ?_
      refine g_iload_n dQ_hour_45 rfl ?_
      refine g_iconst (v := 3) dQ_hour_46 (by decide) ?_
      refine gS2 dQ_hour_47 kQ_hour_83 (cQ_sheepAt (f := 3)) (Nat.le_of_ble_eq_true rfl) ?_
      refine g_aload_n dQ_hour_50 rfl ?_
      refine g_iload_n dQ_hour_51 rfl ?_
      refine gV1 dQ_hour_52 kQ_hour_122 rfl rfl (cQ_far (by omega)) (Nat.le_of_ble_eq_true rfl) ?_
      refine g_if_ne dQ_hour_55 rfl (fun h55 => ?_) (fun h55 => ?_)
      · refine g_sipush (v := 9999) dQ_hour_62 (by decide) ?_
        refine g_aload_n dQ_hour_65 rfl ?_
        refine g_iload_n dQ_hour_66 rfl ?_
        refine g_iconst (v := 3) dQ_hour_67 (by decide) ?_
        refine gV2 dQ_hour_68 kQ_hour_108 rfl rfl (cQ_sheepIsL (by omega)) (Nat.le_of_ble_eq_true rfl) ?_
        refine g_iconst (v := 1) dQ_hour_71 (by decide) ?_
        refine g_iadd dQ_hour_72 ?_
        refine g_min dQ_hour_73 lQ_148 (by decide) (Nat.le_of_ble_eq_true rfl) ?_
        refine g_ms (f := 3) dQ_hour_76 (by decide) (by omega) ?_
        refine g_aload_n dQ_hour_77 rfl ?_
        refine g_getR2 (k2 := 34) dQ_hour_78 fQ_9 rfl rfl (by decide) rfl ?_
        refine g_iload_n dQ_hour_81 rfl ?_
        refine g_iconst (v := 2) dQ_hour_82 (by decide) ?_
        refine gS2 dQ_hour_83 kQ_hour_83 (cQ_sheepAt (f := 2)) (Nat.le_of_ble_eq_true rfl) ?_
        refine g_iconst (v := 0) dQ_hour_86 (by decide) ?_
        refine g_aload_n dQ_hour_87 rfl ?_
        refine g_iload_n dQ_hour_88 rfl ?_
        refine g_iconst (v := 2) dQ_hour_89 (by decide) ?_
        refine gV2 dQ_hour_90 kQ_hour_108 rfl rfl (cQ_sheepIsF (by omega)) (Nat.le_of_ble_eq_true rfl) ?_
        refine g_aload_n dQ_hour_93 rfl ?_
        refine g_iload_n dQ_hour_94 rfl ?_
        refine gV1 dQ_hour_95 kQ_hour_131 rfl rfl (cQ_calms (by omega)) (Nat.le_of_ble_eq_true rfl) ?_
        refine g_isub dQ_hour_98 ?_
        refine g_max dQ_hour_99 lQ_151 (by decide) (Nat.le_of_ble_eq_true rfl) ?_
        refine g_ms (f := 2) dQ_hour_102 (by decide) (by omega) ?_
        refine g_w (w1 := mput (ttM (i + 1) A) w) (by
            show mput _ w = mput (ttSM i (ttM i A)) w
            first | (rw [ttSM, if_pos h55]; rfl) | (rw [ttSM, if_neg h55]; rfl)) ?_
        refine g_iinc (v := nI (i + 1)) dQ_hour_103 rfl (nI_succ i).symm (by decide) rfl rfl ?_
        dsimp only [List.set]
        refine g_goto dQ_hour_106 rfl ?_
        exact ih (i + 1) (by omega) (by omega)
      · refine g_iconst (v := 0) dQ_hour_58 (by decide) ?_
        refine g_goto dQ_hour_59 rfl ?_
        refine g_ms (f := 3) dQ_hour_76 (by decide) (by omega) ?_
        refine g_aload_n dQ_hour_77 rfl ?_
        refine g_getR2 (k2 := 34) dQ_hour_78 fQ_9 rfl rfl (by decide) rfl ?_
        refine g_iload_n dQ_hour_81 rfl ?_
        refine g_iconst (v := 2) dQ_hour_82 (by decide) ?_
        refine gS2 dQ_hour_83 kQ_hour_83 (cQ_sheepAt (f := 2)) (Nat.le_of_ble_eq_true rfl) ?_
        refine g_iconst (v := 0) dQ_hour_86 (by decide) ?_
        refine g_aload_n dQ_hour_87 rfl ?_
        refine g_iload_n dQ_hour_88 rfl ?_
        refine g_iconst (v := 2) dQ_hour_89 (by decide) ?_
        refine gV2 dQ_hour_90 kQ_hour_108 rfl rfl (cQ_sheepIsF (by omega)) (Nat.le_of_ble_eq_true rfl) ?_
        refine g_aload_n dQ_hour_93 rfl ?_
        refine g_iload_n dQ_hour_94 rfl ?_
        refine gV1 dQ_hour_95 kQ_hour_131 rfl rfl (cQ_calms (by omega)) (Nat.le_of_ble_eq_true rfl) ?_
        refine g_isub dQ_hour_98 ?_
        refine g_max dQ_hour_99 lQ_151 (by decide) (Nat.le_of_ble_eq_true rfl) ?_
        refine g_ms (f := 2) dQ_hour_102 (by decide) (by omega) ?_
        refine g_w (w1 := mput (ttM (i + 1) A) w) (by
            show mput _ w = mput (ttSM i (ttM i A)) w
            first | (rw [ttSM, if_pos h55]; rfl) | (rw [ttSM, if_neg h55]; rfl)) ?_
        refine g_iinc (v := nI (i + 1)) dQ_hour_103 rfl (nI_succ i).symm (by decide) rfl rfl ?_
        dsimp only [List.set]
        refine g_goto dQ_hour_106 rfl ?_
        exact ih (i + 1) (by omega) (by omega)

set_option maxRecDepth 4000 in
theorem cQ_hour {l : Launch} {g : GG} {w : Wd} {A : HA} {n : Nat} (hn : A.1 6 = nI n) (h8 : n ≤ 8) (hc : carM n A) : Res l g Q_hour [.ref (g.1 33)] (mput A w) (Is none (mput (hourM (w 33 5) n A) w)) := by
  refine Res.of (by decide) (by simp [Value.category]) (Nat.le_of_ble_eq_true rfl) rfl ?_
  show Go l g Q_hour 0 [some (.ref (g.1 33)), none] [] (mput A w) _
  refine g_aload_n dQ_hour_0 rfl ?_
  refine gV0v dQ_hour_1 kQ_hour_175 rfl rfl (cQ_sheepGo hn h8) (Nat.le_of_ble_eq_true rfl) ?_
  refine g_aload_n dQ_hour_4 rfl ?_
  refine gV0v dQ_hour_5 kQ_hour_178 rfl rfl (cQ_wolfGoes (n := n) (by rw [stM_S]; exact hn) h8) (Nat.le_of_ble_eq_true rfl) ?_
  refine g_aload_n dQ_hour_8 rfl ?_
  refine g_getR2 (k2 := 34) dQ_hour_9 fQ_9 rfl rfl (by decide) rfl ?_
  refine g_bipush (v := 7) dQ_hour_12 (by decide) ?_
  refine g_mS (j := 2) (i := 7) dQ_hour_14 rfl (by decide) (by decide) ?_
  refine g_if_lt dQ_hour_15 rfl (fun h15 => ?_) (fun h15 => ?_)
  · refine g_aload_n dQ_hour_25 rfl ?_
    refine gV0v dQ_hour_26 kQ_hour_184 rfl rfl (cQ_seeks (n := n) (by rw [prM_6, stM_S]; exact hn) h8) (Nat.le_of_ble_eq_true rfl) ?_
    refine g_iconst (v := 0) dQ_hour_29 (by decide) ?_
    refine g_istore_n dQ_hour_30 (by decide) rfl rfl ?_
    dsimp only [List.set]
    refine g_w (w1 := mput (ttM 0 (teM n (prM n (stM (w 33 5) n n A)))) w) (by
        show mput _ w = mput (teM n (prM n (stM (w 33 5) n n A))) w
        first | rw [teM, if_pos h15] | rw [teM, if_neg h15]) ?_
    exact lQ_hour (n := n) (by rw [teM_6, prM_6, stM_S]; exact hn) h8 (n + 1) 0 (by omega) (by omega)
  · have hc2 : carM n (prM n (stM (w 33 5) n n A)) := carM_up hc (by rw [prM_2, stM_S])
    obtain ⟨c, hcn, ec⟩ := hc2.resolve_left h15
    refine g_aload_n dQ_hour_18 rfl ?_
    refine gV0v dQ_hour_19 kQ_hour_181 rfl rfl (cQ_carries (n := n) (by rw [prM_6, stM_S]; exact hn) h8 hcn ec) (Nat.le_of_ble_eq_true rfl) ?_
    refine g_goto dQ_hour_22 rfl ?_
    refine g_iconst (v := 0) dQ_hour_29 (by decide) ?_
    refine g_istore_n dQ_hour_30 (by decide) rfl rfl ?_
    dsimp only [List.set]
    refine g_w (w1 := mput (ttM 0 (teM n (prM n (stM (w 33 5) n n A)))) w) (by
        show mput _ w = mput (teM n (prM n (stM (w 33 5) n n A))) w
        first | rw [teM, if_pos h15] | rw [teM, if_neg h15]) ?_
    exact lQ_hour (n := n) (by rw [teM_6, prM_6, stM_S]; exact hn) h8 (n + 1) 0 (by omega) (by omega)

set_option maxRecDepth 4000 in
theorem lQ_hoursGo {l : Launch} {g : GG} {w : Wd} {A : HA} {n : Nat} (hn : A.1 6 = nI n) (h8 : n ≤ 8) (hc : carM n A) {k : Nat} (hk : k < 2 ^ 31) : ∀ (m : Nat) (i : Nat), k - i < m → i ≤ k → Go l g Q_hoursGo 2 [some (.ref (g.1 33)), some (.int (nI k)), some (.int (nI i))] [] (mput (hoursM (w 33 5) n i A) w) (Is none (mput (hoursM (w 33 5) n k A) w)) := by
  intro m
  induction m with
  | zero => intro i hm hi; omega
  | succ m ih =>
    intro i hm hi
    refine g_iload_n dQ_hoursGo_2 rfl ?_
    refine g_iload_n dQ_hoursGo_3 rfl ?_
    refine g_icmp_ge dQ_hoursGo_4 rfl (fun h4 => ?_) (fun h4 => ?_)
    · rw [nI_leI (by omega) (by omega)] at h4
      refine g_vret dQ_hoursGo_17 rfl ?_
      exact ⟨rfl, by rw [show i = k by omega]⟩
    · rw [nI_leI (by omega) (by omega)] at h4
      refine g_aload_n dQ_hoursGo_7 rfl ?_
      refine gV0v dQ_hoursGo_8 kQ_hoursGo_187 rfl rfl (cQ_hour (n := n) (by rw [hoursM_6]; exact hn) h8 (carM_hours hc i)) (Nat.le_of_ble_eq_true rfl) ?_
      refine g_iinc (v := nI (i + 1)) dQ_hoursGo_11 rfl (nI_succ i).symm (by decide) rfl rfl ?_
      dsimp only [List.set]
      refine g_goto dQ_hoursGo_14 rfl ?_
      exact ih (i + 1) (by omega) (by omega)

set_option maxRecDepth 4000 in
theorem cQ_hoursGo {l : Launch} {g : GG} {w : Wd} {A : HA} {n : Nat} (hn : A.1 6 = nI n) (h8 : n ≤ 8) (hc : carM n A) {k : Nat} (hk : k < 2 ^ 31) : Res l g Q_hoursGo [.ref (g.1 33), .int (nI k)] (mput A w) (Is (none) (mput (hoursM (w 33 5) n k A) w)) := by
  refine Res.of (by decide) (by simp [Value.category]) (Nat.le_of_ble_eq_true rfl) rfl ?_
  show Go l g Q_hoursGo 0 [some (.ref (g.1 33)), some (.int (nI k)), none] [] (mput A w) _
  refine g_iconst (v := 0) dQ_hoursGo_0 (by decide) ?_
  refine g_istore_n dQ_hoursGo_1 (by decide) rfl rfl ?_
  dsimp only [List.set]
  exact lQ_hoursGo hn h8 hc hk (k + 1) 0 (by omega) (by omega)

set_option maxRecDepth 4000 in
theorem cQ_finding {l : Launch} {g : GG} {w : Wd} {q : Nat} (hq : q < 7) : Res l g Q_finding [.ref (g.1 33), .int (-1000001 - nI q)] w (Is (some (.int (-1000001 - nI q))) (qf q w)) := by
  refine Res.of (by decide) (by simp [Value.category]) (Nat.le_of_ble_eq_true rfl) rfl ?_
  show Go l g Q_finding 0 [some (.ref (g.1 33)), some (.int (-1000001 - nI q))] [] w _
  refine g_aload_n dQ_finding_0 rfl ?_
  refine g_getR2 (k2 := 37) dQ_finding_1 fQ_19 rfl rfl (by decide) rfl ?_
  refine g_ldc dQ_finding_4 fQ_69 ?_
  refine g_iload_n dQ_finding_6 rfl ?_
  refine g_isub dQ_finding_7 ?_
  refine g_iconst (v := 1) dQ_finding_8 (by decide) ?_
  refine g_iadd dQ_finding_9 ?_
  refine g_top (find_ix q) ?_
  refine g_dup2 dQ_finding_10 rfl rfl ?_
  refine g_ialdN dQ_finding_11 rfl (by omega) (by decide) ?_
  refine g_iconst (v := 1) dQ_finding_12 (by decide) ?_
  refine g_iadd dQ_finding_13 ?_
  refine g_iastN dQ_finding_14 rfl (by omega) (by decide) ?_
  refine g_aload_n dQ_finding_15 rfl ?_
  refine g_getR2 (k2 := 37) dQ_finding_16 fQ_19 rfl rfl (by decide) rfl ?_
  refine g_iconst (v := 0) dQ_finding_19 (by decide) ?_
  refine g_dup2 dQ_finding_20 rfl rfl ?_
  refine g_ialdN (i := 0) dQ_finding_21 rfl (by decide) (by decide) ?_
  refine g_iconst (v := 1) dQ_finding_22 (by decide) ?_
  refine g_iadd dQ_finding_23 ?_
  refine g_iastN (i := 0) dQ_finding_24 rfl (by decide) (by decide) ?_
  refine g_iload_n dQ_finding_25 rfl ?_
  refine g_iret dQ_finding_26 rfl rfl ?_
  exact ⟨rfl, rfl⟩

set_option maxRecDepth 4000 in
theorem cQ_orNone {l : Launch} {g : GG} {w : Wd} {v : Int32} : Res l g Q_orNone [.ref (g.1 33), .int v] w (Is (some (.int (if v < 0 then -1000004 else v))) (if v < 0 then qf 3 w else w)) := by
  refine Res.of (by decide) (by simp [Value.category]) (Nat.le_of_ble_eq_true rfl) rfl ?_
  show Go l g Q_orNone 0 [some (.ref (g.1 33)), some (.int v)] [] w _
  refine g_iload_n dQ_orNone_0 rfl ?_
  refine g_if_ge dQ_orNone_1 rfl (fun h1 => ?_) (fun h1 => ?_)
  · refine g_iload_n dQ_orNone_13 rfl ?_
    refine g_iret dQ_orNone_14 rfl rfl ?_
    exact ⟨by first | rw [if_neg (Int32.not_lt.mpr h1)] | (rw [if_pos (Int32.not_le.mp h1)]; rfl), by first | rw [if_neg (Int32.not_lt.mpr h1)] | rw [if_pos (Int32.not_le.mp h1)]⟩
  · refine g_aload_n dQ_orNone_4 rfl ?_
    refine g_ldc dQ_orNone_5 fQ_74 ?_
    refine gV1 dQ_orNone_7 kQ_orNone_75 rfl rfl (cQ_finding (q := 3) (by decide)) (Nat.le_of_ble_eq_true rfl) ?_
    refine g_goto dQ_orNone_10 rfl ?_
    refine g_iret dQ_orNone_14 rfl rfl ?_
    exact ⟨by first | rw [if_neg (Int32.not_lt.mpr h1)] | (rw [if_pos (Int32.not_le.mp h1)]; rfl), by first | rw [if_neg (Int32.not_lt.mpr h1)] | rw [if_pos (Int32.not_le.mp h1)]⟩

set_option maxRecDepth 4000 in
theorem lQ_copyRow {l : Launch} {g : GG} {w : Wd} {a b : Nat} (ha : arrN a = some 58) (hb : arrN b = some 58) (hab : a ≠ b) : ∀ (m : Nat) (i : Nat), 58 - i < m → i ≤ 58 → Go l g Q_copyRow 2 [some (.ref (g.1 a)), some (.ref (g.1 b)), some (.int (nI i))] [] (upR w b (va_cpy (w a) (w b) 0 0 i)) (Is none (upR w b (w a))) := by
  intro m
  induction m with
  | zero => intro i hm hi; omega
  | succ m ih =>
    intro i hm hi
    refine g_iload_n dQ_copyRow_2 rfl ?_
    refine g_bipush (v := 58) dQ_copyRow_3 (by decide) ?_
    refine g_icmp_ge dQ_copyRow_5 rfl (fun h5 => ?_) (fun h5 => ?_)
    · rw [show (58 : Int32) = nI 58 from rfl, nI_leI (by omega) (by omega)] at h5
      have e58 : i = 58 := by omega
      subst e58
      refine g_agree (w1 := upR w b (w a)) (fun k j hv => by
          by_cases hk : k = b
          · subst hk
            rw [upR_same, upR_same, pk_cpy_in (Nat.zero_le _) (by have := vis_arr hb hv; omega)]
            simp
          · rw [upR_other _ _ _ hk, upR_other _ _ _ hk]) ?_
      refine g_vret dQ_copyRow_20 rfl ?_
      exact ⟨rfl, rfl⟩
    · rw [show (58 : Int32) = nI 58 from rfl, nI_leI (by omega) (by omega)] at h5
      refine g_aload_n dQ_copyRow_8 rfl ?_
      refine g_iload_n dQ_copyRow_9 rfl ?_
      refine g_aload_n dQ_copyRow_10 rfl ?_
      refine g_iload_n dQ_copyRow_11 rfl ?_
      refine g_ialdN dQ_copyRow_12 ha (by omega) (by decide) ?_
      rw [upR_other _ _ _ hab]
      refine g_iastN dQ_copyRow_13 hb (by omega) (by decide) ?_
      rw [cpy_step]
      refine g_iinc (v := nI (i + 1)) dQ_copyRow_14 rfl (nI_succ i).symm (by decide) rfl rfl ?_
      dsimp only [List.set]
      refine g_goto dQ_copyRow_17 rfl ?_
      exact ih (i + 1) (by omega) (by omega)

set_option maxRecDepth 4000 in
theorem cQ_copyRow {l : Launch} {g : GG} {w : Wd} {a b : Nat} (ha : arrN a = some 58) (hb : arrN b = some 58) (hab : a ≠ b) : Res l g Q_copyRow [.ref (g.1 a), .ref (g.1 b)] w (Is none (upR w b (w a))) := by
  refine Res.of (by decide) (by simp [Value.category]) (Nat.le_of_ble_eq_true rfl) rfl ?_
  show Go l g Q_copyRow 0 [some (.ref (g.1 a)), some (.ref (g.1 b)), none] [] w _
  refine g_iconst (v := 0) dQ_copyRow_0 (by decide) ?_
  refine g_istore_n dQ_copyRow_1 (by decide) rfl rfl ?_
  dsimp only [List.set]
  refine g_w (cpy_0 (a := a) (b := b)).symm ?_
  exact lQ_copyRow ha hb hab 59 0 (by omega) (by omega)

set_option maxRecDepth 4000 in
theorem cQ_putBack {l : Launch} {g : GG} {w : Wd} {v : Int32} : Res l g Q_putBack [.ref (g.1 33), .int v] w (Is (some (.int v)) (upR w 34 (w 36))) := by
  refine Res.of (by decide) (by simp [Value.category]) (Nat.le_of_ble_eq_true rfl) rfl ?_
  show Go l g Q_putBack 0 [some (.ref (g.1 33)), some (.int v)] [] w _
  refine g_aload_n dQ_putBack_0 rfl ?_
  refine g_getR2 (k2 := 36) dQ_putBack_1 fQ_16 rfl rfl (by decide) rfl ?_
  refine g_aload_n dQ_putBack_4 rfl ?_
  refine g_getR2 (k2 := 34) dQ_putBack_5 fQ_9 rfl rfl (by decide) rfl ?_
  refine gS2v dQ_putBack_8 kQ_putBack_70 (cQ_copyRow (a := 36) (b := 34) rfl rfl (by decide)) (Nat.le_of_ble_eq_true rfl) ?_
  refine g_iload_n dQ_putBack_11 rfl ?_
  refine g_iret dQ_putBack_12 rfl rfl ?_
  exact ⟨rfl, rfl⟩
