theorem in15n {v : Nat} (h : v < 16) : 0 ≤ nI v ∧ nI v ≤ 15 := ⟨nI_pos' (by omega), (nI_leI (b := 15) (by omega) (by decide)).mpr (by omega)⟩
theorem in6n {v : Nat} (h : v < 7) : 0 ≤ nI v ∧ nI v ≤ 6 := ⟨nI_pos' (by omega), (nI_leI (b := 6) (by omega) (by decide)).mpr (by omega)⟩
theorem in5n {v : Nat} (h : v < 6) : 0 ≤ nI v ∧ nI v ≤ 5 := ⟨nI_pos' (by omega), (nI_leI (b := 5) (by omega) (by decide)).mpr (by omega)⟩
theorem paceF_is (V : Nat → Int32) (lim : Int32) : ∀ m, paceF V lim m = -1 ∨ ∃ c, c < m ∧ paceF V lim m = nI c
  | 0 => Or.inl rfl
  | m + 1 => by
    unfold paceF
    split
    · exact Or.inr ⟨m, by omega, rfl⟩
    · rcases paceF_is V lim m with h | ⟨c, hc, h⟩
      · exact Or.inl h
      · exact Or.inr ⟨c, by omega, h⟩
theorem mk_neg {n b : Nat} {A : HA} (hI : IVA n b A) (h : A.1 2 < 0) (v : Int32) : mkF v A = sS A 1 v := by
  unfold mkF
  rw [if_neg (fun z => absurd h (Int32.not_lt.mpr z.1))]
theorem ca_neg {n b : Nat} {A : HA} (hI : IVA n b A) : A.1 2 < 0 ↔ A.1 2 = -1 := by
  have h8 := hI.n8
  rcases hI.ca with e | ⟨c, hc, e⟩
  · rw [e]; exact ⟨fun _ => rfl, fun _ => by decide⟩
  · rw [e]; exact ⟨fun z => absurd z (nI_pos (by omega)), fun z => absurd z (nIne (by omega))⟩
set_option maxRecDepth 4000 in
theorem lQ_leastFor {l : Launch} {g : GG} {w : Wd} {A : HA} {n b : Nat} (hw : w 33 5 = 0) {j i : Nat} (hi : msc j = i) (hj : j < 7) (hi2 : i < 58) {f : Nat} (hf : f < 5) {k : Nat} (hb : b + k ≤ 99999) (hs : ∀ v, v < 16 → IVA n b (sS A j (nI v))) {V : Nat → Int32} (hV : ∀ v, v < 16 → sumF (fld (hoursF 0 n k (sS A j (nI v))) f) n = V v) : ∀ (m : Nat) (v : Nat) (x : Int32) (r : Nat → Int32), (16 - v < m) → (v ≤ 16) → Go l g Q_leastFor 17 [some (.ref (g.1 33)), some (.int (nI i)), some (.int (nI f)), some (.int (nI k)), some (.int (A.1 j)), some (.int (mnM V v).1), some (.int (mnM V v).2), some (.int (nI v)), none] [] (mput (sS A j x) (ax r w)) (IsA (mnM V 16).1 A w) := by
  intro m
  induction m with
  | zero => intro v x r hm hv; omega
  | succ m ih =>
    intro v x r hm hv
    refine g_iload dQ_leastFor_17 rfl ?_
    refine g_bipush (v := 16) dQ_leastFor_19 (by decide) ?_
    refine g_icmp_ge dQ_leastFor_21 rfl (fun h21 => ?_) (fun h21 => ?_)
    · rw [show (16 : Int32) = nI 16 from rfl, nI_leI (by omega) (by omega)] at h21
      obtain rfl : v = 16 := by omega
      refine g_aload_n dQ_leastFor_86 rfl ?_
      refine g_getR2 (k2 := 34) dQ_leastFor_87 fQ_9 rfl rfl (by decide) rfl ?_
      refine g_iload_n dQ_leastFor_90 rfl ?_
      refine g_iload dQ_leastFor_91 rfl ?_
      refine g_mP (j := j) (i := i) dQ_leastFor_93 hi hj hi2 ?_
      rw [sS_sS, sS_id]
      refine g_iload dQ_leastFor_94 rfl ?_
      refine g_iret dQ_leastFor_96 rfl rfl ?_
      exact ⟨rfl, _, rfl⟩
    · rw [show (16 : Int32) = nI 16 from rfl, nI_leI (by omega) (by omega)] at h21
      refine g_aload_n dQ_leastFor_24 rfl ?_
      refine g_getR2 (k2 := 34) dQ_leastFor_25 fQ_9 rfl rfl (by decide) rfl ?_
      refine g_iload_n dQ_leastFor_28 rfl ?_
      refine g_iload dQ_leastFor_29 rfl ?_
      refine g_mP (j := j) (i := i) dQ_leastFor_31 hi hj hi2 ?_
      rw [sS_sS]
      refine g_aload_n dQ_leastFor_32 rfl ?_
      refine g_iload_n dQ_leastFor_33 rfl ?_
      refine g_iload_n dQ_leastFor_34 rfl ?_
      refine gV2q dQ_leastFor_35 kQ_leastFor_216 rfl rfl (cQ_sumBehind (hs v (by omega)) hw hf hb) (Nat.le_of_ble_eq_true rfl) (fun r1 w1 q1 => ?_)
      obtain ⟨rfl, r2, rfl⟩ := q1
      dsimp only [Option.toList, List.cons_append, List.nil_append]
      refine g_top (y := V v) (hV v (by omega)) ?_
      refine g_istore dQ_leastFor_38 (by decide) rfl rfl ?_
      dsimp only [List.set]
      refine g_iload dQ_leastFor_40 rfl ?_
      refine g_if_lt dQ_leastFor_42 rfl (fun h42 => ?_) (fun h42 => ?_)
      · refine g_iload dQ_leastFor_52 rfl ?_
        refine g_goto dQ_leastFor_54 rfl ?_
        refine g_istore dQ_leastFor_59 (by decide) rfl rfl ?_
        dsimp only [List.set]
        refine g_iload dQ_leastFor_61 rfl ?_
        refine g_if_ge dQ_leastFor_63 rfl (fun h63 => ?_) (fun h63 => ?_)
        · refine g_iload dQ_leastFor_71 rfl ?_
          refine g_iload dQ_leastFor_73 rfl ?_
          refine g_min dQ_leastFor_75 lQ_148 (by decide) (Nat.le_of_ble_eq_true rfl) ?_
          refine g_istore dQ_leastFor_78 (by decide) rfl rfl ?_
          dsimp only [List.set]
          refine g_iinc (v := nI (v + 1)) dQ_leastFor_80 rfl (nI_succ v).symm (by decide) rfl rfl ?_
          dsimp only [List.set]
          refine g_goto dQ_leastFor_83 rfl ?_
          refine g_drop 8 rfl ?_
          dsimp only [List.set]
          refine g_lv (lv1 := [some (.ref (g.1 33)), some (.int (nI i)), some (.int (nI f)), some (.int (nI k)), some (.int (A.1 j)), some (.int (mnM V (v + 1)).1), some (.int (mnM V (v + 1)).2), some (.int (nI (v + 1))), none]) (by rw [mnM]; grind) ?_
          exact ih (v + 1) _ _ (by omega) (by omega)
        · refine g_iload dQ_leastFor_66 rfl ?_
          refine g_goto dQ_leastFor_68 rfl ?_
          refine g_istore dQ_leastFor_78 (by decide) rfl rfl ?_
          dsimp only [List.set]
          refine g_iinc (v := nI (v + 1)) dQ_leastFor_80 rfl (nI_succ v).symm (by decide) rfl rfl ?_
          dsimp only [List.set]
          refine g_goto dQ_leastFor_83 rfl ?_
          refine g_drop 8 rfl ?_
          dsimp only [List.set]
          refine g_lv (lv1 := [some (.ref (g.1 33)), some (.int (nI i)), some (.int (nI f)), some (.int (nI k)), some (.int (A.1 j)), some (.int (mnM V (v + 1)).1), some (.int (mnM V (v + 1)).2), some (.int (nI (v + 1))), none]) (by rw [mnM]; grind) ?_
          exact ih (v + 1) _ _ (by omega) (by omega)
      · refine g_iload dQ_leastFor_45 rfl ?_
        refine g_iload dQ_leastFor_47 rfl ?_
        refine g_icmp_ge dQ_leastFor_49 rfl (fun h49 => ?_) (fun h49 => ?_)
        · refine g_iload dQ_leastFor_57 rfl ?_
          refine g_istore dQ_leastFor_59 (by decide) rfl rfl ?_
          dsimp only [List.set]
          refine g_iload dQ_leastFor_61 rfl ?_
          refine g_if_ge dQ_leastFor_63 rfl (fun h63 => ?_) (fun h63 => ?_)
          · refine g_iload dQ_leastFor_71 rfl ?_
            refine g_iload dQ_leastFor_73 rfl ?_
            refine g_min dQ_leastFor_75 lQ_148 (by decide) (Nat.le_of_ble_eq_true rfl) ?_
            refine g_istore dQ_leastFor_78 (by decide) rfl rfl ?_
            dsimp only [List.set]
            refine g_iinc (v := nI (v + 1)) dQ_leastFor_80 rfl (nI_succ v).symm (by decide) rfl rfl ?_
            dsimp only [List.set]
            refine g_goto dQ_leastFor_83 rfl ?_
            refine g_drop 8 rfl ?_
            dsimp only [List.set]
            refine g_lv (lv1 := [some (.ref (g.1 33)), some (.int (nI i)), some (.int (nI f)), some (.int (nI k)), some (.int (A.1 j)), some (.int (mnM V (v + 1)).1), some (.int (mnM V (v + 1)).2), some (.int (nI (v + 1))), none]) (by rw [mnM]; grind) ?_
            exact ih (v + 1) _ _ (by omega) (by omega)
          · refine g_iload dQ_leastFor_66 rfl ?_
            refine g_goto dQ_leastFor_68 rfl ?_
            refine g_istore dQ_leastFor_78 (by decide) rfl rfl ?_
            dsimp only [List.set]
            refine g_iinc (v := nI (v + 1)) dQ_leastFor_80 rfl (nI_succ v).symm (by decide) rfl rfl ?_
            dsimp only [List.set]
            refine g_goto dQ_leastFor_83 rfl ?_
            refine g_drop 8 rfl ?_
            dsimp only [List.set]
            refine g_lv (lv1 := [some (.ref (g.1 33)), some (.int (nI i)), some (.int (nI f)), some (.int (nI k)), some (.int (A.1 j)), some (.int (mnM V (v + 1)).1), some (.int (mnM V (v + 1)).2), some (.int (nI (v + 1))), none]) (by rw [mnM]; grind) ?_
            exact ih (v + 1) _ _ (by omega) (by omega)
        · refine g_iload dQ_leastFor_52 rfl ?_
          refine g_goto dQ_leastFor_54 rfl ?_
          refine g_istore dQ_leastFor_59 (by decide) rfl rfl ?_
          dsimp only [List.set]
          refine g_iload dQ_leastFor_61 rfl ?_
          refine g_if_ge dQ_leastFor_63 rfl (fun h63 => ?_) (fun h63 => ?_)
          · refine g_iload dQ_leastFor_71 rfl ?_
            refine g_iload dQ_leastFor_73 rfl ?_
            refine g_min dQ_leastFor_75 lQ_148 (by decide) (Nat.le_of_ble_eq_true rfl) ?_
            refine g_istore dQ_leastFor_78 (by decide) rfl rfl ?_
            dsimp only [List.set]
            refine g_iinc (v := nI (v + 1)) dQ_leastFor_80 rfl (nI_succ v).symm (by decide) rfl rfl ?_
            dsimp only [List.set]
            refine g_goto dQ_leastFor_83 rfl ?_
            refine g_drop 8 rfl ?_
            dsimp only [List.set]
            refine g_lv (lv1 := [some (.ref (g.1 33)), some (.int (nI i)), some (.int (nI f)), some (.int (nI k)), some (.int (A.1 j)), some (.int (mnM V (v + 1)).1), some (.int (mnM V (v + 1)).2), some (.int (nI (v + 1))), none]) (by rw [mnM]; grind) ?_
            exact ih (v + 1) _ _ (by omega) (by omega)
          · refine g_iload dQ_leastFor_66 rfl ?_
            refine g_goto dQ_leastFor_68 rfl ?_
            refine g_istore dQ_leastFor_78 (by decide) rfl rfl ?_
            dsimp only [List.set]
            refine g_iinc (v := nI (v + 1)) dQ_leastFor_80 rfl (nI_succ v).symm (by decide) rfl rfl ?_
            dsimp only [List.set]
            refine g_goto dQ_leastFor_83 rfl ?_
            refine g_drop 8 rfl ?_
            dsimp only [List.set]
            refine g_lv (lv1 := [some (.ref (g.1 33)), some (.int (nI i)), some (.int (nI f)), some (.int (nI k)), some (.int (A.1 j)), some (.int (mnM V (v + 1)).1), some (.int (mnM V (v + 1)).2), some (.int (nI (v + 1))), none]) (by rw [mnM]; grind) ?_
            exact ih (v + 1) _ _ (by omega) (by omega)

set_option maxRecDepth 4000 in
theorem cQ_leastFor {l : Launch} {g : GG} {w : Wd} {A : HA} {n b : Nat} (hw : w 33 5 = 0) {j i : Nat} (hi : msc j = i) (hj : j < 7) (hi2 : i < 58) {f : Nat} (hf : f < 5) {k : Nat} (hb : b + k ≤ 99999) (hs : ∀ v, v < 16 → IVA n b (sS A j (nI v))) {V : Nat → Int32} (hV : ∀ v, v < 16 → sumF (fld (hoursF 0 n k (sS A j (nI v))) f) n = V v) (hp : ∀ v, v < 16 → 0 ≤ V v ∧ V v < 79993) {r0 : Nat → Int32} : Res l g Q_leastFor [.ref (g.1 33), .int (nI i), .int (nI f), .int (nI k)] (mput A (ax r0 w)) (IsA (minF V 16).1 A w) := by
  refine Res.of (by decide) (by simp [Value.category]) (Nat.le_of_ble_eq_true rfl) rfl ?_
  show Go l g Q_leastFor 0 [some (.ref (g.1 33)), some (.int (nI i)), some (.int (nI f)), some (.int (nI k)), none, none, none, none, none] [] (mput A (ax r0 w)) _
  refine g_aload_n dQ_leastFor_0 rfl ?_
  refine g_getR2 (k2 := 34) dQ_leastFor_1 fQ_9 rfl rfl (by decide) rfl ?_
  refine g_iload_n dQ_leastFor_4 rfl ?_
  refine g_mS (j := j) (i := i) dQ_leastFor_5 hi hj hi2 ?_
  refine g_istore dQ_leastFor_6 (by decide) rfl rfl ?_
  dsimp only [List.set]
  refine g_iconst (v := 0) dQ_leastFor_8 (by decide) ?_
  refine g_istore dQ_leastFor_9 (by decide) rfl rfl ?_
  dsimp only [List.set]
  refine g_iconst (v := (-1)) dQ_leastFor_11 (by decide) ?_
  refine g_istore dQ_leastFor_12 (by decide) rfl rfl ?_
  dsimp only [List.set]
  refine g_iconst (v := 0) dQ_leastFor_14 (by decide) ?_
  refine g_istore dQ_leastFor_15 (by decide) rfl rfl ?_
  dsimp only [List.set]
  refine g_w (w1 := mput (sS A j (A.1 j)) (ax r0 w)) (by rw [sS_id]) ?_
  rw [← (mn_min (V := V) 15 (fun v hv => hp v (by omega))).1]
  exact lQ_leastFor hw hi hj hi2 hf hb hs hV 17 0 _ _ (by omega) (by omega)

set_option maxRecDepth 4000 in
theorem cQ_standFor {l : Launch} {g : GG} {S w : Wd} {A : HA} {n b : Nat} (hA : hget S 1 = A) (hR : RM S w) (hI : IVA n b A) {k : Int32} (hb : b + 40 ≤ 99999) : Res l g Q_standFor [.ref (g.1 33), .int k] (mput A w) (IsQ (standC n k S) w) := by
  have h8 := hI.n8
  refine Res.of (by decide) (by simp [Value.category]) (Nat.le_of_ble_eq_true rfl) rfl ?_
  show Go l g Q_standFor 0 [some (.ref (g.1 33)), some (.int k)] [] (mput A w) _
  refine g_iload_n dQ_standFor_0 rfl ?_
  refine gS1 dQ_standFor_1 kQ_standFor_219 cQ_isThought (Nat.le_of_ble_eq_true rfl) ?_
  refine g_if_ne dQ_standFor_4 rfl (fun h4 => ?_) (fun h4 => ?_)
  · have h4 := Classical.not_not.mp (fun z => h4 (bI_0.mpr z))
    have h4b := h4
    obtain ⟨kz, hkz, ekz⟩ := nI_of2 (x := k) (M := 40) (n := 40) rfl (Int32.not_lt.mpr h4.1) h4.2
    subst ekz
    refine g_aload_n dQ_standFor_14 rfl ?_
    refine g_getR2 (k2 := 34) dQ_standFor_15 fQ_9 rfl rfl (by decide) rfl ?_
    refine g_bipush (v := 7) dQ_standFor_18 (by decide) ?_
    refine g_mS (j := 2) (i := 7) dQ_standFor_20 rfl (by decide) (by decide) ?_
    refine g_if_lt dQ_standFor_21 rfl (fun h21 => ?_) (fun h21 => ?_)
    · have hca := (ca_neg hI).mp h21
      have hss : ∀ v, v < 16 → IVA n b (sS A 1 (nI v)) := fun v hv => hI.s1 (in15n hv)
      have hVV : ∀ v, v < 16 → sumF (fld (hoursF 0 n kz (sS A 1 (nI v))) 2) n = standV n kz A v := fun v hv => by unfold standV; rw [mk_neg hI h21]; rfl
      have hpp : ∀ v, v < 16 → 0 ≤ standV n kz A v ∧ standV n kz A v < 79993 := fun v hv => by rw [← hVV v hv]; exact sum_01 (hours_IV (hss v hv) kz (by omega)) 2
      refine g_aload_n dQ_standFor_33 rfl ?_
      refine g_iconst (v := 4) dQ_standFor_34 (by decide) ?_
      refine g_iconst (v := 2) dQ_standFor_35 (by decide) ?_
      refine g_iload_n dQ_standFor_36 rfl ?_
      refine g_w (w1 := mput A (ax (w 36) w)) (by rw [ax_self]) ?_
      refine gV3q dQ_standFor_37 kQ_standFor_222 rfl rfl (cQ_leastFor hR.te (j := 1) (i := 4) rfl (by decide) (by decide) (f := 2) (by decide) (k := kz) (b := b) (by omega) hss hVV hpp) (Nat.le_of_ble_eq_true rfl) (fun r1 w1 q1 => ?_)
      obtain ⟨rfl, r2, rfl⟩ := q1
      dsimp only [Option.toList, List.cons_append, List.nil_append]
      refine g_iret dQ_standFor_40 rfl rfl ?_
      first
        | exact IsQ_R36 hA hR (by simp only [standC, hA, gA1 hA, gA2 hA, gA3 hA, gA4 hA, gA5 hA, gA6 hA]; rw [if_pos h4b, if_pos hca, nI_clamp (by omega)])
        | exact IsQ_F hA hR (by decide) (by simp only [standC, hA, gA1 hA, gA2 hA, gA3 hA, gA4 hA, gA5 hA, gA6 hA]; rw [if_pos h4b, if_neg hca])
    · have hca := fun z => h21 ((ca_neg hI).mpr z)
      refine g_aload_n dQ_standFor_24 rfl ?_
      refine g_ldc dQ_standFor_25 fQ_141 ?_
      refine gV1 dQ_standFor_27 kQ_standFor_75 rfl rfl (cQ_finding (q := 4) (by decide)) (Nat.le_of_ble_eq_true rfl) ?_
      refine g_goto dQ_standFor_30 rfl ?_
      refine g_iret dQ_standFor_40 rfl rfl ?_
      first
        | exact IsQ_R36 hA hR (by simp only [standC, hA, gA1 hA, gA2 hA, gA3 hA, gA4 hA, gA5 hA, gA6 hA]; rw [if_pos h4b, if_pos hca, nI_clamp (by omega)])
        | exact IsQ_F hA hR (by decide) (by simp only [standC, hA, gA1 hA, gA2 hA, gA3 hA, gA4 hA, gA5 hA, gA6 hA]; rw [if_pos h4b, if_neg hca])
  · have h4 := bI_0.mp h4
    refine g_aload_n dQ_standFor_7 rfl ?_
    refine g_ldc dQ_standFor_8 fQ_69 ?_
    refine gV1 dQ_standFor_10 kQ_standFor_75 rfl rfl (cQ_finding (q := 0) (by decide)) (Nat.le_of_ble_eq_true rfl) ?_
    refine g_iret dQ_standFor_13 rfl rfl ?_
    exact IsQ_F hA hR (by decide) (by rw [standC, if_neg h4])

set_option maxRecDepth 4000 in
theorem cQ_foldFor {l : Launch} {g : GG} {S w : Wd} {A : HA} {n b : Nat} (hA : hget S 1 = A) (hR : RM S w) (hI : IVA n b A) {k : Int32} (hb : b + 40 ≤ 99999) : Res l g Q_foldFor [.ref (g.1 33), .int k] (mput A w) (IsQ (foldC n k S) w) := by
  have h8 := hI.n8
  refine Res.of (by decide) (by simp [Value.category]) (Nat.le_of_ble_eq_true rfl) rfl ?_
  show Go l g Q_foldFor 0 [some (.ref (g.1 33)), some (.int k)] [] (mput A w) _
  refine g_iload_n dQ_foldFor_0 rfl ?_
  refine gS1 dQ_foldFor_1 kQ_foldFor_219 cQ_isThought (Nat.le_of_ble_eq_true rfl) ?_
  refine g_if_eq dQ_foldFor_4 rfl (fun h4 => ?_) (fun h4 => ?_)
  · have h4 := bI_0.mp h4
    refine g_aload_n dQ_foldFor_17 rfl ?_
    refine g_ldc dQ_foldFor_18 fQ_69 ?_
    refine gV1 dQ_foldFor_20 kQ_foldFor_75 rfl rfl (cQ_finding (q := 0) (by decide)) (Nat.le_of_ble_eq_true rfl) ?_
    refine g_iret dQ_foldFor_23 rfl rfl ?_
    first
      | exact IsQ_R36 hA hR (by simp only [foldC, hA, gA1 hA, gA2 hA, gA3 hA, gA4 hA, gA5 hA, gA6 hA]; rw [if_pos h4b, nI_clamp (by omega)])
      | exact IsQ_F hA hR (by decide) (by rw [foldC, if_neg h4])
  · have h4 := Classical.not_not.mp (fun z => h4 (bI_0.mpr z))
    have h4b := h4
    obtain ⟨kz, hkz, ekz⟩ := nI_of2 (x := k) (M := 40) (n := 40) rfl (Int32.not_lt.mpr h4.1) h4.2
    subst ekz
    have hss : ∀ v, v < 16 → IVA n b (sS A 0 (nI v)) := fun v hv => hI.s0 (in15n hv)
    have hVV : ∀ v, v < 16 → sumF (fld (hoursF 0 n kz (sS A 0 (nI v))) 3) n = foldV n kz A v := fun v hv => rfl
    have hpp : ∀ v, v < 16 → 0 ≤ foldV n kz A v ∧ foldV n kz A v < 79993 := fun v hv => by rw [← hVV v hv]; exact sum_01 (hours_IV (hss v hv) kz (by omega)) 3
    refine g_aload_n dQ_foldFor_7 rfl ?_
    refine g_iconst (v := 3) dQ_foldFor_8 (by decide) ?_
    refine g_iconst (v := 3) dQ_foldFor_9 (by decide) ?_
    refine g_iload_n dQ_foldFor_10 rfl ?_
    refine g_w (w1 := mput A (ax (w 36) w)) (by rw [ax_self]) ?_
    refine gV3q dQ_foldFor_11 kQ_foldFor_222 rfl rfl (cQ_leastFor hR.te (j := 0) (i := 3) rfl (by decide) (by decide) (f := 3) (by decide) (k := kz) (b := b) (by omega) hss hVV hpp) (Nat.le_of_ble_eq_true rfl) (fun r1 w1 q1 => ?_)
    obtain ⟨rfl, r2, rfl⟩ := q1
    dsimp only [Option.toList, List.cons_append, List.nil_append]
    refine g_goto dQ_foldFor_14 rfl ?_
    refine g_iret dQ_foldFor_23 rfl rfl ?_
    first
      | exact IsQ_R36 hA hR (by simp only [foldC, hA, gA1 hA, gA2 hA, gA3 hA, gA4 hA, gA5 hA, gA6 hA]; rw [if_pos h4b, nI_clamp (by omega)])
      | exact IsQ_F hA hR (by decide) (by rw [foldC, if_neg h4])

set_option maxRecDepth 4000 in
theorem lQ_kindFor {l : Launch} {g : GG} {w : Wd} {A : HA} {n b : Nat} (hw : w 33 5 = 0) {j : Nat} (hj : j < 8) {k : Nat} (hb : b + k ≤ 99999) (hs : ∀ v, v < 7 → IVA n b (sK A j (nI v))) {V : Nat → Int32} (hV : ∀ v, v < 7 → (hoursF 0 n k (sK A j (nI v))).2.2.2.2.2 j = V v) : ∀ (m : Nat) (v : Nat) (x : Int32) (r : Nat → Int32), (7 - v < m) → (v ≤ 7) → Go l g Q_kindFor 45 [some (.ref (g.1 33)), some (.int (nI j)), some (.int (nI k)), some (.int (nI (18 + 5 * j + 0))), some (.int (A.2.1 j)), some (.int (maxF V v).1), some (.int (maxF V v).2), some (.int (nI v)), none] [] (mput (sK A j x) (ax r w)) (IsA (maxF V 7).1 A w) := by
  intro m
  induction m with
  | zero => intro v x r hm hv; omega
  | succ m ih =>
    intro v x r hm hv
    refine g_iload dQ_kindFor_45 rfl ?_
    refine g_bipush (v := 6) dQ_kindFor_47 (by decide) ?_
    refine g_icmp_gt dQ_kindFor_49 rfl (fun h49 => ?_) (fun h49 => ?_)
    · rw [show (6 : Int32) = nI 6 from rfl, nI_ltI (by omega) (by omega)] at h49
      obtain rfl : v = 7 := by omega
      refine g_aload_n dQ_kindFor_103 rfl ?_
      refine g_getR2 (k2 := 34) dQ_kindFor_104 fQ_9 rfl rfl (by decide) rfl ?_
      refine g_iload_n dQ_kindFor_107 rfl ?_
      refine g_iload dQ_kindFor_108 rfl ?_
      refine g_ms (f := 0) dQ_kindFor_110 (by decide) (by omega) ?_
      refine g_w (w1 := mput A (ax r w)) (by show mput (sK (sK A j x) j (A.2.1 j)) _ = _; rw [sK_sK, sK_id]) ?_
      refine g_iload dQ_kindFor_111 rfl ?_
      refine g_iret dQ_kindFor_113 rfl rfl ?_
      exact ⟨rfl, _, rfl⟩
    · rw [show (6 : Int32) = nI 6 from rfl, nI_ltI (by omega) (by omega)] at h49
      refine g_aload_n dQ_kindFor_52 rfl ?_
      refine g_getR2 (k2 := 34) dQ_kindFor_53 fQ_9 rfl rfl (by decide) rfl ?_
      refine g_iload_n dQ_kindFor_56 rfl ?_
      refine g_iload dQ_kindFor_57 rfl ?_
      refine g_ms (f := 0) dQ_kindFor_59 (by decide) (by omega) ?_
      refine g_w (w1 := mput (sK A j (nI v)) (ax r w)) (by show mput (sK (sK A j x) j (nI v)) _ = _; rw [sK_sK]) ?_
      refine g_aload_n dQ_kindFor_60 rfl ?_
      refine g_iload_n dQ_kindFor_61 rfl ?_
      refine g_iconst (v := 4) dQ_kindFor_62 (by decide) ?_
      refine gS2 dQ_kindFor_63 kQ_kindFor_83 (cQ_sheepAt (f := 4)) (Nat.le_of_ble_eq_true rfl) ?_
      refine g_iload_n dQ_kindFor_66 rfl ?_
      refine gV2q dQ_kindFor_67 kQ_kindFor_206 rfl rfl (cQ_behind (hs v (by omega)) hw (i := 18 + 5 * j + 4) (by omega) hb) (Nat.le_of_ble_eq_true rfl) (fun r1 w1 q1 => ?_)
      obtain ⟨rfl, r2, rfl⟩ := q1
      dsimp only [Option.toList, List.cons_append, List.nil_append]
      refine g_top (y := V v) (by rw [mrow_f _ _ (by omega) (by omega)]; exact hV v (by omega)) ?_
      refine g_istore dQ_kindFor_70 (by decide) rfl rfl ?_
      dsimp only [List.set]
      refine g_iload dQ_kindFor_72 rfl ?_
      refine g_iload dQ_kindFor_74 rfl ?_
      refine g_icmp_le dQ_kindFor_76 rfl (fun h76 => ?_) (fun h76 => ?_)
      · refine g_iload dQ_kindFor_84 rfl ?_
        refine g_istore dQ_kindFor_86 (by decide) rfl rfl ?_
        dsimp only [List.set]
        refine g_iload dQ_kindFor_88 rfl ?_
        refine g_iload dQ_kindFor_90 rfl ?_
        refine g_max dQ_kindFor_92 lQ_151 (by decide) (Nat.le_of_ble_eq_true rfl) ?_
        refine g_istore dQ_kindFor_95 (by decide) rfl rfl ?_
        dsimp only [List.set]
        refine g_iinc (v := nI (v + 1)) dQ_kindFor_97 rfl (nI_succ v).symm (by decide) rfl rfl ?_
        dsimp only [List.set]
        refine g_goto dQ_kindFor_100 rfl ?_
        refine g_drop 8 rfl ?_
        dsimp only [List.set]
        refine g_lv (lv1 := [some (.ref (g.1 33)), some (.int (nI j)), some (.int (nI k)), some (.int (nI (18 + 5 * j + 0))), some (.int (A.2.1 j)), some (.int (maxF V (v + 1)).1), some (.int (maxF V (v + 1)).2), some (.int (nI (v + 1))), none]) (by rw [maxF]; grind [mxI]) ?_
        exact ih (v + 1) _ _ (by omega) (by omega)
      · refine g_iload dQ_kindFor_79 rfl ?_
        refine g_goto dQ_kindFor_81 rfl ?_
        refine g_istore dQ_kindFor_86 (by decide) rfl rfl ?_
        dsimp only [List.set]
        refine g_iload dQ_kindFor_88 rfl ?_
        refine g_iload dQ_kindFor_90 rfl ?_
        refine g_max dQ_kindFor_92 lQ_151 (by decide) (Nat.le_of_ble_eq_true rfl) ?_
        refine g_istore dQ_kindFor_95 (by decide) rfl rfl ?_
        dsimp only [List.set]
        refine g_iinc (v := nI (v + 1)) dQ_kindFor_97 rfl (nI_succ v).symm (by decide) rfl rfl ?_
        dsimp only [List.set]
        refine g_goto dQ_kindFor_100 rfl ?_
        refine g_drop 8 rfl ?_
        dsimp only [List.set]
        refine g_lv (lv1 := [some (.ref (g.1 33)), some (.int (nI j)), some (.int (nI k)), some (.int (nI (18 + 5 * j + 0))), some (.int (A.2.1 j)), some (.int (maxF V (v + 1)).1), some (.int (maxF V (v + 1)).2), some (.int (nI (v + 1))), none]) (by rw [maxF]; grind [mxI]) ?_
        exact ih (v + 1) _ _ (by omega) (by omega)

set_option maxRecDepth 4000 in
theorem cQ_kindFor {l : Launch} {g : GG} {S w : Wd} {A : HA} {n b : Nat} (hA : hget S 1 = A) (hR : RM S w) (hI : IVA n b A) {s k : Int32} (hb : b + 40 ≤ 99999) : Res l g Q_kindFor [.ref (g.1 33), .int s, .int k] (mput A w) (IsQ (kindC n s k S) w) := by
  have h8 := hI.n8
  refine Res.of (by decide) (by simp [Value.category]) (Nat.le_of_ble_eq_true rfl) rfl ?_
  show Go l g Q_kindFor 0 [some (.ref (g.1 33)), some (.int s), some (.int k), none, none, none, none, none, none] [] (mput A w) _
  refine g_aload_n dQ_kindFor_0 rfl ?_
  refine g_iload_n dQ_kindFor_1 rfl ?_
  refine gV1 dQ_kindFor_2 kQ_kindFor_119 rfl rfl (eQ_isSheep hI) (Nat.le_of_ble_eq_true rfl) ?_
  refine g_if_eq dQ_kindFor_5 rfl (fun h5_ => ?_) (fun h5_ => ?_)
  · have h5_ := bI_0.mp h5_
    refine g_aload_n dQ_kindFor_15 rfl ?_
    refine g_ldc dQ_kindFor_16 fQ_69 ?_
    refine gV1 dQ_kindFor_18 kQ_kindFor_75 rfl rfl (cQ_finding (q := 0) (by decide)) (Nat.le_of_ble_eq_true rfl) ?_
    refine g_iret dQ_kindFor_21 rfl rfl ?_
    exact IsQ_F hA hR (by decide) (by simp only [kindC, hasP, hA, gA1 hA, gA2 hA, gA3 hA, gA4 hA, gA5 hA, gA6 hA]; rw [if_neg (by grind)])
  · have h5_ := Classical.not_not.mp (fun z => h5_ (bI_0.mpr z))
    obtain ⟨j, hj, ej⟩ := hasN h5_.1 (show s < nI n from hI.n6 ▸ h5_.2) (by omega)
    subst ej
    refine g_iload_n dQ_kindFor_8 rfl ?_
    refine gS1 dQ_kindFor_9 kQ_kindFor_219 cQ_isThought (Nat.le_of_ble_eq_true rfl) ?_
    refine g_if_ne dQ_kindFor_12 rfl (fun h12 => ?_) (fun h12 => ?_)
    · have h12 := Classical.not_not.mp (fun z => h12 (bI_0.mpr z))
      have h12b := h12
      obtain ⟨kz, hkz, ekz⟩ := nI_of2 (x := k) (M := 40) (n := 40) rfl (Int32.not_lt.mpr h12.1) h12.2
      subst ekz
      refine g_iload_n dQ_kindFor_22 rfl ?_
      refine g_iconst (v := 0) dQ_kindFor_23 (by decide) ?_
      refine gS2 dQ_kindFor_24 kQ_kindFor_83 (cQ_sheepAt (f := 0)) (Nat.le_of_ble_eq_true rfl) ?_
      refine g_istore_n dQ_kindFor_27 (by decide) rfl rfl ?_
      dsimp only [List.set]
      refine g_aload_n dQ_kindFor_28 rfl ?_
      refine g_getR2 (k2 := 34) dQ_kindFor_29 fQ_9 rfl rfl (by decide) rfl ?_
      refine g_iload_n dQ_kindFor_32 rfl ?_
      refine g_ml (f := 0) dQ_kindFor_33 (by decide) (by omega) ?_
      refine g_istore dQ_kindFor_34 (by decide) rfl rfl ?_
      dsimp only [List.set]
      refine g_iconst (v := 0) dQ_kindFor_36 (by decide) ?_
      refine g_istore dQ_kindFor_37 (by decide) rfl rfl ?_
      dsimp only [List.set]
      refine g_iconst (v := (-1)) dQ_kindFor_39 (by decide) ?_
      refine g_istore dQ_kindFor_40 (by decide) rfl rfl ?_
      dsimp only [List.set]
      refine g_iconst (v := 0) dQ_kindFor_42 (by decide) ?_
      refine g_istore dQ_kindFor_43 (by decide) rfl rfl ?_
      dsimp only [List.set]
      refine g_w (w1 := mput (sK A j (A.2.1 j)) (ax (w 36) w)) (by rw [sK_id, ax_self]) ?_
      refine g_mono (fun r w2 hh => ?_) (lQ_kindFor (V := kindV n kz j A) hR.te (by omega) (b := b) (by omega) (fun v hv => hI.K (in6n hv)) (fun v hv => rfl) 8 0 (A.2.1 j) (w 36) (by omega) (by omega))
      obtain ⟨rfl, r2, rfl⟩ := hh
      exact IsQ_R36 hA hR (by simp only [kindC, hasP, hA, gA1 hA, gA2 hA, gA3 hA, gA4 hA, gA5 hA, gA6 hA]; rw [if_pos ⟨h5_, h12b⟩, nI_clamp (by omega), nI_clamp (by omega)])
    · have h12 := bI_0.mp h12
      refine g_aload_n dQ_kindFor_15 rfl ?_
      refine g_ldc dQ_kindFor_16 fQ_69 ?_
      refine gV1 dQ_kindFor_18 kQ_kindFor_75 rfl rfl (cQ_finding (q := 0) (by decide)) (Nat.le_of_ble_eq_true rfl) ?_
      refine g_iret dQ_kindFor_21 rfl rfl ?_
      exact IsQ_F hA hR (by decide) (by simp only [kindC, hasP, hA, gA1 hA, gA2 hA, gA3 hA, gA4 hA, gA5 hA, gA6 hA]; rw [if_neg (by grind)])

set_option maxRecDepth 4000 in
theorem lQ_paceFor {l : Launch} {g : GG} {S w : Wd} {A : HA} {n b : Nat} (hA : hget S 1 = A) (hR : RM S w) (hI : IVA n b A) {k : Nat} (hb : b + k ≤ 99999) (hs : ∀ v, v < 6 → IVA n b (sS A 4 (nI v))) {V : Nat → Int32} {lim : Int32} (hV : ∀ v, v < 6 → sumF (fld (hoursF 0 n k (sS A 4 (nI v))) 2) n = V v) : ∀ (m : Nat) (v : Nat) (x : Int32) (r : Nat → Int32), (6 - v < m) → (v ≤ 6) → Go l g Q_paceFor 39 [some (.ref (g.1 33)), some (.int lim), some (.int (nI k)), some (.int (A.1 4)), some (.int (paceF V lim v)), some (.int (nI v))] [] (mput (sS A 4 x) (ax r w)) (IsQ (orN (paceF V lim 6) S) w) := by
  intro m
  induction m with
  | zero => intro v x r hm hv; omega
  | succ m ih =>
    intro v x r hm hv
    refine g_iload dQ_paceFor_39 rfl ?_
    refine g_iconst (v := 5) dQ_paceFor_41 (by decide) ?_
    refine g_icmp_gt dQ_paceFor_42 rfl (fun h42 => ?_) (fun h42 => ?_)
    · rw [show (5 : Int32) = nI 5 from rfl, nI_ltI (by omega) (by omega)] at h42
      obtain rfl : v = 6 := by omega
      refine g_aload_n dQ_paceFor_79 rfl ?_
      refine g_getR2 (k2 := 34) dQ_paceFor_80 fQ_9 rfl rfl (by decide) rfl ?_
      refine g_bipush (v := 6) dQ_paceFor_83 (by decide) ?_
      refine g_iload_n dQ_paceFor_85 rfl ?_
      refine g_mP (j := 4) (i := 6) dQ_paceFor_86 rfl (by decide) (by decide) ?_
      rw [sS_sS, sS_id]
      refine g_aload_n dQ_paceFor_87 rfl ?_
      refine g_iload dQ_paceFor_88 rfl ?_
      refine gV1 dQ_paceFor_90 kQ_paceFor_142 rfl rfl cQ_orNone (Nat.le_of_ble_eq_true rfl) ?_
      rcases paceF_is V lim 6 with ec | ⟨c, hc, ec⟩
      · rw [ec, if_pos (by decide), if_pos (by decide)]
        refine g_iret dQ_paceFor_93 rfl rfl ?_
        exact IsQ_F36 (q := 3) hA hR (by decide) rfl
      rw [ec, if_neg (nI_pos (by omega)), if_neg (nI_pos (by omega))]
      refine g_iret dQ_paceFor_93 rfl rfl ?_
      exact IsQ_R36 hA hR (by rw [orN, if_neg (nIne (by omega))])
    · rw [show (5 : Int32) = nI 5 from rfl, nI_ltI (by omega) (by omega)] at h42
      refine g_aload_n dQ_paceFor_45 rfl ?_
      refine g_getR2 (k2 := 34) dQ_paceFor_46 fQ_9 rfl rfl (by decide) rfl ?_
      refine g_bipush (v := 6) dQ_paceFor_49 (by decide) ?_
      refine g_iload dQ_paceFor_51 rfl ?_
      refine g_mP (j := 4) (i := 6) dQ_paceFor_53 rfl (by decide) (by decide) ?_
      rw [sS_sS]
      refine g_aload_n dQ_paceFor_54 rfl ?_
      refine g_iconst (v := 2) dQ_paceFor_55 (by decide) ?_
      refine g_iload_n dQ_paceFor_56 rfl ?_
      refine gV2q dQ_paceFor_57 kQ_paceFor_216 rfl rfl (cQ_sumBehind (hs v (by omega)) hR.te (f := 2) (by decide) hb) (Nat.le_of_ble_eq_true rfl) (fun r1 w1 q1 => ?_)
      obtain ⟨rfl, r2, rfl⟩ := q1
      dsimp only [Option.toList, List.cons_append, List.nil_append]
      refine g_top (y := V v) (hV v (by omega)) ?_
      refine g_iload_n dQ_paceFor_60 rfl ?_
      refine g_icmp_gt dQ_paceFor_61 rfl (fun h61 => ?_) (fun h61 => ?_)
      · refine g_iload dQ_paceFor_69 rfl ?_
        refine g_istore dQ_paceFor_71 (by decide) rfl rfl ?_
        dsimp only [List.set]
        refine g_iinc (v := nI (v + 1)) dQ_paceFor_73 rfl (nI_succ v).symm (by decide) rfl rfl ?_
        dsimp only [List.set]
        refine g_goto dQ_paceFor_76 rfl ?_
        refine g_lv (lv1 := [some (.ref (g.1 33)), some (.int lim), some (.int (nI k)), some (.int (A.1 4)), some (.int (paceF V lim (v + 1))), some (.int (nI (v + 1)))]) (by rw [paceF]; grind) ?_
        exact ih (v + 1) _ _ (by omega) (by omega)
      · refine g_iload dQ_paceFor_64 rfl ?_
        refine g_goto dQ_paceFor_66 rfl ?_
        refine g_istore dQ_paceFor_71 (by decide) rfl rfl ?_
        dsimp only [List.set]
        refine g_iinc (v := nI (v + 1)) dQ_paceFor_73 rfl (nI_succ v).symm (by decide) rfl rfl ?_
        dsimp only [List.set]
        refine g_goto dQ_paceFor_76 rfl ?_
        refine g_lv (lv1 := [some (.ref (g.1 33)), some (.int lim), some (.int (nI k)), some (.int (A.1 4)), some (.int (paceF V lim (v + 1))), some (.int (nI (v + 1)))]) (by rw [paceF]; grind) ?_
        exact ih (v + 1) _ _ (by omega) (by omega)

set_option maxRecDepth 4000 in
theorem cQ_paceFor {l : Launch} {g : GG} {S w : Wd} {A : HA} {n b : Nat} (hA : hget S 1 = A) (hR : RM S w) (hI : IVA n b A) {v k : Int32} (hb : b + 40 ≤ 99999) : Res l g Q_paceFor [.ref (g.1 33), .int v, .int k] (mput A w) (IsQ (paceC n v k S) w) := by
  have h8 := hI.n8
  refine Res.of (by decide) (by simp [Value.category]) (Nat.le_of_ble_eq_true rfl) rfl ?_
  show Go l g Q_paceFor 0 [some (.ref (g.1 33)), some (.int v), some (.int k), none, none, none] [] (mput A w) _
  refine g_iload_n dQ_paceFor_0 rfl ?_
  refine g_iconst (v := 0) dQ_paceFor_1 (by decide) ?_
  refine g_sipush (v := 999) dQ_paceFor_2 (by decide) ?_
  refine gS3 dQ_paceFor_5 kQ_paceFor_79 cQ_within (Nat.le_of_ble_eq_true rfl) ?_
  refine g_if_eq dQ_paceFor_8 rfl (fun h8 => ?_) (fun h8 => ?_)
  · have h8 := bI_0.mp h8
    refine g_aload_n dQ_paceFor_18 rfl ?_
    refine g_ldc dQ_paceFor_19 fQ_69 ?_
    refine gV1 dQ_paceFor_21 kQ_paceFor_75 rfl rfl (cQ_finding (q := 0) (by decide)) (Nat.le_of_ble_eq_true rfl) ?_
    refine g_iret dQ_paceFor_24 rfl rfl ?_
    exact IsQ_F hA hR (by decide) (by rw [paceC, if_neg (by grind)])
  · have h8 := Classical.not_not.mp (fun z => h8 (bI_0.mpr z))
    refine g_iload_n dQ_paceFor_11 rfl ?_
    refine gS1 dQ_paceFor_12 kQ_paceFor_219 cQ_isThought (Nat.le_of_ble_eq_true rfl) ?_
    refine g_if_ne dQ_paceFor_15 rfl (fun h15 => ?_) (fun h15 => ?_)
    · have h15 := Classical.not_not.mp (fun z => h15 (bI_0.mpr z))
      have h15b := h15
      obtain ⟨kz, hkz, ekz⟩ := nI_of2 (x := k) (M := 40) (n := 40) rfl (Int32.not_lt.mpr h15.1) h15.2
      subst ekz
      refine g_aload_n dQ_paceFor_25 rfl ?_
      refine g_getR2 (k2 := 34) dQ_paceFor_26 fQ_9 rfl rfl (by decide) rfl ?_
      refine g_bipush (v := 6) dQ_paceFor_29 (by decide) ?_
      refine g_mS (j := 4) (i := 6) dQ_paceFor_31 rfl (by decide) (by decide) ?_
      refine g_istore_n dQ_paceFor_32 (by decide) rfl rfl ?_
      dsimp only [List.set]
      refine g_iconst (v := (-1)) dQ_paceFor_33 (by decide) ?_
      refine g_istore dQ_paceFor_34 (by decide) rfl rfl ?_
      dsimp only [List.set]
      refine g_iconst (v := 0) dQ_paceFor_36 (by decide) ?_
      refine g_istore dQ_paceFor_37 (by decide) rfl rfl ?_
      dsimp only [List.set]
      refine g_w (w1 := mput (sS A 4 (A.1 4)) (ax (w 36) w)) (by rw [sS_id, ax_self]) ?_
      refine g_mono (fun r w2 hh => ?_) (lQ_paceFor hA hR hI (V := paceV n kz A) (lim := v) (k := kz) (by omega) (fun v hv => hI.s4 (in5n hv)) (fun v hv => rfl) 7 0 (A.1 4) (w 36) (by omega) (by omega))
      rw [show paceC n v (nI kz) S = orN (paceF (paceV n kz A) v 6) S by simp only [paceC, hA, gA1 hA, gA2 hA, gA3 hA, gA4 hA, gA5 hA, gA6 hA]; rw [if_pos ⟨h8, h15b⟩, nI_clamp (by omega)]]
      exact hh
    · have h15 := bI_0.mp h15
      refine g_aload_n dQ_paceFor_18 rfl ?_
      refine g_ldc dQ_paceFor_19 fQ_69 ?_
      refine gV1 dQ_paceFor_21 kQ_paceFor_75 rfl rfl (cQ_finding (q := 0) (by decide)) (Nat.le_of_ble_eq_true rfl) ?_
      refine g_iret dQ_paceFor_24 rfl rfl ?_
      exact IsQ_F hA hR (by decide) (by rw [paceC, if_neg (by grind)])
