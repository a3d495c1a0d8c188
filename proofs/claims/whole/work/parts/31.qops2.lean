/-! what is only thought: the row is put aside (cell 36) and put back -/
abbrev ax (r : Nat → Int32) (w : Wd) : Wd := upR w 36 r
theorem ax_self (w : Wd) : ax (w 36) w = w := by
  funext k
  show (if k = 36 then w 36 else w k) = w k
  split
  · subst_vars; rfl
  · rfl
theorem RM.ax {S w : Wd} (h : RM S w) (r : Nat → Int32) : RM S (upR w 36 r) := by
  have o : ∀ k, k ≠ 36 → upR w 36 r k = w k := fun k hk => upR_other _ _ _ hk
  refine RM.mk (fun i hi => ?_) ?_ (fun hk i hi => ?_) ?_ ?_ (fun i hi => ?_) (fun q2 hq2 => ?_) ?_ (fun q2 hq2 => ?_)
  · rw [o 34 (by decide)]; exact h.row i hi
  · rw [o 33 (by decide)]; exact h.kf
  · rw [o 35 (by decide)]; exact h.kr hk i hi
  · rw [o 33 (by decide)]; exact h.te
  · rw [o 33 (by decide)]; exact h.tl
  · rw [o 38 (by decide)]; exact h.tb i hi
  · rw [o 37 (by decide)]; exact h.fq q2 hq2
  · rw [o 37 (by decide)]; exact h.f0
  · rw [o 44 (by decide), o 45 (by decide), o 46 (by decide)]; exact h.sh q2 hq2
theorem IsQ_R36 {S w : Wd} {A : HA} {p : Int32 × Wd} (hA : hget S 1 = A) (hR : RM S w) {r : Int32} {r' : Nat → Int32} (h : p = (r, S)) : IsQ p w (some (.int r)) (mput A (ax r' w)) := by
  subst h; rw [(hR.ax r').put hA]; exact ⟨rfl, hR.ax r', fun k hk => upR_other _ _ _ (by omega)⟩
theorem IsQ_F36 {S w : Wd} {A : HA} {p : Int32 × Wd} (hA : hget S 1 = A) (hR : RM S w) {q : Nat} (hq : q < 7) {r' : Nat → Int32} (h : p = fnd q S) : IsQ p w (some (.int (-1000001 - nI q))) (qf q (mput A (ax r' w))) := by
  subst h; rw [(hR.ax r').put hA]; exact ⟨rfl, (hR.ax r').afnd hq, fun k hk => (qf_o _ (by omega)).trans (upR_other _ _ _ (by omega))⟩
theorem copy_in {A : HA} {r0 : Nat → Int32} {w : Wd} : upR (mput A (ax r0 w)) 36 (mput A (ax r0 w) 34) = mput A (ax (mrow A (w 34)) w) := by
  rw [mput_34, show ax r0 w 34 = w 34 from rfl]
  funext k
  by_cases h : k = 36
  · subst h; rw [upR_same, mput_o _ _ (by decide)]; exact (upR_same _ _ _).symm
  · rw [upR_other _ _ _ h]
    by_cases h2 : k = 34
    · subst h2; rw [mput_34, mput_34]; rfl
    · rw [mput_o _ _ h2, mput_o _ _ h2]; exact (upR_other _ _ _ h).trans (upR_other _ _ _ h).symm
theorem copy_out {A H : HA} {w : Wd} : upR (mput H (ax (mrow A (w 34)) w)) 34 (mput H (ax (mrow A (w 34)) w) 36) = mput A (ax (mrow A (w 34)) w) := by
  rw [mput_o _ _ (by decide), show ax (mrow A (w 34)) w 36 = mrow A (w 34) from rfl]
  funext k
  by_cases h : k = 34
  · subst h; rw [upR_same, mput_34]; rfl
  · rw [upR_other _ _ _ h, mput_o _ _ h, mput_o _ _ h]
def IsA (x : Int32) (A : HA) (w : Wd) : Option Value → Wd → Prop := fun r w' => r = some (.int x) ∧ ∃ r1, w' = mput A (ax r1 w)
theorem mrow_jF (A : HA) (r : Nat → Int32) {f : Nat} (hf : f ≤ 4) : mrow A r (3 + f) = featF A (nI f) := by
  have h := jF_ok f hf
  rw [← h.1, mrow_s A r h.2.1, jF_feat A hf]
theorem fld_in {n b : Nat} {A : HA} (hI : IVA n b A) (f : Nat) {j : Nat} (hj : j < 8) : 0 ≤ fld A f j ∧ fld A f j ≤ 9999 := by
  have h := hI.sh hj
  have e : ∀ x c : Int32, c ≤ 9999 → (0 ≤ x ∧ x ≤ c) → 0 ≤ x ∧ x ≤ 9999 := fun x c hc hx => ⟨hx.1, Int32.le_trans hx.2 hc⟩
  unfold fld
  repeat' split
  · exact e _ _ (by decide) h.1
  · exact e _ _ (by decide) h.2.1
  · exact e _ _ (by decide) h.2.2.1
  · exact h.2.2.2.1
  · exact h.2.2.2.2
theorem sum_in {n b : Nat} {A : HA} (hI : IVA n b A) (f : Nat) : ∀ m, m ≤ 8 → ∃ c, c ≤ 9999 * m ∧ sumF (fld A f) m = nI c
  | 0, _ => ⟨0, by omega, rfl⟩
  | m + 1, hm => by
    obtain ⟨c, hc, ec⟩ := sum_in hI f m (by omega)
    have h := fld_in hI f (j := m) (by omega)
    obtain ⟨d, hd, ed⟩ := nI_of2 (x := fld A f m) (M := 9999) (n := 9999) rfl (Int32.not_lt.mpr h.1) h.2
    refine ⟨c + d, by omega, ?_⟩
    unfold sumF
    rw [ec, ed, nI_add]
theorem sum_01 {n b : Nat} {A : HA} (hI : IVA n b A) (f : Nat) : 0 ≤ sumF (fld A f) n ∧ sumF (fld A f) n < 79993 := by
  obtain ⟨c, hc, ec⟩ := sum_in hI f n hI.n8
  have := hI.n8
  rw [ec]
  exact ⟨nI_pos' (by omega), by rw [show (79993 : Int32) = nI 79993 from rfl, nI_ltI (by omega) (by omega)]; omega⟩
def mnM (V : Nat → Int32) : Nat → Int32 × Int32
  | 0 => (0, -1)
  | p + 1 => (if (mnM V p).2 < 0 ∨ V p < (mnM V p).2 then nI p else (mnM V p).1, if (mnM V p).2 < 0 then V p else mnI (mnM V p).2 (V p))
theorem mn_min {V : Nat → Int32} : ∀ p, (∀ v, v ≤ p → 0 ≤ V v ∧ V v < 79993) → mnM V (p + 1) = minF V (p + 1) ∧ 0 ≤ (minF V (p + 1)).2
  | 0, h => by
    have h0 := h 0 (Nat.le_refl 0)
    unfold mnM minF
    rw [show mnM V 0 = (0, -1) from rfl, show minF V 0 = (0, 79993) from rfl, if_pos (Or.inl (by decide)), if_pos (by decide), if_pos h0.2]
    exact ⟨rfl, h0.1⟩
  | p + 1, h => by
    have h1 := mn_min p (fun v hv => h v (by omega))
    have h0 := h (p + 1) (Nat.le_refl _)
    rw [show mnM V (p + 1 + 1) = (if (mnM V (p + 1)).2 < 0 ∨ V (p + 1) < (mnM V (p + 1)).2 then nI (p + 1) else (mnM V (p + 1)).1, if (mnM V (p + 1)).2 < 0 then V (p + 1) else mnI (mnM V (p + 1)).2 (V (p + 1))) from rfl,
      show minF V (p + 1 + 1) = (if V (p + 1) < (minF V (p + 1)).2 then (nI (p + 1), V (p + 1)) else minF V (p + 1)) from rfl, h1.1, if_neg (Int32.not_lt.mpr h1.2)]
    unfold mnI
    by_cases e : V (p + 1) < (minF V (p + 1)).2
    · rw [if_pos (Or.inr e), if_pos e, if_pos e]; exact ⟨rfl, h0.1⟩
    · rw [if_neg (fun z => z.elim (fun z => absurd h1.2 (Int32.not_le.mpr z)) e), if_neg e, if_neg e]; exact ⟨rfl, h1.2⟩
theorem sS_sS (A : HA) (j : Nat) (u v : Int32) : sS (sS A j u) j v = sS A j v := by
  show (upd (upd A.1 j u) j v, A.2) = _
  rw [upd_upd]; rfl
theorem sS_id (A : HA) (j : Nat) : sS A j (A.1 j) = A := by
  show (upd A.1 j (A.1 j), A.2) = A
  rw [upd_id]
theorem sK_sK (A : HA) (j : Nat) (u v : Int32) : sK (sK A j u) j v = sK A j v := by
  show (A.1, upd (upd A.2.1 j u) j v, A.2.2) = _
  rw [upd_upd]; rfl
theorem sK_id (A : HA) (j : Nat) : sK A j (A.2.1 j) = A := by
  show (A.1, upd A.2.1 j (A.2.1 j), A.2.2) = A
  rw [upd_id]
theorem fld_cg (A : HA) : fld A 4 = A.2.2.2.2.2 ∧ fld A 2 = A.2.2.2.1 ∧ fld A 3 = A.2.2.2.2.1 := ⟨rfl, rfl, rfl⟩
set_option maxRecDepth 4000 in
theorem cQ_behind {l : Launch} {g : GG} {w : Wd} {A : HA} {n b : Nat} (hI : IVA n b A) (hw : w 33 5 = 0) {r0 : Nat → Int32} {i : Nat} (hi : i < 58) {k : Nat} (hb : b + k ≤ 99999) : Res l g Q_behind [.ref (g.1 33), .int (nI i), .int (nI k)] (mput A (ax r0 w)) (IsA (mrow (hoursF 0 n k A) (w 34) i) A w) := by
  have h8 := hI.n8
  refine Res.of (by decide) (by simp [Value.category]) (Nat.le_of_ble_eq_true rfl) rfl ?_
  show Go l g Q_behind 0 [some (.ref (g.1 33)), some (.int (nI i)), some (.int (nI k))] [] (mput A (ax r0 w)) _
  refine g_aload_n dQ_behind_0 rfl ?_
  refine g_getR2 (k2 := 34) dQ_behind_1 fQ_9 rfl rfl (by decide) rfl ?_
  refine g_aload_n dQ_behind_4 rfl ?_
  refine g_getR2 (k2 := 36) dQ_behind_5 fQ_16 rfl rfl (by decide) rfl ?_
  refine gS2v dQ_behind_8 kQ_behind_70 (cQ_copyRow (a := 34) (b := 36) rfl rfl (by decide)) (Nat.le_of_ble_eq_true rfl) ?_
  refine g_w copy_in ?_
  refine g_aload_n dQ_behind_11 rfl ?_
  refine g_iload_n dQ_behind_12 rfl ?_
  refine gV1v dQ_behind_13 kQ_behind_191 rfl rfl (eQ_hoursGo hI hb hw) (Nat.le_of_ble_eq_true rfl) ?_
  refine g_aload_n dQ_behind_16 rfl ?_
  refine g_aload_n dQ_behind_17 rfl ?_
  refine g_getR2 (k2 := 34) dQ_behind_18 fQ_9 rfl rfl (by decide) rfl ?_
  refine g_iload_n dQ_behind_21 rfl ?_
  refine g_ialdN (i := i) dQ_behind_22 rfl hi (by decide) ?_
  refine g_top (y := mrow (hoursF 0 n k A) (w 34) i) (by rw [mput_34]; rfl) ?_
  refine gV1 dQ_behind_23 kQ_behind_203 rfl rfl cQ_putBack (Nat.le_of_ble_eq_true rfl) ?_
  refine g_w copy_out ?_
  refine g_iret dQ_behind_26 rfl rfl ?_
  exact ⟨rfl, _, rfl⟩

set_option maxRecDepth 4000 in
theorem cQ_sumBehind {l : Launch} {g : GG} {w : Wd} {A : HA} {n b : Nat} (hI : IVA n b A) (hw : w 33 5 = 0) {r0 : Nat → Int32} {f : Nat} (hf : f < 5) {k : Nat} (hb : b + k ≤ 99999) : Res l g Q_sumBehind [.ref (g.1 33), .int (nI f), .int (nI k)] (mput A (ax r0 w)) (IsA (sumF (fld (hoursF 0 n k A) f) n) A w) := by
  have h8 := hI.n8
  refine Res.of (by decide) (by simp [Value.category]) (Nat.le_of_ble_eq_true rfl) rfl ?_
  show Go l g Q_sumBehind 0 [some (.ref (g.1 33)), some (.int (nI f)), some (.int (nI k))] [] (mput A (ax r0 w)) _
  refine g_aload_n dQ_sumBehind_0 rfl ?_
  refine g_getR2 (k2 := 34) dQ_sumBehind_1 fQ_9 rfl rfl (by decide) rfl ?_
  refine g_aload_n dQ_sumBehind_4 rfl ?_
  refine g_getR2 (k2 := 36) dQ_sumBehind_5 fQ_16 rfl rfl (by decide) rfl ?_
  refine gS2v dQ_sumBehind_8 kQ_sumBehind_70 (cQ_copyRow (a := 34) (b := 36) rfl rfl (by decide)) (Nat.le_of_ble_eq_true rfl) ?_
  refine g_w copy_in ?_
  refine g_aload_n dQ_sumBehind_11 rfl ?_
  refine g_iload_n dQ_sumBehind_12 rfl ?_
  refine gV1v dQ_sumBehind_13 kQ_sumBehind_191 rfl rfl (eQ_hoursGo hI hb hw) (Nat.le_of_ble_eq_true rfl) ?_
  refine g_aload_n dQ_sumBehind_16 rfl ?_
  refine g_aload_n dQ_sumBehind_17 rfl ?_
  refine g_iload_n dQ_sumBehind_18 rfl ?_
  refine gV1 dQ_sumBehind_19 kQ_sumBehind_194 rfl rfl (cQ_sumOf (n := n) (by rw [hoursF_6]; exact hI.n6) h8 (f := f) hf) (Nat.le_of_ble_eq_true rfl) ?_
  refine gV1 dQ_sumBehind_22 kQ_sumBehind_203 rfl rfl cQ_putBack (Nat.le_of_ble_eq_true rfl) ?_
  refine g_w copy_out ?_
  refine g_iret dQ_sumBehind_25 rfl rfl ?_
  exact ⟨rfl, _, rfl⟩

set_option maxRecDepth 4000 in
theorem cQ_ahead {l : Launch} {g : GG} {S w : Wd} {A : HA} {n b : Nat} (hA : hget S 1 = A) (hR : RM S w) (hI : IVA n b A) {s x k : Int32} (hb : b + 100 ≤ 99999) : Res l g Q_ahead [.ref (g.1 33), .int s, .int x, .int k] (mput A w) (IsQ (aheadC n s x k S) w) := by
  have h8 := hI.n8
  refine Res.of (by decide) (by simp [Value.category]) (Nat.le_of_ble_eq_true rfl) rfl ?_
  show Go l g Q_ahead 0 [some (.ref (g.1 33)), some (.int s), some (.int x), some (.int k)] [] (mput A w) _
  refine g_aload_n dQ_ahead_0 rfl ?_
  refine g_iload_n dQ_ahead_1 rfl ?_
  refine gV1 dQ_ahead_2 kQ_ahead_119 rfl rfl (eQ_isSheep hI) (Nat.le_of_ble_eq_true rfl) ?_
  refine g_if_eq dQ_ahead_5 rfl (fun h5_ => ?_) (fun h5_ => ?_)
  · have h5_ := bI_0.mp h5_
    refine g_aload_n dQ_ahead_40 rfl ?_
    refine g_ldc dQ_ahead_41 fQ_69 ?_
    refine gV1 dQ_ahead_43 kQ_ahead_75 rfl rfl (cQ_finding (q := 0) (by decide)) (Nat.le_of_ble_eq_true rfl) ?_
    refine g_iret dQ_ahead_46 rfl rfl ?_
    first
      | exact IsQ_R36 hA hR (by simp only [aheadC, hasP, hA, gA1 hA, gA2 hA, gA3 hA, gA4 hA, gA5 hA, gA6 hA]; rw [if_pos ⟨h5_, h14b, h24b⟩, nI_clamp (by omega), nI_clamp (by omega), mrow_f _ _ (by omega) (by omega), trait_f _ _ _ hfz])
      | exact IsQ_F hA hR (by decide) (by simp only [aheadC, hasP, hA, gA1 hA, gA2 hA, gA3 hA, gA4 hA, gA5 hA, gA6 hA]; rw [if_neg (by grind)])
  · have h5_ := Classical.not_not.mp (fun z => h5_ (bI_0.mpr z))
    obtain ⟨j, hj, ej⟩ := hasN h5_.1 (show s < nI n from hI.n6 ▸ h5_.2) (by omega)
    subst ej
    refine g_iload_n dQ_ahead_8 rfl ?_
    refine g_iconst (v := 1) dQ_ahead_9 (by decide) ?_
    refine g_iconst (v := 4) dQ_ahead_10 (by decide) ?_
    refine gS3 dQ_ahead_11 kQ_ahead_79 cQ_within (Nat.le_of_ble_eq_true rfl) ?_
    refine g_if_eq dQ_ahead_14 rfl (fun h14 => ?_) (fun h14 => ?_)
    · have h14 := bI_0.mp h14
      refine g_aload_n dQ_ahead_40 rfl ?_
      refine g_ldc dQ_ahead_41 fQ_69 ?_
      refine gV1 dQ_ahead_43 kQ_ahead_75 rfl rfl (cQ_finding (q := 0) (by decide)) (Nat.le_of_ble_eq_true rfl) ?_
      refine g_iret dQ_ahead_46 rfl rfl ?_
      first
        | exact IsQ_R36 hA hR (by simp only [aheadC, hasP, hA, gA1 hA, gA2 hA, gA3 hA, gA4 hA, gA5 hA, gA6 hA]; rw [if_pos ⟨h5_, h14b, h24b⟩, nI_clamp (by omega), nI_clamp (by omega), mrow_f _ _ (by omega) (by omega), trait_f _ _ _ hfz])
        | exact IsQ_F hA hR (by decide) (by simp only [aheadC, hasP, hA, gA1 hA, gA2 hA, gA3 hA, gA4 hA, gA5 hA, gA6 hA]; rw [if_neg (by grind)])
    · have h14 := Classical.not_not.mp (fun z => h14 (bI_0.mpr z))
      refine g_iload_n dQ_ahead_17 rfl ?_
      refine g_iconst (v := 0) dQ_ahead_18 (by decide) ?_
      refine g_bipush (v := 100) dQ_ahead_19 (by decide) ?_
      refine gS3 dQ_ahead_21 kQ_ahead_79 cQ_within (Nat.le_of_ble_eq_true rfl) ?_
      refine g_if_eq dQ_ahead_24 rfl (fun h24 => ?_) (fun h24 => ?_)
      · have h24 := bI_0.mp h24
        refine g_aload_n dQ_ahead_40 rfl ?_
        refine g_ldc dQ_ahead_41 fQ_69 ?_
        refine gV1 dQ_ahead_43 kQ_ahead_75 rfl rfl (cQ_finding (q := 0) (by decide)) (Nat.le_of_ble_eq_true rfl) ?_
        refine g_iret dQ_ahead_46 rfl rfl ?_
        first
          | exact IsQ_R36 hA hR (by simp only [aheadC, hasP, hA, gA1 hA, gA2 hA, gA3 hA, gA4 hA, gA5 hA, gA6 hA]; rw [if_pos ⟨h5_, h14b, h24b⟩, nI_clamp (by omega), nI_clamp (by omega), mrow_f _ _ (by omega) (by omega), trait_f _ _ _ hfz])
          | exact IsQ_F hA hR (by decide) (by simp only [aheadC, hasP, hA, gA1 hA, gA2 hA, gA3 hA, gA4 hA, gA5 hA, gA6 hA]; rw [if_neg (by grind)])
      · have h24 := Classical.not_not.mp (fun z => h24 (bI_0.mpr z))
        have h14b := h14
        have h24b := h24
        obtain ⟨fz, hfz, efz⟩ := nI_of2 (x := x) (M := 4) (n := 4) rfl (Int32.not_lt.mpr (Int32.le_trans (by decide) h14.1)) h14.2
        subst efz
        obtain ⟨kz, hkz, ekz⟩ := nI_of2 (x := k) (M := 100) (n := 100) rfl (Int32.not_lt.mpr h24.1) h24.2
        subst ekz
        refine g_aload_n dQ_ahead_27 rfl ?_
        refine g_iload_n dQ_ahead_28 rfl ?_
        refine g_iload_n dQ_ahead_29 rfl ?_
        refine gS2 dQ_ahead_30 kQ_ahead_83 (cQ_sheepAt (f := fz)) (Nat.le_of_ble_eq_true rfl) ?_
        refine g_iload_n dQ_ahead_33 rfl ?_
        refine g_w (w1 := mput A (ax (w 36) w)) (by rw [ax_self]) ?_
        refine gV2q dQ_ahead_34 kQ_ahead_206 rfl rfl (cQ_behind hI hR.te (i := 18 + 5 * j + fz) (by omega) (k := kz) (by omega)) (Nat.le_of_ble_eq_true rfl) (fun r1 w1 q1 => ?_)
        obtain ⟨rfl, r2, rfl⟩ := q1
        dsimp only [Option.toList, List.cons_append, List.nil_append]
        refine g_goto dQ_ahead_37 rfl ?_
        refine g_iret dQ_ahead_46 rfl rfl ?_
        first
          | exact IsQ_R36 hA hR (by simp only [aheadC, hasP, hA, gA1 hA, gA2 hA, gA3 hA, gA4 hA, gA5 hA, gA6 hA]; rw [if_pos ⟨h5_, h14b, h24b⟩, nI_clamp (by omega), nI_clamp (by omega), mrow_f _ _ (by omega) (by omega), trait_f _ _ _ hfz])
          | exact IsQ_F hA hR (by decide) (by simp only [aheadC, hasP, hA, gA1 hA, gA2 hA, gA3 hA, gA4 hA, gA5 hA, gA6 hA]; rw [if_neg (by grind)])

set_option maxRecDepth 4000 in
theorem cQ_later {l : Launch} {g : GG} {S w : Wd} {A : HA} {n b : Nat} (hA : hget S 1 = A) (hR : RM S w) (hI : IVA n b A) {x k : Int32} (hb : b + 100 ≤ 99999) : Res l g Q_later [.ref (g.1 33), .int x, .int k] (mput A w) (IsQ (laterC n x k S) w) := by
  have h8 := hI.n8
  refine Res.of (by decide) (by simp [Value.category]) (Nat.le_of_ble_eq_true rfl) rfl ?_
  show Go l g Q_later 0 [some (.ref (g.1 33)), some (.int x), some (.int k), none] [] (mput A w) _
  refine g_iload_n dQ_later_0 rfl ?_
  refine g_iconst (v := 1) dQ_later_1 (by decide) ?_
  refine g_icmp_eq dQ_later_2 rfl (fun h2 => ?_) (fun h2 => ?_)
  · refine g_iload_n dQ_later_15 rfl ?_
    refine g_iconst (v := 0) dQ_later_16 (by decide) ?_
    refine g_bipush (v := 100) dQ_later_17 (by decide) ?_
    refine gS3 dQ_later_19 kQ_later_79 cQ_within (Nat.le_of_ble_eq_true rfl) ?_
    refine g_if_eq dQ_later_22 rfl (fun h22 => ?_) (fun h22 => ?_)
    · have h22 := bI_0.mp h22
      refine g_iconst (v := 0) dQ_later_29 (by decide) ?_
      refine g_istore_n dQ_later_30 (by decide) rfl rfl ?_
      dsimp only [List.set]
      refine g_iload_n dQ_later_31 rfl ?_
      refine g_if_eq dQ_later_32 rfl (fun h32 => ?_) (fun h32 => ?_)
      · refine g_aload_n dQ_later_46 rfl ?_
        refine g_ldc dQ_later_47 fQ_69 ?_
        refine gV1 dQ_later_49 kQ_later_75 rfl rfl (cQ_finding (q := 0) (by decide)) (Nat.le_of_ble_eq_true rfl) ?_
        refine g_iret dQ_later_52 rfl rfl ?_
        first
          | exact IsQ_R36 hA hR (by simp only [laterC, hA, gA1 hA, gA2 hA, gA3 hA, gA4 hA, gA5 hA, gA6 hA]; rw [if_pos hs, nI_clamp (by omega), mrow_jF _ _ hfz])
          | exact IsQ_F hA hR (by decide) (by rw [laterC, if_neg (by grind)])
      · exact absurd h32 (by decide)
    · have h22 := Classical.not_not.mp (fun z => h22 (bI_0.mpr z))
      have hs : (x = 1 ∨ x = 2 ∨ x = 4) ∧ (0 ≤ k ∧ k ≤ 100) := by grind
      have hx : 0 ≤ x ∧ x ≤ 4 := by grind
      refine g_iconst (v := 1) dQ_later_25 (by decide) ?_
      refine g_goto dQ_later_26 rfl ?_
      refine g_istore_n dQ_later_30 (by decide) rfl rfl ?_
      dsimp only [List.set]
      refine g_iload_n dQ_later_31 rfl ?_
      refine g_if_eq dQ_later_32 rfl (fun h32 => ?_) (fun h32 => ?_)
      · exact absurd h32 (by decide)
      · obtain ⟨fz, hfz, efz⟩ := nI_of2 (x := x) (M := 4) (n := 4) rfl (Int32.not_lt.mpr (Int32.le_trans (by decide) hx.1)) hx.2
        subst efz
        obtain ⟨kz, hkz, ekz⟩ := nI_of2 (x := k) (M := 100) (n := 100) rfl (Int32.not_lt.mpr h22.1) h22.2
        subst ekz
        refine g_aload_n dQ_later_35 rfl ?_
        refine g_iconst (v := 3) dQ_later_36 (by decide) ?_
        refine g_iload_n dQ_later_37 rfl ?_
        refine g_iadd dQ_later_38 ?_
        refine g_top (y := nI (3 + fz)) (nI_add 3 fz) ?_
        refine g_iload_n dQ_later_39 rfl ?_
        refine g_w (w1 := mput A (ax (w 36) w)) (by rw [ax_self]) ?_
        refine gV2q dQ_later_40 kQ_later_206 rfl rfl (cQ_behind hI hR.te (i := 3 + fz) (by omega) (k := kz) (by omega)) (Nat.le_of_ble_eq_true rfl) (fun r1 w1 q1 => ?_)
        obtain ⟨rfl, r2, rfl⟩ := q1
        dsimp only [Option.toList, List.cons_append, List.nil_append]
        refine g_goto dQ_later_43 rfl ?_
        refine g_iret dQ_later_52 rfl rfl ?_
        first
          | exact IsQ_R36 hA hR (by simp only [laterC, hA, gA1 hA, gA2 hA, gA3 hA, gA4 hA, gA5 hA, gA6 hA]; rw [if_pos hs, nI_clamp (by omega), mrow_jF _ _ hfz])
          | exact IsQ_F hA hR (by decide) (by rw [laterC, if_neg (by grind)])
  · refine g_iload_n dQ_later_5 rfl ?_
    refine g_iconst (v := 2) dQ_later_6 (by decide) ?_
    refine g_icmp_eq dQ_later_7 rfl (fun h7 => ?_) (fun h7 => ?_)
    · refine g_iload_n dQ_later_15 rfl ?_
      refine g_iconst (v := 0) dQ_later_16 (by decide) ?_
      refine g_bipush (v := 100) dQ_later_17 (by decide) ?_
      refine gS3 dQ_later_19 kQ_later_79 cQ_within (Nat.le_of_ble_eq_true rfl) ?_
      refine g_if_eq dQ_later_22 rfl (fun h22 => ?_) (fun h22 => ?_)
      · have h22 := bI_0.mp h22
        refine g_iconst (v := 0) dQ_later_29 (by decide) ?_
        refine g_istore_n dQ_later_30 (by decide) rfl rfl ?_
        dsimp only [List.set]
        refine g_iload_n dQ_later_31 rfl ?_
        refine g_if_eq dQ_later_32 rfl (fun h32 => ?_) (fun h32 => ?_)
        · refine g_aload_n dQ_later_46 rfl ?_
          refine g_ldc dQ_later_47 fQ_69 ?_
          refine gV1 dQ_later_49 kQ_later_75 rfl rfl (cQ_finding (q := 0) (by decide)) (Nat.le_of_ble_eq_true rfl) ?_
          refine g_iret dQ_later_52 rfl rfl ?_
          first
            | exact IsQ_R36 hA hR (by simp only [laterC, hA, gA1 hA, gA2 hA, gA3 hA, gA4 hA, gA5 hA, gA6 hA]; rw [if_pos hs, nI_clamp (by omega), mrow_jF _ _ hfz])
            | exact IsQ_F hA hR (by decide) (by rw [laterC, if_neg (by grind)])
        · exact absurd h32 (by decide)
      · have h22 := Classical.not_not.mp (fun z => h22 (bI_0.mpr z))
        have hs : (x = 1 ∨ x = 2 ∨ x = 4) ∧ (0 ≤ k ∧ k ≤ 100) := by grind
        have hx : 0 ≤ x ∧ x ≤ 4 := by grind
        refine g_iconst (v := 1) dQ_later_25 (by decide) ?_
        refine g_goto dQ_later_26 rfl ?_
        refine g_istore_n dQ_later_30 (by decide) rfl rfl ?_
        dsimp only [List.set]
        refine g_iload_n dQ_later_31 rfl ?_
        refine g_if_eq dQ_later_32 rfl (fun h32 => ?_) (fun h32 => ?_)
        · exact absurd h32 (by decide)
        · obtain ⟨fz, hfz, efz⟩ := nI_of2 (x := x) (M := 4) (n := 4) rfl (Int32.not_lt.mpr (Int32.le_trans (by decide) hx.1)) hx.2
          subst efz
          obtain ⟨kz, hkz, ekz⟩ := nI_of2 (x := k) (M := 100) (n := 100) rfl (Int32.not_lt.mpr h22.1) h22.2
          subst ekz
          refine g_aload_n dQ_later_35 rfl ?_
          refine g_iconst (v := 3) dQ_later_36 (by decide) ?_
          refine g_iload_n dQ_later_37 rfl ?_
          refine g_iadd dQ_later_38 ?_
          refine g_top (y := nI (3 + fz)) (nI_add 3 fz) ?_
          refine g_iload_n dQ_later_39 rfl ?_
          refine g_w (w1 := mput A (ax (w 36) w)) (by rw [ax_self]) ?_
          refine gV2q dQ_later_40 kQ_later_206 rfl rfl (cQ_behind hI hR.te (i := 3 + fz) (by omega) (k := kz) (by omega)) (Nat.le_of_ble_eq_true rfl) (fun r1 w1 q1 => ?_)
          obtain ⟨rfl, r2, rfl⟩ := q1
          dsimp only [Option.toList, List.cons_append, List.nil_append]
          refine g_goto dQ_later_43 rfl ?_
          refine g_iret dQ_later_52 rfl rfl ?_
          first
            | exact IsQ_R36 hA hR (by simp only [laterC, hA, gA1 hA, gA2 hA, gA3 hA, gA4 hA, gA5 hA, gA6 hA]; rw [if_pos hs, nI_clamp (by omega), mrow_jF _ _ hfz])
            | exact IsQ_F hA hR (by decide) (by rw [laterC, if_neg (by grind)])
    · refine g_iload_n dQ_later_10 rfl ?_
      refine g_iconst (v := 4) dQ_later_11 (by decide) ?_
      refine g_icmp_ne dQ_later_12 rfl (fun h12 => ?_) (fun h12 => ?_)
      · refine g_iconst (v := 0) dQ_later_29 (by decide) ?_
        refine g_istore_n dQ_later_30 (by decide) rfl rfl ?_
        dsimp only [List.set]
        refine g_iload_n dQ_later_31 rfl ?_
        refine g_if_eq dQ_later_32 rfl (fun h32 => ?_) (fun h32 => ?_)
        · refine g_aload_n dQ_later_46 rfl ?_
          refine g_ldc dQ_later_47 fQ_69 ?_
          refine gV1 dQ_later_49 kQ_later_75 rfl rfl (cQ_finding (q := 0) (by decide)) (Nat.le_of_ble_eq_true rfl) ?_
          refine g_iret dQ_later_52 rfl rfl ?_
          first
            | exact IsQ_R36 hA hR (by simp only [laterC, hA, gA1 hA, gA2 hA, gA3 hA, gA4 hA, gA5 hA, gA6 hA]; rw [if_pos hs, nI_clamp (by omega), mrow_jF _ _ hfz])
            | exact IsQ_F hA hR (by decide) (by rw [laterC, if_neg (by grind)])
        · exact absurd h32 (by decide)
      · refine g_iload_n dQ_later_15 rfl ?_
        refine g_iconst (v := 0) dQ_later_16 (by decide) ?_
        refine g_bipush (v := 100) dQ_later_17 (by decide) ?_
        refine gS3 dQ_later_19 kQ_later_79 cQ_within (Nat.le_of_ble_eq_true rfl) ?_
        refine g_if_eq dQ_later_22 rfl (fun h22 => ?_) (fun h22 => ?_)
        · have h22 := bI_0.mp h22
          refine g_iconst (v := 0) dQ_later_29 (by decide) ?_
          refine g_istore_n dQ_later_30 (by decide) rfl rfl ?_
          dsimp only [List.set]
          refine g_iload_n dQ_later_31 rfl ?_
          refine g_if_eq dQ_later_32 rfl (fun h32 => ?_) (fun h32 => ?_)
          · refine g_aload_n dQ_later_46 rfl ?_
            refine g_ldc dQ_later_47 fQ_69 ?_
            refine gV1 dQ_later_49 kQ_later_75 rfl rfl (cQ_finding (q := 0) (by decide)) (Nat.le_of_ble_eq_true rfl) ?_
            refine g_iret dQ_later_52 rfl rfl ?_
            first
              | exact IsQ_R36 hA hR (by simp only [laterC, hA, gA1 hA, gA2 hA, gA3 hA, gA4 hA, gA5 hA, gA6 hA]; rw [if_pos hs, nI_clamp (by omega), mrow_jF _ _ hfz])
              | exact IsQ_F hA hR (by decide) (by rw [laterC, if_neg (by grind)])
          · exact absurd h32 (by decide)
        · have h22 := Classical.not_not.mp (fun z => h22 (bI_0.mpr z))
          have hs : (x = 1 ∨ x = 2 ∨ x = 4) ∧ (0 ≤ k ∧ k ≤ 100) := by grind
          have hx : 0 ≤ x ∧ x ≤ 4 := by grind
          refine g_iconst (v := 1) dQ_later_25 (by decide) ?_
          refine g_goto dQ_later_26 rfl ?_
          refine g_istore_n dQ_later_30 (by decide) rfl rfl ?_
          dsimp only [List.set]
          refine g_iload_n dQ_later_31 rfl ?_
          refine g_if_eq dQ_later_32 rfl (fun h32 => ?_) (fun h32 => ?_)
          · exact absurd h32 (by decide)
          · obtain ⟨fz, hfz, efz⟩ := nI_of2 (x := x) (M := 4) (n := 4) rfl (Int32.not_lt.mpr (Int32.le_trans (by decide) hx.1)) hx.2
            subst efz
            obtain ⟨kz, hkz, ekz⟩ := nI_of2 (x := k) (M := 100) (n := 100) rfl (Int32.not_lt.mpr h22.1) h22.2
            subst ekz
            refine g_aload_n dQ_later_35 rfl ?_
            refine g_iconst (v := 3) dQ_later_36 (by decide) ?_
            refine g_iload_n dQ_later_37 rfl ?_
            refine g_iadd dQ_later_38 ?_
            refine g_top (y := nI (3 + fz)) (nI_add 3 fz) ?_
            refine g_iload_n dQ_later_39 rfl ?_
            refine g_w (w1 := mput A (ax (w 36) w)) (by rw [ax_self]) ?_
            refine gV2q dQ_later_40 kQ_later_206 rfl rfl (cQ_behind hI hR.te (i := 3 + fz) (by omega) (k := kz) (by omega)) (Nat.le_of_ble_eq_true rfl) (fun r1 w1 q1 => ?_)
            obtain ⟨rfl, r2, rfl⟩ := q1
            dsimp only [Option.toList, List.cons_append, List.nil_append]
            refine g_goto dQ_later_43 rfl ?_
            refine g_iret dQ_later_52 rfl rfl ?_
            first
              | exact IsQ_R36 hA hR (by simp only [laterC, hA, gA1 hA, gA2 hA, gA3 hA, gA4 hA, gA5 hA, gA6 hA]; rw [if_pos hs, nI_clamp (by omega), mrow_jF _ _ hfz])
              | exact IsQ_F hA hR (by decide) (by rw [laterC, if_neg (by grind)])

set_option maxRecDepth 4000 in
theorem lQ_whenIs {l : Launch} {g : GG} {S w : Wd} {A : HA} {n b : Nat} (hA : hget S 1 = A) (hR : RM S w) (hI : IVA n b A) (hb : b + 200 ≤ 99999) {f j : Nat} (hf : f < 5) (hj : j < 8) {v : Int32} : ∀ (m : Nat) (i : Nat), (200 - i < m) → (i ≤ 200) → Go l g Q_whenIs 14 [some (.ref (g.1 33)), some (.int (nI j)), some (.int (nI f)), some (.int v), some (.int (nI i))] [] (mput (hoursF 0 n i A) (ax (mrow A (w 34)) w)) (IsQ (orN (firstF (whenP n A f j v) i (201 - i)) S) w) := by
  intro m
  induction m with
  | zero => intro i hm hi; omega
  | succ m ih =>
    intro i hm hi
    refine g_iload dQ_whenIs_14 rfl ?_
    refine g_sipush (v := 200) dQ_whenIs_16 (by decide) ?_
    refine g_icmp_ge dQ_whenIs_19 rfl (fun h19 => ?_) (fun h19 => ?_)
    · rw [show (200 : Int32) = nI 200 from rfl, nI_leI (by omega) (by omega)] at h19
      refine g_aload_n dQ_whenIs_42 rfl ?_
      refine g_aload_n dQ_whenIs_43 rfl ?_
      refine g_aload_n dQ_whenIs_44 rfl ?_
      refine g_iload_n dQ_whenIs_45 rfl ?_
      refine g_iload_n dQ_whenIs_46 rfl ?_
      refine gV2 dQ_whenIs_47 kQ_whenIs_108 rfl rfl (cQ_sheepIs hf hj) (Nat.le_of_ble_eq_true rfl) ?_
      refine g_iload_n dQ_whenIs_50 rfl ?_
      refine g_icmp_ge dQ_whenIs_51 rfl (fun h51 => ?_) (fun h51 => ?_)
      · refine g_iload dQ_whenIs_58 rfl ?_
        refine gV1 dQ_whenIs_60 kQ_whenIs_203 rfl rfl cQ_putBack (Nat.le_of_ble_eq_true rfl) ?_
        refine g_w copy_out ?_
        refine gV1 dQ_whenIs_63 kQ_whenIs_142 rfl rfl cQ_orNone (Nat.le_of_ble_eq_true rfl) ?_
        first
          | rw [if_pos (by decide), if_pos (by decide)]
          | rw [if_neg (nI_pos (by omega)), if_neg (nI_pos (by omega))]
        refine g_iret dQ_whenIs_66 rfl rfl ?_
        first
          | exact IsQ_R36 hA hR (by rw [show 201 - i = (200 - i) + 1 by omega, firstF, if_pos h51, orN, if_neg (nIne (by omega))])
          | exact absurd h29 h51
          | exact IsQ_F36 (q := 3) hA hR (by decide) (by rw [show 201 - i = 0 + 1 by omega, firstF, if_neg h51]; rfl)
      · refine g_iconst (v := (-1)) dQ_whenIs_54 (by decide) ?_
        refine g_goto dQ_whenIs_55 rfl ?_
        refine gV1 dQ_whenIs_60 kQ_whenIs_203 rfl rfl cQ_putBack (Nat.le_of_ble_eq_true rfl) ?_
        refine g_w copy_out ?_
        refine gV1 dQ_whenIs_63 kQ_whenIs_142 rfl rfl cQ_orNone (Nat.le_of_ble_eq_true rfl) ?_
        first
          | rw [if_pos (by decide), if_pos (by decide)]
          | rw [if_neg (nI_pos (by omega)), if_neg (nI_pos (by omega))]
        refine g_iret dQ_whenIs_66 rfl rfl ?_
        first
          | exact IsQ_R36 hA hR (by rw [show 201 - i = (200 - i) + 1 by omega, firstF, if_pos h51, orN, if_neg (nIne (by omega))])
          | exact absurd h29 h51
          | exact IsQ_F36 (q := 3) hA hR (by decide) (by rw [show 201 - i = 0 + 1 by omega, firstF, if_neg h51]; rfl)
    · rw [show (200 : Int32) = nI 200 from rfl, nI_leI (by omega) (by omega)] at h19
      refine g_aload_n dQ_whenIs_22 rfl ?_
      refine g_iload_n dQ_whenIs_23 rfl ?_
      refine g_iload_n dQ_whenIs_24 rfl ?_
      refine gV2 dQ_whenIs_25 kQ_whenIs_108 rfl rfl (cQ_sheepIs hf hj) (Nat.le_of_ble_eq_true rfl) ?_
      refine g_iload_n dQ_whenIs_28 rfl ?_
      refine g_icmp_ge dQ_whenIs_29 rfl (fun h29 => ?_) (fun h29 => ?_)
      · refine g_aload_n dQ_whenIs_42 rfl ?_
        refine g_aload_n dQ_whenIs_43 rfl ?_
        refine g_aload_n dQ_whenIs_44 rfl ?_
        refine g_iload_n dQ_whenIs_45 rfl ?_
        refine g_iload_n dQ_whenIs_46 rfl ?_
        refine gV2 dQ_whenIs_47 kQ_whenIs_108 rfl rfl (cQ_sheepIs hf hj) (Nat.le_of_ble_eq_true rfl) ?_
        refine g_iload_n dQ_whenIs_50 rfl ?_
        refine g_icmp_ge dQ_whenIs_51 rfl (fun h51 => ?_) (fun h51 => ?_)
        · refine g_iload dQ_whenIs_58 rfl ?_
          refine gV1 dQ_whenIs_60 kQ_whenIs_203 rfl rfl cQ_putBack (Nat.le_of_ble_eq_true rfl) ?_
          refine g_w copy_out ?_
          refine gV1 dQ_whenIs_63 kQ_whenIs_142 rfl rfl cQ_orNone (Nat.le_of_ble_eq_true rfl) ?_
          first
            | rw [if_pos (by decide), if_pos (by decide)]
            | rw [if_neg (nI_pos (by omega)), if_neg (nI_pos (by omega))]
          refine g_iret dQ_whenIs_66 rfl rfl ?_
          first
            | exact IsQ_R36 hA hR (by rw [show 201 - i = (200 - i) + 1 by omega, firstF, if_pos h51, orN, if_neg (nIne (by omega))])
            | exact absurd h29 h51
            | exact IsQ_F36 (q := 3) hA hR (by decide) (by rw [show 201 - i = 0 + 1 by omega, firstF, if_neg h51]; rfl)
        · refine g_iconst (v := (-1)) dQ_whenIs_54 (by decide) ?_
          refine g_goto dQ_whenIs_55 rfl ?_
          refine gV1 dQ_whenIs_60 kQ_whenIs_203 rfl rfl cQ_putBack (Nat.le_of_ble_eq_true rfl) ?_
          refine g_w copy_out ?_
          refine gV1 dQ_whenIs_63 kQ_whenIs_142 rfl rfl cQ_orNone (Nat.le_of_ble_eq_true rfl) ?_
          first
            | rw [if_pos (by decide), if_pos (by decide)]
            | rw [if_neg (nI_pos (by omega)), if_neg (nI_pos (by omega))]
          refine g_iret dQ_whenIs_66 rfl rfl ?_
          first
            | exact IsQ_R36 hA hR (by rw [show 201 - i = (200 - i) + 1 by omega, firstF, if_pos h51, orN, if_neg (nIne (by omega))])
            | exact absurd h29 h51
            | exact IsQ_F36 (q := 3) hA hR (by decide) (by rw [show 201 - i = 0 + 1 by omega, firstF, if_neg h51]; rfl)
      · refine g_aload_n dQ_whenIs_32 rfl ?_
        refine gV0v dQ_whenIs_33 kQ_whenIs_187 rfl rfl (eQ_hour (b := b + i) (hours_IV hI i (by omega)) (by omega) hR.te) (Nat.le_of_ble_eq_true rfl) ?_
        refine g_iinc (v := nI (i + 1)) dQ_whenIs_36 rfl (nI_succ i).symm (by decide) rfl rfl ?_
        dsimp only [List.set]
        refine g_goto dQ_whenIs_39 rfl ?_
        refine g_mono (fun r w2 h => ?_) (ih (i + 1) (by omega) (by omega))
        rw [show 201 - i = (201 - (i + 1)) + 1 by omega, firstF, if_neg h29]
        exact h

set_option maxRecDepth 4000 in
theorem cQ_whenIs {l : Launch} {g : GG} {S w : Wd} {A : HA} {n b : Nat} (hA : hget S 1 = A) (hR : RM S w) (hI : IVA n b A) (hb : b + 200 ≤ 99999) {f j : Nat} (hf : f < 5) (hj : j < 8) {v : Int32} : Res l g Q_whenIs [.ref (g.1 33), .int (nI j), .int (nI f), .int v] (mput A w) (IsQ (orN (firstF (whenP n A f j v) 0 201) S) w) := by
  refine Res.of (by decide) (by simp [Value.category]) (Nat.le_of_ble_eq_true rfl) rfl ?_
  show Go l g Q_whenIs 0 [some (.ref (g.1 33)), some (.int (nI j)), some (.int (nI f)), some (.int v), none] [] (mput A w) _
  refine g_aload_n dQ_whenIs_0 rfl ?_
  refine g_getR2 (k2 := 34) dQ_whenIs_1 fQ_9 rfl rfl (by decide) rfl ?_
  refine g_aload_n dQ_whenIs_4 rfl ?_
  refine g_getR2 (k2 := 36) dQ_whenIs_5 fQ_16 rfl rfl (by decide) rfl ?_
  refine g_w (w1 := mput A (ax (w 36) w)) (by rw [ax_self]) ?_
  refine gS2v dQ_whenIs_8 kQ_whenIs_70 (cQ_copyRow (a := 34) (b := 36) rfl rfl (by decide)) (Nat.le_of_ble_eq_true rfl) ?_
  refine g_w copy_in ?_
  refine g_iconst (v := 0) dQ_whenIs_11 (by decide) ?_
  refine g_istore dQ_whenIs_12 (by decide) rfl rfl ?_
  dsimp only [List.set]
  exact lQ_whenIs hA hR hI hb hf hj 201 0 (by omega) (by omega)

set_option maxRecDepth 4000 in
theorem cQ_when {l : Launch} {g : GG} {S w : Wd} {A : HA} {n b : Nat} (hA : hget S 1 = A) (hR : RM S w) (hI : IVA n b A) {s v : Int32} (hb : b + 200 ≤ 99999) : Res l g Q_when [.ref (g.1 33), .int s, .int v] (mput A w) (IsQ (whenC n s v S) w) := by
  have h8 := hI.n8
  refine Res.of (by decide) (by simp [Value.category]) (Nat.le_of_ble_eq_true rfl) rfl ?_
  show Go l g Q_when 0 [some (.ref (g.1 33)), some (.int s), some (.int v)] [] (mput A w) _
  refine g_aload_n dQ_when_0 rfl ?_
  refine g_iload_n dQ_when_1 rfl ?_
  refine gV1 dQ_when_2 kQ_when_119 rfl rfl (eQ_isSheep hI) (Nat.le_of_ble_eq_true rfl) ?_
  refine g_if_eq dQ_when_5 rfl (fun h5_ => ?_) (fun h5_ => ?_)
  · have h5_ := bI_0.mp h5_
    refine g_aload_n dQ_when_29 rfl ?_
    refine g_ldc dQ_when_30 fQ_69 ?_
    refine gV1 dQ_when_32 kQ_when_75 rfl rfl (cQ_finding (q := 0) (by decide)) (Nat.le_of_ble_eq_true rfl) ?_
    refine g_iret dQ_when_35 rfl rfl ?_
    first
      | (rw [show whenC n (nI j) v S = orN (firstF (whenP n A 4 j v) 0 201) S by simp only [whenC, hasP, hA, gA1 hA, gA2 hA, gA3 hA, gA4 hA, gA5 hA, gA6 hA]; rw [if_pos (by grind), nI_clamp (by omega)]]; exact ⟨rfl, q2⟩)
      | exact IsQ_F hA hR (by decide) (by simp only [whenC, hasP, hA, gA1 hA, gA2 hA, gA3 hA, gA4 hA, gA5 hA, gA6 hA]; rw [if_neg (by grind)])
  · have h5_ := Classical.not_not.mp (fun z => h5_ (bI_0.mpr z))
    obtain ⟨j, hj, ej⟩ := hasN h5_.1 (show s < nI n from hI.n6 ▸ h5_.2) (by omega)
    subst ej
    refine g_iload_n dQ_when_8 rfl ?_
    refine g_iconst (v := 0) dQ_when_9 (by decide) ?_
    refine g_sipush (v := 9999) dQ_when_10 (by decide) ?_
    refine gS3 dQ_when_13 kQ_when_79 cQ_within (Nat.le_of_ble_eq_true rfl) ?_
    refine g_if_eq dQ_when_16 rfl (fun h16 => ?_) (fun h16 => ?_)
    · have h16 := bI_0.mp h16
      refine g_aload_n dQ_when_29 rfl ?_
      refine g_ldc dQ_when_30 fQ_69 ?_
      refine gV1 dQ_when_32 kQ_when_75 rfl rfl (cQ_finding (q := 0) (by decide)) (Nat.le_of_ble_eq_true rfl) ?_
      refine g_iret dQ_when_35 rfl rfl ?_
      first
        | (rw [show whenC n (nI j) v S = orN (firstF (whenP n A 4 j v) 0 201) S by simp only [whenC, hasP, hA, gA1 hA, gA2 hA, gA3 hA, gA4 hA, gA5 hA, gA6 hA]; rw [if_pos (by grind), nI_clamp (by omega)]]; exact ⟨rfl, q2⟩)
        | exact IsQ_F hA hR (by decide) (by simp only [whenC, hasP, hA, gA1 hA, gA2 hA, gA3 hA, gA4 hA, gA5 hA, gA6 hA]; rw [if_neg (by grind)])
    · have h16 := Classical.not_not.mp (fun z => h16 (bI_0.mpr z))
      refine g_aload_n dQ_when_19 rfl ?_
      refine g_iload_n dQ_when_20 rfl ?_
      refine g_iconst (v := 4) dQ_when_21 (by decide) ?_
      refine g_iload_n dQ_when_22 rfl ?_
      refine gV3q dQ_when_23 kQ_when_209 rfl rfl (cQ_whenIs hA hR hI hb (f := 4) (j := j) (by decide) (by omega)) (Nat.le_of_ble_eq_true rfl) (fun r1 w1 q1 => ?_)
      obtain ⟨rfl, q2⟩ := q1
      dsimp only [Option.toList, List.cons_append, List.nil_append]
      refine g_goto dQ_when_26 rfl ?_
      refine g_iret dQ_when_35 rfl rfl ?_
      first
        | (rw [show whenC n (nI j) v S = orN (firstF (whenP n A 4 j v) 0 201) S by simp only [whenC, hasP, hA, gA1 hA, gA2 hA, gA3 hA, gA4 hA, gA5 hA, gA6 hA]; rw [if_pos (by grind), nI_clamp (by omega)]]; exact ⟨rfl, q2⟩)
        | exact IsQ_F hA hR (by decide) (by simp only [whenC, hasP, hA, gA1 hA, gA2 hA, gA3 hA, gA4 hA, gA5 hA, gA6 hA]; rw [if_neg (by grind)])

set_option maxRecDepth 4000 in
theorem cQ_panic {l : Launch} {g : GG} {S w : Wd} {A : HA} {n b : Nat} (hA : hget S 1 = A) (hR : RM S w) (hI : IVA n b A) {s v : Int32} (hb : b + 200 ≤ 99999) : Res l g Q_panic [.ref (g.1 33), .int s, .int v] (mput A w) (IsQ (panicC n s v S) w) := by
  have h8 := hI.n8
  refine Res.of (by decide) (by simp [Value.category]) (Nat.le_of_ble_eq_true rfl) rfl ?_
  show Go l g Q_panic 0 [some (.ref (g.1 33)), some (.int s), some (.int v)] [] (mput A w) _
  refine g_aload_n dQ_panic_0 rfl ?_
  refine g_iload_n dQ_panic_1 rfl ?_
  refine gV1 dQ_panic_2 kQ_panic_119 rfl rfl (eQ_isSheep hI) (Nat.le_of_ble_eq_true rfl) ?_
  refine g_if_eq dQ_panic_5 rfl (fun h5_ => ?_) (fun h5_ => ?_)
  · have h5_ := bI_0.mp h5_
    refine g_aload_n dQ_panic_28 rfl ?_
    refine g_ldc dQ_panic_29 fQ_69 ?_
    refine gV1 dQ_panic_31 kQ_panic_75 rfl rfl (cQ_finding (q := 0) (by decide)) (Nat.le_of_ble_eq_true rfl) ?_
    refine g_iret dQ_panic_34 rfl rfl ?_
    first
      | (rw [show panicC n (nI j) v S = orN (firstF (whenP n A 2 j v) 0 201) S by simp only [panicC, hasP, hA, gA1 hA, gA2 hA, gA3 hA, gA4 hA, gA5 hA, gA6 hA]; rw [if_pos (by grind), nI_clamp (by omega)]]; exact ⟨rfl, q2⟩)
      | exact IsQ_F hA hR (by decide) (by simp only [panicC, hasP, hA, gA1 hA, gA2 hA, gA3 hA, gA4 hA, gA5 hA, gA6 hA]; rw [if_neg (by grind)])
  · have h5_ := Classical.not_not.mp (fun z => h5_ (bI_0.mpr z))
    obtain ⟨j, hj, ej⟩ := hasN h5_.1 (show s < nI n from hI.n6 ▸ h5_.2) (by omega)
    subst ej
    refine g_iload_n dQ_panic_8 rfl ?_
    refine g_iconst (v := 0) dQ_panic_9 (by decide) ?_
    refine g_bipush (v := 99) dQ_panic_10 (by decide) ?_
    refine gS3 dQ_panic_12 kQ_panic_79 cQ_within (Nat.le_of_ble_eq_true rfl) ?_
    refine g_if_eq dQ_panic_15 rfl (fun h15 => ?_) (fun h15 => ?_)
    · have h15 := bI_0.mp h15
      refine g_aload_n dQ_panic_28 rfl ?_
      refine g_ldc dQ_panic_29 fQ_69 ?_
      refine gV1 dQ_panic_31 kQ_panic_75 rfl rfl (cQ_finding (q := 0) (by decide)) (Nat.le_of_ble_eq_true rfl) ?_
      refine g_iret dQ_panic_34 rfl rfl ?_
      first
        | (rw [show panicC n (nI j) v S = orN (firstF (whenP n A 2 j v) 0 201) S by simp only [panicC, hasP, hA, gA1 hA, gA2 hA, gA3 hA, gA4 hA, gA5 hA, gA6 hA]; rw [if_pos (by grind), nI_clamp (by omega)]]; exact ⟨rfl, q2⟩)
        | exact IsQ_F hA hR (by decide) (by simp only [panicC, hasP, hA, gA1 hA, gA2 hA, gA3 hA, gA4 hA, gA5 hA, gA6 hA]; rw [if_neg (by grind)])
    · have h15 := Classical.not_not.mp (fun z => h15 (bI_0.mpr z))
      refine g_aload_n dQ_panic_18 rfl ?_
      refine g_iload_n dQ_panic_19 rfl ?_
      refine g_iconst (v := 2) dQ_panic_20 (by decide) ?_
      refine g_iload_n dQ_panic_21 rfl ?_
      refine gV3q dQ_panic_22 kQ_panic_209 rfl rfl (cQ_whenIs hA hR hI hb (f := 2) (j := j) (by decide) (by omega)) (Nat.le_of_ble_eq_true rfl) (fun r1 w1 q1 => ?_)
      obtain ⟨rfl, q2⟩ := q1
      dsimp only [Option.toList, List.cons_append, List.nil_append]
      refine g_goto dQ_panic_25 rfl ?_
      refine g_iret dQ_panic_34 rfl rfl ?_
      first
        | (rw [show panicC n (nI j) v S = orN (firstF (whenP n A 2 j v) 0 201) S by simp only [panicC, hasP, hA, gA1 hA, gA2 hA, gA3 hA, gA4 hA, gA5 hA, gA6 hA]; rw [if_pos (by grind), nI_clamp (by omega)]]; exact ⟨rfl, q2⟩)
        | exact IsQ_F hA hR (by decide) (by simp only [panicC, hasP, hA, gA1 hA, gA2 hA, gA3 hA, gA4 hA, gA5 hA, gA6 hA]; rw [if_neg (by grind)])

set_option maxRecDepth 4000 in
theorem lQ_home {l : Launch} {g : GG} {S w : Wd} {A : HA} {n b : Nat} (hA : hget S 1 = A) (hR : RM S w) (hI : IVA n b A) (hb : b + 200 ≤ 99999) : ∀ (m : Nat) (i : Nat), (200 - i < m) → (i ≤ 200) → Go l g Q_home 13 [some (.ref (g.1 33)), some (.int (nI i))] [] (mput (hoursF 0 n i A) (ax (mrow A (w 34)) w)) (IsQ (orN (firstF (homeP n A) i (201 - i)) S) w) := by
  intro m
  induction m with
  | zero => intro i hm hi; omega
  | succ m ih =>
    intro i hm hi
    refine g_iload_n dQ_home_13 rfl ?_
    refine g_sipush (v := 200) dQ_home_14 (by decide) ?_
    refine g_icmp_ge dQ_home_17 rfl (fun h17 => ?_) (fun h17 => ?_)
    · rw [show (200 : Int32) = nI 200 from rfl, nI_leI (by omega) (by omega)] at h17
      refine g_aload_n dQ_home_37 rfl ?_
      refine g_aload_n dQ_home_38 rfl ?_
      refine g_aload_n dQ_home_39 rfl ?_
      refine gV0 dQ_home_40 kQ_home_212 rfl rfl (cQ_areHome (n := n) (hours_IV hI i (by omega)).n6 hI.n8) (Nat.le_of_ble_eq_true rfl) ?_
      refine g_if_eq dQ_home_43 rfl (fun h43 => ?_) (fun h43 => ?_)
      · have h43 := bI_0.mp h43
        refine g_iconst (v := (-1)) dQ_home_50 (by decide) ?_
        refine gV1 dQ_home_51 kQ_home_203 rfl rfl cQ_putBack (Nat.le_of_ble_eq_true rfl) ?_
        refine g_w copy_out ?_
        refine gV1 dQ_home_54 kQ_home_142 rfl rfl cQ_orNone (Nat.le_of_ble_eq_true rfl) ?_
        first
          | rw [if_pos (by decide), if_pos (by decide)]
          | rw [if_neg (nI_pos (by omega)), if_neg (nI_pos (by omega))]
        refine g_iret dQ_home_57 rfl rfl ?_
        first
          | exact IsQ_R36 hA hR (by rw [show 201 - i = (200 - i) + 1 by omega, firstF, if_pos h43, orN, if_neg (nIne (by omega))])
          | exact absurd h24 h43
          | exact IsQ_F36 (q := 3) hA hR (by decide) (by rw [show 201 - i = 0 + 1 by omega, firstF, if_neg h43]; rfl)
      · have h43 := Classical.not_not.mp (fun z => h43 (bI_0.mpr z))
        refine g_iload_n dQ_home_46 rfl ?_
        refine g_goto dQ_home_47 rfl ?_
        refine gV1 dQ_home_51 kQ_home_203 rfl rfl cQ_putBack (Nat.le_of_ble_eq_true rfl) ?_
        refine g_w copy_out ?_
        refine gV1 dQ_home_54 kQ_home_142 rfl rfl cQ_orNone (Nat.le_of_ble_eq_true rfl) ?_
        first
          | rw [if_pos (by decide), if_pos (by decide)]
          | rw [if_neg (nI_pos (by omega)), if_neg (nI_pos (by omega))]
        refine g_iret dQ_home_57 rfl rfl ?_
        first
          | exact IsQ_R36 hA hR (by rw [show 201 - i = (200 - i) + 1 by omega, firstF, if_pos h43, orN, if_neg (nIne (by omega))])
          | exact absurd h24 h43
          | exact IsQ_F36 (q := 3) hA hR (by decide) (by rw [show 201 - i = 0 + 1 by omega, firstF, if_neg h43]; rfl)
    · rw [show (200 : Int32) = nI 200 from rfl, nI_leI (by omega) (by omega)] at h17
      refine g_aload_n dQ_home_20 rfl ?_
      refine gV0 dQ_home_21 kQ_home_212 rfl rfl (cQ_areHome (n := n) (hours_IV hI i (by omega)).n6 hI.n8) (Nat.le_of_ble_eq_true rfl) ?_
      refine g_if_ne dQ_home_24 rfl (fun h24 => ?_) (fun h24 => ?_)
      · have h24 := Classical.not_not.mp (fun z => h24 (bI_0.mpr z))
        refine g_aload_n dQ_home_37 rfl ?_
        refine g_aload_n dQ_home_38 rfl ?_
        refine g_aload_n dQ_home_39 rfl ?_
        refine gV0 dQ_home_40 kQ_home_212 rfl rfl (cQ_areHome (n := n) (hours_IV hI i (by omega)).n6 hI.n8) (Nat.le_of_ble_eq_true rfl) ?_
        refine g_if_eq dQ_home_43 rfl (fun h43 => ?_) (fun h43 => ?_)
        · have h43 := bI_0.mp h43
          refine g_iconst (v := (-1)) dQ_home_50 (by decide) ?_
          refine gV1 dQ_home_51 kQ_home_203 rfl rfl cQ_putBack (Nat.le_of_ble_eq_true rfl) ?_
          refine g_w copy_out ?_
          refine gV1 dQ_home_54 kQ_home_142 rfl rfl cQ_orNone (Nat.le_of_ble_eq_true rfl) ?_
          first
            | rw [if_pos (by decide), if_pos (by decide)]
            | rw [if_neg (nI_pos (by omega)), if_neg (nI_pos (by omega))]
          refine g_iret dQ_home_57 rfl rfl ?_
          first
            | exact IsQ_R36 hA hR (by rw [show 201 - i = (200 - i) + 1 by omega, firstF, if_pos h43, orN, if_neg (nIne (by omega))])
            | exact absurd h24 h43
            | exact IsQ_F36 (q := 3) hA hR (by decide) (by rw [show 201 - i = 0 + 1 by omega, firstF, if_neg h43]; rfl)
        · have h43 := Classical.not_not.mp (fun z => h43 (bI_0.mpr z))
          refine g_iload_n dQ_home_46 rfl ?_
          refine g_goto dQ_home_47 rfl ?_
          refine gV1 dQ_home_51 kQ_home_203 rfl rfl cQ_putBack (Nat.le_of_ble_eq_true rfl) ?_
          refine g_w copy_out ?_
          refine gV1 dQ_home_54 kQ_home_142 rfl rfl cQ_orNone (Nat.le_of_ble_eq_true rfl) ?_
          first
            | rw [if_pos (by decide), if_pos (by decide)]
            | rw [if_neg (nI_pos (by omega)), if_neg (nI_pos (by omega))]
          refine g_iret dQ_home_57 rfl rfl ?_
          first
            | exact IsQ_R36 hA hR (by rw [show 201 - i = (200 - i) + 1 by omega, firstF, if_pos h43, orN, if_neg (nIne (by omega))])
            | exact absurd h24 h43
            | exact IsQ_F36 (q := 3) hA hR (by decide) (by rw [show 201 - i = 0 + 1 by omega, firstF, if_neg h43]; rfl)
      · have h24 := bI_0.mp h24
        refine g_aload_n dQ_home_27 rfl ?_
        refine gV0v dQ_home_28 kQ_home_187 rfl rfl (eQ_hour (b := b + i) (hours_IV hI i (by omega)) (by omega) hR.te) (Nat.le_of_ble_eq_true rfl) ?_
        refine g_iinc (v := nI (i + 1)) dQ_home_31 rfl (nI_succ i).symm (by decide) rfl rfl ?_
        dsimp only [List.set]
        refine g_goto dQ_home_34 rfl ?_
        refine g_mono (fun r w2 h => ?_) (ih (i + 1) (by omega) (by omega))
        rw [show 201 - i = (201 - (i + 1)) + 1 by omega, firstF, if_neg h24]
        exact h

set_option maxRecDepth 4000 in
theorem cQ_home {l : Launch} {g : GG} {S w : Wd} {A : HA} {n b : Nat} (hA : hget S 1 = A) (hR : RM S w) (hI : IVA n b A) (hb : b + 200 ≤ 99999) : Res l g Q_home [.ref (g.1 33)] (mput A w) (IsQ (homeC n S) w) := by
  refine Res.of (by decide) (by simp [Value.category]) (Nat.le_of_ble_eq_true rfl) rfl ?_
  show Go l g Q_home 0 [some (.ref (g.1 33)), none] [] (mput A w) _
  refine g_aload_n dQ_home_0 rfl ?_
  refine g_getR2 (k2 := 34) dQ_home_1 fQ_9 rfl rfl (by decide) rfl ?_
  refine g_aload_n dQ_home_4 rfl ?_
  refine g_getR2 (k2 := 36) dQ_home_5 fQ_16 rfl rfl (by decide) rfl ?_
  refine g_w (w1 := mput A (ax (w 36) w)) (by rw [ax_self]) ?_
  refine gS2v dQ_home_8 kQ_home_70 (cQ_copyRow (a := 34) (b := 36) rfl rfl (by decide)) (Nat.le_of_ble_eq_true rfl) ?_
  refine g_w copy_in ?_
  refine g_iconst (v := 0) dQ_home_11 (by decide) ?_
  refine g_istore_n dQ_home_12 (by decide) rfl rfl ?_
  dsimp only [List.set]
  refine g_mono (fun r w2 h => ?_) (lQ_home hA hR hI hb 201 0 (by omega) (by omega))
  rw [homeC, hA]
  exact h
