theorem sfld_sfld (A : HA) {f : Nat} (hf : f < 5) (j : Nat) (u v : Int32) : sfld (sfld A f j u) f j v = sfld A f j v := by
  refine c5 (P := fun f => sfld (sfld A f j u) f j v = sfld A f j v) (by omega) ?_ ?_ ?_ ?_ ?_
  · exact sK_sK A j u v
  · show (_, _, upd (upd A.2.2.1 j u) j v, _) = _
    rw [upd_upd]; rfl
  · show (_, _, _, upd (upd A.2.2.2.1 j u) j v, _) = _
    rw [upd_upd]; rfl
  · show (_, _, _, _, upd (upd A.2.2.2.2.1 j u) j v, _) = _
    rw [upd_upd]; rfl
  · show (_, _, _, _, _, upd (upd A.2.2.2.2.2 j u) j v) = _
    rw [upd_upd]; rfl
theorem sfld_id (A : HA) {f : Nat} (hf : f < 5) (j : Nat) : sfld A f j (fld A f j) = A := by
  refine c5 (P := fun f => sfld A f j (fld A f j) = A) (by omega) ?_ ?_ ?_ ?_ ?_
  · exact sK_id A j
  · show (_, _, upd A.2.2.1 j (A.2.2.1 j), _) = A
    rw [upd_id]
  · show (_, _, _, upd A.2.2.2.1 j (A.2.2.2.1 j), _) = A
    rw [upd_id]
  · show (_, _, _, _, upd A.2.2.2.2.1 j (A.2.2.2.2.1 j), _) = A
    rw [upd_id]
  · show (_, _, _, _, _, upd A.2.2.2.2.2 j (A.2.2.2.2.2 j)) = A
    rw [upd_id]
/-- what a sheet lacks: the finding's place, 7: nothing -/
def lkN (S : Wd) (s : Int32) (c : Prop) [Decidable c] : Nat := if okSh s then (if shB S s = 0 then 5 else if c then 7 else 0) else 0
def lkI (q : Nat) : Int32 := if q = 7 then 0 else -1000001 - nI q
theorem lkN_c (S : Wd) (s : Int32) (c : Prop) [Decidable c] : lkN S s c = 7 ∨ lkN S s c = 5 ∨ lkN S s c = 0 := by
  unfold lkN
  repeat' split
  all_goals simp
theorem lkI_0 {q : Nat} (h : q = 7 ∨ q = 5 ∨ q = 0) : lkI q = 0 ↔ q = 7 := by
  rcases h with rfl | rfl | rfl
  · exact ⟨fun _ => rfl, fun _ => rfl⟩
  · exact ⟨fun z => absurd z (by decide), fun z => absurd z (by decide)⟩
  · exact ⟨fun z => absurd z (by decide), fun z => absurd z (by decide)⟩
theorem lkI_n {q : Nat} (h : ¬ q = 7) : lkI q = -1000001 - nI q := if_neg h
theorem sh_q {s : Int32} (h : okSh s) : ∃ q, q < 4 ∧ s = nI q := by
  obtain ⟨q, hq, e⟩ := nI_of2 (x := s) (M := 3) (n := 3) rfl (Int32.not_lt.mpr h.1) h.2
  exact ⟨q, by omega, e⟩
theorem told01 (n z : Nat) (f : Nat → Int32) (x : HA → Int32) : ∀ m i A, toldF n z f x m i A = 0 ∨ toldF n z f x m i A = 1
  | 0, _, _ => Or.inr rfl
  | m + 1, i, A => by
    unfold toldF
    split
    · split
      · exact told01 n z f x m _ _
      · exact Or.inl rfl
    · exact Or.inr rfl
set_option maxRecDepth 4000 in
theorem cQ_lacks {l : Launch} {g : GG} {S w : Wd} {A : HA} (hR : RM S w) {s : Int32} {c : Prop} [Decidable c] : Res l g Q_lacks [.ref (g.1 33), .int s, .int (bI c)] (mput A w) (Is (some (.int (lkI (lkN S s c)))) (mput A w)) := by
  refine Res.of (by decide) (by simp [Value.category]) (Nat.le_of_ble_eq_true rfl) rfl ?_
  show Go l g Q_lacks 0 [some (.ref (g.1 33)), some (.int s), some (.int (bI c))] [] (mput A w) _
  refine g_iload_n dQ_lacks_0 rfl ?_
  refine gS1 dQ_lacks_1 kQ_lacks_231 cQ_isSheet (Nat.le_of_ble_eq_true rfl) ?_
  refine g_if_ne dQ_lacks_4 rfl (fun h4 => ?_) (fun h4 => ?_)
  · have h4 := Classical.not_not.mp (fun z => h4 (bI_0.mpr z))
    obtain ⟨q, hq, eq⟩ := sh_q h4
    subst eq
    have hb : w 44 q = shB S (nI q) := by unfold shB; rw [nI_clamp (by omega)]; exact (hR.sh q hq).1
    refine g_aload_n dQ_lacks_12 rfl ?_
    refine g_getR2 (k2 := 44) dQ_lacks_13 fQ_57 rfl rfl (by decide) rfl ?_
    refine g_iload_n dQ_lacks_16 rfl ?_
    refine g_ialdN (i := q) dQ_lacks_17 rfl hq (by decide) ?_
    refine g_top (y := shB S (nI q)) hb ?_
    refine g_if_ne dQ_lacks_18 rfl (fun h18 => ?_) (fun h18 => ?_)
    · refine g_iload_n dQ_lacks_26 rfl ?_
      refine g_if_eq dQ_lacks_27 rfl (fun h27 => ?_) (fun h27 => ?_)
      · rw [bI_0] at h27
        refine g_ldc dQ_lacks_34 fQ_69 ?_
        refine g_iret dQ_lacks_36 rfl rfl ?_
        first
          | exact ⟨by rw [lkN, if_neg h4]; rfl, rfl⟩
          | exact ⟨by rw [lkN, if_pos h4, if_pos h18]; rfl, rfl⟩
          | exact ⟨by rw [lkN, if_pos h4, if_neg h18, if_neg h27]; rfl, rfl⟩
          | exact ⟨by rw [lkN, if_pos h4, if_neg h18, if_pos (Classical.not_not.mp h27)]; rfl, rfl⟩
      · rw [bI_0] at h27
        refine g_iconst (v := 0) dQ_lacks_30 (by decide) ?_
        refine g_goto dQ_lacks_31 rfl ?_
        refine g_iret dQ_lacks_36 rfl rfl ?_
        first
          | exact ⟨by rw [lkN, if_neg h4]; rfl, rfl⟩
          | exact ⟨by rw [lkN, if_pos h4, if_pos h18]; rfl, rfl⟩
          | exact ⟨by rw [lkN, if_pos h4, if_neg h18, if_neg h27]; rfl, rfl⟩
          | exact ⟨by rw [lkN, if_pos h4, if_neg h18, if_pos (Classical.not_not.mp h27)]; rfl, rfl⟩
    · refine g_ldc dQ_lacks_21 fQ_234 ?_
      refine g_goto dQ_lacks_23 rfl ?_
      refine g_iret dQ_lacks_36 rfl rfl ?_
      first
        | exact ⟨by rw [lkN, if_neg h4]; rfl, rfl⟩
        | exact ⟨by rw [lkN, if_pos h4, if_pos h18]; rfl, rfl⟩
        | exact ⟨by rw [lkN, if_pos h4, if_neg h18, if_neg h27]; rfl, rfl⟩
        | exact ⟨by rw [lkN, if_pos h4, if_neg h18, if_pos (Classical.not_not.mp h27)]; rfl, rfl⟩
  · have h4 := bI_0.mp h4
    refine g_ldc dQ_lacks_7 fQ_69 ?_
    refine g_goto dQ_lacks_9 rfl ?_
    refine g_iret dQ_lacks_36 rfl rfl ?_
    first
      | exact ⟨by rw [lkN, if_neg h4]; rfl, rfl⟩
      | exact ⟨by rw [lkN, if_pos h4, if_pos h18]; rfl, rfl⟩
      | exact ⟨by rw [lkN, if_pos h4, if_neg h18, if_neg h27]; rfl, rfl⟩
      | exact ⟨by rw [lkN, if_pos h4, if_neg h18, if_pos (Classical.not_not.mp h27)]; rfl, rfl⟩

set_option maxRecDepth 4000 in
theorem lQ_told0 {l : Launch} {g : GG} {w : Wd} {A : HA} {n b : Nat} (hw : w 33 5 = 0) {q : Nat} (hq : q < 4) {z : Nat} (hz : z ≤ 40) (ez : w 45 q = nI z) {ff : Nat → Int32} (hff : ∀ i, i < 40 → w 46 (40 * q + i) = ff i) {pl : Nat} (hpl : pl < 58) {xx : HA → Int32} (hx : ∀ B, mrow B (w 34) pl = xx B) (hb : b + 41 ≤ 99999) {H : HA} {i : Nat} : Go l g Q_isToldWay 16 [some (.ref (g.1 33)), some (.int (nI q)), some (.int (nI pl)), some (.int 0), some (.int (nI i)), none] [] (mput H (ax (mrow A (w 34)) w)) (IsA 0 A w) := by
  refine g_iload dQ_isToldWay_16 rfl ?_
  refine g_aload_n dQ_isToldWay_18 rfl ?_
  refine g_getR2 (k2 := 45) dQ_isToldWay_19 fQ_60 rfl rfl (by decide) rfl ?_
  refine g_iload_n dQ_isToldWay_22 rfl ?_
  refine g_ialdN (i := q) dQ_isToldWay_23 rfl hq (by decide) ?_
  refine g_top (y := nI z) ez ?_
  refine g_icmp_ge dQ_isToldWay_24 rfl (fun h24 => ?_) (fun h24 => ?_)
  · refine g_aload_n dQ_isToldWay_78 rfl ?_
    refine g_getR2 (k2 := 36) dQ_isToldWay_79 fQ_16 rfl rfl (by decide) rfl ?_
    refine g_aload_n dQ_isToldWay_82 rfl ?_
    refine g_getR2 (k2 := 34) dQ_isToldWay_83 fQ_9 rfl rfl (by decide) rfl ?_
    refine gS2v dQ_isToldWay_86 kQ_isToldWay_70 (cQ_copyRow (a := 36) (b := 34) rfl rfl (by decide)) (Nat.le_of_ble_eq_true rfl) ?_
    refine g_w copy_out ?_
    refine g_iload_n dQ_isToldWay_89 rfl ?_
    refine g_iret dQ_isToldWay_90 rfl (by first | rfl | exact bI_n) ?_
    exact ⟨rfl, _, rfl⟩
  · refine g_iload_n dQ_isToldWay_27 rfl ?_
    refine g_if_eq dQ_isToldWay_28 rfl (fun h28 => ?_) (fun h28 => ?_)
    · refine g_aload_n dQ_isToldWay_78 rfl ?_
      refine g_getR2 (k2 := 36) dQ_isToldWay_79 fQ_16 rfl rfl (by decide) rfl ?_
      refine g_aload_n dQ_isToldWay_82 rfl ?_
      refine g_getR2 (k2 := 34) dQ_isToldWay_83 fQ_9 rfl rfl (by decide) rfl ?_
      refine gS2v dQ_isToldWay_86 kQ_isToldWay_70 (cQ_copyRow (a := 36) (b := 34) rfl rfl (by decide)) (Nat.le_of_ble_eq_true rfl) ?_
      refine g_w copy_out ?_
      refine g_iload_n dQ_isToldWay_89 rfl ?_
      refine g_iret dQ_isToldWay_90 rfl (by first | rfl | exact bI_n) ?_
      exact ⟨rfl, _, rfl⟩
    · exact absurd h28 (by decide)

set_option maxRecDepth 4000 in
theorem lQ_told {l : Launch} {g : GG} {w : Wd} {A : HA} {n b : Nat} (hw : w 33 5 = 0) {q : Nat} (hq : q < 4) {z : Nat} (hz : z ≤ 40) (ez : w 45 q = nI z) {ff : Nat → Int32} (hff : ∀ i, i < 40 → w 46 (40 * q + i) = ff i) {pl : Nat} (hpl : pl < 58) {xx : HA → Int32} (hx : ∀ B, mrow B (w 34) pl = xx B) (hb : b + 41 ≤ 99999) : ∀ (m : Nat) (i : Nat) (H : HA), (z - i < m) → (i ≤ z) → (IVA n (b + i) H) → Go l g Q_isToldWay 16 [some (.ref (g.1 33)), some (.int (nI q)), some (.int (nI pl)), some (.int 1), some (.int (nI i)), none] [] (mput H (ax (mrow A (w 34)) w)) (IsA (toldF n z ff xx (41 - i) i H) A w) := by
  intro m
  induction m with
  | zero => intro i H hm hi hH; omega
  | succ m ih =>
    intro i H hm hi hH
    refine g_iload dQ_isToldWay_16 rfl ?_
    refine g_aload_n dQ_isToldWay_18 rfl ?_
    refine g_getR2 (k2 := 45) dQ_isToldWay_19 fQ_60 rfl rfl (by decide) rfl ?_
    refine g_iload_n dQ_isToldWay_22 rfl ?_
    refine g_ialdN (i := q) dQ_isToldWay_23 rfl hq (by decide) ?_
    refine g_top (y := nI z) ez ?_
    refine g_icmp_ge dQ_isToldWay_24 rfl (fun h24 => ?_) (fun h24 => ?_)
    · rw [nI_leI (by omega) (by omega)] at h24
      refine g_aload_n dQ_isToldWay_78 rfl ?_
      refine g_getR2 (k2 := 36) dQ_isToldWay_79 fQ_16 rfl rfl (by decide) rfl ?_
      refine g_aload_n dQ_isToldWay_82 rfl ?_
      refine g_getR2 (k2 := 34) dQ_isToldWay_83 fQ_9 rfl rfl (by decide) rfl ?_
      refine gS2v dQ_isToldWay_86 kQ_isToldWay_70 (cQ_copyRow (a := 36) (b := 34) rfl rfl (by decide)) (Nat.le_of_ble_eq_true rfl) ?_
      refine g_w copy_out ?_
      refine g_iload_n dQ_isToldWay_89 rfl ?_
      refine g_iret dQ_isToldWay_90 rfl (by first | rfl | exact bI_n) ?_
      exact ⟨by rw [show 41 - i = (40 - i) + 1 by omega, toldF, if_neg (by omega)], _, rfl⟩
    · rw [nI_leI (by omega) (by omega)] at h24
      refine g_iload_n dQ_isToldWay_27 rfl ?_
      refine g_if_eq dQ_isToldWay_28 rfl (fun h28 => ?_) (fun h28 => ?_)
      · exact absurd h28 (by decide)
      · refine g_aload_n dQ_isToldWay_31 rfl ?_
        refine g_getR2 (k2 := 46) dQ_isToldWay_32 fQ_63 rfl rfl (by decide) rfl ?_
        refine g_bipush (v := 40) dQ_isToldWay_35 (by decide) ?_
        refine g_iload_n dQ_isToldWay_37 rfl ?_
        refine g_imul dQ_isToldWay_38 ?_
        refine g_iload dQ_isToldWay_39 rfl ?_
        refine g_iadd dQ_isToldWay_41 ?_
        refine g_top (y := nI (40 * q + i)) (by rw [show (40 : Int32) = nI 40 from rfl, pk_mul, nI_add]) ?_
        refine g_ialdN (i := (40 * q + i)) dQ_isToldWay_42 rfl (by omega) (by decide) ?_
        refine g_top (y := ff i) (hff i (by omega)) ?_
        refine g_istore dQ_isToldWay_43 (by decide) rfl rfl ?_
        dsimp only [List.set]
        refine g_iload dQ_isToldWay_45 rfl ?_
        refine g_iconst (v := (-1)) dQ_isToldWay_47 (by decide) ?_
        refine g_icmp_eq dQ_isToldWay_48 rfl (fun h48 => ?_) (fun h48 => ?_)
        · refine g_iconst (v := 1) dQ_isToldWay_62 (by decide) ?_
          refine g_goto dQ_isToldWay_63 rfl ?_
          refine g_istore_n dQ_isToldWay_67 (by decide) rfl rfl ?_
          dsimp only [List.set]
          refine g_aload_n dQ_isToldWay_68 rfl ?_
          refine gV0v dQ_isToldWay_69 kQ_isToldWay_187 rfl rfl (eQ_hour (b := b + i) hH (by omega) hw) (Nat.le_of_ble_eq_true rfl) ?_
          refine g_iinc (v := nI (i + 1)) dQ_isToldWay_72 rfl (nI_succ i).symm (by decide) rfl rfl ?_
          dsimp only [List.set]
          refine g_goto dQ_isToldWay_75 rfl ?_
          refine g_drop 5 rfl ?_
          dsimp only [List.set]
          first
            | exact g_mono (fun r w2 hh => by rw [show 41 - i = (41 - (i + 1)) + 1 by omega, toldF, if_pos (by omega), if_pos (by grind)]; exact hh) (ih (i + 1) _ (by omega) (by omega) (hour_IV (b := b + i) hH (by omega)))
            | exact g_mono (fun r w2 hh => by rw [show 41 - i = (41 - (i + 1)) + 1 by omega, toldF, if_pos (by omega), if_neg (by grind)]; exact hh) (lQ_told0 (n := n) hw hq hz ez hff hpl hx hb)
        · refine g_iload dQ_isToldWay_51 rfl ?_
          refine g_aload_n dQ_isToldWay_53 rfl ?_
          refine g_getR2 (k2 := 34) dQ_isToldWay_54 fQ_9 rfl rfl (by decide) rfl ?_
          refine g_iload_n dQ_isToldWay_57 rfl ?_
          refine g_ialdN (i := pl) dQ_isToldWay_58 rfl hpl (by decide) ?_
          refine g_top (y := xx H) (by rw [mput_34]; exact hx H) ?_
          refine g_icmp_ne dQ_isToldWay_59 rfl (fun h59 => ?_) (fun h59 => ?_)
          · refine g_iconst (v := 0) dQ_isToldWay_66 (by decide) ?_
            refine g_istore_n dQ_isToldWay_67 (by decide) rfl rfl ?_
            dsimp only [List.set]
            refine g_aload_n dQ_isToldWay_68 rfl ?_
            refine gV0v dQ_isToldWay_69 kQ_isToldWay_187 rfl rfl (eQ_hour (b := b + i) hH (by omega) hw) (Nat.le_of_ble_eq_true rfl) ?_
            refine g_iinc (v := nI (i + 1)) dQ_isToldWay_72 rfl (nI_succ i).symm (by decide) rfl rfl ?_
            dsimp only [List.set]
            refine g_goto dQ_isToldWay_75 rfl ?_
            refine g_drop 5 rfl ?_
            dsimp only [List.set]
            first
              | exact g_mono (fun r w2 hh => by rw [show 41 - i = (41 - (i + 1)) + 1 by omega, toldF, if_pos (by omega), if_pos (by grind)]; exact hh) (ih (i + 1) _ (by omega) (by omega) (hour_IV (b := b + i) hH (by omega)))
              | exact g_mono (fun r w2 hh => by rw [show 41 - i = (41 - (i + 1)) + 1 by omega, toldF, if_pos (by omega), if_neg (by grind)]; exact hh) (lQ_told0 (n := n) hw hq hz ez hff hpl hx hb)
          · refine g_iconst (v := 1) dQ_isToldWay_62 (by decide) ?_
            refine g_goto dQ_isToldWay_63 rfl ?_
            refine g_istore_n dQ_isToldWay_67 (by decide) rfl rfl ?_
            dsimp only [List.set]
            refine g_aload_n dQ_isToldWay_68 rfl ?_
            refine gV0v dQ_isToldWay_69 kQ_isToldWay_187 rfl rfl (eQ_hour (b := b + i) hH (by omega) hw) (Nat.le_of_ble_eq_true rfl) ?_
            refine g_iinc (v := nI (i + 1)) dQ_isToldWay_72 rfl (nI_succ i).symm (by decide) rfl rfl ?_
            dsimp only [List.set]
            refine g_goto dQ_isToldWay_75 rfl ?_
            refine g_drop 5 rfl ?_
            dsimp only [List.set]
            first
              | exact g_mono (fun r w2 hh => by rw [show 41 - i = (41 - (i + 1)) + 1 by omega, toldF, if_pos (by omega), if_pos (by grind)]; exact hh) (ih (i + 1) _ (by omega) (by omega) (hour_IV (b := b + i) hH (by omega)))
              | exact g_mono (fun r w2 hh => by rw [show 41 - i = (41 - (i + 1)) + 1 by omega, toldF, if_pos (by omega), if_neg (by grind)]; exact hh) (lQ_told0 (n := n) hw hq hz ez hff hpl hx hb)

set_option maxRecDepth 4000 in
theorem cQ_isToldWay {l : Launch} {g : GG} {w : Wd} {A : HA} {n b : Nat} (hw : w 33 5 = 0) {q : Nat} (hq : q < 4) {z : Nat} (hz : z ≤ 40) (ez : w 45 q = nI z) {ff : Nat → Int32} (hff : ∀ i, i < 40 → w 46 (40 * q + i) = ff i) {pl : Nat} (hpl : pl < 58) {xx : HA → Int32} (hx : ∀ B, mrow B (w 34) pl = xx B) (hb : b + 41 ≤ 99999) (hI : IVA n b A) {r0 : Nat → Int32} : Res l g Q_isToldWay [.ref (g.1 33), .int (nI q), .int (nI pl)] (mput A (ax r0 w)) (IsA (toldF n z ff xx 41 0 A) A w) := by
  refine Res.of (by decide) (by simp [Value.category]) (Nat.le_of_ble_eq_true rfl) rfl ?_
  show Go l g Q_isToldWay 0 [some (.ref (g.1 33)), some (.int (nI q)), some (.int (nI pl)), none, none, none] [] (mput A (ax r0 w)) _
  refine g_aload_n dQ_isToldWay_0 rfl ?_
  refine g_getR2 (k2 := 34) dQ_isToldWay_1 fQ_9 rfl rfl (by decide) rfl ?_
  refine g_aload_n dQ_isToldWay_4 rfl ?_
  refine g_getR2 (k2 := 36) dQ_isToldWay_5 fQ_16 rfl rfl (by decide) rfl ?_
  refine gS2v dQ_isToldWay_8 kQ_isToldWay_70 (cQ_copyRow (a := 34) (b := 36) rfl rfl (by decide)) (Nat.le_of_ble_eq_true rfl) ?_
  refine g_w copy_in ?_
  refine g_iconst (v := 1) dQ_isToldWay_11 (by decide) ?_
  refine g_istore_n dQ_isToldWay_12 (by decide) rfl rfl ?_
  dsimp only [List.set]
  refine g_iconst (v := 0) dQ_isToldWay_13 (by decide) ?_
  refine g_istore dQ_isToldWay_14 (by decide) rfl rfl ?_
  dsimp only [List.set]
  exact lQ_told hw hq hz ez hff hpl hx hb 41 0 A (by omega) (by omega) hI

set_option maxRecDepth 4000 in
theorem lQ_valuesFor {l : Launch} {g : GG} {w : Wd} {A : HA} {n b : Nat} (hw : w 33 5 = 0) {q : Nat} (hq : q < 4) {z : Nat} (hz : z ≤ 40) (ez : w 45 q = nI z) {ff : Nat → Int32} (hff : ∀ i, i < 40 → w 46 (40 * q + i) = ff i) {pl : Nat} (hpl : pl < 58) {xx : HA → Int32} (hx : ∀ B, mrow B (w 34) pl = xx B) (hb : b + 41 ≤ 99999) {f j : Nat} (hf : f < 5) (hj : j < 8) {mt : Nat} (hmt : mt < 16) (hs : ∀ v, v ≤ mt → IVA n b (sfld A f j (nI v))) {V : Nat → Int32} (hV : ∀ v, v ≤ mt → toldF n z ff xx 41 0 (sfld A f j (nI v)) = V v) : ∀ (m : Nat) (v : Nat) (y : Int32) (r : Nat → Int32), (mt + 1 - v < m) → (v ≤ mt + 1) → Go l g Q_valuesFor 14 [some (.ref (g.1 33)), some (.int (nI (18 + 5 * j + f))), some (.int (nI mt)), some (.int (nI q)), some (.int (nI pl)), some (.int (fld A f j)), some (.int (waysF V v)), some (.int (nI v))] [] (mput (sfld A f j y) (ax r w)) (IsA (waysF V (mt + 1)) A w) := by
  intro m
  induction m with
  | zero => intro v y r hm hv; omega
  | succ m ih =>
    intro v y r hm hv
    refine g_iload dQ_valuesFor_14 rfl ?_
    refine g_iload_n dQ_valuesFor_16 rfl ?_
    refine g_icmp_gt dQ_valuesFor_17 rfl (fun h17 => ?_) (fun h17 => ?_)
    · rw [nI_ltI (by omega) (by omega)] at h17
      obtain rfl : v = mt + 1 := by omega
      refine g_aload_n dQ_valuesFor_57 rfl ?_
      refine g_getR2 (k2 := 34) dQ_valuesFor_58 fQ_9 rfl rfl (by decide) rfl ?_
      refine g_iload_n dQ_valuesFor_61 rfl ?_
      refine g_iload dQ_valuesFor_62 rfl ?_
      refine g_ms (f := f) dQ_valuesFor_64 hf hj ?_
      rw [sfld_sfld A hf, sfld_id A hf]
      refine g_iload dQ_valuesFor_65 rfl ?_
      refine g_iret dQ_valuesFor_67 rfl rfl ?_
      exact ⟨rfl, _, rfl⟩
    · rw [nI_ltI (by omega) (by omega)] at h17
      refine g_aload_n dQ_valuesFor_20 rfl ?_
      refine g_getR2 (k2 := 34) dQ_valuesFor_21 fQ_9 rfl rfl (by decide) rfl ?_
      refine g_iload_n dQ_valuesFor_24 rfl ?_
      refine g_iload dQ_valuesFor_25 rfl ?_
      refine g_ms (f := f) dQ_valuesFor_27 hf hj ?_
      rw [sfld_sfld A hf]
      refine g_iload dQ_valuesFor_28 rfl ?_
      refine g_aload_n dQ_valuesFor_30 rfl ?_
      refine g_iload_n dQ_valuesFor_31 rfl ?_
      refine g_iload dQ_valuesFor_32 rfl ?_
      refine gV2q dQ_valuesFor_34 kQ_valuesFor_235 rfl rfl (cQ_isToldWay hw hq hz ez hff hpl hx hb (hs v (by omega))) (Nat.le_of_ble_eq_true rfl) (fun r1 w1 q1 => ?_)
      obtain ⟨rfl, r2, rfl⟩ := q1
      dsimp only [Option.toList, List.cons_append, List.nil_append]
      refine g_top (y := V v) (hV v (by omega)) ?_
      refine g_if_eq dQ_valuesFor_37 rfl (fun h37 => ?_) (fun h37 => ?_)
      · refine g_iconst (v := 0) dQ_valuesFor_47 (by decide) ?_
        refine g_ior dQ_valuesFor_48 ?_
        refine g_istore dQ_valuesFor_49 (by decide) rfl rfl ?_
        dsimp only [List.set]
        refine g_iinc (v := nI (v + 1)) dQ_valuesFor_51 rfl (nI_succ v).symm (by decide) rfl rfl ?_
        dsimp only [List.set]
        refine g_goto dQ_valuesFor_54 rfl ?_
        refine g_lv (lv1 := [some (.ref (g.1 33)), some (.int (nI (18 + 5 * j + f))), some (.int (nI mt)), some (.int (nI q)), some (.int (nI pl)), some (.int (fld A f j)), some (.int (waysF V (v + 1))), some (.int (nI (v + 1)))]) (by first | rw [waysF, if_pos h37, Int32.or_zero] | (rw [waysF, if_neg h37]; rfl)) ?_
        exact ih (v + 1) _ _ (by omega) (by omega)
      · refine g_iconst (v := 1) dQ_valuesFor_40 (by decide) ?_
        refine g_iload dQ_valuesFor_41 rfl ?_
        refine g_ishl dQ_valuesFor_43 ?_
        refine g_goto dQ_valuesFor_44 rfl ?_
        refine g_ior dQ_valuesFor_48 ?_
        refine g_istore dQ_valuesFor_49 (by decide) rfl rfl ?_
        dsimp only [List.set]
        refine g_iinc (v := nI (v + 1)) dQ_valuesFor_51 rfl (nI_succ v).symm (by decide) rfl rfl ?_
        dsimp only [List.set]
        refine g_goto dQ_valuesFor_54 rfl ?_
        refine g_lv (lv1 := [some (.ref (g.1 33)), some (.int (nI (18 + 5 * j + f))), some (.int (nI mt)), some (.int (nI q)), some (.int (nI pl)), some (.int (fld A f j)), some (.int (waysF V (v + 1))), some (.int (nI (v + 1)))]) (by first | rw [waysF, if_pos h37, Int32.or_zero] | (rw [waysF, if_neg h37]; rfl)) ?_
        exact ih (v + 1) _ _ (by omega) (by omega)

set_option maxRecDepth 4000 in
theorem cQ_valuesFor {l : Launch} {g : GG} {w : Wd} {A : HA} {n b : Nat} (hw : w 33 5 = 0) {q : Nat} (hq : q < 4) {z : Nat} (hz : z ≤ 40) (ez : w 45 q = nI z) {ff : Nat → Int32} (hff : ∀ i, i < 40 → w 46 (40 * q + i) = ff i) {pl : Nat} (hpl : pl < 58) {xx : HA → Int32} (hx : ∀ B, mrow B (w 34) pl = xx B) (hb : b + 41 ≤ 99999) {f j : Nat} (hf : f < 5) (hj : j < 8) {mt : Nat} (hmt : mt < 16) (hs : ∀ v, v ≤ mt → IVA n b (sfld A f j (nI v))) {V : Nat → Int32} (hV : ∀ v, v ≤ mt → toldF n z ff xx 41 0 (sfld A f j (nI v)) = V v) {r0 : Nat → Int32} : Res l g Q_valuesFor [.ref (g.1 33), .int (nI (18 + 5 * j + f)), .int (nI mt), .int (nI q), .int (nI pl)] (mput A (ax r0 w)) (IsA (waysF V (mt + 1)) A w) := by
  refine Res.of (by decide) (by simp [Value.category]) (Nat.le_of_ble_eq_true rfl) rfl ?_
  show Go l g Q_valuesFor 0 [some (.ref (g.1 33)), some (.int (nI (18 + 5 * j + f))), some (.int (nI mt)), some (.int (nI q)), some (.int (nI pl)), none, none, none] [] (mput A (ax r0 w)) _
  refine g_aload_n dQ_valuesFor_0 rfl ?_
  refine g_getR2 (k2 := 34) dQ_valuesFor_1 fQ_9 rfl rfl (by decide) rfl ?_
  refine g_iload_n dQ_valuesFor_4 rfl ?_
  refine g_ml (f := f) dQ_valuesFor_5 hf hj ?_
  refine g_istore dQ_valuesFor_6 (by decide) rfl rfl ?_
  dsimp only [List.set]
  refine g_iconst (v := 0) dQ_valuesFor_8 (by decide) ?_
  refine g_istore dQ_valuesFor_9 (by decide) rfl rfl ?_
  dsimp only [List.set]
  refine g_iconst (v := 0) dQ_valuesFor_11 (by decide) ?_
  refine g_istore dQ_valuesFor_12 (by decide) rfl rfl ?_
  dsimp only [List.set]
  refine g_w (w1 := mput (sfld A f j (fld A f j)) (ax r0 w)) (by rw [sfld_id A hf]) ?_
  exact lQ_valuesFor hw hq hz ez hff hpl hx hb hf hj hmt hs hV (mt + 2) 0 _ _ (by omega) (by omega)

theorem fitsC_f {S : Wd} {n : Nat} {s h : Int32} (e : ¬ lkN S s (hasP S h) = 7) : fitsC n s h S = fnd (lkN S s (hasP S h)) S := by
  unfold fitsC lkN at *
  by_cases h1 : okSh s
  · rw [if_pos h1] at e ⊢
    rw [if_pos h1]
    by_cases h2 : shB S s = 0
    · rw [if_pos h2, if_pos h2]
    · rw [if_neg h2] at e ⊢
      rw [if_neg h2]
      by_cases h3 : hasP S h
      · rw [if_pos h3] at e; exact absurd rfl e
      · rw [if_neg h3, if_neg h3]
  · rw [if_neg h1, if_neg h1]
theorem kindsC_f {S : Wd} {n : Nat} {s h : Int32} (e : ¬ lkN S s (hasP S h) = 7) : kindsC n s h S = fnd (lkN S s (hasP S h)) S := by
  unfold kindsC lkN at *
  by_cases h1 : okSh s
  · rw [if_pos h1] at e ⊢
    rw [if_pos h1]
    by_cases h2 : shB S s = 0
    · rw [if_pos h2, if_pos h2]
    · rw [if_neg h2] at e ⊢
      rw [if_neg h2]
      by_cases h3 : hasP S h
      · rw [if_pos h3] at e; exact absurd rfl e
      · rw [if_neg h3, if_neg h3]
  · rw [if_neg h1, if_neg h1]
theorem lk_7 {S : Wd} {s h : Int32} (e : lkN S s (hasP S h) = 7) : okSh s ∧ ¬ shB S s = 0 ∧ hasP S h := by
  unfold lkN at e
  by_cases h1 : okSh s
  · rw [if_pos h1] at e
    by_cases h2 : shB S s = 0
    · rw [if_pos h2] at e; cases e
    · rw [if_neg h2] at e
      by_cases h3 : hasP S h
      · exact ⟨h1, h2, h3⟩
      · rw [if_neg h3] at e; cases e
  · rw [if_neg h1] at e; cases e

set_option maxRecDepth 4000 in
theorem cQ_fits {l : Launch} {g : GG} {S w : Wd} {A : HA} {n b : Nat} (hA : hget S 1 = A) (hR : RM S w) (hI : IVA n b A) {s h : Int32} (hb : b + 41 ≤ 99999) (hzz : ∀ q, q < 4 → ∃ z, z ≤ 40 ∧ S (24 + 2 * q) 1 = nI z) : Res l g Q_fits [.ref (g.1 33), .int s, .int h] (mput A w) (IsQ (fitsC n s h S) w) := by
  have h8 := hI.n8
  refine Res.of (by decide) (by simp [Value.category]) (Nat.le_of_ble_eq_true rfl) rfl ?_
  show Go l g Q_fits 0 [some (.ref (g.1 33)), some (.int s), some (.int h), none] [] (mput A w) _
  refine g_aload_n dQ_fits_0 rfl ?_
  refine g_iload_n dQ_fits_1 rfl ?_
  refine g_aload_n dQ_fits_2 rfl ?_
  refine g_iload_n dQ_fits_3 rfl ?_
  refine gV1 dQ_fits_4 kQ_fits_119 rfl rfl (show Res l g Q_isSheep [.ref (g.1 33), .int h] (mput A w) (Is (some (.int (bI (hasP S h)))) (mput A w)) by show Res l g Q_isSheep [.ref (g.1 33), .int h] (mput A w) (Is (some (.int (bI (0 ≤ h ∧ h < S 1 6)))) (mput A w)); rw [gA1 hA]; exact eQ_isSheep hI) (Nat.le_of_ble_eq_true rfl) ?_
  refine gV2 dQ_fits_7 kQ_fits_238 rfl rfl (cQ_lacks hR) (Nat.le_of_ble_eq_true rfl) ?_
  have e12 := lkI_0 (lkN_c S s (hasP S h))
  have e12q : lkN S s (hasP S h) < 8 := by have := lkN_c S s (hasP S h); omega
  refine g_istore_n dQ_fits_10 (by decide) rfl rfl ?_
  dsimp only [List.set]
  refine g_iload_n dQ_fits_11 rfl ?_
  refine g_if_eq dQ_fits_12 rfl (fun h12 => ?_) (fun h12 => ?_)
  · have h7 := lk_7 (e12.mp h12)
    obtain ⟨q, hq, eq⟩ := sh_q h7.1
    subst eq
    have hsh := hR.sh q hq
    obtain ⟨z, hz, ez⟩ := hzz q hq
    have hp : 0 ≤ h ∧ h < S 1 6 := h7.2.2
    rw [gA1 hA] at hp
    obtain ⟨j, hj, ej⟩ := hasN hp.1 (show h < nI n from hI.n6 ▸ hp.2) (by omega)
    subst ej
    have eb : shZ S (nI q) = nI z := by unfold shZ; rw [nI_clamp (by omega)]; exact ez
    have en : ∀ i, i < 40 → w 46 (40 * q + i) = shN S (nI q) i := fun i hi => by unfold shN; rw [nI_clamp (by omega)]; exact hsh.2.2 i hi
    refine g_aload_n dQ_fits_21 rfl ?_
    refine g_getR2 (k2 := 34) dQ_fits_22 fQ_9 rfl rfl (by decide) rfl ?_
    refine g_bipush (v := 7) dQ_fits_25 (by decide) ?_
    refine g_mS (j := 2) (i := 7) dQ_fits_27 rfl (by decide) (by decide) ?_
    refine g_iload_n dQ_fits_28 rfl ?_
    refine g_icmp_ne dQ_fits_29 rfl (fun h29 => ?_) (fun h29 => ?_)
    · refine g_aload_n dQ_fits_41 rfl ?_
      refine g_iload_n dQ_fits_42 rfl ?_
      refine g_iconst (v := 1) dQ_fits_43 (by decide) ?_
      refine gS2 dQ_fits_44 kQ_fits_83 (cQ_sheepAt (f := 1)) (Nat.le_of_ble_eq_true rfl) ?_
      refine g_bipush (v := 15) dQ_fits_47 (by decide) ?_
      refine g_iload_n dQ_fits_49 rfl ?_
      refine g_iconst (v := 4) dQ_fits_50 (by decide) ?_
      refine g_w (w1 := mput A (ax (w 36) w)) (by rw [ax_self]) ?_
      refine gV4q dQ_fits_51 kQ_fits_242 rfl rfl (cQ_valuesFor hR.te hq hz (hsh.2.1.trans ez) en (pl := 4) (by omega) (xx := fun B => B.1 1) (fun B => rfl) hb (f := 1) (j := j) (by decide) (by omega) (mt := 15) (by decide) (fun v hv => hI.C (in15n (by omega))) (V := fitsV n z (shN S (nI q)) j A) (fun v hv => rfl)) (Nat.le_of_ble_eq_true rfl) (fun r1 w1 q1 => ?_)
      obtain ⟨rfl, r2, rfl⟩ := q1
      dsimp only [Option.toList, List.cons_append, List.nil_append]
      refine g_iret dQ_fits_54 rfl rfl ?_
      first
        | exact IsQ_R36 hA hR (by
            simp only [fitsC]
            rw [if_pos h7.1, if_neg h7.2.1, if_pos h7.2.2, gA1 hA, if_neg (fun zz => h29 zz.symm), eb, hA, nI_clamp (by omega), nI_clamp (by omega)])
        | exact IsQ_F hA hR (by decide) (by simp only [fitsC]; rw [if_pos h7.1, if_neg h7.2.1, if_pos h7.2.2, gA1 hA, if_pos h29.symm])
    · refine g_aload_n dQ_fits_32 rfl ?_
      refine g_ldc dQ_fits_33 fQ_141 ?_
      refine gV1 dQ_fits_35 kQ_fits_75 rfl rfl (cQ_finding (q := 4) (by decide)) (Nat.le_of_ble_eq_true rfl) ?_
      refine g_goto dQ_fits_38 rfl ?_
      refine g_iret dQ_fits_54 rfl rfl ?_
      first
        | exact IsQ_R36 hA hR (by
            simp only [fitsC]
            rw [if_pos h7.1, if_neg h7.2.1, if_pos h7.2.2, gA1 hA, if_neg (fun zz => h29 zz.symm), eb, hA, nI_clamp (by omega), nI_clamp (by omega)])
        | exact IsQ_F hA hR (by decide) (by simp only [fitsC]; rw [if_pos h7.1, if_neg h7.2.1, if_pos h7.2.2, gA1 hA, if_pos h29.symm])
  · have hq7 : lkN S s (hasP S h) < 7 := by
      have : ¬ lkN S s (hasP S h) = 7 := fun zz => h12 (e12.mpr zz)
      omega
    have hn7 : ¬ lkN S s (hasP S h) = 7 := by omega
    refine g_aload_n dQ_fits_15 rfl ?_
    refine g_iload_n dQ_fits_16 rfl ?_
    refine g_top (lkI_n hn7) ?_
    refine gV1 dQ_fits_17 kQ_fits_75 rfl rfl (cQ_finding (q := lkN S s (hasP S h)) hq7) (Nat.le_of_ble_eq_true rfl) ?_
    refine g_iret dQ_fits_20 rfl rfl ?_
    exact IsQ_F hA hR hq7 (fitsC_f hn7)

set_option maxRecDepth 4000 in
theorem cQ_kinds {l : Launch} {g : GG} {S w : Wd} {A : HA} {n b : Nat} (hA : hget S 1 = A) (hR : RM S w) (hI : IVA n b A) {s h : Int32} (hb : b + 41 ≤ 99999) (hzz : ∀ q, q < 4 → ∃ z, z ≤ 40 ∧ S (24 + 2 * q) 1 = nI z) : Res l g Q_kinds [.ref (g.1 33), .int s, .int h] (mput A w) (IsQ (kindsC n s h S) w) := by
  have h8 := hI.n8
  refine Res.of (by decide) (by simp [Value.category]) (Nat.le_of_ble_eq_true rfl) rfl ?_
  show Go l g Q_kinds 0 [some (.ref (g.1 33)), some (.int s), some (.int h), none] [] (mput A w) _
  refine g_aload_n dQ_kinds_0 rfl ?_
  refine g_iload_n dQ_kinds_1 rfl ?_
  refine g_aload_n dQ_kinds_2 rfl ?_
  refine g_iload_n dQ_kinds_3 rfl ?_
  refine gV1 dQ_kinds_4 kQ_kinds_119 rfl rfl (show Res l g Q_isSheep [.ref (g.1 33), .int h] (mput A w) (Is (some (.int (bI (hasP S h)))) (mput A w)) by show Res l g Q_isSheep [.ref (g.1 33), .int h] (mput A w) (Is (some (.int (bI (0 ≤ h ∧ h < S 1 6)))) (mput A w)); rw [gA1 hA]; exact eQ_isSheep hI) (Nat.le_of_ble_eq_true rfl) ?_
  refine gV2 dQ_kinds_7 kQ_kinds_238 rfl rfl (cQ_lacks hR) (Nat.le_of_ble_eq_true rfl) ?_
  have e12 := lkI_0 (lkN_c S s (hasP S h))
  have e12q : lkN S s (hasP S h) < 8 := by have := lkN_c S s (hasP S h); omega
  refine g_istore_n dQ_kinds_10 (by decide) rfl rfl ?_
  dsimp only [List.set]
  refine g_iload_n dQ_kinds_11 rfl ?_
  refine g_if_eq dQ_kinds_12 rfl (fun h12 => ?_) (fun h12 => ?_)
  · have h7 := lk_7 (e12.mp h12)
    obtain ⟨q, hq, eq⟩ := sh_q h7.1
    subst eq
    have hsh := hR.sh q hq
    obtain ⟨z, hz, ez⟩ := hzz q hq
    have hp : 0 ≤ h ∧ h < S 1 6 := h7.2.2
    rw [gA1 hA] at hp
    obtain ⟨j, hj, ej⟩ := hasN hp.1 (show h < nI n from hI.n6 ▸ hp.2) (by omega)
    subst ej
    have eb : shZ S (nI q) = nI z := by unfold shZ; rw [nI_clamp (by omega)]; exact ez
    have en : ∀ i, i < 40 → w 46 (40 * q + i) = shN S (nI q) i := fun i hi => by unfold shN; rw [nI_clamp (by omega)]; exact hsh.2.2 i hi
    refine g_aload_n dQ_kinds_23 rfl ?_
    refine g_iload_n dQ_kinds_24 rfl ?_
    refine g_iconst (v := 0) dQ_kinds_25 (by decide) ?_
    refine gS2 dQ_kinds_26 kQ_kinds_83 (cQ_sheepAt (f := 0)) (Nat.le_of_ble_eq_true rfl) ?_
    refine g_bipush (v := 6) dQ_kinds_29 (by decide) ?_
    refine g_iload_n dQ_kinds_31 rfl ?_
    refine g_iload_n dQ_kinds_32 rfl ?_
    refine g_iconst (v := 1) dQ_kinds_33 (by decide) ?_
    refine gS2 dQ_kinds_34 kQ_kinds_83 (cQ_sheepAt (f := 1)) (Nat.le_of_ble_eq_true rfl) ?_
    refine g_w (w1 := mput A (ax (w 36) w)) (by rw [ax_self]) ?_
    refine gV4q dQ_kinds_37 kQ_kinds_242 rfl rfl (cQ_valuesFor hR.te hq hz (hsh.2.1.trans ez) en (pl := (18 + 5 * j + 1)) (by omega) (xx := fun B => B.2.2.1 j) (fun B => mrow_f B _ (f := 1) (j := j) (by decide) (by omega)) hb (f := 0) (j := j) (by decide) (by omega) (mt := 6) (by decide) (fun v hv => hI.K (in6n (by omega))) (V := kindsV n z (shN S (nI q)) j A) (fun v hv => rfl)) (Nat.le_of_ble_eq_true rfl) (fun r1 w1 q1 => ?_)
    obtain ⟨rfl, r2, rfl⟩ := q1
    dsimp only [Option.toList, List.cons_append, List.nil_append]
    refine g_iret dQ_kinds_40 rfl rfl ?_
    first
      | exact IsQ_R36 hA hR (by
          simp only [kindsC]
          rw [if_pos h7.1, if_neg h7.2.1, if_pos h7.2.2, eb, hA, nI_clamp (by omega), nI_clamp (by omega)])
      | exact IsQ_F hA hR hq7 (kindsC_f hn7)
  · have hq7 : lkN S s (hasP S h) < 7 := by
      have : ¬ lkN S s (hasP S h) = 7 := fun zz => h12 (e12.mpr zz)
      omega
    have hn7 : ¬ lkN S s (hasP S h) = 7 := by omega
    refine g_aload_n dQ_kinds_15 rfl ?_
    refine g_iload_n dQ_kinds_16 rfl ?_
    refine g_top (lkI_n hn7) ?_
    refine gV1 dQ_kinds_17 kQ_kinds_75 rfl rfl (cQ_finding (q := lkN S s (hasP S h)) hq7) (Nat.le_of_ble_eq_true rfl) ?_
    refine g_goto dQ_kinds_20 rfl ?_
    refine g_iret dQ_kinds_40 rfl rfl ?_
    first
      | exact IsQ_R36 hA hR (by
          simp only [kindsC]
          rw [if_pos h7.1, if_neg h7.2.1, if_pos h7.2.2, eb, hA, nI_clamp (by omega), nI_clamp (by omega)])
      | exact IsQ_F hA hR hq7 (kindsC_f hn7)
