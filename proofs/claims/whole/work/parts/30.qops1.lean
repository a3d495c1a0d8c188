theorem gA1 {S : Wd} {A : HA} (h : hget S 1 = A) : S 1 = A.1 := by subst h; rfl
theorem gA2 {S : Wd} {A : HA} (h : hget S 1 = A) : S 2 = A.2.1 := by subst h; rfl
theorem gA3 {S : Wd} {A : HA} (h : hget S 1 = A) : S 3 = A.2.2.1 := by subst h; rfl
theorem gA4 {S : Wd} {A : HA} (h : hget S 1 = A) : S 4 = A.2.2.2.1 := by subst h; rfl
theorem gA5 {S : Wd} {A : HA} (h : hget S 1 = A) : S 5 = A.2.2.2.2.1 := by subst h; rfl
theorem gA6 {S : Wd} {A : HA} (h : hget S 1 = A) : S 6 = A.2.2.2.2.2 := by subst h; rfl
def jF (f : Nat) : Nat := if f = 0 then 0 else if f = 1 then 1 else if f = 2 then 3 else if f = 3 then 4 else 2
theorem jF_ok : ∀ f, f ≤ 4 → msc (jF f) = 3 + f ∧ jF f < 7 ∧ 3 + f < 58 := by decide
theorem c5 {P : Nat → Prop} {f : Nat} (hf : f ≤ 4) (h0 : P 0) (h1 : P 1) (h2 : P 2) (h3 : P 3) (h4 : P 4) : P f := by
  have : f = 0 ∨ f = 1 ∨ f = 2 ∨ f = 3 ∨ f = 4 := by omega
  rcases this with rfl | rfl | rfl | rfl | rfl <;> assumption
theorem jF_feat (A : HA) {f : Nat} (hf : f ≤ 4) : A.1 (jF f) = featF A (nI f) := c5 (P := fun f => A.1 (jF f) = featF A (nI f)) hf rfl rfl rfl rfl rfl
theorem setA_j (A : HA) (v : Int32) {f : Nat} (hf : f ≤ 4) (h1 : f ≠ 1) (h4 : f ≠ 4) : setA (nI f) v A = sS A (jF f) v := c5 (P := fun f => f ≠ 1 → f ≠ 4 → setA (nI f) v A = sS A (jF f) v) hf (fun _ _ => rfl) (fun a _ => absurd rfl a) (fun _ _ => rfl) (fun _ _ => rfl) (fun _ a => absurd rfl a) h1 h4
theorem trait_f (A : HA) (n j : Nat) {f : Nat} (hf : f ≤ 4) : traitF A n j (nI f) = fld A f j := c5 (P := fun f => traitF A n j (nI f) = fld A f j) hf rfl rfl rfl rfl rfl
theorem chA_f (A : HA) (j : Nat) (v : Int32) {f : Nat} (hf : f ≤ 4) : chA (nI f) j v A = sfld A f j v := c5 (P := fun f => chA (nI f) j v A = sfld A f j v) hf rfl rfl rfl rfl rfl
theorem upd_upd (f : Nat → Int32) (j : Nat) (u v : Int32) : upd (upd f j u) j v = upd f j v := by
  funext i
  unfold upd
  split <;> rfl
def zF (n : Nat) : Nat → HA → HA
  | 0, A => A
  | f + 1, A => sfld (zF n f A) f n 0
theorem zF_1 (n : Nat) (A : HA) : ∀ f, (zF n f A).1 = A.1
  | 0 => rfl
  | f + 1 => (sfld_1 _ _ _ _).trans (zF_1 n A f)
theorem zF_add (n : Nat) (k c : Int32) (A : HA) : sS (sC (sK (zF n 5 A) n k) n c) 6 (nI (n + 1)) = addF n k c A := by
  show ((_, upd (upd _ n 0) n k, upd (upd _ n 0) n c, _, _, _) : HA) = _
  rw [upd_upd, upd_upd]; rfl
theorem go_num {x : Int32} {b i : Nat} (hb : b + 60 ≤ 99999) (hi : i ≤ 60) (h : 0 ≤ x ∧ x ≤ nI b) : x + nI i ≤ 99999 ∧ x ≤ 99999 - nI i := by
  obtain ⟨c, hc, rfl⟩ := nI_of (Int32.not_lt.mpr h.1)
  have h1 := (nI_leI hc (by omega)).mp h.2
  rw [nI_add, show (99999 : Int32) = nI 99999 from rfl, pk_sub (by omega), nI_leI (by omega) (by omega), nI_leI (by omega) (by omega)]
  omega
set_option maxRecDepth 4000 in
theorem cQ_becomeS {l : Launch} {g : GG} {w : Wd} {A : HA} {j i : Nat} (hi : msc j = i) (hj : j < 7) (hi2 : i < 58) {v : Int32} : Res l g Q_become [.ref (g.1 33), .int (nI i), .int v] (mput A w) (Is (some (.int (A.1 j))) (mput (sS A j v) w)) := by
  refine Res.of (by decide) (by simp [Value.category]) (Nat.le_of_ble_eq_true rfl) rfl ?_
  show Go l g Q_become 0 [some (.ref (g.1 33)), some (.int (nI i)), some (.int v), none] [] (mput A w) _
  refine g_aload_n dQ_become_0 rfl ?_
  refine g_getR2 (k2 := 34) dQ_become_1 fQ_9 rfl rfl (by decide) rfl ?_
  refine g_iload_n dQ_become_4 rfl ?_
  refine g_mS (j := j) (i := i) dQ_become_5 hi hj hi2 ?_
  refine g_istore_n dQ_become_6 (by decide) rfl rfl ?_
  dsimp only [List.set]
  refine g_aload_n dQ_become_7 rfl ?_
  refine g_getR2 (k2 := 34) dQ_become_8 fQ_9 rfl rfl (by decide) rfl ?_
  refine g_iload_n dQ_become_11 rfl ?_
  refine g_iload_n dQ_become_12 rfl ?_
  refine g_mP (j := j) (i := i) dQ_become_13 hi hj hi2 ?_
  refine g_iload_n dQ_become_14 rfl ?_
  refine g_iret dQ_become_15 rfl rfl ?_
  exact ⟨rfl, rfl⟩

set_option maxRecDepth 4000 in
theorem cQ_becomeF {l : Launch} {g : GG} {w : Wd} {A : HA} {j f : Nat} (hf : f < 5) (hj : j < 8) {v : Int32} : Res l g Q_become [.ref (g.1 33), .int (nI (18 + 5 * j + f)), .int v] (mput A w) (Is (some (.int (fld A f j))) (mput (sfld A f j v) w)) := by
  refine Res.of (by decide) (by simp [Value.category]) (Nat.le_of_ble_eq_true rfl) rfl ?_
  show Go l g Q_become 0 [some (.ref (g.1 33)), some (.int (nI (18 + 5 * j + f))), some (.int v), none] [] (mput A w) _
  refine g_aload_n dQ_become_0 rfl ?_
  refine g_getR2 (k2 := 34) dQ_become_1 fQ_9 rfl rfl (by decide) rfl ?_
  refine g_iload_n dQ_become_4 rfl ?_
  refine g_ml (j := j) (f := f) dQ_become_5 hf hj ?_
  refine g_istore_n dQ_become_6 (by decide) rfl rfl ?_
  dsimp only [List.set]
  refine g_aload_n dQ_become_7 rfl ?_
  refine g_getR2 (k2 := 34) dQ_become_8 fQ_9 rfl rfl (by decide) rfl ?_
  refine g_iload_n dQ_become_11 rfl ?_
  refine g_iload_n dQ_become_12 rfl ?_
  refine g_ms (j := j) (f := f) dQ_become_13 hf hj ?_
  refine g_iload_n dQ_become_14 rfl ?_
  refine g_iret dQ_become_15 rfl rfl ?_
  exact ⟨rfl, rfl⟩

set_option maxRecDepth 4000 in
theorem cQ_set {l : Launch} {g : GG} {S w : Wd} {A : HA} {n b : Nat} (hA : hget S 1 = A) (hR : RM S w) (hI : IVA n b A) {x v : Int32} : Res l g Q_set [.ref (g.1 33), .int x, .int v] (mput A w) (IsQ (setC x v S) w) := by
  have h8 := hI.n8
  refine Res.of (by decide) (by simp [Value.category]) (Nat.le_of_ble_eq_true rfl) rfl ?_
  show Go l g Q_set 0 [some (.ref (g.1 33)), some (.int x), some (.int v), none] [] (mput A w) _
  refine g_iload_n dQ_set_0 rfl ?_
  refine g_iconst (v := 2) dQ_set_1 (by decide) ?_
  refine g_icmp_ne dQ_set_2 rfl (fun h2 => ?_) (fun h2 => ?_)
  · refine g_iload_n dQ_set_10 rfl ?_
    refine g_iconst (v := 0) dQ_set_11 (by decide) ?_
    refine g_iconst (v := 2) dQ_set_12 (by decide) ?_
    refine gS3 dQ_set_13 kQ_set_79 cQ_within (Nat.le_of_ble_eq_true rfl) ?_
    refine g_if_eq dQ_set_16 rfl (fun h16 => ?_) (fun h16 => ?_)
    · have h16 := bI_0.mp h16
      refine g_iload_n dQ_set_26 rfl ?_
      refine g_iconst (v := 3) dQ_set_27 (by decide) ?_
      refine g_icmp_ne dQ_set_28 rfl (fun h28 => ?_) (fun h28 => ?_)
      · refine g_iconst (v := 0) dQ_set_44 (by decide) ?_
        refine g_istore_n dQ_set_45 (by decide) rfl rfl ?_
        dsimp only [List.set]
        refine g_iload_n dQ_set_46 rfl ?_
        refine g_if_ne dQ_set_47 rfl (fun h47 => ?_) (fun h47 => ?_)
        · exact absurd h47 (by decide)
        · refine g_aload_n dQ_set_50 rfl ?_
          refine g_ldc dQ_set_51 fQ_69 ?_
          refine gV1 dQ_set_53 kQ_set_75 rfl rfl (cQ_finding (q := 0) (by decide)) (Nat.le_of_ble_eq_true rfl) ?_
          refine g_iret dQ_set_56 rfl rfl ?_
          exact IsQ_F hA hR (by decide) (by rw [setC, if_neg (by grind)])
      · refine g_iload_n dQ_set_31 rfl ?_
        refine g_iconst (v := 0) dQ_set_32 (by decide) ?_
        refine g_iconst (v := 5) dQ_set_33 (by decide) ?_
        refine gS3 dQ_set_34 kQ_set_79 cQ_within (Nat.le_of_ble_eq_true rfl) ?_
        refine g_if_eq dQ_set_37 rfl (fun h37 => ?_) (fun h37 => ?_)
        · have h37 := bI_0.mp h37
          refine g_iconst (v := 0) dQ_set_44 (by decide) ?_
          refine g_istore_n dQ_set_45 (by decide) rfl rfl ?_
          dsimp only [List.set]
          refine g_iload_n dQ_set_46 rfl ?_
          refine g_if_ne dQ_set_47 rfl (fun h47 => ?_) (fun h47 => ?_)
          · exact absurd h47 (by decide)
          · refine g_aload_n dQ_set_50 rfl ?_
            refine g_ldc dQ_set_51 fQ_69 ?_
            refine gV1 dQ_set_53 kQ_set_75 rfl rfl (cQ_finding (q := 0) (by decide)) (Nat.le_of_ble_eq_true rfl) ?_
            refine g_iret dQ_set_56 rfl rfl ?_
            exact IsQ_F hA hR (by decide) (by rw [setC, if_neg (by grind)])
        · have h37 := Classical.not_not.mp (fun z => h37 (bI_0.mpr z))
          refine g_iconst (v := 1) dQ_set_40 (by decide) ?_
          refine g_goto dQ_set_41 rfl ?_
          refine g_istore_n dQ_set_45 (by decide) rfl rfl ?_
          dsimp only [List.set]
          refine g_iload_n dQ_set_46 rfl ?_
          refine g_if_ne dQ_set_47 rfl (fun h47 => ?_) (fun h47 => ?_)
          · refine g_iload_n dQ_set_57 rfl ?_
            refine g_iconst (v := 1) dQ_set_58 (by decide) ?_
            refine g_icmp_ne dQ_set_59 rfl (fun h59 => ?_) (fun h59 => ?_)
            · have hs : canSetP x v := by grind
              have hx : 0 ≤ x ∧ x ≤ 4 := by grind
              obtain ⟨f, hf, ef⟩ := nI_of2 (x := x) (M := 4) (n := 4) rfl (Int32.not_lt.mpr (Int32.le_trans (by decide) hx.1)) hx.2
              subst ef
              have hf1 : f ≠ 1 := fun z => by subst z; exact h59 rfl
              have hf4 : f ≠ 4 := fun z => by
                subst z
                rcases hs with ⟨h | h, _⟩ | ⟨h, _⟩ | ⟨h, _⟩ <;> exact absurd h (by decide)
              refine g_aload_n dQ_set_70 rfl ?_
              refine g_iconst (v := 3) dQ_set_71 (by decide) ?_
              refine g_iload_n dQ_set_72 rfl ?_
              refine g_iadd dQ_set_73 ?_
              refine g_top (y := nI (3 + f)) (nI_add 3 f) ?_
              refine g_iload_n dQ_set_74 rfl ?_
              refine gV2 dQ_set_75 kQ_set_98 rfl rfl (cQ_becomeS (j := jF f) (i := 3 + f) (jF_ok f hf).1 (jF_ok f hf).2.1 (jF_ok f hf).2.2) (Nat.le_of_ble_eq_true rfl) ?_
              refine g_iret dQ_set_78 rfl rfl ?_
              first
                | exact IsQ_A hR (by rw [setC, if_pos (by grind), hA, h59]; rfl)
                | exact IsQ_A hR (by rw [setC, if_pos hs, hA, jF_feat A hf, setA_j A v hf hf1 hf4])
            · refine g_aload_n dQ_set_62 rfl ?_
              refine g_iload_n dQ_set_63 rfl ?_
              refine gV1 dQ_set_64 kQ_set_95 rfl rfl (eQ_keeperTo hI) (Nat.le_of_ble_eq_true rfl) ?_
              refine g_goto dQ_set_67 rfl ?_
              refine g_iret dQ_set_78 rfl rfl ?_
              first
                | exact IsQ_A hR (by rw [setC, if_pos (by grind), hA, h59]; rfl)
                | exact IsQ_A hR (by rw [setC, if_pos hs, hA, jF_feat A hf, setA_j A v hf hf1 hf4])
          · exact absurd h47 (by decide)
    · have h16 := Classical.not_not.mp (fun z => h16 (bI_0.mpr z))
      refine g_iload_n dQ_set_19 rfl ?_
      refine gS1 dQ_set_20 kQ_set_91 cQ_isCell (Nat.le_of_ble_eq_true rfl) ?_
      refine g_if_ne dQ_set_23 rfl (fun h23 => ?_) (fun h23 => ?_)
      · have h23 := Classical.not_not.mp (fun z => h23 (bI_0.mpr z))
        refine g_iconst (v := 1) dQ_set_40 (by decide) ?_
        refine g_goto dQ_set_41 rfl ?_
        refine g_istore_n dQ_set_45 (by decide) rfl rfl ?_
        dsimp only [List.set]
        refine g_iload_n dQ_set_46 rfl ?_
        refine g_if_ne dQ_set_47 rfl (fun h47 => ?_) (fun h47 => ?_)
        · refine g_iload_n dQ_set_57 rfl ?_
          refine g_iconst (v := 1) dQ_set_58 (by decide) ?_
          refine g_icmp_ne dQ_set_59 rfl (fun h59 => ?_) (fun h59 => ?_)
          · have hs : canSetP x v := by grind
            have hx : 0 ≤ x ∧ x ≤ 4 := by grind
            obtain ⟨f, hf, ef⟩ := nI_of2 (x := x) (M := 4) (n := 4) rfl (Int32.not_lt.mpr (Int32.le_trans (by decide) hx.1)) hx.2
            subst ef
            have hf1 : f ≠ 1 := fun z => by subst z; exact h59 rfl
            have hf4 : f ≠ 4 := fun z => by
              subst z
              rcases hs with ⟨h | h, _⟩ | ⟨h, _⟩ | ⟨h, _⟩ <;> exact absurd h (by decide)
            refine g_aload_n dQ_set_70 rfl ?_
            refine g_iconst (v := 3) dQ_set_71 (by decide) ?_
            refine g_iload_n dQ_set_72 rfl ?_
            refine g_iadd dQ_set_73 ?_
            refine g_top (y := nI (3 + f)) (nI_add 3 f) ?_
            refine g_iload_n dQ_set_74 rfl ?_
            refine gV2 dQ_set_75 kQ_set_98 rfl rfl (cQ_becomeS (j := jF f) (i := 3 + f) (jF_ok f hf).1 (jF_ok f hf).2.1 (jF_ok f hf).2.2) (Nat.le_of_ble_eq_true rfl) ?_
            refine g_iret dQ_set_78 rfl rfl ?_
            first
              | exact IsQ_A hR (by rw [setC, if_pos (by grind), hA, h59]; rfl)
              | exact IsQ_A hR (by rw [setC, if_pos hs, hA, jF_feat A hf, setA_j A v hf hf1 hf4])
          · refine g_aload_n dQ_set_62 rfl ?_
            refine g_iload_n dQ_set_63 rfl ?_
            refine gV1 dQ_set_64 kQ_set_95 rfl rfl (eQ_keeperTo hI) (Nat.le_of_ble_eq_true rfl) ?_
            refine g_goto dQ_set_67 rfl ?_
            refine g_iret dQ_set_78 rfl rfl ?_
            first
              | exact IsQ_A hR (by rw [setC, if_pos (by grind), hA, h59]; rfl)
              | exact IsQ_A hR (by rw [setC, if_pos hs, hA, jF_feat A hf, setA_j A v hf hf1 hf4])
        · exact absurd h47 (by decide)
      · have h23 := bI_0.mp h23
        refine g_iload_n dQ_set_26 rfl ?_
        refine g_iconst (v := 3) dQ_set_27 (by decide) ?_
        refine g_icmp_ne dQ_set_28 rfl (fun h28 => ?_) (fun h28 => ?_)
        · refine g_iconst (v := 0) dQ_set_44 (by decide) ?_
          refine g_istore_n dQ_set_45 (by decide) rfl rfl ?_
          dsimp only [List.set]
          refine g_iload_n dQ_set_46 rfl ?_
          refine g_if_ne dQ_set_47 rfl (fun h47 => ?_) (fun h47 => ?_)
          · exact absurd h47 (by decide)
          · refine g_aload_n dQ_set_50 rfl ?_
            refine g_ldc dQ_set_51 fQ_69 ?_
            refine gV1 dQ_set_53 kQ_set_75 rfl rfl (cQ_finding (q := 0) (by decide)) (Nat.le_of_ble_eq_true rfl) ?_
            refine g_iret dQ_set_56 rfl rfl ?_
            exact IsQ_F hA hR (by decide) (by rw [setC, if_neg (by grind)])
        · refine g_iload_n dQ_set_31 rfl ?_
          refine g_iconst (v := 0) dQ_set_32 (by decide) ?_
          refine g_iconst (v := 5) dQ_set_33 (by decide) ?_
          refine gS3 dQ_set_34 kQ_set_79 cQ_within (Nat.le_of_ble_eq_true rfl) ?_
          refine g_if_eq dQ_set_37 rfl (fun h37 => ?_) (fun h37 => ?_)
          · have h37 := bI_0.mp h37
            refine g_iconst (v := 0) dQ_set_44 (by decide) ?_
            refine g_istore_n dQ_set_45 (by decide) rfl rfl ?_
            dsimp only [List.set]
            refine g_iload_n dQ_set_46 rfl ?_
            refine g_if_ne dQ_set_47 rfl (fun h47 => ?_) (fun h47 => ?_)
            · exact absurd h47 (by decide)
            · refine g_aload_n dQ_set_50 rfl ?_
              refine g_ldc dQ_set_51 fQ_69 ?_
              refine gV1 dQ_set_53 kQ_set_75 rfl rfl (cQ_finding (q := 0) (by decide)) (Nat.le_of_ble_eq_true rfl) ?_
              refine g_iret dQ_set_56 rfl rfl ?_
              exact IsQ_F hA hR (by decide) (by rw [setC, if_neg (by grind)])
          · have h37 := Classical.not_not.mp (fun z => h37 (bI_0.mpr z))
            refine g_iconst (v := 1) dQ_set_40 (by decide) ?_
            refine g_goto dQ_set_41 rfl ?_
            refine g_istore_n dQ_set_45 (by decide) rfl rfl ?_
            dsimp only [List.set]
            refine g_iload_n dQ_set_46 rfl ?_
            refine g_if_ne dQ_set_47 rfl (fun h47 => ?_) (fun h47 => ?_)
            · refine g_iload_n dQ_set_57 rfl ?_
              refine g_iconst (v := 1) dQ_set_58 (by decide) ?_
              refine g_icmp_ne dQ_set_59 rfl (fun h59 => ?_) (fun h59 => ?_)
              · have hs : canSetP x v := by grind
                have hx : 0 ≤ x ∧ x ≤ 4 := by grind
                obtain ⟨f, hf, ef⟩ := nI_of2 (x := x) (M := 4) (n := 4) rfl (Int32.not_lt.mpr (Int32.le_trans (by decide) hx.1)) hx.2
                subst ef
                have hf1 : f ≠ 1 := fun z => by subst z; exact h59 rfl
                have hf4 : f ≠ 4 := fun z => by
                  subst z
                  rcases hs with ⟨h | h, _⟩ | ⟨h, _⟩ | ⟨h, _⟩ <;> exact absurd h (by decide)
                refine g_aload_n dQ_set_70 rfl ?_
                refine g_iconst (v := 3) dQ_set_71 (by decide) ?_
                refine g_iload_n dQ_set_72 rfl ?_
                refine g_iadd dQ_set_73 ?_
                refine g_top (y := nI (3 + f)) (nI_add 3 f) ?_
                refine g_iload_n dQ_set_74 rfl ?_
                refine gV2 dQ_set_75 kQ_set_98 rfl rfl (cQ_becomeS (j := jF f) (i := 3 + f) (jF_ok f hf).1 (jF_ok f hf).2.1 (jF_ok f hf).2.2) (Nat.le_of_ble_eq_true rfl) ?_
                refine g_iret dQ_set_78 rfl rfl ?_
                first
                  | exact IsQ_A hR (by rw [setC, if_pos (by grind), hA, h59]; rfl)
                  | exact IsQ_A hR (by rw [setC, if_pos hs, hA, jF_feat A hf, setA_j A v hf hf1 hf4])
              · refine g_aload_n dQ_set_62 rfl ?_
                refine g_iload_n dQ_set_63 rfl ?_
                refine gV1 dQ_set_64 kQ_set_95 rfl rfl (eQ_keeperTo hI) (Nat.le_of_ble_eq_true rfl) ?_
                refine g_goto dQ_set_67 rfl ?_
                refine g_iret dQ_set_78 rfl rfl ?_
                first
                  | exact IsQ_A hR (by rw [setC, if_pos (by grind), hA, h59]; rfl)
                  | exact IsQ_A hR (by rw [setC, if_pos hs, hA, jF_feat A hf, setA_j A v hf hf1 hf4])
            · exact absurd h47 (by decide)
  · refine g_iload_n dQ_set_5 rfl ?_
    refine g_iconst (v := (-1)) dQ_set_6 (by decide) ?_
    refine g_icmp_eq dQ_set_7 rfl (fun h7 => ?_) (fun h7 => ?_)
    · refine g_iconst (v := 1) dQ_set_40 (by decide) ?_
      refine g_goto dQ_set_41 rfl ?_
      refine g_istore_n dQ_set_45 (by decide) rfl rfl ?_
      dsimp only [List.set]
      refine g_iload_n dQ_set_46 rfl ?_
      refine g_if_ne dQ_set_47 rfl (fun h47 => ?_) (fun h47 => ?_)
      · refine g_iload_n dQ_set_57 rfl ?_
        refine g_iconst (v := 1) dQ_set_58 (by decide) ?_
        refine g_icmp_ne dQ_set_59 rfl (fun h59 => ?_) (fun h59 => ?_)
        · have hs : canSetP x v := by grind
          have hx : 0 ≤ x ∧ x ≤ 4 := by grind
          obtain ⟨f, hf, ef⟩ := nI_of2 (x := x) (M := 4) (n := 4) rfl (Int32.not_lt.mpr (Int32.le_trans (by decide) hx.1)) hx.2
          subst ef
          have hf1 : f ≠ 1 := fun z => by subst z; exact h59 rfl
          have hf4 : f ≠ 4 := fun z => by
            subst z
            rcases hs with ⟨h | h, _⟩ | ⟨h, _⟩ | ⟨h, _⟩ <;> exact absurd h (by decide)
          refine g_aload_n dQ_set_70 rfl ?_
          refine g_iconst (v := 3) dQ_set_71 (by decide) ?_
          refine g_iload_n dQ_set_72 rfl ?_
          refine g_iadd dQ_set_73 ?_
          refine g_top (y := nI (3 + f)) (nI_add 3 f) ?_
          refine g_iload_n dQ_set_74 rfl ?_
          refine gV2 dQ_set_75 kQ_set_98 rfl rfl (cQ_becomeS (j := jF f) (i := 3 + f) (jF_ok f hf).1 (jF_ok f hf).2.1 (jF_ok f hf).2.2) (Nat.le_of_ble_eq_true rfl) ?_
          refine g_iret dQ_set_78 rfl rfl ?_
          first
            | exact IsQ_A hR (by rw [setC, if_pos (by grind), hA, h59]; rfl)
            | exact IsQ_A hR (by rw [setC, if_pos hs, hA, jF_feat A hf, setA_j A v hf hf1 hf4])
        · refine g_aload_n dQ_set_62 rfl ?_
          refine g_iload_n dQ_set_63 rfl ?_
          refine gV1 dQ_set_64 kQ_set_95 rfl rfl (eQ_keeperTo hI) (Nat.le_of_ble_eq_true rfl) ?_
          refine g_goto dQ_set_67 rfl ?_
          refine g_iret dQ_set_78 rfl rfl ?_
          first
            | exact IsQ_A hR (by rw [setC, if_pos (by grind), hA, h59]; rfl)
            | exact IsQ_A hR (by rw [setC, if_pos hs, hA, jF_feat A hf, setA_j A v hf hf1 hf4])
      · exact absurd h47 (by decide)
    · refine g_iload_n dQ_set_10 rfl ?_
      refine g_iconst (v := 0) dQ_set_11 (by decide) ?_
      refine g_iconst (v := 2) dQ_set_12 (by decide) ?_
      refine gS3 dQ_set_13 kQ_set_79 cQ_within (Nat.le_of_ble_eq_true rfl) ?_
      refine g_if_eq dQ_set_16 rfl (fun h16 => ?_) (fun h16 => ?_)
      · have h16 := bI_0.mp h16
        refine g_iload_n dQ_set_26 rfl ?_
        refine g_iconst (v := 3) dQ_set_27 (by decide) ?_
        refine g_icmp_ne dQ_set_28 rfl (fun h28 => ?_) (fun h28 => ?_)
        · refine g_iconst (v := 0) dQ_set_44 (by decide) ?_
          refine g_istore_n dQ_set_45 (by decide) rfl rfl ?_
          dsimp only [List.set]
          refine g_iload_n dQ_set_46 rfl ?_
          refine g_if_ne dQ_set_47 rfl (fun h47 => ?_) (fun h47 => ?_)
          · exact absurd h47 (by decide)
          · refine g_aload_n dQ_set_50 rfl ?_
            refine g_ldc dQ_set_51 fQ_69 ?_
            refine gV1 dQ_set_53 kQ_set_75 rfl rfl (cQ_finding (q := 0) (by decide)) (Nat.le_of_ble_eq_true rfl) ?_
            refine g_iret dQ_set_56 rfl rfl ?_
            exact IsQ_F hA hR (by decide) (by rw [setC, if_neg (by grind)])
        · refine g_iload_n dQ_set_31 rfl ?_
          refine g_iconst (v := 0) dQ_set_32 (by decide) ?_
          refine g_iconst (v := 5) dQ_set_33 (by decide) ?_
          refine gS3 dQ_set_34 kQ_set_79 cQ_within (Nat.le_of_ble_eq_true rfl) ?_
          refine g_if_eq dQ_set_37 rfl (fun h37 => ?_) (fun h37 => ?_)
          · have h37 := bI_0.mp h37
            refine g_iconst (v := 0) dQ_set_44 (by decide) ?_
            refine g_istore_n dQ_set_45 (by decide) rfl rfl ?_
            dsimp only [List.set]
            refine g_iload_n dQ_set_46 rfl ?_
            refine g_if_ne dQ_set_47 rfl (fun h47 => ?_) (fun h47 => ?_)
            · exact absurd h47 (by decide)
            · refine g_aload_n dQ_set_50 rfl ?_
              refine g_ldc dQ_set_51 fQ_69 ?_
              refine gV1 dQ_set_53 kQ_set_75 rfl rfl (cQ_finding (q := 0) (by decide)) (Nat.le_of_ble_eq_true rfl) ?_
              refine g_iret dQ_set_56 rfl rfl ?_
              exact IsQ_F hA hR (by decide) (by rw [setC, if_neg (by grind)])
          · have h37 := Classical.not_not.mp (fun z => h37 (bI_0.mpr z))
            refine g_iconst (v := 1) dQ_set_40 (by decide) ?_
            refine g_goto dQ_set_41 rfl ?_
            refine g_istore_n dQ_set_45 (by decide) rfl rfl ?_
            dsimp only [List.set]
            refine g_iload_n dQ_set_46 rfl ?_
            refine g_if_ne dQ_set_47 rfl (fun h47 => ?_) (fun h47 => ?_)
            · refine g_iload_n dQ_set_57 rfl ?_
              refine g_iconst (v := 1) dQ_set_58 (by decide) ?_
              refine g_icmp_ne dQ_set_59 rfl (fun h59 => ?_) (fun h59 => ?_)
              · have hs : canSetP x v := by grind
                have hx : 0 ≤ x ∧ x ≤ 4 := by grind
                obtain ⟨f, hf, ef⟩ := nI_of2 (x := x) (M := 4) (n := 4) rfl (Int32.not_lt.mpr (Int32.le_trans (by decide) hx.1)) hx.2
                subst ef
                have hf1 : f ≠ 1 := fun z => by subst z; exact h59 rfl
                have hf4 : f ≠ 4 := fun z => by
                  subst z
                  rcases hs with ⟨h | h, _⟩ | ⟨h, _⟩ | ⟨h, _⟩ <;> exact absurd h (by decide)
                refine g_aload_n dQ_set_70 rfl ?_
                refine g_iconst (v := 3) dQ_set_71 (by decide) ?_
                refine g_iload_n dQ_set_72 rfl ?_
                refine g_iadd dQ_set_73 ?_
                refine g_top (y := nI (3 + f)) (nI_add 3 f) ?_
                refine g_iload_n dQ_set_74 rfl ?_
                refine gV2 dQ_set_75 kQ_set_98 rfl rfl (cQ_becomeS (j := jF f) (i := 3 + f) (jF_ok f hf).1 (jF_ok f hf).2.1 (jF_ok f hf).2.2) (Nat.le_of_ble_eq_true rfl) ?_
                refine g_iret dQ_set_78 rfl rfl ?_
                first
                  | exact IsQ_A hR (by rw [setC, if_pos (by grind), hA, h59]; rfl)
                  | exact IsQ_A hR (by rw [setC, if_pos hs, hA, jF_feat A hf, setA_j A v hf hf1 hf4])
              · refine g_aload_n dQ_set_62 rfl ?_
                refine g_iload_n dQ_set_63 rfl ?_
                refine gV1 dQ_set_64 kQ_set_95 rfl rfl (eQ_keeperTo hI) (Nat.le_of_ble_eq_true rfl) ?_
                refine g_goto dQ_set_67 rfl ?_
                refine g_iret dQ_set_78 rfl rfl ?_
                first
                  | exact IsQ_A hR (by rw [setC, if_pos (by grind), hA, h59]; rfl)
                  | exact IsQ_A hR (by rw [setC, if_pos hs, hA, jF_feat A hf, setA_j A v hf hf1 hf4])
            · exact absurd h47 (by decide)
      · have h16 := Classical.not_not.mp (fun z => h16 (bI_0.mpr z))
        refine g_iload_n dQ_set_19 rfl ?_
        refine gS1 dQ_set_20 kQ_set_91 cQ_isCell (Nat.le_of_ble_eq_true rfl) ?_
        refine g_if_ne dQ_set_23 rfl (fun h23 => ?_) (fun h23 => ?_)
        · have h23 := Classical.not_not.mp (fun z => h23 (bI_0.mpr z))
          refine g_iconst (v := 1) dQ_set_40 (by decide) ?_
          refine g_goto dQ_set_41 rfl ?_
          refine g_istore_n dQ_set_45 (by decide) rfl rfl ?_
          dsimp only [List.set]
          refine g_iload_n dQ_set_46 rfl ?_
          refine g_if_ne dQ_set_47 rfl (fun h47 => ?_) (fun h47 => ?_)
          · refine g_iload_n dQ_set_57 rfl ?_
            refine g_iconst (v := 1) dQ_set_58 (by decide) ?_
            refine g_icmp_ne dQ_set_59 rfl (fun h59 => ?_) (fun h59 => ?_)
            · have hs : canSetP x v := by grind
              have hx : 0 ≤ x ∧ x ≤ 4 := by grind
              obtain ⟨f, hf, ef⟩ := nI_of2 (x := x) (M := 4) (n := 4) rfl (Int32.not_lt.mpr (Int32.le_trans (by decide) hx.1)) hx.2
              subst ef
              have hf1 : f ≠ 1 := fun z => by subst z; exact h59 rfl
              have hf4 : f ≠ 4 := fun z => by
                subst z
                rcases hs with ⟨h | h, _⟩ | ⟨h, _⟩ | ⟨h, _⟩ <;> exact absurd h (by decide)
              refine g_aload_n dQ_set_70 rfl ?_
              refine g_iconst (v := 3) dQ_set_71 (by decide) ?_
              refine g_iload_n dQ_set_72 rfl ?_
              refine g_iadd dQ_set_73 ?_
              refine g_top (y := nI (3 + f)) (nI_add 3 f) ?_
              refine g_iload_n dQ_set_74 rfl ?_
              refine gV2 dQ_set_75 kQ_set_98 rfl rfl (cQ_becomeS (j := jF f) (i := 3 + f) (jF_ok f hf).1 (jF_ok f hf).2.1 (jF_ok f hf).2.2) (Nat.le_of_ble_eq_true rfl) ?_
              refine g_iret dQ_set_78 rfl rfl ?_
              first
                | exact IsQ_A hR (by rw [setC, if_pos (by grind), hA, h59]; rfl)
                | exact IsQ_A hR (by rw [setC, if_pos hs, hA, jF_feat A hf, setA_j A v hf hf1 hf4])
            · refine g_aload_n dQ_set_62 rfl ?_
              refine g_iload_n dQ_set_63 rfl ?_
              refine gV1 dQ_set_64 kQ_set_95 rfl rfl (eQ_keeperTo hI) (Nat.le_of_ble_eq_true rfl) ?_
              refine g_goto dQ_set_67 rfl ?_
              refine g_iret dQ_set_78 rfl rfl ?_
              first
                | exact IsQ_A hR (by rw [setC, if_pos (by grind), hA, h59]; rfl)
                | exact IsQ_A hR (by rw [setC, if_pos hs, hA, jF_feat A hf, setA_j A v hf hf1 hf4])
          · exact absurd h47 (by decide)
        · have h23 := bI_0.mp h23
          refine g_iload_n dQ_set_26 rfl ?_
          refine g_iconst (v := 3) dQ_set_27 (by decide) ?_
          refine g_icmp_ne dQ_set_28 rfl (fun h28 => ?_) (fun h28 => ?_)
          · refine g_iconst (v := 0) dQ_set_44 (by decide) ?_
            refine g_istore_n dQ_set_45 (by decide) rfl rfl ?_
            dsimp only [List.set]
            refine g_iload_n dQ_set_46 rfl ?_
            refine g_if_ne dQ_set_47 rfl (fun h47 => ?_) (fun h47 => ?_)
            · exact absurd h47 (by decide)
            · refine g_aload_n dQ_set_50 rfl ?_
              refine g_ldc dQ_set_51 fQ_69 ?_
              refine gV1 dQ_set_53 kQ_set_75 rfl rfl (cQ_finding (q := 0) (by decide)) (Nat.le_of_ble_eq_true rfl) ?_
              refine g_iret dQ_set_56 rfl rfl ?_
              exact IsQ_F hA hR (by decide) (by rw [setC, if_neg (by grind)])
          · refine g_iload_n dQ_set_31 rfl ?_
            refine g_iconst (v := 0) dQ_set_32 (by decide) ?_
            refine g_iconst (v := 5) dQ_set_33 (by decide) ?_
            refine gS3 dQ_set_34 kQ_set_79 cQ_within (Nat.le_of_ble_eq_true rfl) ?_
            refine g_if_eq dQ_set_37 rfl (fun h37 => ?_) (fun h37 => ?_)
            · have h37 := bI_0.mp h37
              refine g_iconst (v := 0) dQ_set_44 (by decide) ?_
              refine g_istore_n dQ_set_45 (by decide) rfl rfl ?_
              dsimp only [List.set]
              refine g_iload_n dQ_set_46 rfl ?_
              refine g_if_ne dQ_set_47 rfl (fun h47 => ?_) (fun h47 => ?_)
              · exact absurd h47 (by decide)
              · refine g_aload_n dQ_set_50 rfl ?_
                refine g_ldc dQ_set_51 fQ_69 ?_
                refine gV1 dQ_set_53 kQ_set_75 rfl rfl (cQ_finding (q := 0) (by decide)) (Nat.le_of_ble_eq_true rfl) ?_
                refine g_iret dQ_set_56 rfl rfl ?_
                exact IsQ_F hA hR (by decide) (by rw [setC, if_neg (by grind)])
            · have h37 := Classical.not_not.mp (fun z => h37 (bI_0.mpr z))
              refine g_iconst (v := 1) dQ_set_40 (by decide) ?_
              refine g_goto dQ_set_41 rfl ?_
              refine g_istore_n dQ_set_45 (by decide) rfl rfl ?_
              dsimp only [List.set]
              refine g_iload_n dQ_set_46 rfl ?_
              refine g_if_ne dQ_set_47 rfl (fun h47 => ?_) (fun h47 => ?_)
              · refine g_iload_n dQ_set_57 rfl ?_
                refine g_iconst (v := 1) dQ_set_58 (by decide) ?_
                refine g_icmp_ne dQ_set_59 rfl (fun h59 => ?_) (fun h59 => ?_)
                · have hs : canSetP x v := by grind
                  have hx : 0 ≤ x ∧ x ≤ 4 := by grind
                  obtain ⟨f, hf, ef⟩ := nI_of2 (x := x) (M := 4) (n := 4) rfl (Int32.not_lt.mpr (Int32.le_trans (by decide) hx.1)) hx.2
                  subst ef
                  have hf1 : f ≠ 1 := fun z => by subst z; exact h59 rfl
                  have hf4 : f ≠ 4 := fun z => by
                    subst z
                    rcases hs with ⟨h | h, _⟩ | ⟨h, _⟩ | ⟨h, _⟩ <;> exact absurd h (by decide)
                  refine g_aload_n dQ_set_70 rfl ?_
                  refine g_iconst (v := 3) dQ_set_71 (by decide) ?_
                  refine g_iload_n dQ_set_72 rfl ?_
                  refine g_iadd dQ_set_73 ?_
                  refine g_top (y := nI (3 + f)) (nI_add 3 f) ?_
                  refine g_iload_n dQ_set_74 rfl ?_
                  refine gV2 dQ_set_75 kQ_set_98 rfl rfl (cQ_becomeS (j := jF f) (i := 3 + f) (jF_ok f hf).1 (jF_ok f hf).2.1 (jF_ok f hf).2.2) (Nat.le_of_ble_eq_true rfl) ?_
                  refine g_iret dQ_set_78 rfl rfl ?_
                  first
                    | exact IsQ_A hR (by rw [setC, if_pos (by grind), hA, h59]; rfl)
                    | exact IsQ_A hR (by rw [setC, if_pos hs, hA, jF_feat A hf, setA_j A v hf hf1 hf4])
                · refine g_aload_n dQ_set_62 rfl ?_
                  refine g_iload_n dQ_set_63 rfl ?_
                  refine gV1 dQ_set_64 kQ_set_95 rfl rfl (eQ_keeperTo hI) (Nat.le_of_ble_eq_true rfl) ?_
                  refine g_goto dQ_set_67 rfl ?_
                  refine g_iret dQ_set_78 rfl rfl ?_
                  first
                    | exact IsQ_A hR (by rw [setC, if_pos (by grind), hA, h59]; rfl)
                    | exact IsQ_A hR (by rw [setC, if_pos hs, hA, jF_feat A hf, setA_j A v hf hf1 hf4])
              · exact absurd h47 (by decide)

set_option maxRecDepth 4000 in
theorem cQ_hill {l : Launch} {g : GG} {S w : Wd} {A : HA} {n b : Nat} (hA : hget S 1 = A) (hR : RM S w) (hI : IVA n b A) {x : Int32} : Res l g Q_hill [.ref (g.1 33), .int x] (mput A w) (IsQ (hillC x S) w) := by
  have h8 := hI.n8
  refine Res.of (by decide) (by simp [Value.category]) (Nat.le_of_ble_eq_true rfl) rfl ?_
  show Go l g Q_hill 0 [some (.ref (g.1 33)), some (.int x)] [] (mput A w) _
  refine g_iload_n dQ_hill_0 rfl ?_
  refine g_iconst (v := 0) dQ_hill_1 (by decide) ?_
  refine g_iconst (v := 4) dQ_hill_2 (by decide) ?_
  refine gS3 dQ_hill_3 kQ_hill_79 cQ_within (Nat.le_of_ble_eq_true rfl) ?_
  refine g_if_eq dQ_hill_6 rfl (fun h6 => ?_) (fun h6 => ?_)
  · have h6 := bI_0.mp h6
    refine g_aload_n dQ_hill_20 rfl ?_
    refine g_ldc dQ_hill_21 fQ_69 ?_
    refine gV1 dQ_hill_23 kQ_hill_75 rfl rfl (cQ_finding (q := 0) (by decide)) (Nat.le_of_ble_eq_true rfl) ?_
    refine g_iret dQ_hill_26 rfl rfl ?_
    first
      | exact IsQ_R hA hR (by rw [hillC, if_pos hx, hA, jF_feat A hf])
      | exact IsQ_F hA hR (by decide) (by rw [hillC, if_neg h6])
  · have h6 := Classical.not_not.mp (fun z => h6 (bI_0.mpr z))
    have hx := h6
    obtain ⟨f, hf, ef⟩ := nI_of2 (x := x) (M := 4) (n := 4) rfl (Int32.not_lt.mpr (Int32.le_trans (by decide) h6.1)) h6.2
    subst ef
    refine g_aload_n dQ_hill_9 rfl ?_
    refine g_getR2 (k2 := 34) dQ_hill_10 fQ_9 rfl rfl (by decide) rfl ?_
    refine g_iconst (v := 3) dQ_hill_13 (by decide) ?_
    refine g_iload_n dQ_hill_14 rfl ?_
    refine g_iadd dQ_hill_15 ?_
    refine g_top (y := nI (3 + f)) (nI_add 3 f) ?_
    refine g_mS (j := jF f) (i := 3 + f) dQ_hill_16 (jF_ok f hf).1 (jF_ok f hf).2.1 (jF_ok f hf).2.2 ?_
    refine g_goto dQ_hill_17 rfl ?_
    refine g_iret dQ_hill_26 rfl rfl ?_
    first
      | exact IsQ_R hA hR (by rw [hillC, if_pos hx, hA, jF_feat A hf])
      | exact IsQ_F hA hR (by decide) (by rw [hillC, if_neg h6])

set_option maxRecDepth 4000 in
theorem lQ_comes {l : Launch} {g : GG} {w : Wd} {A : HA} {n : Nat} (hn : A.1 6 = nI n) (h7 : n < 8) {k c : Int32} : ∀ (m : Nat) (f : Nat), (5 - f < m) → (f ≤ 5) → Go l g Q_comes 10 [some (.ref (g.1 33)), some (.int k), some (.int c), some (.int (nI n)), some (.int (nI f))] [] (mput (zF n f A) w) (Is (some (.int (nI n))) (mput (addF n k c A) w)) := by
  intro m
  induction m with
  | zero => intro f hm hf; omega
  | succ m ih =>
    intro f hm hf
    refine g_iload dQ_comes_10 rfl ?_
    refine g_iconst (v := 5) dQ_comes_12 (by decide) ?_
    refine g_icmp_ge dQ_comes_13 rfl (fun h13 => ?_) (fun h13 => ?_)
    · rw [show (5 : Int32) = nI 5 from rfl, nI_leI (by omega) (by omega)] at h13
      obtain rfl : f = 5 := by omega
      refine g_aload_n dQ_comes_34 rfl ?_
      refine g_getR2 (k2 := 34) dQ_comes_35 fQ_9 rfl rfl (by decide) rfl ?_
      refine g_iload_n dQ_comes_38 rfl ?_
      refine g_iconst (v := 0) dQ_comes_39 (by decide) ?_
      refine gS2 dQ_comes_40 kQ_comes_83 (cQ_sheepAt (f := 0)) (Nat.le_of_ble_eq_true rfl) ?_
      refine g_iload_n dQ_comes_43 rfl ?_
      refine g_ms (f := 0) dQ_comes_44 (by decide) (by omega) ?_
      refine g_aload_n dQ_comes_45 rfl ?_
      refine g_getR2 (k2 := 34) dQ_comes_46 fQ_9 rfl rfl (by decide) rfl ?_
      refine g_iload_n dQ_comes_49 rfl ?_
      refine g_iconst (v := 1) dQ_comes_50 (by decide) ?_
      refine gS2 dQ_comes_51 kQ_comes_83 (cQ_sheepAt (f := 1)) (Nat.le_of_ble_eq_true rfl) ?_
      refine g_iload_n dQ_comes_54 rfl ?_
      refine g_ms (f := 1) dQ_comes_55 (by decide) (by omega) ?_
      refine g_aload_n dQ_comes_56 rfl ?_
      refine g_getR2 (k2 := 34) dQ_comes_57 fQ_9 rfl rfl (by decide) rfl ?_
      refine g_iconst (v := 1) dQ_comes_60 (by decide) ?_
      refine g_dup2 dQ_comes_61 rfl rfl ?_
      refine g_mS (j := 6) (i := 1) dQ_comes_62 rfl (by decide) (by decide) ?_
      refine g_top (y := nI n) ((show (zF n 5 A).1 6 = A.1 6 by rw [zF_1]).trans hn) ?_
      refine g_iconst (v := 1) dQ_comes_63 (by decide) ?_
      refine g_iadd dQ_comes_64 ?_
      refine g_top (y := nI (n + 1)) (nI_succ n).symm ?_
      refine g_mP (j := 6) (i := 1) dQ_comes_65 rfl (by decide) (by decide) ?_
      refine g_iload_n dQ_comes_66 rfl ?_
      refine g_iret dQ_comes_67 rfl rfl ?_
      exact ⟨rfl, by rw [← zF_add]; rfl⟩
    · rw [show (5 : Int32) = nI 5 from rfl, nI_leI (by omega) (by omega)] at h13
      refine g_aload_n dQ_comes_16 rfl ?_
      refine g_getR2 (k2 := 34) dQ_comes_17 fQ_9 rfl rfl (by decide) rfl ?_
      refine g_iload_n dQ_comes_20 rfl ?_
      refine g_iload dQ_comes_21 rfl ?_
      refine gS2 dQ_comes_23 kQ_comes_83 cQ_sheepAt (Nat.le_of_ble_eq_true rfl) ?_
      refine g_iconst (v := 0) dQ_comes_26 (by decide) ?_
      refine g_ms (f := f) dQ_comes_27 (by omega) (by omega) ?_
      refine g_iinc (v := nI (f + 1)) dQ_comes_28 rfl (nI_succ f).symm (by decide) rfl rfl ?_
      dsimp only [List.set]
      refine g_goto dQ_comes_31 rfl ?_
      exact ih (f + 1) (by omega) (by omega)

set_option maxRecDepth 4000 in
theorem cQ_comes {l : Launch} {g : GG} {w : Wd} {A : HA} {n : Nat} (hn : A.1 6 = nI n) (h7 : n < 8) {k c : Int32} : Res l g Q_comes [.ref (g.1 33), .int k, .int c] (mput A w) (Is (some (.int (nI n))) (mput (addF n k c A) w)) := by
  refine Res.of (by decide) (by simp [Value.category]) (Nat.le_of_ble_eq_true rfl) rfl ?_
  show Go l g Q_comes 0 [some (.ref (g.1 33)), some (.int k), some (.int c), none, none] [] (mput A w) _
  refine g_aload_n dQ_comes_0 rfl ?_
  refine g_getR2 (k2 := 34) dQ_comes_1 fQ_9 rfl rfl (by decide) rfl ?_
  refine g_iconst (v := 1) dQ_comes_4 (by decide) ?_
  refine g_mS (j := 6) (i := 1) dQ_comes_5 rfl (by decide) (by decide) ?_
  refine g_top (y := nI n) hn ?_
  refine g_istore_n dQ_comes_6 (by decide) rfl rfl ?_
  dsimp only [List.set]
  refine g_iconst (v := 0) dQ_comes_7 (by decide) ?_
  refine g_istore dQ_comes_8 (by decide) rfl rfl ?_
  dsimp only [List.set]
  exact lQ_comes hn h7 6 0 (by omega) (by omega)

set_option maxRecDepth 4000 in
theorem cQ_sheep {l : Launch} {g : GG} {S w : Wd} {A : HA} {n b : Nat} (hA : hget S 1 = A) (hR : RM S w) (hI : IVA n b A) {k c : Int32} : Res l g Q_sheep [.ref (g.1 33), .int k, .int c] (mput A w) (IsQ (sheepC n k c S) w) := by
  have h8 := hI.n8
  refine Res.of (by decide) (by simp [Value.category]) (Nat.le_of_ble_eq_true rfl) rfl ?_
  show Go l g Q_sheep 0 [some (.ref (g.1 33)), some (.int k), some (.int c)] [] (mput A w) _
  refine g_iload_n dQ_sheep_0 rfl ?_
  refine gS1 dQ_sheep_1 kQ_sheep_101 cQ_isKind (Nat.le_of_ble_eq_true rfl) ?_
  refine g_if_eq dQ_sheep_4 rfl (fun h4 => ?_) (fun h4 => ?_)
  · have h4 := bI_0.mp h4
    refine g_aload_n dQ_sheep_14 rfl ?_
    refine g_ldc dQ_sheep_15 fQ_69 ?_
    refine gV1 dQ_sheep_17 kQ_sheep_75 rfl rfl (cQ_finding (q := 0) (by decide)) (Nat.le_of_ble_eq_true rfl) ?_
    refine g_iret dQ_sheep_20 rfl rfl ?_
    exact IsQ_F hA hR (by decide) (by rw [sheepC, if_neg (by grind)])
  · have h4 := Classical.not_not.mp (fun z => h4 (bI_0.mpr z))
    refine g_iload_n dQ_sheep_7 rfl ?_
    refine gS1 dQ_sheep_8 kQ_sheep_91 cQ_isCell (Nat.le_of_ble_eq_true rfl) ?_
    refine g_if_ne dQ_sheep_11 rfl (fun h11 => ?_) (fun h11 => ?_)
    · have h11 := Classical.not_not.mp (fun z => h11 (bI_0.mpr z))
      refine g_aload_n dQ_sheep_21 rfl ?_
      refine g_getR2 (k2 := 34) dQ_sheep_22 fQ_9 rfl rfl (by decide) rfl ?_
      refine g_iconst (v := 1) dQ_sheep_25 (by decide) ?_
      refine g_mS (j := 6) (i := 1) dQ_sheep_26 rfl (by decide) (by decide) ?_
      refine g_bipush (v := 8) dQ_sheep_27 (by decide) ?_
      refine g_icmp_ne dQ_sheep_29 rfl (fun h29 => ?_) (fun h29 => ?_)
      · rw [hI.n6, show (8 : Int32) = nI 8 from rfl, nI_eq (by omega) (by omega)] at h29
        refine g_aload_n dQ_sheep_41 rfl ?_
        refine g_iload_n dQ_sheep_42 rfl ?_
        refine g_iload_n dQ_sheep_43 rfl ?_
        refine gV2 dQ_sheep_44 kQ_sheep_105 rfl rfl (cQ_comes hI.n6 (by omega)) (Nat.le_of_ble_eq_true rfl) ?_
        refine g_iret dQ_sheep_47 rfl rfl ?_
        first
          | exact IsQ_A hR (by rw [sheepC, if_pos ⟨h4, h11⟩, if_neg h29, hA])
          | exact IsQ_F hA hR (by decide) (by rw [sheepC, if_pos ⟨h4, h11⟩, if_pos h29])
      · rw [hI.n6, show (8 : Int32) = nI 8 from rfl, nI_eq (by omega) (by omega)] at h29
        refine g_aload_n dQ_sheep_32 rfl ?_
        refine g_ldc dQ_sheep_33 fQ_104 ?_
        refine gV1 dQ_sheep_35 kQ_sheep_75 rfl rfl (cQ_finding (q := 1) (by decide)) (Nat.le_of_ble_eq_true rfl) ?_
        refine g_goto dQ_sheep_38 rfl ?_
        refine g_iret dQ_sheep_47 rfl rfl ?_
        first
          | exact IsQ_A hR (by rw [sheepC, if_pos ⟨h4, h11⟩, if_neg h29, hA])
          | exact IsQ_F hA hR (by decide) (by rw [sheepC, if_pos ⟨h4, h11⟩, if_pos h29])
    · have h11 := bI_0.mp h11
      refine g_aload_n dQ_sheep_14 rfl ?_
      refine g_ldc dQ_sheep_15 fQ_69 ?_
      refine gV1 dQ_sheep_17 kQ_sheep_75 rfl rfl (cQ_finding (q := 0) (by decide)) (Nat.le_of_ble_eq_true rfl) ?_
      refine g_iret dQ_sheep_20 rfl rfl ?_
      exact IsQ_F hA hR (by decide) (by rw [sheepC, if_neg (by grind)])

set_option maxRecDepth 4000 in
theorem cQ_of {l : Launch} {g : GG} {S w : Wd} {A : HA} {n b : Nat} (hA : hget S 1 = A) (hR : RM S w) (hI : IVA n b A) {s x : Int32} : Res l g Q_of [.ref (g.1 33), .int s, .int x] (mput A w) (IsQ (ofC n s x S) w) := by
  have h8 := hI.n8
  refine Res.of (by decide) (by simp [Value.category]) (Nat.le_of_ble_eq_true rfl) rfl ?_
  show Go l g Q_of 0 [some (.ref (g.1 33)), some (.int s), some (.int x)] [] (mput A w) _
  refine g_aload_n dQ_of_0 rfl ?_
  refine g_iload_n dQ_of_1 rfl ?_
  refine gV1 dQ_of_2 kQ_of_119 rfl rfl (eQ_isSheep hI) (Nat.le_of_ble_eq_true rfl) ?_
  refine g_if_eq dQ_of_5 rfl (fun h5_ => ?_) (fun h5_ => ?_)
  · have h5_ := bI_0.mp h5_
    refine g_aload_n dQ_of_18 rfl ?_
    refine g_ldc dQ_of_19 fQ_69 ?_
    refine gV1 dQ_of_21 kQ_of_75 rfl rfl (cQ_finding (q := 0) (by decide)) (Nat.le_of_ble_eq_true rfl) ?_
    refine g_iret dQ_of_24 rfl rfl ?_
    exact IsQ_F hA hR (by decide) (by simp only [ofC, hasP, hA, gA1 hA, gA2 hA, gA3 hA, gA4 hA, gA5 hA, gA6 hA]; rw [if_neg (by grind)])
  · have h5_ := Classical.not_not.mp (fun z => h5_ (bI_0.mpr z))
    obtain ⟨j, hj, ej⟩ := hasN h5_.1 (show s < nI n from hI.n6 ▸ h5_.2) (by omega)
    subst ej
    refine g_iload_n dQ_of_8 rfl ?_
    refine g_iconst (v := 0) dQ_of_9 (by decide) ?_
    refine g_bipush (v := 9) dQ_of_10 (by decide) ?_
    refine gS3 dQ_of_12 kQ_of_79 cQ_within (Nat.le_of_ble_eq_true rfl) ?_
    refine g_if_ne dQ_of_15 rfl (fun h15 => ?_) (fun h15 => ?_)
    · have h15 := Classical.not_not.mp (fun z => h15 (bI_0.mpr z))
      refine g_iload_n dQ_of_25 rfl ?_
      refine g_split (5) (fun z5 => ?_) (fun z5 => ?_)
      · refine g_tabIn dQ_of_26 (by decide) (by decide) rfl rfl ?_
        refine g_aload_n dQ_of_60 rfl ?_
        refine g_iload_n dQ_of_61 rfl ?_
        refine gV1 dQ_of_62 kQ_of_122 rfl rfl (eQ_far hI (by omega)) (Nat.le_of_ble_eq_true rfl) ?_
        refine g_iret dQ_of_65 rfl rfl ?_
        exact IsQ_R hA hR (by simp only [ofC, hasP, hA, gA1 hA, gA2 hA, gA3 hA, gA4 hA, gA5 hA, gA6 hA]; rw [if_pos ⟨h5_, h15⟩, nI_clamp (by omega), z5]; rfl)
      refine g_split (6) (fun z6 => ?_) (fun z6 => ?_)
      · refine g_tabIn dQ_of_26 (by decide) (by decide) rfl rfl ?_
        refine g_aload_n dQ_of_66 rfl ?_
        refine g_iload_n dQ_of_67 rfl ?_
        refine gV1 dQ_of_68 kQ_of_125 rfl rfl (eQ_strays hI (by omega)) (Nat.le_of_ble_eq_true rfl) ?_
        refine g_iret dQ_of_71 rfl rfl ?_
        exact IsQ_R hA hR (by simp only [ofC, hasP, hA, gA1 hA, gA2 hA, gA3 hA, gA4 hA, gA5 hA, gA6 hA]; rw [if_pos ⟨h5_, h15⟩, nI_clamp (by omega), z6]; rfl)
      refine g_split (7) (fun z7 => ?_) (fun z7 => ?_)
      · refine g_tabIn dQ_of_26 (by decide) (by decide) rfl rfl ?_
        refine g_aload_n dQ_of_72 rfl ?_
        refine g_iload_n dQ_of_73 rfl ?_
        refine gV1 dQ_of_74 kQ_of_128 rfl rfl (eQ_fears hI (by omega)) (Nat.le_of_ble_eq_true rfl) ?_
        refine g_iret dQ_of_77 rfl rfl ?_
        exact IsQ_R hA hR (by simp only [ofC, hasP, hA, gA1 hA, gA2 hA, gA3 hA, gA4 hA, gA5 hA, gA6 hA]; rw [if_pos ⟨h5_, h15⟩, nI_clamp (by omega), z7]; rfl)
      refine g_split (8) (fun z8 => ?_) (fun z8 => ?_)
      · refine g_tabIn dQ_of_26 (by decide) (by decide) rfl rfl ?_
        refine g_aload_n dQ_of_78 rfl ?_
        refine g_iload_n dQ_of_79 rfl ?_
        refine gV1 dQ_of_80 kQ_of_131 rfl rfl (cQ_calms (by omega)) (Nat.le_of_ble_eq_true rfl) ?_
        refine g_iret dQ_of_83 rfl rfl ?_
        exact IsQ_R hA hR (by simp only [ofC, hasP, hA, gA1 hA, gA2 hA, gA3 hA, gA4 hA, gA5 hA, gA6 hA]; rw [if_pos ⟨h5_, h15⟩, nI_clamp (by omega), z8]; rfl)
      refine g_split (9) (fun z9 => ?_) (fun z9 => ?_)
      · refine g_tabIn dQ_of_26 (by decide) (by decide) rfl rfl ?_
        refine g_aload_n dQ_of_84 rfl ?_
        refine g_iload_n dQ_of_85 rfl ?_
        refine gV1 dQ_of_86 kQ_of_134 rfl rfl (cQ_light (by omega)) (Nat.le_of_ble_eq_true rfl) ?_
        refine g_iret dQ_of_89 rfl rfl ?_
        exact IsQ_R hA hR (by simp only [ofC, hasP, hA, gA1 hA, gA2 hA, gA3 hA, gA4 hA, gA5 hA, gA6 hA]; rw [if_pos ⟨h5_, h15⟩, nI_clamp (by omega), z9]; rfl)
      refine g_tabOut dQ_of_26 (by have q0 := lv_neT z5 (a := 5) rfl; have q1 := lv_neT z6 (a := 6) rfl; have q2 := lv_neT z7 (a := 7) rfl; have q3 := lv_neT z8 (a := 8) rfl; have q4 := lv_neT z9 (a := 9) rfl; omega) rfl ?_
      have hx : 0 ≤ x ∧ x ≤ 4 := by grind
      have h15b := h15
      obtain ⟨f, hf, ef⟩ := nI_of2 (x := x) (M := 4) (n := 4) rfl (Int32.not_lt.mpr (Int32.le_trans (by decide) hx.1)) hx.2
      subst ef
      refine g_aload_n dQ_of_90 rfl ?_
      refine g_iload_n dQ_of_91 rfl ?_
      refine g_iload_n dQ_of_92 rfl ?_
      refine gV2 dQ_of_93 kQ_of_108 rfl rfl (cQ_sheepIs (f := f) (by omega) (by omega)) (Nat.le_of_ble_eq_true rfl) ?_
      refine g_iret dQ_of_96 rfl rfl ?_
      exact IsQ_R hA hR (by simp only [ofC, hasP, hA, gA1 hA, gA2 hA, gA3 hA, gA4 hA, gA5 hA, gA6 hA]; rw [if_pos ⟨h5_, h15b⟩, nI_clamp (by omega), trait_f A n j hf])
    · have h15 := bI_0.mp h15
      refine g_aload_n dQ_of_18 rfl ?_
      refine g_ldc dQ_of_19 fQ_69 ?_
      refine gV1 dQ_of_21 kQ_of_75 rfl rfl (cQ_finding (q := 0) (by decide)) (Nat.le_of_ble_eq_true rfl) ?_
      refine g_iret dQ_of_24 rfl rfl ?_
      exact IsQ_F hA hR (by decide) (by simp only [ofC, hasP, hA, gA1 hA, gA2 hA, gA3 hA, gA4 hA, gA5 hA, gA6 hA]; rw [if_neg (by grind)])

set_option maxRecDepth 4000 in
theorem cQ_isField {l : Launch} {g : GG} {w : Wd} {x v : Int32} : Res l g Q_isField [.int x, .int v] w (Is (some (.int (bI (canChP x v)))) w) := by
  refine Res.of (by decide) (by simp [Value.category]) (Nat.le_of_ble_eq_true rfl) rfl ?_
  show Go l g Q_isField 0 [some (.int x), some (.int v)] [] w _
  refine g_iload_n dQ_isField_0 rfl ?_
  refine g_split (0) (fun z0 => ?_) (fun z0 => ?_)
  · refine g_tabIn dQ_isField_1 (by decide) (by decide) rfl rfl ?_
    refine g_iload_n dQ_isField_36 rfl ?_
    refine gS1 dQ_isField_37 kQ_isField_101 cQ_isKind (Nat.le_of_ble_eq_true rfl) ?_
    refine g_iret dQ_isField_40 rfl (by first | rfl | exact bI_n) ?_
    exact ⟨by grind [bI], rfl⟩
  refine g_split (1) (fun z1 => ?_) (fun z1 => ?_)
  · refine g_tabIn dQ_isField_1 (by decide) (by decide) rfl rfl ?_
    refine g_iload_n dQ_isField_41 rfl ?_
    refine gS1 dQ_isField_42 kQ_isField_91 cQ_isCell (Nat.le_of_ble_eq_true rfl) ?_
    refine g_iret dQ_isField_45 rfl (by first | rfl | exact bI_n) ?_
    exact ⟨by grind [bI], rfl⟩
  refine g_split (2) (fun z2 => ?_) (fun z2 => ?_)
  · refine g_tabIn dQ_isField_1 (by decide) (by decide) rfl rfl ?_
    refine g_iload_n dQ_isField_46 rfl ?_
    refine g_iconst (v := 0) dQ_isField_47 (by decide) ?_
    refine g_bipush (v := 99) dQ_isField_48 (by decide) ?_
    refine gS3 dQ_isField_50 kQ_isField_79 cQ_within (Nat.le_of_ble_eq_true rfl) ?_
    refine g_iret dQ_isField_53 rfl (by first | rfl | exact bI_n) ?_
    exact ⟨by grind [bI], rfl⟩
  refine g_split (3) (fun z3 => ?_) (fun z3 => ?_)
  · refine g_tabIn dQ_isField_1 (by decide) (by decide) rfl rfl ?_
    refine g_iload_n dQ_isField_54 rfl ?_
    refine g_iconst (v := 0) dQ_isField_55 (by decide) ?_
    refine g_sipush (v := 9999) dQ_isField_56 (by decide) ?_
    refine gS3 dQ_isField_59 kQ_isField_79 cQ_within (Nat.le_of_ble_eq_true rfl) ?_
    refine g_iret dQ_isField_62 rfl (by first | rfl | exact bI_n) ?_
    exact ⟨by grind [bI], rfl⟩
  refine g_split (4) (fun z4 => ?_) (fun z4 => ?_)
  · refine g_tabIn dQ_isField_1 (by decide) (by decide) rfl rfl ?_
    refine g_iload_n dQ_isField_54 rfl ?_
    refine g_iconst (v := 0) dQ_isField_55 (by decide) ?_
    refine g_sipush (v := 9999) dQ_isField_56 (by decide) ?_
    refine gS3 dQ_isField_59 kQ_isField_79 cQ_within (Nat.le_of_ble_eq_true rfl) ?_
    refine g_iret dQ_isField_62 rfl (by first | rfl | exact bI_n) ?_
    exact ⟨by grind [bI], rfl⟩
  refine g_tabOut dQ_isField_1 (by have q0 := lv_neT z0 (a := 0) rfl; have q1 := lv_neT z1 (a := 1) rfl; have q2 := lv_neT z2 (a := 2) rfl; have q3 := lv_neT z3 (a := 3) rfl; have q4 := lv_neT z4 (a := 4) rfl; omega) rfl ?_
  refine g_iconst (v := 0) dQ_isField_63 (by decide) ?_
  refine g_iret dQ_isField_64 rfl (by first | rfl | exact bI_n) ?_
  exact ⟨by grind [bI], rfl⟩

set_option maxRecDepth 4000 in
theorem cQ_change {l : Launch} {g : GG} {S w : Wd} {A : HA} {n b : Nat} (hA : hget S 1 = A) (hR : RM S w) (hI : IVA n b A) {s x v : Int32} : Res l g Q_change [.ref (g.1 33), .int s, .int x, .int v] (mput A w) (IsQ (changeC n s x v S) w) := by
  have h8 := hI.n8
  refine Res.of (by decide) (by simp [Value.category]) (Nat.le_of_ble_eq_true rfl) rfl ?_
  show Go l g Q_change 0 [some (.ref (g.1 33)), some (.int s), some (.int x), some (.int v)] [] (mput A w) _
  refine g_aload_n dQ_change_0 rfl ?_
  refine g_iload_n dQ_change_1 rfl ?_
  refine gV1 dQ_change_2 kQ_change_119 rfl rfl (eQ_isSheep hI) (Nat.le_of_ble_eq_true rfl) ?_
  refine g_if_eq dQ_change_5 rfl (fun h5_ => ?_) (fun h5_ => ?_)
  · have h5_ := bI_0.mp h5_
    refine g_aload_n dQ_change_16 rfl ?_
    refine g_ldc dQ_change_17 fQ_69 ?_
    refine gV1 dQ_change_19 kQ_change_75 rfl rfl (cQ_finding (q := 0) (by decide)) (Nat.le_of_ble_eq_true rfl) ?_
    refine g_iret dQ_change_22 rfl rfl ?_
    exact IsQ_F hA hR (by decide) (by simp only [changeC, hasP, hA, gA1 hA, gA2 hA, gA3 hA, gA4 hA, gA5 hA, gA6 hA]; rw [if_neg (by grind)])
  · have h5_ := Classical.not_not.mp (fun z => h5_ (bI_0.mpr z))
    obtain ⟨j, hj, ej⟩ := hasN h5_.1 (show s < nI n from hI.n6 ▸ h5_.2) (by omega)
    subst ej
    refine g_iload_n dQ_change_8 rfl ?_
    refine g_iload_n dQ_change_9 rfl ?_
    refine gS2 dQ_change_10 kQ_change_137 cQ_isField (Nat.le_of_ble_eq_true rfl) ?_
    refine g_if_ne dQ_change_13 rfl (fun h13 => ?_) (fun h13 => ?_)
    · have h13 := Classical.not_not.mp (fun z => h13 (bI_0.mpr z))
      have hx : 0 ≤ x ∧ x ≤ 4 := by grind
      refine g_iload_n dQ_change_23 rfl ?_
      refine g_iconst (v := 1) dQ_change_24 (by decide) ?_
      refine g_icmp_ne dQ_change_25 rfl (fun h25 => ?_) (fun h25 => ?_)
      · have hns : ¬ (x = 1 ∧ nI j = A.1 2) := by grind
        have h13b := h13
        obtain ⟨f, hf, ef⟩ := nI_of2 (x := x) (M := 4) (n := 4) rfl (Int32.not_lt.mpr (Int32.le_trans (by decide) hx.1)) hx.2
        subst ef
        refine g_aload_n dQ_change_48 rfl ?_
        refine g_iload_n dQ_change_49 rfl ?_
        refine g_iload_n dQ_change_50 rfl ?_
        refine gS2 dQ_change_51 kQ_change_83 (cQ_sheepAt (f := f)) (Nat.le_of_ble_eq_true rfl) ?_
        refine g_iload_n dQ_change_54 rfl ?_
        refine gV2 dQ_change_55 kQ_change_98 rfl rfl (cQ_becomeF (f := f) (by omega) (by omega)) (Nat.le_of_ble_eq_true rfl) ?_
        refine g_iret dQ_change_58 rfl rfl ?_
        first
          | exact IsQ_A hR (by simp only [changeC, hasP, hA, gA1 hA, gA2 hA, gA3 hA, gA4 hA, gA5 hA, gA6 hA]; rw [if_pos ⟨h5_, h13b⟩, if_neg hns, nI_clamp (by omega), trait_f A n j hf, chA_f A j v hf])
          | exact IsQ_F hA hR (by decide) (by simp only [changeC, hasP, hA, gA1 hA, gA2 hA, gA3 hA, gA4 hA, gA5 hA, gA6 hA]; rw [if_pos ⟨h5_, h13⟩, if_pos ⟨h25, h36.symm⟩])
      · refine g_aload_n dQ_change_28 rfl ?_
        refine g_getR2 (k2 := 34) dQ_change_29 fQ_9 rfl rfl (by decide) rfl ?_
        refine g_bipush (v := 7) dQ_change_32 (by decide) ?_
        refine g_mS (j := 2) (i := 7) dQ_change_34 rfl (by decide) (by decide) ?_
        refine g_iload_n dQ_change_35 rfl ?_
        refine g_icmp_ne dQ_change_36 rfl (fun h36 => ?_) (fun h36 => ?_)
        · have hns : ¬ (x = 1 ∧ nI j = A.1 2) := by grind
          have h13b := h13
          obtain ⟨f, hf, ef⟩ := nI_of2 (x := x) (M := 4) (n := 4) rfl (Int32.not_lt.mpr (Int32.le_trans (by decide) hx.1)) hx.2
          subst ef
          refine g_aload_n dQ_change_48 rfl ?_
          refine g_iload_n dQ_change_49 rfl ?_
          refine g_iload_n dQ_change_50 rfl ?_
          refine gS2 dQ_change_51 kQ_change_83 (cQ_sheepAt (f := f)) (Nat.le_of_ble_eq_true rfl) ?_
          refine g_iload_n dQ_change_54 rfl ?_
          refine gV2 dQ_change_55 kQ_change_98 rfl rfl (cQ_becomeF (f := f) (by omega) (by omega)) (Nat.le_of_ble_eq_true rfl) ?_
          refine g_iret dQ_change_58 rfl rfl ?_
          first
            | exact IsQ_A hR (by simp only [changeC, hasP, hA, gA1 hA, gA2 hA, gA3 hA, gA4 hA, gA5 hA, gA6 hA]; rw [if_pos ⟨h5_, h13b⟩, if_neg hns, nI_clamp (by omega), trait_f A n j hf, chA_f A j v hf])
            | exact IsQ_F hA hR (by decide) (by simp only [changeC, hasP, hA, gA1 hA, gA2 hA, gA3 hA, gA4 hA, gA5 hA, gA6 hA]; rw [if_pos ⟨h5_, h13⟩, if_pos ⟨h25, h36.symm⟩])
        · refine g_aload_n dQ_change_39 rfl ?_
          refine g_ldc dQ_change_40 fQ_141 ?_
          refine gV1 dQ_change_42 kQ_change_75 rfl rfl (cQ_finding (q := 4) (by decide)) (Nat.le_of_ble_eq_true rfl) ?_
          refine g_goto dQ_change_45 rfl ?_
          refine g_iret dQ_change_58 rfl rfl ?_
          first
            | exact IsQ_A hR (by simp only [changeC, hasP, hA, gA1 hA, gA2 hA, gA3 hA, gA4 hA, gA5 hA, gA6 hA]; rw [if_pos ⟨h5_, h13b⟩, if_neg hns, nI_clamp (by omega), trait_f A n j hf, chA_f A j v hf])
            | exact IsQ_F hA hR (by decide) (by simp only [changeC, hasP, hA, gA1 hA, gA2 hA, gA3 hA, gA4 hA, gA5 hA, gA6 hA]; rw [if_pos ⟨h5_, h13⟩, if_pos ⟨h25, h36.symm⟩])
    · have h13 := bI_0.mp h13
      refine g_aload_n dQ_change_16 rfl ?_
      refine g_ldc dQ_change_17 fQ_69 ?_
      refine gV1 dQ_change_19 kQ_change_75 rfl rfl (cQ_finding (q := 0) (by decide)) (Nat.le_of_ble_eq_true rfl) ?_
      refine g_iret dQ_change_22 rfl rfl ?_
      exact IsQ_F hA hR (by decide) (by simp only [changeC, hasP, hA, gA1 hA, gA2 hA, gA3 hA, gA4 hA, gA5 hA, gA6 hA]; rw [if_neg (by grind)])

set_option maxRecDepth 4000 in
theorem cQ_drop {l : Launch} {g : GG} {S w : Wd} {A : HA} {n b : Nat} (hA : hget S 1 = A) (hR : RM S w) (hI : IVA n b A)  : Res l g Q_drop [.ref (g.1 33)] (mput A w) (IsQ (dropC S) w) := by
  have h8 := hI.n8
  refine Res.of (by decide) (by simp [Value.category]) (Nat.le_of_ble_eq_true rfl) rfl ?_
  show Go l g Q_drop 0 [some (.ref (g.1 33)), none] [] (mput A w) _
  refine g_aload_n dQ_drop_0 rfl ?_
  refine g_getR2 (k2 := 34) dQ_drop_1 fQ_9 rfl rfl (by decide) rfl ?_
  refine g_bipush (v := 7) dQ_drop_4 (by decide) ?_
  refine g_mS (j := 2) (i := 7) dQ_drop_6 rfl (by decide) (by decide) ?_
  refine g_istore_n dQ_drop_7 (by decide) rfl rfl ?_
  dsimp only [List.set]
  refine g_aload_n dQ_drop_8 rfl ?_
  refine g_getR2 (k2 := 34) dQ_drop_9 fQ_9 rfl rfl (by decide) rfl ?_
  refine g_bipush (v := 7) dQ_drop_12 (by decide) ?_
  refine g_iconst (v := (-1)) dQ_drop_14 (by decide) ?_
  refine g_mP (j := 2) (i := 7) dQ_drop_15 rfl (by decide) (by decide) ?_
  refine g_aload_n dQ_drop_16 rfl ?_
  refine g_iload_n dQ_drop_17 rfl ?_
  refine gV1 dQ_drop_18 kQ_drop_142 rfl rfl cQ_orNone (Nat.le_of_ble_eq_true rfl) ?_
  rcases hI.ca with ec | ⟨c, hc, ec⟩
  · rw [ec, if_pos (by decide), if_pos (by decide)]
    refine g_iret dQ_drop_21 rfl rfl ?_
    have e2 : sS A 2 (-1) = A := by
      show (upd A.1 2 (-1), A.2) = A
      rw [← ec, upd_id]
    rw [e2]
    exact IsQ_F (q := 3) hA hR (by decide) (by simp only [dropC, hA, gA1 hA, gA2 hA, gA3 hA, gA4 hA, gA5 hA, gA6 hA]; rw [if_pos ec])
  rw [ec, if_neg (nI_pos (by omega)), if_neg (nI_pos (by omega))]
  refine g_iret dQ_drop_21 rfl rfl ?_
  exact IsQ_A hR (by simp only [dropC, hA, gA1 hA, gA2 hA, gA3 hA, gA4 hA, gA5 hA, gA6 hA]; rw [if_neg (by rw [ec]; exact nIne (by omega)), ec])

set_option maxRecDepth 4000 in
theorem cQ_who {l : Launch} {g : GG} {S w : Wd} {A : HA} {n b : Nat} (hA : hget S 1 = A) (hR : RM S w) (hI : IVA n b A) {c : Int32} : Res l g Q_who [.ref (g.1 33), .int c] (mput A w) (IsQ (whoC n c S) w) := by
  have h8 := hI.n8
  refine Res.of (by decide) (by simp [Value.category]) (Nat.le_of_ble_eq_true rfl) rfl ?_
  show Go l g Q_who 0 [some (.ref (g.1 33)), some (.int c)] [] (mput A w) _
  refine g_iload_n dQ_who_0 rfl ?_
  refine gS1 dQ_who_1 kQ_who_91 cQ_isCell (Nat.le_of_ble_eq_true rfl) ?_
  refine g_if_eq dQ_who_4 rfl (fun h4 => ?_) (fun h4 => ?_)
  · have h4 := bI_0.mp h4
    refine g_aload_n dQ_who_15 rfl ?_
    refine g_ldc dQ_who_16 fQ_69 ?_
    refine gV1 dQ_who_18 kQ_who_75 rfl rfl (cQ_finding (q := 0) (by decide)) (Nat.le_of_ble_eq_true rfl) ?_
    refine g_iret dQ_who_21 rfl rfl ?_
    first
      | exact IsQ_R hA hR (by rw [whoC, if_pos h4, gA3 hA])
      | exact IsQ_F hA hR (by decide) (by rw [whoC, if_neg h4])
  · have h4 := Classical.not_not.mp (fun z => h4 (bI_0.mpr z))
    refine g_aload_n dQ_who_7 rfl ?_
    refine g_iload_n dQ_who_8 rfl ?_
    refine gV1 dQ_who_9 kQ_who_145 rfl rfl (cQ_setAt hI.n6 hI.n8) (Nat.le_of_ble_eq_true rfl) ?_
    refine g_goto dQ_who_12 rfl ?_
    refine g_iret dQ_who_21 rfl rfl ?_
    first
      | exact IsQ_R hA hR (by rw [whoC, if_pos h4, gA3 hA])
      | exact IsQ_F hA hR (by decide) (by rw [whoC, if_neg h4])

set_option maxRecDepth 4000 in
theorem cQ_go {l : Launch} {g : GG} {S w : Wd} {A : HA} {n b : Nat} (hA : hget S 1 = A) (hR : RM S w) (hI : IVA n b A) {k : Int32} (hb : b + 60 ≤ 99999) : Res l g Q_go [.ref (g.1 33), .int k] (mput A w) (IsQ (goC n k S) w) := by
  have h8 := hI.n8
  refine Res.of (by decide) (by simp [Value.category]) (Nat.le_of_ble_eq_true rfl) rfl ?_
  show Go l g Q_go 0 [some (.ref (g.1 33)), some (.int k)] [] (mput A w) _
  refine g_iload_n dQ_go_0 rfl ?_
  refine g_iconst (v := 1) dQ_go_1 (by decide) ?_
  refine g_bipush (v := 60) dQ_go_2 (by decide) ?_
  refine gS3 dQ_go_4 kQ_go_79 cQ_within (Nat.le_of_ble_eq_true rfl) ?_
  refine g_if_ne dQ_go_7 rfl (fun h7 => ?_) (fun h7 => ?_)
  · have h7 := Classical.not_not.mp (fun z => h7 (bI_0.mpr z))
    have h7b := h7
    have hk : 1 ≤ k ∧ k ≤ 60 := h7
    obtain ⟨i, hi, ei⟩ := nI_of2 (x := k) (M := 60) (n := 60) rfl (Int32.not_lt.mpr (Int32.le_trans (by decide) h7.1)) h7.2
    subst ei
    refine g_aload_n dQ_go_17 rfl ?_
    refine g_getR2 (k2 := 34) dQ_go_18 fQ_9 rfl rfl (by decide) rfl ?_
    refine g_iconst (v := 0) dQ_go_21 (by decide) ?_
    refine g_mS (j := 5) (i := 0) dQ_go_22 rfl (by decide) (by decide) ?_
    refine g_iload_n dQ_go_23 rfl ?_
    refine g_iadd dQ_go_24 ?_
    refine g_ldc dQ_go_25 fQ_190 ?_
    refine g_icmp_le dQ_go_27 rfl (fun h27 => ?_) (fun h27 => ?_)
    · have hle := go_num (b := b) hb hi hI.ho
      refine g_aload_n dQ_go_37 rfl ?_
      refine g_iload_n dQ_go_38 rfl ?_
      refine gV1v dQ_go_39 kQ_go_191 rfl rfl (eQ_hoursGo hI (by omega) hR.te) (Nat.le_of_ble_eq_true rfl) ?_
      refine g_aload_n dQ_go_42 rfl ?_
      refine g_iconst (v := 4) dQ_go_43 (by decide) ?_
      refine gV1 dQ_go_44 kQ_go_194 rfl rfl (cQ_sumOf (n := n) (by rw [hoursF_6]; exact hI.n6) h8 (f := 4) (by decide)) (Nat.le_of_ble_eq_true rfl) ?_
      refine g_iret dQ_go_47 rfl rfl ?_
      exact IsQ_A hR (by simp only [goC, hA, gA1 hA, gA2 hA, gA3 hA, gA4 hA, gA5 hA, gA6 hA]; rw [if_pos h7b, if_pos hle.2, nI_clamp (by omega)]; rfl)
    · have hle := go_num (b := b) hb hi hI.ho
      exact absurd hle.1 h27
  · have h7 := bI_0.mp h7
    refine g_aload_n dQ_go_10 rfl ?_
    refine g_ldc dQ_go_11 fQ_69 ?_
    refine gV1 dQ_go_13 kQ_go_75 rfl rfl (cQ_finding (q := 0) (by decide)) (Nat.le_of_ble_eq_true rfl) ?_
    refine g_iret dQ_go_16 rfl rfl ?_
    exact IsQ_F hA hR (by decide) (by rw [goC, if_neg h7])

set_option maxRecDepth 4000 in
theorem cQ_now {l : Launch} {g : GG} {S w : Wd} {A : HA} {n b : Nat} (hA : hget S 1 = A) (hR : RM S w) (hI : IVA n b A) {x : Int32} : Res l g Q_now [.ref (g.1 33), .int x] (mput A w) (IsQ (nowC n x S) w) := by
  have h8 := hI.n8
  refine Res.of (by decide) (by simp [Value.category]) (Nat.le_of_ble_eq_true rfl) rfl ?_
  show Go l g Q_now 0 [some (.ref (g.1 33)), some (.int x)] [] (mput A w) _
  refine g_iload_n dQ_now_0 rfl ?_
  refine g_split (0) (fun z0 => ?_) (fun z0 => ?_)
  · refine g_tabIn dQ_now_1 (by decide) (by decide) rfl rfl ?_
    refine g_aload_n dQ_now_48 rfl ?_
    refine g_getR2 (k2 := 34) dQ_now_49 fQ_9 rfl rfl (by decide) rfl ?_
    refine g_iconst (v := 0) dQ_now_52 (by decide) ?_
    refine g_mS (j := 5) (i := 0) dQ_now_53 rfl (by decide) (by decide) ?_
    refine g_iret dQ_now_54 rfl rfl ?_
    subst_vars
    exact IsQ_R rfl hR rfl
  refine g_split (1) (fun z1 => ?_) (fun z1 => ?_)
  · refine g_tabIn dQ_now_1 (by decide) (by decide) rfl rfl ?_
    refine g_aload_n dQ_now_55 rfl ?_
    refine gV0 dQ_now_56 kQ_now_197 rfl rfl (eQ_lostSet hI) (Nat.le_of_ble_eq_true rfl) ?_
    refine g_iret dQ_now_59 rfl rfl ?_
    subst_vars
    exact IsQ_R rfl hR rfl
  refine g_split (2) (fun z2 => ?_) (fun z2 => ?_)
  · refine g_tabIn dQ_now_1 (by decide) (by decide) rfl rfl ?_
    refine g_aload_n dQ_now_60 rfl ?_
    refine g_iconst (v := 2) dQ_now_61 (by decide) ?_
    refine gV1 dQ_now_62 kQ_now_194 rfl rfl (cQ_sumOf hI.n6 hI.n8 (f := 2) (by decide)) (Nat.le_of_ble_eq_true rfl) ?_
    refine g_iret dQ_now_65 rfl rfl ?_
    subst_vars
    exact IsQ_R rfl hR rfl
  refine g_split (3) (fun z3 => ?_) (fun z3 => ?_)
  · refine g_tabIn dQ_now_1 (by decide) (by decide) rfl rfl ?_
    refine g_aload_n dQ_now_66 rfl ?_
    refine g_iconst (v := 4) dQ_now_67 (by decide) ?_
    refine gV1 dQ_now_68 kQ_now_194 rfl rfl (cQ_sumOf hI.n6 hI.n8 (f := 4) (by decide)) (Nat.le_of_ble_eq_true rfl) ?_
    refine g_iret dQ_now_71 rfl rfl ?_
    subst_vars
    exact IsQ_R rfl hR rfl
  refine g_split (4) (fun z4 => ?_) (fun z4 => ?_)
  · refine g_tabIn dQ_now_1 (by decide) (by decide) rfl rfl ?_
    refine g_aload_n dQ_now_72 rfl ?_
    refine g_iconst (v := 3) dQ_now_73 (by decide) ?_
    refine gV1 dQ_now_74 kQ_now_194 rfl rfl (cQ_sumOf hI.n6 hI.n8 (f := 3) (by decide)) (Nat.le_of_ble_eq_true rfl) ?_
    refine g_iret dQ_now_77 rfl rfl ?_
    subst_vars
    exact IsQ_R rfl hR rfl
  refine g_split (5) (fun z5 => ?_) (fun z5 => ?_)
  · refine g_tabIn dQ_now_1 (by decide) (by decide) rfl rfl ?_
    refine g_aload_n dQ_now_78 rfl ?_
    refine gV0 dQ_now_79 kQ_now_172 rfl rfl (eQ_sought hI) (Nat.le_of_ble_eq_true rfl) ?_
    refine g_iret dQ_now_82 rfl rfl ?_
    subst_vars
    exact IsQ_R rfl hR rfl
  refine g_split (6) (fun z6 => ?_) (fun z6 => ?_)
  · refine g_tabIn dQ_now_1 (by decide) (by decide) rfl rfl ?_
    refine g_aload_n dQ_now_83 rfl ?_
    refine g_aload_n dQ_now_84 rfl ?_
    refine g_getR2 (k2 := 34) dQ_now_85 fQ_9 rfl rfl (by decide) rfl ?_
    refine g_iconst (v := 3) dQ_now_88 (by decide) ?_
    refine g_mS (j := 0) (i := 3) dQ_now_89 rfl (by decide) (by decide) ?_
    refine gV1 dQ_now_90 kQ_now_145 rfl rfl (cQ_setAt hI.n6 hI.n8) (Nat.le_of_ble_eq_true rfl) ?_
    refine g_iret dQ_now_93 rfl rfl ?_
    subst_vars
    exact IsQ_R rfl hR rfl
  refine g_split (7) (fun z7 => ?_) (fun z7 => ?_)
  · refine g_tabIn dQ_now_1 (by decide) (by decide) rfl rfl ?_
    refine g_aload_n dQ_now_94 rfl ?_
    refine gV0 dQ_now_95 kQ_now_200 rfl rfl (eQ_mostAfraid hI) (Nat.le_of_ble_eq_true rfl) ?_
    refine g_iret dQ_now_98 rfl rfl ?_
    subst_vars
    exact IsQ_R rfl hR rfl
  refine g_tabOut dQ_now_1 (by have q0 := lv_neT z0 (a := 0) rfl; have q1 := lv_neT z1 (a := 1) rfl; have q2 := lv_neT z2 (a := 2) rfl; have q3 := lv_neT z3 (a := 3) rfl; have q4 := lv_neT z4 (a := 4) rfl; have q5 := lv_neT z5 (a := 5) rfl; have q6 := lv_neT z6 (a := 6) rfl; have q7 := lv_neT z7 (a := 7) rfl; omega) rfl ?_
  refine g_aload_n dQ_now_99 rfl ?_
  refine g_ldc dQ_now_100 fQ_69 ?_
  refine gV1 dQ_now_102 kQ_now_75 rfl rfl (cQ_finding (q := 0) (by decide)) (Nat.le_of_ble_eq_true rfl) ?_
  refine g_iret dQ_now_105 rfl rfl ?_
  exact IsQ_F hA hR (by decide) (by simp only [nowC, if_neg z0, if_neg z1, if_neg z2, if_neg z3, if_neg z4, if_neg z5, if_neg z6, if_neg z7])
