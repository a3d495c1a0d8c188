def IsQL (p : Int64 × Wd) (w : Wd) : Option Value → Wd → Prop := fun r w' => r = some (.long p.1) ∧ RM p.2 w' ∧ ∀ k, k < 33 → w' k = w k
theorem IsQL_R {S w : Wd} {A : HA} {p : Int64 × Wd} (hA : hget S 1 = A) (hR : RM S w) {r : Int64} (h : p = (r, S)) : IsQL p w (some (.long r)) (mput A w) := by
  subst h; rw [hR.put hA]; exact ⟨rfl, hR, fun _ _ => rfl⟩
theorem IsQL_F {S w : Wd} {A : HA} {p : Int64 × Wd} (hA : hget S 1 = A) (hR : RM S w) {q : Nat} (hq : q < 7) (h : p = ((fnd q S).1.toInt64, (fnd q S).2)) : IsQL p w (some (.long (-1000001 - nI q).toInt64)) (qf q (mput A w)) := by
  subst h; rw [hR.put hA]; exact ⟨rfl, hR.afnd hq, fun k hk => qf_o w (by omega)⟩
theorem outF_is (p : Int32) : ∀ m, ∃ c, c ≤ m ∧ outF p m = nI c
  | 0 => ⟨0, Nat.le_refl 0, rfl⟩
  | m + 1 => by
    obtain ⟨c, hc, e⟩ := outF_is p m
    unfold outF
    split
    · exact ⟨c, by omega, e⟩
    · exact ⟨c + 1, by omega, by rw [e, nI_succ]⟩
theorem hv_gcd : ∀ c, c < 17 → (hvF 4 (nI c, 16)).1 = nI c / nI (Nat.gcd 16 c) ∧ (hvF 4 (nI c, 16)).2 = 16 / nI (Nat.gcd 16 c) ∧ 0 < Nat.gcd 16 c ∧ Nat.gcd 16 c < 17 := by decide +kernel
theorem gcd_step (a c : Nat) : Nat.gcd c (a % c) = Nat.gcd a c := by rw [Nat.gcd_comm a c, Nat.gcd_rec c a, Nat.gcd_comm]
set_option maxRecDepth 4000 in
theorem lQ_oddsA {l : Launch} {g : GG} {w : Wd} {A : HA} {n b : Nat} (hI : IVA n b A) {j : Nat} (hj : j < n) {k x : Int32} {Q : Option Value → Wd → Prop}  : ∀ (m : Nat) (i : Nat), (16 - i < m) → (i ≤ 16) → (Go l g Q_odds 80 [some (.ref (g.1 33)), some (.int (nI j)), some (.int k), some (.int x), some (.int (outF (A.2.2.1 j) 16)), some (.int (nI 16)), none, none, none, none] [] (mput A w) Q) → Go l g Q_odds 41 [some (.ref (g.1 33)), some (.int (nI j)), some (.int k), some (.int x), some (.int (outF (A.2.2.1 j) i)), some (.int (nI i)), none, none, none, none] [] (mput A w) (Q) := by
  intro m
  induction m with
  | zero => intro i hm hi hk; omega
  | succ m ih =>
    intro i hm hi hk
    have h8 := hI.n8
    refine g_iload dQ_odds_41 rfl ?_
    refine g_bipush (v := 16) dQ_odds_43 (by decide) ?_
    refine g_icmp_ge dQ_odds_45 rfl (fun h45 => ?_) (fun h45 => ?_)
    · rw [show (16 : Int32) = nI 16 from rfl, nI_leI (by omega) (by omega)] at h45
      obtain rfl : i = 16 := by omega
      exact hk
    · rw [show (16 : Int32) = nI 16 from rfl, nI_leI (by omega) (by omega)] at h45
      refine g_iload dQ_odds_48 rfl ?_
      refine g_iload dQ_odds_50 rfl ?_
      refine g_aload_n dQ_odds_52 rfl ?_
      refine g_iload_n dQ_odds_53 rfl ?_
      refine g_iconst (v := 1) dQ_odds_54 (by decide) ?_
      refine gV2 dQ_odds_55 kQ_odds_108 rfl rfl (cQ_sheepIsC (by omega)) (Nat.le_of_ble_eq_true rfl) ?_
      refine g_isub dQ_odds_58 ?_
      refine g_abs dQ_odds_59 lQ_111 (by decide) (Nat.le_of_ble_eq_true rfl) ?_
      rw [abI_dist (in15 (in15n (by omega))) (in15 (hI.sh (j := j) (by omega)).2.1)]
      refine g_iconst (v := 2) dQ_odds_62 (by decide) ?_
      refine g_icmp_le dQ_odds_63 rfl (fun h63 => ?_) (fun h63 => ?_)
      · refine g_iconst (v := 0) dQ_odds_70 (by decide) ?_
        refine g_iadd dQ_odds_71 ?_
        refine g_istore dQ_odds_72 (by decide) rfl rfl ?_
        dsimp only [List.set]
        refine g_iinc (v := nI (i + 1)) dQ_odds_74 rfl (nI_succ i).symm (by decide) rfl rfl ?_
        dsimp only [List.set]
        refine g_goto dQ_odds_77 rfl ?_
        refine g_lv (lv1 := [some (.ref (g.1 33)), some (.int (nI j)), some (.int k), some (.int x), some (.int (outF (A.2.2.1 j) (i + 1))), some (.int (nI (i + 1))), none, none, none, none]) (by rw [outF]; first | rw [if_pos h63, Int32.add_zero] | rw [if_neg h63]) ?_
        exact ih (i + 1) (by omega) (by omega) hk
      · refine g_iconst (v := 1) dQ_odds_66 (by decide) ?_
        refine g_goto dQ_odds_67 rfl ?_
        refine g_iadd dQ_odds_71 ?_
        refine g_istore dQ_odds_72 (by decide) rfl rfl ?_
        dsimp only [List.set]
        refine g_iinc (v := nI (i + 1)) dQ_odds_74 rfl (nI_succ i).symm (by decide) rfl rfl ?_
        dsimp only [List.set]
        refine g_goto dQ_odds_77 rfl ?_
        refine g_lv (lv1 := [some (.ref (g.1 33)), some (.int (nI j)), some (.int k), some (.int x), some (.int (outF (A.2.2.1 j) (i + 1))), some (.int (nI (i + 1))), none, none, none, none]) (by rw [outF]; first | rw [if_pos h63, Int32.add_zero] | rw [if_neg h63]) ?_
        exact ih (i + 1) (by omega) (by omega) hk

set_option maxRecDepth 4000 in
theorem lQ_oddsB {l : Launch} {g : GG} {w : Wd} {A : HA} {n b : Nat} (hI : IVA n b A) {j : Nat} (hj : j < n) {k x : Int32} {Q : Option Value → Wd → Prop} {gd : Int32} : ∀ (m : Nat) (a : Nat) (c : Nat), (c < m) → (a < 100) → (c < 100) → (Go l g Q_odds 111 [some (.ref (g.1 33)), some (.int (nI j)), some (.int k), some (.int x), some (.int (gd)), some (.int (nI (Nat.gcd a c))), some (.int (nI 0)), none, none, none] [] (mput A w) Q) → Go l g Q_odds 88 [some (.ref (g.1 33)), some (.int (nI j)), some (.int k), some (.int x), some (.int (gd)), some (.int (nI a)), some (.int (nI c)), none, none, none] [] (mput A w) (Q) := by
  intro m
  induction m with
  | zero => intro a c hm ha hc hk; omega
  | succ m ih =>
    intro a c hm ha hc hk
    refine g_iload dQ_odds_88 rfl ?_
    refine g_if_eq dQ_odds_90 rfl (fun h90 => ?_) (fun h90 => ?_)
    · rw [show (0 : Int32) = nI 0 from rfl, nI_eq (by omega) (by omega)] at h90
      subst h90
      rw [Nat.gcd_zero_right] at hk
      exact hk
    · rw [show (0 : Int32) = nI 0 from rfl, nI_eq (by omega) (by omega)] at h90
      refine g_iload dQ_odds_93 rfl ?_
      refine g_iload dQ_odds_95 rfl ?_
      refine g_irem dQ_odds_97 (by rw [show (0 : Int32) = nI 0 from rfl, nI_eq (by omega) (by omega)]; exact h90) ?_
      refine g_top (y := nI (a % c)) (pk_rem (by omega) (by omega) (by omega)) ?_
      have hml := Nat.mod_lt a (show 0 < c by omega)
      refine g_istore dQ_odds_98 (by decide) rfl rfl ?_
      dsimp only [List.set]
      refine g_iload dQ_odds_100 rfl ?_
      refine g_istore dQ_odds_102 (by decide) rfl rfl ?_
      dsimp only [List.set]
      refine g_iload dQ_odds_104 rfl ?_
      refine g_istore dQ_odds_106 (by decide) rfl rfl ?_
      dsimp only [List.set]
      refine g_goto dQ_odds_108 rfl ?_
      refine g_drop 7 rfl ?_
      dsimp only [List.set]
      exact ih c (a % c) (by omega) (by omega) (by omega) (by rw [gcd_step]; exact hk)

set_option maxRecDepth 4000 in
theorem lQ_oddsC {l : Launch} {g : GG} {w : Wd} {A : HA} {j kz c gd : Nat} {x : Int32} (hkz : kz ≤ 15) (hg : 0 < gd) (hg2 : gd < 17) : ∀ (m : Nat) (i : Nat), (kz - i < m) → (i ≤ kz) → Go l g Q_odds 117 [some (.ref (g.1 33)), some (.int (nI j)), some (.int (nI kz)), some (.int x), some (.int (nI c)), some (.int (nI gd)), some (.int (nI 0)), some (.long (powF (if x = 0 then nI c / nI gd else 16 / nI gd) i)), none, some (.int (nI i))] [] (mput A w) (Is (some (.long (powF (if x = 0 then nI c / nI gd else 16 / nI gd) kz))) (mput A w)) := by
  intro m
  induction m with
  | zero => intro i hm hi; omega
  | succ m ih =>
    intro i hm hi
    refine g_iload dQ_odds_117 rfl ?_
    refine g_iload_n dQ_odds_119 rfl ?_
    refine g_icmp_ge dQ_odds_120 rfl (fun h120 => ?_) (fun h120 => ?_)
    · rw [nI_leI (by omega) (by omega)] at h120
      obtain rfl : i = kz := by omega
      refine g_lload dQ_odds_149 rfl ?_
      refine g_lret dQ_odds_151 rfl ?_
      exact ⟨rfl, rfl⟩
    · rw [nI_leI (by omega) (by omega)] at h120
      refine g_lload dQ_odds_123 rfl ?_
      refine g_iload_n dQ_odds_125 rfl ?_
      refine g_if_ne dQ_odds_126 rfl (fun h126 => ?_) (fun h126 => ?_)
      · refine g_bipush (v := 16) dQ_odds_134 (by decide) ?_
        refine g_iload dQ_odds_136 rfl ?_
        refine g_idiv dQ_odds_138 (by rw [show (0 : Int32) = nI 0 from rfl, nI_eq (by omega) (by omega)]; omega) ?_
        refine g_i2l dQ_odds_139 ?_
        refine g_lmul dQ_odds_140 ?_
        refine g_lstore dQ_odds_141 (by decide) rfl rfl ?_
        dsimp only [List.set]
        refine g_iinc (v := nI (i + 1)) dQ_odds_143 rfl (nI_succ i).symm (by decide) rfl rfl ?_
        dsimp only [List.set]
        refine g_goto dQ_odds_146 rfl ?_
        refine g_lv (lv1 := [some (.ref (g.1 33)), some (.int (nI j)), some (.int (nI kz)), some (.int x), some (.int (nI c)), some (.int (nI gd)), some (.int (nI 0)), some (.long (powF (if x = 0 then nI c / nI gd else 16 / nI gd) (i + 1))), none, some (.int (nI (i + 1)))]) (by rw [powF]; first | rw [if_pos (Classical.not_not.mp h126)] | rw [if_pos h126] | rw [if_neg h126]) ?_
        exact ih (i + 1) (by omega) (by omega)
      · refine g_iload dQ_odds_129 rfl ?_
        refine g_goto dQ_odds_131 rfl ?_
        refine g_iload dQ_odds_136 rfl ?_
        refine g_idiv dQ_odds_138 (by rw [show (0 : Int32) = nI 0 from rfl, nI_eq (by omega) (by omega)]; omega) ?_
        refine g_i2l dQ_odds_139 ?_
        refine g_lmul dQ_odds_140 ?_
        refine g_lstore dQ_odds_141 (by decide) rfl rfl ?_
        dsimp only [List.set]
        refine g_iinc (v := nI (i + 1)) dQ_odds_143 rfl (nI_succ i).symm (by decide) rfl rfl ?_
        dsimp only [List.set]
        refine g_goto dQ_odds_146 rfl ?_
        refine g_lv (lv1 := [some (.ref (g.1 33)), some (.int (nI j)), some (.int (nI kz)), some (.int x), some (.int (nI c)), some (.int (nI gd)), some (.int (nI 0)), some (.long (powF (if x = 0 then nI c / nI gd else 16 / nI gd) (i + 1))), none, some (.int (nI (i + 1)))]) (by rw [powF]; first | rw [if_pos (Classical.not_not.mp h126)] | rw [if_pos h126] | rw [if_neg h126]) ?_
        exact ih (i + 1) (by omega) (by omega)

set_option maxRecDepth 4000 in
theorem cQ_odds {l : Launch} {g : GG} {S w : Wd} {A : HA} {n b : Nat} (hA : hget S 1 = A) (hR : RM S w) (hI : IVA n b A) {s k x : Int32} : Res l g Q_odds [.ref (g.1 33), .int s, .int k, .int x] (mput A w) (IsQL (oddsC s k x S) w) := by
  have h8 := hI.n8
  refine Res.of (by decide) (by simp [Value.category]) (Nat.le_of_ble_eq_true rfl) rfl ?_
  show Go l g Q_odds 0 [some (.ref (g.1 33)), some (.int s), some (.int k), some (.int x), none, none, none, none, none, none] [] (mput A w) _
  refine g_aload_n dQ_odds_0 rfl ?_
  refine g_iload_n dQ_odds_1 rfl ?_
  refine gV1 dQ_odds_2 kQ_odds_119 rfl rfl (eQ_isSheep hI) (Nat.le_of_ble_eq_true rfl) ?_
  refine g_if_eq dQ_odds_5 rfl (fun h5_ => ?_) (fun h5_ => ?_)
  · have h5_ := bI_0.mp h5_
    refine g_aload_n dQ_odds_27 rfl ?_
    refine g_ldc dQ_odds_28 fQ_69 ?_
    refine gV1 dQ_odds_30 kQ_odds_75 rfl rfl (cQ_finding (q := 0) (by decide)) (Nat.le_of_ble_eq_true rfl) ?_
    refine g_i2l dQ_odds_33 ?_
    refine g_lret dQ_odds_34 rfl ?_
    exact IsQL_F hA hR (by decide) (by simp only [oddsC, hasP, hA, gA1 hA, gA2 hA, gA3 hA, gA4 hA, gA5 hA, gA6 hA]; rw [if_neg (by grind)])
  · have h5_ := Classical.not_not.mp (fun z => h5_ (bI_0.mpr z))
    obtain ⟨j, hj, ej⟩ := hasN h5_.1 (show s < nI n from hI.n6 ▸ h5_.2) (by omega)
    subst ej
    refine g_iload_n dQ_odds_8 rfl ?_
    refine g_iconst (v := 0) dQ_odds_9 (by decide) ?_
    refine g_bipush (v := 15) dQ_odds_10 (by decide) ?_
    refine gS3 dQ_odds_12 kQ_odds_79 cQ_within (Nat.le_of_ble_eq_true rfl) ?_
    refine g_if_eq dQ_odds_15 rfl (fun h15 => ?_) (fun h15 => ?_)
    · have h15 := bI_0.mp h15
      refine g_aload_n dQ_odds_27 rfl ?_
      refine g_ldc dQ_odds_28 fQ_69 ?_
      refine gV1 dQ_odds_30 kQ_odds_75 rfl rfl (cQ_finding (q := 0) (by decide)) (Nat.le_of_ble_eq_true rfl) ?_
      refine g_i2l dQ_odds_33 ?_
      refine g_lret dQ_odds_34 rfl ?_
      exact IsQL_F hA hR (by decide) (by simp only [oddsC, hasP, hA, gA1 hA, gA2 hA, gA3 hA, gA4 hA, gA5 hA, gA6 hA]; rw [if_neg (by grind)])
    · have h15 := Classical.not_not.mp (fun z => h15 (bI_0.mpr z))
      refine g_iload_n dQ_odds_18 rfl ?_
      refine g_iconst (v := 0) dQ_odds_19 (by decide) ?_
      refine g_iconst (v := 1) dQ_odds_20 (by decide) ?_
      refine gS3 dQ_odds_21 kQ_odds_79 cQ_within (Nat.le_of_ble_eq_true rfl) ?_
      refine g_if_ne dQ_odds_24 rfl (fun h24 => ?_) (fun h24 => ?_)
      · have h24 := Classical.not_not.mp (fun z => h24 (bI_0.mpr z))
        have h15b := h15
        have h24b := h24
        obtain ⟨kz, hkz, ekz⟩ := nI_of2 (x := k) (M := 15) (n := 15) rfl (Int32.not_lt.mpr h15.1) h15.2
        subst ekz
        refine g_iconst (v := 0) dQ_odds_35 (by decide) ?_
        refine g_istore dQ_odds_36 (by decide) rfl rfl ?_
        dsimp only [List.set]
        refine g_iconst (v := 0) dQ_odds_38 (by decide) ?_
        refine g_istore dQ_odds_39 (by decide) rfl rfl ?_
        dsimp only [List.set]
        obtain ⟨c, hc, ec⟩ := outF_is (A.2.2.1 j) 16
        have hgc := hv_gcd c (by omega)
        refine lQ_oddsA hI hj 17 0 (by omega) (by omega) ?_
        rw [ec]
        refine g_bipush (v := 16) dQ_odds_80 (by decide) ?_
        refine g_istore dQ_odds_82 (by decide) rfl rfl ?_
        dsimp only [List.set]
        refine g_iload dQ_odds_84 rfl ?_
        refine g_istore dQ_odds_86 (by decide) rfl rfl ?_
        dsimp only [List.set]
        refine lQ_oddsB hI hj (c + 1) 16 c (by omega) (by omega) (by omega) ?_
        refine g_lconst (v := 1) dQ_odds_111 (by decide) ?_
        refine g_lstore dQ_odds_112 (by decide) rfl rfl ?_
        dsimp only [List.set]
        refine g_iconst (v := 0) dQ_odds_114 (by decide) ?_
        refine g_istore dQ_odds_115 (by decide) rfl rfl ?_
        dsimp only [List.set]
        refine g_mono (fun r w2 hh => ?_) (lQ_oddsC (c := c) (gd := Nat.gcd 16 c) (x := x) hkz hgc.2.2.1 hgc.2.2.2 (kz + 1) 0 (by omega) (by omega))
        obtain ⟨rfl, rfl⟩ := hh
        refine IsQL_R hA hR ?_
        simp only [oddsC, hasP, hA, gA1 hA, gA2 hA, gA3 hA, gA4 hA, gA5 hA, gA6 hA]
        rw [if_pos ⟨h5_, h15b, h24b⟩, nI_clamp (by omega), nI_clamp (by omega), ec, hgc.1, hgc.2.1]
      · have h24 := bI_0.mp h24
        refine g_aload_n dQ_odds_27 rfl ?_
        refine g_ldc dQ_odds_28 fQ_69 ?_
        refine gV1 dQ_odds_30 kQ_odds_75 rfl rfl (cQ_finding (q := 0) (by decide)) (Nat.le_of_ble_eq_true rfl) ?_
        refine g_i2l dQ_odds_33 ?_
        refine g_lret dQ_odds_34 rfl ?_
        exact IsQL_F hA hR (by decide) (by simp only [oddsC, hasP, hA, gA1 hA, gA2 hA, gA3 hA, gA4 hA, gA5 hA, gA6 hA]; rw [if_neg (by grind)])
