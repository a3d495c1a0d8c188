def byF (b : Int32) (m : Nat) : Int32 := (b.toUInt32 >>> ((8 * nI m).toUInt32 &&& Int32.toUInt32 31)).toInt32 &&& 255
def fd1 (b : Int32) (t : Nat) (w : Wd) : Wd := up (up w 22 t b) 21 1 (nI (t + 1))
def fdW (b : Int32) : Nat → Nat → Wd → Wd
  | 0, _, w => w
  | m + 1, t, w => fdW b m (t + 1) (fd1 (byF b m) t w)
def feedC (b n : Int32) (w : Wd) : Int32 × Wd := if 1 ≤ n ∧ n ≤ 4 then (if n ≤ 120 - w 21 1 then (w 21 1 + n, fdW b n.toNatClampNeg (w 21 1).toNatClampNeg w) else fnd 1 w) else fnd 0 w
theorem fd1_21 (b : Int32) (t : Nat) (w : Wd) : fd1 b t w 21 1 = nI (t + 1) := by unfold fd1; rw [up_same]; simp [upd]
def hvF : Nat → Int32 × Int32 → Int32 × Int32
  | 0, p => p
  | m + 1, p => if p.1 - p.1 / 2 * 2 = 0 then hvF m (p.1 / 2, p.2 / 2) else p
def IsL (p : Int64 × Wd) : Option Value → Wd → Prop := Is (some (.long p.1)) p.2
theorem IsL_of {r : Int64} {w : Wd} {p : Int64 × Wd} (h : p = (r, w)) : IsL p (some (.long r)) w := by subst h; exact ⟨rfl, rfl⟩
def oddsC (s k x : Int32) (w : Wd) : Int64 × Wd := if hasP w s ∧ (0 ≤ k ∧ k ≤ 15) ∧ (0 ≤ x ∧ x ≤ 1) then (powF (if x = 0 then (hvF 4 (outF (w 3 s.toNatClampNeg) 16, 16)).1 else (hvF 4 (outF (w 3 s.toNatClampNeg) 16, 16)).2) k.toNatClampNeg, w) else ((fnd 0 w).1.toInt64, (fnd 0 w).2)
set_option maxRecDepth 4000 in
theorem cT_hasRoomFor {l : Launch} {g : GG} {w : Wd} {x : Int32} : Res l g T_hasRoomFor [.ref (g.1 21), .int x] w (Is (some (.int (bI (x ≤ 120 - w 21 1)))) w) := by
  refine Res.of (by decide) (by simp [Value.category]) (Nat.le_of_ble_eq_true rfl) rfl ?_
  show Go l g T_hasRoomFor 0 [some (.ref (g.1 21)), some (.int x)] [] w _
  refine g_iload_n dT_hasRoomFor_0 rfl ?_
  refine g_bipush (v := 120) dT_hasRoomFor_1 (by decide) ?_
  refine g_aload_n dT_hasRoomFor_3 rfl ?_
  refine g_getI dT_hasRoomFor_4 fT_15 rfl rfl ?_
  refine g_isub dT_hasRoomFor_7 ?_
  refine g_icmp_gt dT_hasRoomFor_8 rfl (fun h8 => ?_) (fun h8 => ?_)
  · refine g_iconst (v := 0) dT_hasRoomFor_15 (by decide) ?_
    refine g_iret dT_hasRoomFor_16 rfl (by first | rfl | exact bI_n) ?_
    exact ⟨by first | rw [bI_f (Int32.not_le.mpr h8)] | rw [bI_t (Int32.not_lt.mp h8)], rfl⟩
  · refine g_iconst (v := 1) dT_hasRoomFor_11 (by decide) ?_
    refine g_goto dT_hasRoomFor_12 rfl ?_
    refine g_iret dT_hasRoomFor_16 rfl (by first | rfl | exact bI_n) ?_
    exact ⟨by first | rw [bI_f (Int32.not_le.mpr h8)] | rw [bI_t (Int32.not_lt.mp h8)], rfl⟩

theorem tpRoom {t : Nat} (ht : t ≤ 120) {m : Nat} (hm : m ≤ 4) : nI m ≤ 120 - nI t ↔ t + m ≤ 120 := by
  rw [show (120 : Int32) = nI 120 from rfl, pk_sub ht, nI_leI (by omega) (by omega)]
  omega

set_option maxRecDepth 4000 in
theorem cT_append {l : Launch} {g : GG} {w : Wd} {t : Nat} (ht : w 21 1 = nI t) (h120 : t < 120) {b : Int32} : Res l g T_append [.ref (g.1 21), .int b] w (Is none (fd1 b t w)) := by
  refine Res.of (by decide) (by simp [Value.category]) (Nat.le_of_ble_eq_true rfl) rfl ?_
  show Go l g T_append 0 [some (.ref (g.1 21)), some (.int b)] [] w _
  refine g_aload_n dT_append_0 rfl ?_
  refine g_iconst (v := 1) dT_append_1 (by decide) ?_
  refine gV1 dT_append_2 kT_append_28 rfl rfl cT_hasRoomFor (Nat.le_of_ble_eq_true rfl) ?_
  refine g_if_eq dT_append_5 rfl (fun h5 => ?_) (fun h5 => ?_)
  · have h5 := bI_0.mp h5
    exact absurd (by rw [ht]; exact (tpRoom (t := t) (m := 1) (by omega) (by omega)).mpr (by omega)) h5
  · have h5 := Classical.not_not.mp (fun z => h5 (bI_0.mpr z))
    refine g_aload_n dT_append_8 rfl ?_
    refine g_getR2 (k2 := 22) dT_append_9 fT_9 rfl rfl (by decide) rfl ?_
    refine g_aload_n dT_append_12 rfl ?_
    refine g_getI dT_append_13 fT_15 rfl rfl ?_
    refine g_top ht ?_
    refine g_iload_n dT_append_16 rfl ?_
    refine g_iastN dT_append_17 rfl (by omega) (by decide) ?_
    refine g_aload_n dT_append_18 rfl ?_
    refine g_dup dT_append_19 rfl ?_
    refine g_getI dT_append_20 fT_15 rfl rfl ?_
    refine g_top (y := nI t) (by rw [up_other _ _ _ _ (by decide)]; exact ht) ?_
    refine g_iconst (v := 1) dT_append_23 (by decide) ?_
    refine g_iadd dT_append_24 ?_
    refine g_top (y := nI (t + 1)) (nI_succ t).symm ?_
    refine g_putI dT_append_25 fT_15 rfl rfl rfl rfl ?_
    refine g_vret dT_append_28 rfl ?_
    exact ⟨rfl, rfl⟩

set_option maxRecDepth 4000 in
theorem lS_feed {l : Launch} {g : GG} {b nn : Int32} : ∀ (m : Nat) (t : Nat) (w : Wd), m ≤ 4 → w 21 1 = nI t → t + m ≤ 120 → Go l g S_feed 36 [some (.ref (g.1 0)), some (.int b), some (.int nn), some (.int (nI m - 1))] [] w (IsP (nI (t + m), fdW b m t w)) := by
  intro m
  induction m with
  | zero =>
    intro t w hm ht hr
    refine g_iload_n dS_feed_36 rfl ?_
    refine g_if_lt dS_feed_37 rfl (fun h37 => ?_) (fun h37 => ?_)
    · refine g_aload_n dS_feed_63 rfl ?_
      refine g_getR2 (k2 := 21) dS_feed_64 fS_43 rfl rfl (by decide) rfl ?_
      refine g_getI dS_feed_67 fS_207 rfl rfl ?_
      refine g_iret dS_feed_70 rfl rfl ?_
      exact IsP_of (by rw [ht]; rfl)
    · exact absurd (by decide) h37
  | succ m ih =>
    intro t w hm ht hr
    refine g_iload_n dS_feed_36 rfl ?_
    refine g_top (y := nI m) (by rw [nI_succ]; grind) ?_
    refine g_if_lt dS_feed_37 rfl (fun h37 => ?_) (fun h37 => ?_)
    · exact absurd h37 (nI_pos (show m < 2 ^ 31 by omega))
    · refine g_aload_n dS_feed_40 rfl ?_
      refine g_getR2 (k2 := 21) dS_feed_41 fS_43 rfl rfl (by decide) rfl ?_
      refine g_iload_n dS_feed_44 rfl ?_
      refine g_bipush (v := 8) dS_feed_45 (by decide) ?_
      refine g_iload_n dS_feed_47 rfl ?_
      refine g_top (y := nI m) (by rw [nI_succ]; grind) ?_
      refine g_imul dS_feed_48 ?_
      refine g_iushr dS_feed_49 ?_
      refine g_sipush (v := 255) dS_feed_50 (by decide) ?_
      refine g_iand dS_feed_53 ?_
      refine gV1v dS_feed_54 kS_feed_204 rfl rfl (cT_append ht (by omega)) (Nat.le_of_ble_eq_true rfl) ?_
      refine g_iinc (v := nI m - 1) dS_feed_57 rfl (by rw [nI_succ]; show nI m + 1 - 1 + (-1) = nI m - 1; grind) (by decide) rfl rfl ?_
      dsimp only [List.set]
      refine g_goto dS_feed_60 rfl ?_
      refine g_mono (fun r w2 h => ?_) (ih (t + 1) _ (by omega) (fd1_21 _ t w) (by omega))
      rw [show t + (m + 1) = t + 1 + m by omega]
      exact h

set_option maxRecDepth 4000 in
theorem cS_feed {l : Launch} {g : GG} {w : Wd} {t : Nat} (ht : w 21 1 = nI t) (h120 : t ≤ 120) {b k : Int32} : Res l g S_feed [.ref (g.1 0), .int b, .int k] w (IsP (feedC b k w)) := by
  refine Res.of (by decide) (by simp [Value.category]) (Nat.le_of_ble_eq_true rfl) rfl ?_
  show Go l g S_feed 0 [some (.ref (g.1 0)), some (.int b), some (.int k), none] [] w _
  refine g_iload_n dS_feed_0 rfl ?_
  refine g_iconst (v := 1) dS_feed_1 (by decide) ?_
  refine g_iconst (v := 4) dS_feed_2 (by decide) ?_
  refine gS3 dS_feed_3 kS_feed_81 cS_isWithin (Nat.le_of_ble_eq_true rfl) ?_
  refine g_if_ne dS_feed_6 rfl (fun h6 => ?_) (fun h6 => ?_)
  · have h6 := Classical.not_not.mp (fun z => h6 (bI_0.mpr z))
    obtain ⟨j, hj, ej⟩ := nI_of2 (n := 4) (by decide) (fun z => absurd (Int32.lt_of_lt_of_le z (by decide : (0 : Int32) ≤ 1)) (Int32.not_lt.mpr h6.1)) h6.2
    subst ej
    refine g_aload_n dS_feed_15 rfl ?_
    refine g_getR2 (k2 := 21) dS_feed_16 fS_43 rfl rfl (by decide) rfl ?_
    refine g_iload_n dS_feed_19 rfl ?_
    refine gV1 dS_feed_20 kS_feed_201 rfl rfl cT_hasRoomFor (Nat.le_of_ble_eq_true rfl) ?_
    refine g_if_ne dS_feed_23 rfl (fun h23 => ?_) (fun h23 => ?_)
    · have h23 := Classical.not_not.mp (fun z => h23 (bI_0.mpr z))
      refine g_iload_n dS_feed_32 rfl ?_
      refine g_iconst (v := 1) dS_feed_33 (by decide) ?_
      refine g_isub dS_feed_34 ?_
      refine g_istore_n dS_feed_35 (by decide) rfl rfl ?_
      dsimp only [List.set]
      refine g_mono (fun r w2 h => ?_) (lS_feed j t w hj ht ((tpRoom h120 hj).mp (ht ▸ h23)))
      rw [feedC, if_pos h6, if_pos h23, ht, nI_add, nI_clamp (by omega), nI_clamp (by omega)]
      exact h
    · have h23 := bI_0.mp h23
      refine g_aload_n dS_feed_26 rfl ?_
      refine g_iconst (v := 1) dS_feed_27 (by decide) ?_
      refine gV1 dS_feed_28 kS_feed_61 rfl rfl (cS_finding (q := 1) (by decide)) (Nat.le_of_ble_eq_true rfl) ?_
      refine g_iret dS_feed_31 rfl rfl ?_
      exact IsP_of (by rw [feedC, if_pos h6, if_neg h23])
  · have h6 := bI_0.mp h6
    refine g_aload_n dS_feed_9 rfl ?_
    refine g_iconst (v := 0) dS_feed_10 (by decide) ?_
    refine gV1 dS_feed_11 kS_feed_61 rfl rfl (cS_finding (q := 0) (by decide)) (Nat.le_of_ble_eq_true rfl) ?_
    refine g_iret dS_feed_14 rfl rfl ?_
    exact IsP_of (if_neg h6)

set_option maxRecDepth 4000 in
theorem lS_power {l : Launch} {g : GG} {w : Wd} {b : Int32} {k : Nat} (hk : k ≤ 15) : ∀ (m : Nat) (i : Nat), k - i < m → i ≤ k → Go l g S_power 5 [some (.int b), some (.int (nI k)), some (.long (powF b i)), none, some (.int (nI i))] [] w (Is (some (.long (powF b k))) w) := by
  intro m
  induction m with
  | zero => intro i hm hi; omega
  | succ m ih =>
    intro i hm hi
    refine g_iload dS_power_5 rfl ?_
    refine g_iload_n dS_power_7 rfl ?_
    refine g_icmp_ge dS_power_8 rfl (fun h8 => ?_) (fun h8 => ?_)
    · rw [nI_leI (by omega) (by omega)] at h8
      refine g_lload_n dS_power_22 rfl ?_
      refine g_lret dS_power_23 rfl ?_
      exact ⟨by rw [show i = k by omega], rfl⟩
    · rw [nI_leI (by omega) (by omega)] at h8
      refine g_lload_n dS_power_11 rfl ?_
      refine g_iload_n dS_power_12 rfl ?_
      refine g_i2l dS_power_13 ?_
      refine g_lmul dS_power_14 ?_
      refine g_lstore_n dS_power_15 (by decide) rfl rfl ?_
      dsimp only [List.set]
      refine g_iinc (v := nI (i + 1)) dS_power_16 rfl (nI_succ i).symm (by decide) rfl rfl ?_
      dsimp only [List.set]
      refine g_goto dS_power_19 rfl ?_
      exact ih (i + 1) (by omega) (by omega)

set_option maxRecDepth 4000 in
theorem cS_power {l : Launch} {g : GG} {w : Wd} {b : Int32} {k : Nat} (hk : k ≤ 15) : Res l g S_power [.int b, .int (nI k)] w (Is (some (.long (powF b k))) w) := by
  refine Res.of (by decide) (by simp [Value.category]) (Nat.le_of_ble_eq_true rfl) rfl ?_
  show Go l g S_power 0 [some (.int b), some (.int (nI k)), none, none, none] [] w _
  refine g_lconst (v := 1) dS_power_0 (by decide) ?_
  refine g_lstore_n dS_power_1 (by decide) rfl rfl ?_
  dsimp only [List.set]
  refine g_iconst (v := 0) dS_power_2 (by decide) ?_
  refine g_istore dS_power_3 (by decide) rfl rfl ?_
  dsimp only [List.set]
  exact lS_power hk (k + 1) 0 (by omega) (by omega)

set_option maxRecDepth 4000 in
theorem lS_odds {l : Launch} {g : GG} {w : Wd} {j k : Nat} (hk : k ≤ 15) {x : Int32}  : ∀ (m : Nat) (p : Int32 × Int32), m ≤ 4 → Go l g S_odds 54 [some (.ref (g.1 0)), some (.int (nI j)), some (.int (nI k)), some (.int x), some (.int p.1), some (.int p.2), some (.int (nI (4 - m)))] [] w (Is (some (.long (powF (if x = 0 then (hvF m p).1 else (hvF m p).2) k))) w) := by
  intro m
  induction m with
  | zero =>
    intro p hm
    refine g_iload dS_odds_54 rfl ?_
    refine g_iconst (v := 4) dS_odds_56 (by decide) ?_
    refine g_icmp_ge dS_odds_57 rfl (fun h57 => ?_) (fun h57 => ?_)
    · refine g_iload_n dS_odds_85 rfl ?_
      refine g_if_ne dS_odds_86 rfl (fun h86 => ?_) (fun h86 => ?_)
      · refine g_iload dS_odds_94 rfl ?_
        refine g_iload_n dS_odds_96 rfl ?_
        refine gS2 dS_odds_97 kS_odds_197 (cS_power hk) (Nat.le_of_ble_eq_true rfl) ?_
        refine g_lret dS_odds_100 rfl ?_
        exact ⟨by rw [hvF, if_neg h86], rfl⟩
      · refine g_iload dS_odds_89 rfl ?_
        refine g_goto dS_odds_91 rfl ?_
        refine g_iload_n dS_odds_96 rfl ?_
        refine gS2 dS_odds_97 kS_odds_197 (cS_power hk) (Nat.le_of_ble_eq_true rfl) ?_
        refine g_lret dS_odds_100 rfl ?_
        exact ⟨by rw [hvF, if_pos h86], rfl⟩
    · exact absurd (by decide) h57
  | succ m ih =>
    intro p hm
    refine g_iload dS_odds_54 rfl ?_
    refine g_iconst (v := 4) dS_odds_56 (by decide) ?_
    refine g_icmp_ge dS_odds_57 rfl (fun h57 => ?_) (fun h57 => ?_)
    · rw [show (4 : Int32) = nI 4 from rfl, nI_leI (by omega) (by omega)] at h57
      omega
    · rw [show (4 : Int32) = nI 4 from rfl, nI_leI (by omega) (by omega)] at h57
      refine g_iload dS_odds_60 rfl ?_
      refine g_iconst (v := 2) dS_odds_62 (by decide) ?_
      refine g_irem dS_odds_63 (by decide) ?_
      refine g_if_ne dS_odds_64 rfl (fun h64 => ?_) (fun h64 => ?_)
      · refine g_iload_n dS_odds_85 rfl ?_
        refine g_if_ne dS_odds_86 rfl (fun h86 => ?_) (fun h86 => ?_)
        · refine g_iload dS_odds_94 rfl ?_
          refine g_iload_n dS_odds_96 rfl ?_
          refine gS2 dS_odds_97 kS_odds_197 (cS_power hk) (Nat.le_of_ble_eq_true rfl) ?_
          refine g_lret dS_odds_100 rfl ?_
          exact ⟨by first | rw [hvF, if_neg h64, if_neg h86] | rw [hvF, if_neg h64, if_pos h86], rfl⟩
        · refine g_iload dS_odds_89 rfl ?_
          refine g_goto dS_odds_91 rfl ?_
          refine g_iload_n dS_odds_96 rfl ?_
          refine gS2 dS_odds_97 kS_odds_197 (cS_power hk) (Nat.le_of_ble_eq_true rfl) ?_
          refine g_lret dS_odds_100 rfl ?_
          exact ⟨by first | rw [hvF, if_neg h64, if_neg h86] | rw [hvF, if_neg h64, if_pos h86], rfl⟩
      · refine g_iload dS_odds_67 rfl ?_
        refine g_iconst (v := 2) dS_odds_69 (by decide) ?_
        refine g_idiv dS_odds_70 (by decide) ?_
        refine g_istore dS_odds_71 (by decide) rfl rfl ?_
        dsimp only [List.set]
        refine g_iload dS_odds_73 rfl ?_
        refine g_iconst (v := 2) dS_odds_75 (by decide) ?_
        refine g_idiv dS_odds_76 (by decide) ?_
        refine g_istore dS_odds_77 (by decide) rfl rfl ?_
        dsimp only [List.set]
        refine g_iinc (v := nI (4 - m)) dS_odds_79 rfl (by rw [show 4 - m = 4 - (m + 1) + 1 by omega, nI_succ]; rfl) (by decide) rfl rfl ?_
        dsimp only [List.set]
        refine g_goto dS_odds_82 rfl ?_
        refine g_mono (fun r w2 h => ?_) (ih (p.1 / 2, p.2 / 2) (by omega))
        rw [hvF, if_pos h64]
        exact h

set_option maxRecDepth 4000 in
theorem cS_odds {l : Launch} {g : GG} {w : Wd} {n : Nat} (hn : w 1 6 = nI n) (h8 : n ≤ 8) {s k x : Int32} : Res l g S_odds [.ref (g.1 0), .int s, .int k, .int x] w (IsL (oddsC s k x w)) := by
  refine Res.of (by decide) (by simp [Value.category]) (Nat.le_of_ble_eq_true rfl) rfl ?_
  show Go l g S_odds 0 [some (.ref (g.1 0)), some (.int s), some (.int k), some (.int x), none, none, none] [] w _
  refine g_aload_n dS_odds_0 rfl ?_
  refine g_getR2 (k2 := 1) dS_odds_1 fS_12 rfl rfl (by decide) rfl ?_
  refine g_iload_n dS_odds_4 rfl ?_
  refine gV1 dS_odds_5 kS_odds_100 rfl rfl cH_hasW (Nat.le_of_ble_eq_true rfl) ?_
  refine g_if_eq dS_odds_8 rfl (fun h8_ => ?_) (fun h8_ => ?_)
  · have h8_ := bI_0.mp h8_
    refine g_aload_n dS_odds_30 rfl ?_
    refine g_iconst (v := 0) dS_odds_31 (by decide) ?_
    refine gV1 dS_odds_32 kS_odds_61 rfl rfl (cS_finding (q := 0) (by decide)) (Nat.le_of_ble_eq_true rfl) ?_
    refine g_i2l dS_odds_35 ?_
    refine g_lret dS_odds_36 rfl ?_
    exact IsL_of (by rw [oddsC, if_neg (by grind)])
  · have h8_ := Classical.not_not.mp (fun z => h8_ (bI_0.mpr z))
    obtain ⟨j, hj, ej⟩ := hasN h8_.1 (show s < nI n from hn ▸ h8_.2) (by omega)
    subst ej
    refine g_iload_n dS_odds_11 rfl ?_
    refine g_iconst (v := 0) dS_odds_12 (by decide) ?_
    refine g_bipush (v := 15) dS_odds_13 (by decide) ?_
    refine gS3 dS_odds_15 kS_odds_81 cS_isWithin (Nat.le_of_ble_eq_true rfl) ?_
    refine g_if_eq dS_odds_18 rfl (fun h18 => ?_) (fun h18 => ?_)
    · have h18 := bI_0.mp h18
      refine g_aload_n dS_odds_30 rfl ?_
      refine g_iconst (v := 0) dS_odds_31 (by decide) ?_
      refine gV1 dS_odds_32 kS_odds_61 rfl rfl (cS_finding (q := 0) (by decide)) (Nat.le_of_ble_eq_true rfl) ?_
      refine g_i2l dS_odds_35 ?_
      refine g_lret dS_odds_36 rfl ?_
      exact IsL_of (by rw [oddsC, if_neg (by grind)])
    · have h18 := Classical.not_not.mp (fun z => h18 (bI_0.mpr z))
      refine g_iload_n dS_odds_21 rfl ?_
      refine g_iconst (v := 0) dS_odds_22 (by decide) ?_
      refine g_iconst (v := 1) dS_odds_23 (by decide) ?_
      refine gS3 dS_odds_24 kS_odds_81 cS_isWithin (Nat.le_of_ble_eq_true rfl) ?_
      refine g_if_ne dS_odds_27 rfl (fun h27 => ?_) (fun h27 => ?_)
      · have h27 := Classical.not_not.mp (fun z => h27 (bI_0.mpr z))
        obtain ⟨kk, hkk, ekk⟩ := nI_of2 (n := 15) (by decide) (Int32.not_lt.mpr h18.1) h18.2
        subst ekk
        refine g_aload_n dS_odds_37 rfl ?_
        refine g_getR2 (k2 := 1) dS_odds_38 fS_12 rfl rfl (by decide) rfl ?_
        refine g_iload_n dS_odds_41 rfl ?_
        refine gV1 dS_odds_42 kS_odds_194 rfl rfl (toRO (cH_cellsOutOfReachOf isH1 (j := j) (by omega))) (Nat.le_of_ble_eq_true rfl) ?_
        refine g_istore dS_odds_45 (by decide) rfl rfl ?_
        dsimp only [List.set]
        refine g_bipush (v := 16) dS_odds_47 (by decide) ?_
        refine g_istore dS_odds_49 (by decide) rfl rfl ?_
        dsimp only [List.set]
        refine g_iconst (v := 0) dS_odds_51 (by decide) ?_
        refine g_istore dS_odds_52 (by decide) rfl rfl ?_
        dsimp only [List.set]
        refine g_mono (fun r w2 h => ?_) (lS_odds (j := j) hkk 4 (outF (w 3 j) 16, 16) (by omega))
        rw [oddsC, if_pos ⟨h8_, h18, h27⟩, nI_clamp (by omega), nI_clamp (by omega)]
        exact h
      · have h27 := bI_0.mp h27
        refine g_aload_n dS_odds_30 rfl ?_
        refine g_iconst (v := 0) dS_odds_31 (by decide) ?_
        refine gV1 dS_odds_32 kS_odds_61 rfl rfl (cS_finding (q := 0) (by decide)) (Nat.le_of_ble_eq_true rfl) ?_
        refine g_i2l dS_odds_35 ?_
        refine g_lret dS_odds_36 rfl ?_
        exact IsL_of (by rw [oddsC, if_neg (by grind)])
