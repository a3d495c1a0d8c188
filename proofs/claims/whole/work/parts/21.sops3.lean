theorem bec7 (B : HA) (w : Wd) : hput 7 (hget (hput 7 B w) 1) (hput 7 B w) = hput 7 (hget w 1) w := by
  rw [hput_hput, hget_out (h := 7) (h2 := 1) B w (by decide)]
theorem cbec7 {l : Launch} {g : GG} {B : HA} {w : Wd} : Res l g H_become [.ref (g.1 7), .ref (g.1 1)] (hput 7 B w) (Is none (hput 7 (hget w 1) w)) := by
  have h := cH_become (l := l) (g := g) (w := hput 7 B w) isH7 isH1 (by decide)
  rwa [bec7] at h
theorem h7_1 (B : HA) (w : Wd) (j : Nat) : hput 7 B w 1 j = w 1 j := by rw [hput_out (h := 7) (k := 1) B w (by decide)]
theorem up_7S (B : HA) (w : Wd) (j : Nat) (v : Int32) : up (hput 7 B w) 7 j v = hput 7 (sS B j v) w := up_hS 7 B w j v
theorem up_7K (B : HA) (w : Wd) (j : Nat) (v : Int32) : up (hput 7 B w) 8 j v = hput 7 (sK B j v) w := up_hK 7 B w j v
theorem up_7C (B : HA) (w : Wd) (j : Nat) (v : Int32) : up (hput 7 B w) 9 j v = hput 7 (sC B j v) w := up_hC 7 B w j v
def minF (f : Nat → Int32) : Nat → Int32 × Int32
  | 0 => (0, 79993)
  | p + 1 => if f p < (minF f p).2 then (nI p, f p) else minF f p
def maxF (f : Nat → Int32) : Nat → Int32 × Int32
  | 0 => (0, -1)
  | p + 1 => if (maxF f p).2 < f p then (nI p, f p) else maxF f p
def standV (n k : Nat) (A : HA) (p : Nat) : Int32 := sumF (hoursF 0 n k (mkF (nI p) A)).2.2.2.1 n
def foldV (n k : Nat) (A : HA) (p : Nat) : Int32 := sumF (hoursF 0 n k (sS A 0 (nI p))).2.2.2.2.1 n
def kindV (n k j : Nat) (A : HA) (p : Nat) : Int32 := (hoursF 0 n k (sK A j (nI p))).2.2.2.2.2 j
def paceV (n k : Nat) (A : HA) (p : Nat) : Int32 := sumF (hoursF 0 n k (sS A 4 (nI p))).2.2.2.1 n
def standC (n : Nat) (k : Int32) (w : Wd) : Int32 × Wd := if 0 ≤ k ∧ k ≤ 40 then (if w 1 2 = -1 then ((minF (standV n k.toNatClampNeg (hget w 1)) 16).1, w) else fnd 4 w) else fnd 0 w
def foldC (n : Nat) (k : Int32) (w : Wd) : Int32 × Wd := if 0 ≤ k ∧ k ≤ 40 then ((minF (foldV n k.toNatClampNeg (hget w 1)) 16).1, w) else fnd 0 w
def kindC (n : Nat) (s k : Int32) (w : Wd) : Int32 × Wd := if hasP w s ∧ (0 ≤ k ∧ k ≤ 40) then ((maxF (kindV n k.toNatClampNeg s.toNatClampNeg (hget w 1)) 7).1, w) else fnd 0 w
def paceF (f : Nat → Int32) (v : Int32) : Nat → Int32
  | 0 => -1
  | p + 1 => if f p ≤ v then nI p else paceF f v p
def paceC (n : Nat) (v k : Int32) (w : Wd) : Int32 × Wd := if (0 ≤ v ∧ v ≤ 999) ∧ (0 ≤ k ∧ k ≤ 40) then orN (paceF (paceV n k.toNatClampNeg (hget w 1)) v 6) w else fnd 0 w
def bcI (x : Int32) : Int32 :=
  let a := x - ((x.toUInt32 >>> ((1 : Int32).toUInt32 &&& Int32.toUInt32 31)).toInt32 &&& 1431655765)
  let b := (a &&& 858993459) + ((a.toUInt32 >>> ((2 : Int32).toUInt32 &&& Int32.toUInt32 31)).toInt32 &&& 858993459)
  let c := b + (b.toUInt32 >>> ((4 : Int32).toUInt32 &&& Int32.toUInt32 31)).toInt32 &&& 252645135
  let d := c + (c.toUInt32 >>> ((8 : Int32).toUInt32 &&& Int32.toUInt32 31)).toInt32
  let e := d + (d.toUInt32 >>> ((16 : Int32).toUInt32 &&& Int32.toUInt32 31)).toInt32
  e &&& 63
def hoursT (t : Int32) (n : Nat) : Nat → HA → HA := hoursF t n
abbrev nearP (n k : Nat) (A : HA) (s : Nat) : Prop := farF (hoursF (nI s) n k A).2.2.1 ((hoursF (nI s) n k A).1 0) n = 0
def teaF (P : Nat → Prop) [DecidablePred P] : Nat → Int32 × Int32
  | 0 => (0, 9)
  | s + 1 => if bcI (nI s) < (teaF P s).2 ∧ P s then (nI s, bcI (nI s)) else teaF P s
def tethC (n : Nat) (k : Int32) (w : Wd) : Int32 × Wd := if 0 ≤ k ∧ k ≤ 20 then (if (teaF (nearP n k.toNatClampNeg (hget w 1)) (2 ^ n)).2 ≤ 8 then ((teaF (nearP n k.toNatClampNeg (hget w 1)) (2 ^ n)).1, w) else fnd 3 w) else fnd 0 w
theorem shl_pow : ∀ n, n ≤ 8 → (1 : Int32) <<< (nI n &&& 31) = nI (2 ^ n) := by
  intro n hn
  have : n = 0 ∨ n = 1 ∨ n = 2 ∨ n = 3 ∨ n = 4 ∨ n = 5 ∨ n = 6 ∨ n = 7 ∨ n = 8 := by omega
  rcases this with rfl | rfl | rfl | rfl | rfl | rfl | rfl | rfl | rfl <;> rfl
set_option maxRecDepth 4000 in
theorem lS_standFor {l : Launch} {g : GG} {w : Wd} {n : Nat} (hn : w 1 6 = nI n) (h8 : n ≤ 8) {kk : Nat} (hkk : kk ≤ 40) : ∀ (m : Nat) (i : Nat) (B : HA), 16 - i < m → i ≤ 16 → Go l g S_standFor 41 [some (.ref (g.1 0)), some (.int (nI kk)), some (.int (minF (standV n kk (hget w 1)) i).1), some (.int (minF (standV n kk (hget w 1)) i).2), some (.int (nI i)), none] [] (hput 7 B w) (IsT ((minF (standV n kk (hget w 1)) 16).1, w)) := by
  intro m
  induction m with
  | zero => intro i B hm hi; omega
  | succ m ih =>
    intro i B hm hi
    refine g_iload dS_standFor_41 rfl ?_
    refine g_bipush (v := 16) dS_standFor_43 (by decide) ?_
    refine g_icmp_ge dS_standFor_45 rfl (fun h45 => ?_) (fun h45 => ?_)
    · rw [show (16 : Int32) = nI 16 from rfl, nI_leI (by omega) (by omega)] at h45
      refine g_iload_n dS_standFor_110 rfl ?_
      refine g_iret dS_standFor_111 rfl rfl ?_
      exact IsT_B (by rw [show i = 16 by omega])
    · rw [show (16 : Int32) = nI 16 from rfl, nI_leI (by omega) (by omega)] at h45
      refine g_aload_n dS_standFor_48 rfl ?_
      refine g_getR2 (k2 := 7) dS_standFor_49 fS_16 rfl rfl (by decide) rfl ?_
      refine g_aload_n dS_standFor_52 rfl ?_
      refine g_getR2 (k2 := 1) dS_standFor_53 fS_12 rfl rfl (by decide) rfl ?_
      refine gV1v dS_standFor_56 kS_standFor_151 rfl rfl cbec7 (Nat.le_of_ble_eq_true rfl) ?_
      refine g_aload_n dS_standFor_59 rfl ?_
      refine g_getR2 (k2 := 7) dS_standFor_60 fS_16 rfl rfl (by decide) rfl ?_
      refine g_iload dS_standFor_63 rfl ?_
      refine gV1v dS_standFor_65 kS_standFor_71 rfl rfl (cH_moveKeeper isH7 hn h8) (Nat.le_of_ble_eq_true rfl) ?_
      refine g_aload_n dS_standFor_68 rfl ?_
      refine g_getR2 (k2 := 7) dS_standFor_69 fS_16 rfl rfl (by decide) rfl ?_
      refine g_iload_n dS_standFor_72 rfl ?_
      refine gV1v dS_standFor_73 kS_standFor_134 rfl rfl (cH_passHours isH7 (n := n) (by first | exact hn | (rw [mkF_6]; exact hn)) h8 (k := kk) (by omega)) (Nat.le_of_ble_eq_true rfl) ?_
      refine g_aload_n dS_standFor_76 rfl ?_
      refine g_getR2 (k2 := 7) dS_standFor_77 fS_16 rfl rfl (by decide) rfl ?_
      refine g_aload_n dS_standFor_80 rfl ?_
      refine g_getR2 (k2 := 7) dS_standFor_81 fS_16 rfl rfl (by decide) rfl ?_
      refine g_getR2 (k2 := 10) dS_standFor_84 fS_118 rfl rfl (by decide) rfl ?_
      refine gV1 dS_standFor_87 kS_standFor_137 rfl rfl (cH_total isH7 (n := n) (by rw [hoursF_6]; first | exact hn | (rw [mkF_6]; exact hn)) h8 (c := 3) (by decide) (by decide)) (Nat.le_of_ble_eq_true rfl) ?_
      refine g_top (y := standV n kk (hget w 1) i) (by rw [standV, hput_F]) ?_
      refine g_istore dS_standFor_90 (by decide) rfl rfl ?_
      dsimp only [List.set]
      refine g_iload dS_standFor_92 rfl ?_
      refine g_iload_n dS_standFor_94 rfl ?_
      refine g_icmp_ge dS_standFor_95 rfl (fun h95 => ?_) (fun h95 => ?_)
      · rw [show minF (standV n kk (hget w 1)) i = minF (standV n kk (hget w 1)) (i + 1) from (if_neg (Int32.not_lt.mpr h95)).symm]
        refine g_iinc (v := nI (i + 1)) dS_standFor_104 rfl (nI_succ i).symm (by decide) rfl rfl ?_
        dsimp only [List.set]
        refine g_goto dS_standFor_107 rfl ?_
        refine g_drop 5 rfl ?_
        dsimp only [List.set]
        exact ih (i + 1) _ (by omega) (by omega)
      · refine g_iload dS_standFor_98 rfl ?_
        refine g_istore_n dS_standFor_100 (by decide) rfl rfl ?_
        dsimp only [List.set]
        refine g_iload dS_standFor_101 rfl ?_
        refine g_istore_n dS_standFor_103 (by decide) rfl rfl ?_
        dsimp only [List.set]
        have e9 : minF (standV n kk (hget w 1)) (i + 1) = (nI i, standV n kk (hget w 1) i) := if_pos (Int32.not_le.mp h95)
        refine g_lv (lv1 := [some (.ref (g.1 0)), some (.int (nI kk)), some (.int (minF (standV n kk (hget w 1)) (i + 1)).1), some (.int (minF (standV n kk (hget w 1)) (i + 1)).2), some (.int (nI i)), some (.int (standV n kk (hget w 1) i))]) (by rw [e9]) ?_
        refine g_iinc (v := nI (i + 1)) dS_standFor_104 rfl (nI_succ i).symm (by decide) rfl rfl ?_
        dsimp only [List.set]
        refine g_goto dS_standFor_107 rfl ?_
        refine g_drop 5 rfl ?_
        dsimp only [List.set]
        exact ih (i + 1) _ (by omega) (by omega)

set_option maxRecDepth 4000 in
theorem lS_foldFor {l : Launch} {g : GG} {w : Wd} {n : Nat} (hn : w 1 6 = nI n) (h8 : n ≤ 8) {kk : Nat} (hkk : kk ≤ 40) : ∀ (m : Nat) (i : Nat) (B : HA), 16 - i < m → i ≤ 16 → Go l g S_foldFor 24 [some (.ref (g.1 0)), some (.int (nI kk)), some (.int (minF (foldV n kk (hget w 1)) i).1), some (.int (minF (foldV n kk (hget w 1)) i).2), some (.int (nI i)), none] [] (hput 7 B w) (IsT ((minF (foldV n kk (hget w 1)) 16).1, w)) := by
  intro m
  induction m with
  | zero => intro i B hm hi; omega
  | succ m ih =>
    intro i B hm hi
    refine g_iload dS_foldFor_24 rfl ?_
    refine g_bipush (v := 16) dS_foldFor_26 (by decide) ?_
    refine g_icmp_ge dS_foldFor_28 rfl (fun h28 => ?_) (fun h28 => ?_)
    · rw [show (16 : Int32) = nI 16 from rfl, nI_leI (by omega) (by omega)] at h28
      refine g_iload_n dS_foldFor_93 rfl ?_
      refine g_iret dS_foldFor_94 rfl rfl ?_
      exact IsT_B (by rw [show i = 16 by omega])
    · rw [show (16 : Int32) = nI 16 from rfl, nI_leI (by omega) (by omega)] at h28
      refine g_aload_n dS_foldFor_31 rfl ?_
      refine g_getR2 (k2 := 7) dS_foldFor_32 fS_16 rfl rfl (by decide) rfl ?_
      refine g_aload_n dS_foldFor_35 rfl ?_
      refine g_getR2 (k2 := 1) dS_foldFor_36 fS_12 rfl rfl (by decide) rfl ?_
      refine gV1v dS_foldFor_39 kS_foldFor_151 rfl rfl cbec7 (Nat.le_of_ble_eq_true rfl) ?_
      refine g_aload_n dS_foldFor_42 rfl ?_
      refine g_getR2 (k2 := 7) dS_foldFor_43 fS_16 rfl rfl (by decide) rfl ?_
      refine g_iload dS_foldFor_46 rfl ?_
      refine g_putI dS_foldFor_48 fS_68 rfl rfl rfl rfl ?_
      rw [up_7S]
      refine g_aload_n dS_foldFor_51 rfl ?_
      refine g_getR2 (k2 := 7) dS_foldFor_52 fS_16 rfl rfl (by decide) rfl ?_
      refine g_iload_n dS_foldFor_55 rfl ?_
      refine gV1v dS_foldFor_56 kS_foldFor_134 rfl rfl (cH_passHours isH7 (n := n) (by first | exact hn | (rw [mkF_6]; exact hn)) h8 (k := kk) (by omega)) (Nat.le_of_ble_eq_true rfl) ?_
      refine g_aload_n dS_foldFor_59 rfl ?_
      refine g_getR2 (k2 := 7) dS_foldFor_60 fS_16 rfl rfl (by decide) rfl ?_
      refine g_aload_n dS_foldFor_63 rfl ?_
      refine g_getR2 (k2 := 7) dS_foldFor_64 fS_16 rfl rfl (by decide) rfl ?_
      refine g_getR2 (k2 := 11) dS_foldFor_67 fS_121 rfl rfl (by decide) rfl ?_
      refine gV1 dS_foldFor_70 kS_foldFor_137 rfl rfl (cH_total isH7 (n := n) (by rw [hoursF_6]; first | exact hn | (rw [mkF_6]; exact hn)) h8 (c := 4) (by decide) (by decide)) (Nat.le_of_ble_eq_true rfl) ?_
      refine g_top (y := foldV n kk (hget w 1) i) (by rw [foldV, hput_L]) ?_
      refine g_istore dS_foldFor_73 (by decide) rfl rfl ?_
      dsimp only [List.set]
      refine g_iload dS_foldFor_75 rfl ?_
      refine g_iload_n dS_foldFor_77 rfl ?_
      refine g_icmp_ge dS_foldFor_78 rfl (fun h78 => ?_) (fun h78 => ?_)
      · rw [show minF (foldV n kk (hget w 1)) i = minF (foldV n kk (hget w 1)) (i + 1) from (if_neg (Int32.not_lt.mpr h78)).symm]
        refine g_iinc (v := nI (i + 1)) dS_foldFor_87 rfl (nI_succ i).symm (by decide) rfl rfl ?_
        dsimp only [List.set]
        refine g_goto dS_foldFor_90 rfl ?_
        refine g_drop 5 rfl ?_
        dsimp only [List.set]
        exact ih (i + 1) _ (by omega) (by omega)
      · refine g_iload dS_foldFor_81 rfl ?_
        refine g_istore_n dS_foldFor_83 (by decide) rfl rfl ?_
        dsimp only [List.set]
        refine g_iload dS_foldFor_84 rfl ?_
        refine g_istore_n dS_foldFor_86 (by decide) rfl rfl ?_
        dsimp only [List.set]
        have e9 : minF (foldV n kk (hget w 1)) (i + 1) = (nI i, foldV n kk (hget w 1) i) := if_pos (Int32.not_le.mp h78)
        refine g_lv (lv1 := [some (.ref (g.1 0)), some (.int (nI kk)), some (.int (minF (foldV n kk (hget w 1)) (i + 1)).1), some (.int (minF (foldV n kk (hget w 1)) (i + 1)).2), some (.int (nI i)), some (.int (foldV n kk (hget w 1) i))]) (by rw [e9]) ?_
        refine g_iinc (v := nI (i + 1)) dS_foldFor_87 rfl (nI_succ i).symm (by decide) rfl rfl ?_
        dsimp only [List.set]
        refine g_goto dS_foldFor_90 rfl ?_
        refine g_drop 5 rfl ?_
        dsimp only [List.set]
        exact ih (i + 1) _ (by omega) (by omega)

set_option maxRecDepth 4000 in
theorem cS_standFor {l : Launch} {g : GG} {w : Wd} {n : Nat} (hn : w 1 6 = nI n) (h8 : n ≤ 8) {k : Int32} : Res l g S_standFor [.ref (g.1 0), .int k] w (IsT (standC n k w)) := by
  refine Res.of (by decide) (by simp [Value.category]) (Nat.le_of_ble_eq_true rfl) rfl ?_
  show Go l g S_standFor 0 [some (.ref (g.1 0)), some (.int k), none, none, none, none] [] w _
  refine g_iload_n dS_standFor_0 rfl ?_
  refine g_iconst (v := 0) dS_standFor_1 (by decide) ?_
  refine g_bipush (v := 40) dS_standFor_2 (by decide) ?_
  refine gS3 dS_standFor_4 kS_standFor_81 cS_isWithin (Nat.le_of_ble_eq_true rfl) ?_
  refine g_if_ne dS_standFor_7 rfl (fun h7 => ?_) (fun h7 => ?_)
  · have h7 := Classical.not_not.mp (fun z => h7 (bI_0.mpr z))
    obtain ⟨kk, hkk, ekk⟩ := nI_of2 (n := 40) (by decide) (Int32.not_lt.mpr h7.1) h7.2
    subst ekk
    refine g_aload_n dS_standFor_16 rfl ?_
    refine g_getR2 (k2 := 1) dS_standFor_17 fS_12 rfl rfl (by decide) rfl ?_
    refine g_getI dS_standFor_20 fS_109 rfl rfl ?_
    refine g_iconst (v := (-1)) dS_standFor_23 (by decide) ?_
    refine g_icmp_eq dS_standFor_24 rfl (fun h24 => ?_) (fun h24 => ?_)
    · refine g_iconst (v := 0) dS_standFor_33 (by decide) ?_
      refine g_istore_n dS_standFor_34 (by decide) rfl rfl ?_
      dsimp only [List.set]
      refine g_ldc dS_standFor_35 fS_165 ?_
      refine g_istore_n dS_standFor_37 (by decide) rfl rfl ?_
      dsimp only [List.set]
      refine g_iconst (v := 0) dS_standFor_38 (by decide) ?_
      refine g_istore dS_standFor_39 (by decide) rfl rfl ?_
      dsimp only [List.set]
      refine g_w (hput_hget 7 w).symm ?_
      refine g_mono (fun r w2 h => ?_) (lS_standFor hn h8 hkk 17 0 _ (by omega) (by omega))
      rw [standC, if_pos h7, if_pos h24, nI_clamp (by omega)]
      exact h
    · refine g_aload_n dS_standFor_27 rfl ?_
      refine g_iconst (v := 4) dS_standFor_28 (by decide) ?_
      refine gV1 dS_standFor_29 kS_standFor_61 rfl rfl (cS_finding (q := 4) (by decide)) (Nat.le_of_ble_eq_true rfl) ?_
      refine g_iret dS_standFor_32 rfl rfl ?_
      exact IsT_of (by rw [standC, if_pos h7, if_neg h24])
  · have h7 := bI_0.mp h7
    refine g_aload_n dS_standFor_10 rfl ?_
    refine g_iconst (v := 0) dS_standFor_11 (by decide) ?_
    refine gV1 dS_standFor_12 kS_standFor_61 rfl rfl (cS_finding (q := 0) (by decide)) (Nat.le_of_ble_eq_true rfl) ?_
    refine g_iret dS_standFor_15 rfl rfl ?_
    exact IsT_of (by rw [standC, if_neg h7])

set_option maxRecDepth 4000 in
theorem cS_foldFor {l : Launch} {g : GG} {w : Wd} {n : Nat} (hn : w 1 6 = nI n) (h8 : n ≤ 8) {k : Int32} : Res l g S_foldFor [.ref (g.1 0), .int k] w (IsT (foldC n k w)) := by
  refine Res.of (by decide) (by simp [Value.category]) (Nat.le_of_ble_eq_true rfl) rfl ?_
  show Go l g S_foldFor 0 [some (.ref (g.1 0)), some (.int k), none, none, none, none] [] w _
  refine g_iload_n dS_foldFor_0 rfl ?_
  refine g_iconst (v := 0) dS_foldFor_1 (by decide) ?_
  refine g_bipush (v := 40) dS_foldFor_2 (by decide) ?_
  refine gS3 dS_foldFor_4 kS_foldFor_81 cS_isWithin (Nat.le_of_ble_eq_true rfl) ?_
  refine g_if_ne dS_foldFor_7 rfl (fun h7 => ?_) (fun h7 => ?_)
  · have h7 := Classical.not_not.mp (fun z => h7 (bI_0.mpr z))
    obtain ⟨kk, hkk, ekk⟩ := nI_of2 (n := 40) (by decide) (Int32.not_lt.mpr h7.1) h7.2
    subst ekk
    refine g_iconst (v := 0) dS_foldFor_16 (by decide) ?_
    refine g_istore_n dS_foldFor_17 (by decide) rfl rfl ?_
    dsimp only [List.set]
    refine g_ldc dS_foldFor_18 fS_165 ?_
    refine g_istore_n dS_foldFor_20 (by decide) rfl rfl ?_
    dsimp only [List.set]
    refine g_iconst (v := 0) dS_foldFor_21 (by decide) ?_
    refine g_istore dS_foldFor_22 (by decide) rfl rfl ?_
    dsimp only [List.set]
    refine g_w (hput_hget 7 w).symm ?_
    refine g_mono (fun r w2 h => ?_) (lS_foldFor hn h8 hkk 17 0 _ (by omega) (by omega))
    rw [foldC, if_pos h7, nI_clamp (by omega)]
    exact h
  · have h7 := bI_0.mp h7
    refine g_aload_n dS_foldFor_10 rfl ?_
    refine g_iconst (v := 0) dS_foldFor_11 (by decide) ?_
    refine gV1 dS_foldFor_12 kS_foldFor_61 rfl rfl (cS_finding (q := 0) (by decide)) (Nat.le_of_ble_eq_true rfl) ?_
    refine g_iret dS_foldFor_15 rfl rfl ?_
    exact IsT_of (by rw [foldC, if_neg h7])

set_option maxRecDepth 4000 in
theorem lS_kindFor {l : Launch} {g : GG} {w : Wd} {n : Nat} (hn : w 1 6 = nI n) (h8 : n ≤ 8) {kk j : Nat} (hkk : kk ≤ 40) (hj : j < 8) : ∀ (m : Nat) (i : Nat) (B : HA), 7 - i < m → i ≤ 7 → Go l g S_kindFor 35 [some (.ref (g.1 0)), some (.int (nI j)), some (.int (nI kk)), some (.int (maxF (kindV n kk j (hget w 1)) i).1), some (.int (maxF (kindV n kk j (hget w 1)) i).2), some (.int (nI i))] [] (hput 7 B w) (IsT ((maxF (kindV n kk j (hget w 1)) 7).1, w)) := by
  intro m
  induction m with
  | zero => intro i B hm hi; omega
  | succ m ih =>
    intro i B hm hi
    refine g_iload dS_kindFor_35 rfl ?_
    refine g_bipush (v := 7) dS_kindFor_37 (by decide) ?_
    refine g_icmp_ge dS_kindFor_39 rfl (fun h39 => ?_) (fun h39 => ?_)
    · rw [show (7 : Int32) = nI 7 from rfl, nI_leI (by omega) (by omega)] at h39
      refine g_iload_n dS_kindFor_106 rfl ?_
      refine g_iret dS_kindFor_107 rfl rfl ?_
      exact IsT_B (by rw [show i = 7 by omega])
    · rw [show (7 : Int32) = nI 7 from rfl, nI_leI (by omega) (by omega)] at h39
      refine g_aload_n dS_kindFor_42 rfl ?_
      refine g_getR2 (k2 := 7) dS_kindFor_43 fS_16 rfl rfl (by decide) rfl ?_
      refine g_aload_n dS_kindFor_46 rfl ?_
      refine g_getR2 (k2 := 1) dS_kindFor_47 fS_12 rfl rfl (by decide) rfl ?_
      refine gV1v dS_kindFor_50 kS_kindFor_151 rfl rfl cbec7 (Nat.le_of_ble_eq_true rfl) ?_
      refine g_aload_n dS_kindFor_53 rfl ?_
      refine g_getR2 (k2 := 7) dS_kindFor_54 fS_16 rfl rfl (by decide) rfl ?_
      refine g_getR2 (k2 := 8) dS_kindFor_57 fS_112 rfl rfl (by decide) rfl ?_
      refine g_iload_n dS_kindFor_60 rfl ?_
      refine g_iload dS_kindFor_61 rfl ?_
      refine g_iastN dS_kindFor_63 rfl (by omega) (by decide) ?_
      rw [up_7K]
      refine g_aload_n dS_kindFor_64 rfl ?_
      refine g_getR2 (k2 := 7) dS_kindFor_65 fS_16 rfl rfl (by decide) rfl ?_
      refine g_iload_n dS_kindFor_68 rfl ?_
      refine gV1v dS_kindFor_69 kS_kindFor_134 rfl rfl (cH_passHours isH7 (n := n) hn h8 (k := kk) (by omega)) (Nat.le_of_ble_eq_true rfl) ?_
      refine g_aload_n dS_kindFor_72 rfl ?_
      refine g_getR2 (k2 := 7) dS_kindFor_73 fS_16 rfl rfl (by decide) rfl ?_
      refine g_getR2 (k2 := 12) dS_kindFor_76 fS_124 rfl rfl (by decide) rfl ?_
      refine g_iload_n dS_kindFor_79 rfl ?_
      refine g_ialdN dS_kindFor_80 rfl (by omega) (by decide) ?_
      refine g_top (y := kindV n kk j (hget w 1) i) (by rw [kindV]; exact congrFun (hput_O 7 _ w) j) ?_
      refine g_iload dS_kindFor_81 rfl ?_
      refine g_icmp_le dS_kindFor_83 rfl (fun h83 => ?_) (fun h83 => ?_)
      · rw [show maxF (kindV n kk j (hget w 1)) i = maxF (kindV n kk j (hget w 1)) (i + 1) from (if_neg (Int32.not_lt.mpr h83)).symm]
        refine g_iinc (v := nI (i + 1)) dS_kindFor_100 rfl (nI_succ i).symm (by decide) rfl rfl ?_
        dsimp only [List.set]
        refine g_goto dS_kindFor_103 rfl ?_
        exact ih (i + 1) _ (by omega) (by omega)
      · refine g_aload_n dS_kindFor_86 rfl ?_
        refine g_getR2 (k2 := 7) dS_kindFor_87 fS_16 rfl rfl (by decide) rfl ?_
        refine g_getR2 (k2 := 12) dS_kindFor_90 fS_124 rfl rfl (by decide) rfl ?_
        refine g_iload_n dS_kindFor_93 rfl ?_
        refine g_ialdN dS_kindFor_94 rfl (by omega) (by decide) ?_
        refine g_top (y := kindV n kk j (hget w 1) i) (by rw [kindV]; exact congrFun (hput_O 7 _ w) j) ?_
        refine g_istore dS_kindFor_95 (by decide) rfl rfl ?_
        dsimp only [List.set]
        refine g_iload dS_kindFor_97 rfl ?_
        refine g_istore_n dS_kindFor_99 (by decide) rfl rfl ?_
        dsimp only [List.set]
        have e9 : maxF (kindV n kk j (hget w 1)) (i + 1) = (nI i, kindV n kk j (hget w 1) i) := if_pos (Int32.not_le.mp h83)
        refine g_lv (lv1 := [some (.ref (g.1 0)), some (.int (nI j)), some (.int (nI kk)), some (.int (maxF (kindV n kk j (hget w 1)) (i + 1)).1), some (.int (maxF (kindV n kk j (hget w 1)) (i + 1)).2), some (.int (nI i))]) (by rw [e9]) ?_
        refine g_iinc (v := nI (i + 1)) dS_kindFor_100 rfl (nI_succ i).symm (by decide) rfl rfl ?_
        dsimp only [List.set]
        refine g_goto dS_kindFor_103 rfl ?_
        exact ih (i + 1) _ (by omega) (by omega)

set_option maxRecDepth 4000 in
theorem cS_kindFor {l : Launch} {g : GG} {w : Wd} {n : Nat} (hn : w 1 6 = nI n) (h8 : n ≤ 8) {s k : Int32} : Res l g S_kindFor [.ref (g.1 0), .int s, .int k] w (IsT (kindC n s k w)) := by
  refine Res.of (by decide) (by simp [Value.category]) (Nat.le_of_ble_eq_true rfl) rfl ?_
  show Go l g S_kindFor 0 [some (.ref (g.1 0)), some (.int s), some (.int k), none, none, none] [] w _
  refine g_aload_n dS_kindFor_0 rfl ?_
  refine g_getR2 (k2 := 1) dS_kindFor_1 fS_12 rfl rfl (by decide) rfl ?_
  refine g_iload_n dS_kindFor_4 rfl ?_
  refine gV1 dS_kindFor_5 kS_kindFor_100 rfl rfl cH_hasW (Nat.le_of_ble_eq_true rfl) ?_
  refine g_if_eq dS_kindFor_8 rfl (fun h8_ => ?_) (fun h8_ => ?_)
  · have h8_ := bI_0.mp h8_
    refine g_aload_n dS_kindFor_21 rfl ?_
    refine g_iconst (v := 0) dS_kindFor_22 (by decide) ?_
    refine gV1 dS_kindFor_23 kS_kindFor_61 rfl rfl (cS_finding (q := 0) (by decide)) (Nat.le_of_ble_eq_true rfl) ?_
    refine g_iret dS_kindFor_26 rfl rfl ?_
    exact IsT_of (by rw [kindC, if_neg (by grind)])
  · have h8_ := Classical.not_not.mp (fun z => h8_ (bI_0.mpr z))
    obtain ⟨j, hj, ej⟩ := hasN h8_.1 (show s < nI n from hn ▸ h8_.2) (by omega)
    subst ej
    refine g_iload_n dS_kindFor_11 rfl ?_
    refine g_iconst (v := 0) dS_kindFor_12 (by decide) ?_
    refine g_bipush (v := 40) dS_kindFor_13 (by decide) ?_
    refine gS3 dS_kindFor_15 kS_kindFor_81 cS_isWithin (Nat.le_of_ble_eq_true rfl) ?_
    refine g_if_ne dS_kindFor_18 rfl (fun h18 => ?_) (fun h18 => ?_)
    · have h18 := Classical.not_not.mp (fun z => h18 (bI_0.mpr z))
      obtain ⟨kk, hkk, ekk⟩ := nI_of2 (n := 40) (by decide) (Int32.not_lt.mpr h18.1) h18.2
      subst ekk
      refine g_iconst (v := 0) dS_kindFor_27 (by decide) ?_
      refine g_istore_n dS_kindFor_28 (by decide) rfl rfl ?_
      dsimp only [List.set]
      refine g_iconst (v := (-1)) dS_kindFor_29 (by decide) ?_
      refine g_istore dS_kindFor_30 (by decide) rfl rfl ?_
      dsimp only [List.set]
      refine g_iconst (v := 0) dS_kindFor_32 (by decide) ?_
      refine g_istore dS_kindFor_33 (by decide) rfl rfl ?_
      dsimp only [List.set]
      refine g_w (hput_hget 7 w).symm ?_
      refine g_mono (fun r w2 h => ?_) (lS_kindFor (j := j) hn h8 hkk (by omega) 8 0 _ (by omega) (by omega))
      rw [kindC, if_pos ⟨h8_, h18⟩, nI_clamp (by omega), nI_clamp (by omega)]
      exact h
    · have h18 := bI_0.mp h18
      refine g_aload_n dS_kindFor_21 rfl ?_
      refine g_iconst (v := 0) dS_kindFor_22 (by decide) ?_
      refine gV1 dS_kindFor_23 kS_kindFor_61 rfl rfl (cS_finding (q := 0) (by decide)) (Nat.le_of_ble_eq_true rfl) ?_
      refine g_iret dS_kindFor_26 rfl rfl ?_
      exact IsT_of (by rw [kindC, if_neg (by grind)])

set_option maxRecDepth 4000 in
theorem lS_paceFor {l : Launch} {g : GG} {w : Wd} {n : Nat} (hn : w 1 6 = nI n) (h8 : n ≤ 8) {kk : Nat} (hkk : kk ≤ 40) {v : Int32} : ∀ (m : Nat) (B : HA), m ≤ 6 → Go l g S_paceFor 29 [some (.ref (g.1 0)), some (.int v), some (.int (nI kk)), some (.int (nI m - 1))] [] (hput 7 B w) (IsT (orN (paceF (paceV n kk (hget w 1)) v m) w)) := by
  intro m
  induction m with
  | zero =>
    intro B hm
    refine g_iload_n dS_paceFor_29 rfl ?_
    refine g_if_lt dS_paceFor_30 rfl (fun h30 => ?_) (fun h30 => ?_)
    · refine g_aload_n dS_paceFor_86 rfl ?_
      refine g_iconst (v := 3) dS_paceFor_87 (by decide) ?_
      refine gV1 dS_paceFor_88 kS_paceFor_61 rfl rfl (cS_finding (q := 3) (by decide)) (Nat.le_of_ble_eq_true rfl) ?_
      refine g_iret dS_paceFor_91 rfl rfl ?_
      exact IsT_F rfl
    · exact absurd (by decide) h30
  | succ m ih =>
    intro B hm
    refine g_iload_n dS_paceFor_29 rfl ?_
    refine g_top (y := nI m) (by rw [nI_succ]; grind) ?_
    refine g_if_lt dS_paceFor_30 rfl (fun h30 => ?_) (fun h30 => ?_)
    · exact absurd h30 (nI_pos (show m < 2 ^ 31 by omega))
    · refine g_aload_n dS_paceFor_33 rfl ?_
      refine g_getR2 (k2 := 7) dS_paceFor_34 fS_16 rfl rfl (by decide) rfl ?_
      refine g_aload_n dS_paceFor_37 rfl ?_
      refine g_getR2 (k2 := 1) dS_paceFor_38 fS_12 rfl rfl (by decide) rfl ?_
      refine gV1v dS_paceFor_41 kS_paceFor_151 rfl rfl cbec7 (Nat.le_of_ble_eq_true rfl) ?_
      refine g_aload_n dS_paceFor_44 rfl ?_
      refine g_getR2 (k2 := 7) dS_paceFor_45 fS_16 rfl rfl (by decide) rfl ?_
      refine g_iload_n dS_paceFor_48 rfl ?_
      refine g_top (y := nI m) (by rw [nI_succ]; grind) ?_
      refine g_putI dS_paceFor_49 fS_78 rfl rfl rfl rfl ?_
      rw [up_7S]
      refine g_aload_n dS_paceFor_52 rfl ?_
      refine g_getR2 (k2 := 7) dS_paceFor_53 fS_16 rfl rfl (by decide) rfl ?_
      refine g_iload_n dS_paceFor_56 rfl ?_
      refine gV1v dS_paceFor_57 kS_paceFor_134 rfl rfl (cH_passHours isH7 (n := n) hn h8 (k := kk) (by omega)) (Nat.le_of_ble_eq_true rfl) ?_
      refine g_aload_n dS_paceFor_60 rfl ?_
      refine g_getR2 (k2 := 7) dS_paceFor_61 fS_16 rfl rfl (by decide) rfl ?_
      refine g_aload_n dS_paceFor_64 rfl ?_
      refine g_getR2 (k2 := 7) dS_paceFor_65 fS_16 rfl rfl (by decide) rfl ?_
      refine g_getR2 (k2 := 10) dS_paceFor_68 fS_118 rfl rfl (by decide) rfl ?_
      refine gV1 dS_paceFor_71 kS_paceFor_137 rfl rfl (cH_total isH7 (n := n) (by rw [hoursF_6]; exact hn) h8 (c := 3) (by decide) (by decide)) (Nat.le_of_ble_eq_true rfl) ?_
      refine g_top (y := paceV n kk (hget w 1) m) (by rw [paceV, hput_F]) ?_
      refine g_iload_n dS_paceFor_74 rfl ?_
      refine g_icmp_gt dS_paceFor_75 rfl (fun h75 => ?_) (fun h75 => ?_)
      · refine g_iinc (v := nI m - 1) dS_paceFor_80 rfl (by rw [nI_succ]; show nI m + 1 - 1 + (-1) = nI m - 1; grind) (by decide) rfl rfl ?_
        dsimp only [List.set]
        refine g_goto dS_paceFor_83 rfl ?_
        refine g_mono (fun r w2 h => ?_) (ih _ (by omega))
        rw [paceF, if_neg (Int32.not_le.mpr h75)]
        exact h
      · refine g_iload_n dS_paceFor_78 rfl ?_
        refine g_top (y := nI m) (by rw [nI_succ]; grind) ?_
        refine g_iret dS_paceFor_79 rfl rfl ?_
        refine IsT_B ?_
        rw [paceF, if_pos (Int32.not_lt.mp h75), orN, if_neg (fun z => absurd (nI_pos' (show m < 2 ^ 31 by omega)) (by rw [z]; decide))]

set_option maxRecDepth 4000 in
theorem cS_paceFor {l : Launch} {g : GG} {w : Wd} {n : Nat} (hn : w 1 6 = nI n) (h8 : n ≤ 8) {v k : Int32} : Res l g S_paceFor [.ref (g.1 0), .int v, .int k] w (IsT (paceC n v k w)) := by
  refine Res.of (by decide) (by simp [Value.category]) (Nat.le_of_ble_eq_true rfl) rfl ?_
  show Go l g S_paceFor 0 [some (.ref (g.1 0)), some (.int v), some (.int k), none] [] w _
  refine g_iload_n dS_paceFor_0 rfl ?_
  refine g_iconst (v := 0) dS_paceFor_1 (by decide) ?_
  refine g_sipush (v := 999) dS_paceFor_2 (by decide) ?_
  refine gS3 dS_paceFor_5 kS_paceFor_81 cS_isWithin (Nat.le_of_ble_eq_true rfl) ?_
  refine g_if_eq dS_paceFor_8 rfl (fun h8_ => ?_) (fun h8_ => ?_)
  · have h8_ := bI_0.mp h8_
    refine g_aload_n dS_paceFor_21 rfl ?_
    refine g_iconst (v := 0) dS_paceFor_22 (by decide) ?_
    refine gV1 dS_paceFor_23 kS_paceFor_61 rfl rfl (cS_finding (q := 0) (by decide)) (Nat.le_of_ble_eq_true rfl) ?_
    refine g_iret dS_paceFor_26 rfl rfl ?_
    exact IsT_of (by rw [paceC, if_neg (by grind)])
  · have h8_ := Classical.not_not.mp (fun z => h8_ (bI_0.mpr z))
    refine g_iload_n dS_paceFor_11 rfl ?_
    refine g_iconst (v := 0) dS_paceFor_12 (by decide) ?_
    refine g_bipush (v := 40) dS_paceFor_13 (by decide) ?_
    refine gS3 dS_paceFor_15 kS_paceFor_81 cS_isWithin (Nat.le_of_ble_eq_true rfl) ?_
    refine g_if_ne dS_paceFor_18 rfl (fun h18 => ?_) (fun h18 => ?_)
    · have h18 := Classical.not_not.mp (fun z => h18 (bI_0.mpr z))
      obtain ⟨kk, hkk, ekk⟩ := nI_of2 (n := 40) (by decide) (Int32.not_lt.mpr h18.1) h18.2
      subst ekk
      refine g_iconst (v := 5) dS_paceFor_27 (by decide) ?_
      refine g_istore_n dS_paceFor_28 (by decide) rfl rfl ?_
      dsimp only [List.set]
      refine g_w (hput_hget 7 w).symm ?_
      refine g_mono (fun r w2 h => ?_) (lS_paceFor hn h8 hkk 6 _ (by omega))
      rw [paceC, if_pos ⟨h8_, h18⟩, nI_clamp (by omega)]
      exact h
    · have h18 := bI_0.mp h18
      refine g_aload_n dS_paceFor_21 rfl ?_
      refine g_iconst (v := 0) dS_paceFor_22 (by decide) ?_
      refine gV1 dS_paceFor_23 kS_paceFor_61 rfl rfl (cS_finding (q := 0) (by decide)) (Nat.le_of_ble_eq_true rfl) ?_
      refine g_iret dS_paceFor_26 rfl rfl ?_
      exact IsT_of (by rw [paceC, if_neg (by grind)])

set_option maxRecDepth 4000 in
theorem cJI_bitCount {l : Launch} {g : GG} {w : Wd} {x : Int32} : Res l g JI_bitCount [.int x] w (Is (some (.int (bcI x))) w) := by
  refine Res.of (by decide) (by simp [Value.category]) (Nat.le_of_ble_eq_true rfl) rfl ?_
  show Go l g JI_bitCount 0 [some (.int x)] [] w _
  refine g_iload_n dJI_bitCount_0 rfl ?_
  refine g_iload_n dJI_bitCount_1 rfl ?_
  refine g_iconst (v := 1) dJI_bitCount_2 (by decide) ?_
  refine g_iushr dJI_bitCount_3 ?_
  refine g_ldcw dJI_bitCount_4 fJI_265 ?_
  refine g_iand dJI_bitCount_7 ?_
  refine g_isub dJI_bitCount_8 ?_
  refine g_istore_n dJI_bitCount_9 (by decide) rfl rfl ?_
  dsimp only [List.set]
  refine g_iload_n dJI_bitCount_10 rfl ?_
  refine g_ldcw dJI_bitCount_11 fJI_266 ?_
  refine g_iand dJI_bitCount_14 ?_
  refine g_iload_n dJI_bitCount_15 rfl ?_
  refine g_iconst (v := 2) dJI_bitCount_16 (by decide) ?_
  refine g_iushr dJI_bitCount_17 ?_
  refine g_ldcw dJI_bitCount_18 fJI_266 ?_
  refine g_iand dJI_bitCount_21 ?_
  refine g_iadd dJI_bitCount_22 ?_
  refine g_istore_n dJI_bitCount_23 (by decide) rfl rfl ?_
  dsimp only [List.set]
  refine g_iload_n dJI_bitCount_24 rfl ?_
  refine g_iload_n dJI_bitCount_25 rfl ?_
  refine g_iconst (v := 4) dJI_bitCount_26 (by decide) ?_
  refine g_iushr dJI_bitCount_27 ?_
  refine g_iadd dJI_bitCount_28 ?_
  refine g_ldcw dJI_bitCount_29 fJI_267 ?_
  refine g_iand dJI_bitCount_32 ?_
  refine g_istore_n dJI_bitCount_33 (by decide) rfl rfl ?_
  dsimp only [List.set]
  refine g_iload_n dJI_bitCount_34 rfl ?_
  refine g_iload_n dJI_bitCount_35 rfl ?_
  refine g_bipush (v := 8) dJI_bitCount_36 (by decide) ?_
  refine g_iushr dJI_bitCount_38 ?_
  refine g_iadd dJI_bitCount_39 ?_
  refine g_istore_n dJI_bitCount_40 (by decide) rfl rfl ?_
  dsimp only [List.set]
  refine g_iload_n dJI_bitCount_41 rfl ?_
  refine g_iload_n dJI_bitCount_42 rfl ?_
  refine g_bipush (v := 16) dJI_bitCount_43 (by decide) ?_
  refine g_iushr dJI_bitCount_45 ?_
  refine g_iadd dJI_bitCount_46 ?_
  refine g_istore_n dJI_bitCount_47 (by decide) rfl rfl ?_
  dsimp only [List.set]
  refine g_iload_n dJI_bitCount_48 rfl ?_
  refine g_bipush (v := 63) dJI_bitCount_49 (by decide) ?_
  refine g_iand dJI_bitCount_51 ?_
  refine g_iret dJI_bitCount_52 rfl rfl ?_
  exact ⟨rfl, rfl⟩

set_option maxRecDepth 4000 in
theorem lS_keepsNear {l : Launch} {g : GG} {w : Wd} {n : Nat} (hn : w 1 6 = nI n) (h8 : n ≤ 8) {k : Nat} (hk : k ≤ 20) {t : Int32} : ∀ (m : Nat) (i : Nat), k - i < m → i ≤ k → Go l g S_keepsNear 13 [some (.ref (g.1 0)), some (.int t), some (.int (nI k)), some (.int (nI i))] [] (hput 7 (hoursF t n i (hget w 1)) w) (fun r w' => r = some (.int (bI (farF (hoursF t n k (hget w 1)).2.2.1 ((hoursF t n k (hget w 1)).1 0) n = 0))) ∧ ∃ B, w' = hput 7 B w) := by
  intro m
  induction m with
  | zero => intro i hm hi; omega
  | succ m ih =>
    intro i hm hi
    refine g_iload_n dS_keepsNear_13 rfl ?_
    refine g_iload_n dS_keepsNear_14 rfl ?_
    refine g_icmp_ge dS_keepsNear_15 rfl (fun h15 => ?_) (fun h15 => ?_)
    · rw [nI_leI (by omega) (by omega)] at h15
      refine g_aload_n dS_keepsNear_32 rfl ?_
      refine g_getR2 (k2 := 7) dS_keepsNear_33 fS_16 rfl rfl (by decide) rfl ?_
      have e9 : i = k := by omega
      subst e9
      refine gV0 dS_keepsNear_36 kS_keepsNear_141 rfl rfl (cH_farSheep isH7 (n := n) (by rw [hoursF_6]; exact hn) h8) (Nat.le_of_ble_eq_true rfl) ?_
      refine g_if_ne dS_keepsNear_39 rfl (fun h39 => ?_) (fun h39 => ?_)
      · refine g_iconst (v := 0) dS_keepsNear_46 (by decide) ?_
        refine g_iret dS_keepsNear_47 rfl (by first | rfl | exact bI_n) ?_
        exact ⟨by first | rw [bI_t h39] | rw [bI_f h39], _, rfl⟩
      · refine g_iconst (v := 1) dS_keepsNear_42 (by decide) ?_
        refine g_goto dS_keepsNear_43 rfl ?_
        refine g_iret dS_keepsNear_47 rfl (by first | rfl | exact bI_n) ?_
        exact ⟨by first | rw [bI_t h39] | rw [bI_f h39], _, rfl⟩
    · rw [nI_leI (by omega) (by omega)] at h15
      refine g_aload_n dS_keepsNear_18 rfl ?_
      refine g_getR2 (k2 := 7) dS_keepsNear_19 fS_16 rfl rfl (by decide) rfl ?_
      refine g_iload_n dS_keepsNear_22 rfl ?_
      refine gV1v dS_keepsNear_23 kS_keepsNear_162 rfl rfl (cH_passHour isH7 (n := n) (by rw [hoursF_6]; exact hn) h8) (Nat.le_of_ble_eq_true rfl) ?_
      refine g_iinc (v := nI (i + 1)) dS_keepsNear_26 rfl (nI_succ i).symm (by decide) rfl rfl ?_
      dsimp only [List.set]
      refine g_goto dS_keepsNear_29 rfl ?_
      exact ih (i + 1) (by omega) (by omega)

set_option maxRecDepth 4000 in
theorem cS_keepsNear {l : Launch} {g : GG} {w : Wd} {B : HA} {n : Nat} (hn : w 1 6 = nI n) (h8 : n ≤ 8) {k : Nat} (hk : k ≤ 20) {t : Int32} : Res l g S_keepsNear [.ref (g.1 0), .int t, .int (nI k)] (hput 7 B w) (fun r w' => r = some (.int (bI (farF (hoursF t n k (hget w 1)).2.2.1 ((hoursF t n k (hget w 1)).1 0) n = 0))) ∧ ∃ B, w' = hput 7 B w) := by
  refine Res.of (by decide) (by simp [Value.category]) (Nat.le_of_ble_eq_true rfl) rfl ?_
  show Go l g S_keepsNear 0 [some (.ref (g.1 0)), some (.int t), some (.int (nI k)), none] [] (hput 7 B w) _
  refine g_aload_n dS_keepsNear_0 rfl ?_
  refine g_getR2 (k2 := 7) dS_keepsNear_1 fS_16 rfl rfl (by decide) rfl ?_
  refine g_aload_n dS_keepsNear_4 rfl ?_
  refine g_getR2 (k2 := 1) dS_keepsNear_5 fS_12 rfl rfl (by decide) rfl ?_
  refine gV1v dS_keepsNear_8 kS_keepsNear_151 rfl rfl cbec7 (Nat.le_of_ble_eq_true rfl) ?_
  refine g_iconst (v := 0) dS_keepsNear_11 (by decide) ?_
  refine g_istore_n dS_keepsNear_12 (by decide) rfl rfl ?_
  dsimp only [List.set]
  exact lS_keepsNear hn h8 hk (k + 1) 0 (by omega) (by omega)

set_option maxRecDepth 4000 in
theorem lS_tether {l : Launch} {g : GG} {w : Wd} {n : Nat} (hn : w 1 6 = nI n) (h8 : n ≤ 8) {kk : Nat} (hkk : kk ≤ 20) : ∀ (m : Nat) (i : Nat) (B : HA), 2 ^ n - i < m → i ≤ 2 ^ n → Go l g S_tether 35 [some (.ref (g.1 0)), some (.int (nI kk)), some (.int (teaF (nearP n kk (hget w 1)) i).1), some (.int (teaF (nearP n kk (hget w 1)) i).2), some (.int (nI (2 ^ n))), some (.int (nI i))] [] (hput 7 B w) (IsT (if (teaF (nearP n kk (hget w 1)) (2 ^ n)).2 ≤ 8 then ((teaF (nearP n kk (hget w 1)) (2 ^ n)).1, w) else fnd 3 w)) := by
  intro m
  induction m with
  | zero => intro i B hm hi; omega
  | succ m ih =>
    intro i B hm hi
    have h256 : 2 ^ n ≤ 2 ^ 8 := Nat.pow_le_pow_right (by decide) h8
    refine g_iload dS_tether_35 rfl ?_
    refine g_iload dS_tether_37 rfl ?_
    refine g_icmp_ge dS_tether_39 rfl (fun h39 => ?_) (fun h39 => ?_)
    · rw [nI_leI (by omega) (by omega)] at h39
      have e9 : i = 2 ^ n := by omega
      subst e9
      refine g_iload_n dS_tether_76 rfl ?_
      refine g_bipush (v := 8) dS_tether_77 (by decide) ?_
      refine g_icmp_gt dS_tether_79 rfl (fun h79 => ?_) (fun h79 => ?_)
      · refine g_aload_n dS_tether_86 rfl ?_
        refine g_iconst (v := 3) dS_tether_87 (by decide) ?_
        refine gV1 dS_tether_88 kS_tether_61 rfl rfl (cS_finding (q := 3) (by decide)) (Nat.le_of_ble_eq_true rfl) ?_
        refine g_iret dS_tether_91 rfl rfl ?_
        first | exact IsT_B (by rw [if_pos (Int32.not_lt.mp h79)]) | exact IsT_F (by rw [if_neg (Int32.not_le.mpr h79)])
      · refine g_iload_n dS_tether_82 rfl ?_
        refine g_goto dS_tether_83 rfl ?_
        refine g_iret dS_tether_91 rfl rfl ?_
        first | exact IsT_B (by rw [if_pos (Int32.not_lt.mp h79)]) | exact IsT_F (by rw [if_neg (Int32.not_le.mpr h79)])
    · rw [nI_leI (by omega) (by omega)] at h39
      refine g_iload dS_tether_42 rfl ?_
      refine gS1 dS_tether_44 kS_tether_169 cJI_bitCount (Nat.le_of_ble_eq_true rfl) ?_
      refine g_iload_n dS_tether_47 rfl ?_
      refine g_icmp_ge dS_tether_48 rfl (fun h48 => ?_) (fun h48 => ?_)
      · rw [show teaF (nearP n kk (hget w 1)) i = teaF (nearP n kk (hget w 1)) (i + 1) from (if_neg (fun z => absurd z.1 (Int32.not_lt.mpr h48))).symm]
        refine g_iinc (v := nI (i + 1)) dS_tether_70 rfl (nI_succ i).symm (by decide) rfl rfl ?_
        dsimp only [List.set]
        refine g_goto dS_tether_73 rfl ?_
        exact ih (i + 1) _ (by omega) (by omega)
      · refine g_aload_n dS_tether_51 rfl ?_
        refine g_iload dS_tether_52 rfl ?_
        refine g_iload_n dS_tether_54 rfl ?_
        refine gV2q dS_tether_55 kS_tether_174 rfl rfl (cS_keepsNear hn h8 hkk) (Nat.le_of_ble_eq_true rfl) (fun r1 w1 q1 => ?_)
        obtain ⟨rfl, B1, rfl⟩ := q1
        dsimp only [Option.toList, List.cons_append, List.nil_append]
        refine g_if_eq dS_tether_58 rfl (fun h58 => ?_) (fun h58 => ?_)
        · have h58 := bI_0.mp h58
          rw [show teaF (nearP n kk (hget w 1)) i = teaF (nearP n kk (hget w 1)) (i + 1) from (if_neg (fun z => h58 z.2)).symm]
          refine g_iinc (v := nI (i + 1)) dS_tether_70 rfl (nI_succ i).symm (by decide) rfl rfl ?_
          dsimp only [List.set]
          refine g_goto dS_tether_73 rfl ?_
          exact ih (i + 1) _ (by omega) (by omega)
        · have h58 := Classical.not_not.mp (fun z => h58 (bI_0.mpr z))
          refine g_iload dS_tether_61 rfl ?_
          refine gS1 dS_tether_63 kS_tether_169 cJI_bitCount (Nat.le_of_ble_eq_true rfl) ?_
          refine g_istore_n dS_tether_66 (by decide) rfl rfl ?_
          dsimp only [List.set]
          refine g_iload dS_tether_67 rfl ?_
          refine g_istore_n dS_tether_69 (by decide) rfl rfl ?_
          dsimp only [List.set]
          have e9 : teaF (nearP n kk (hget w 1)) (i + 1) = (nI i, bcI (nI i)) := if_pos ⟨Int32.not_le.mp h48, h58⟩
          refine g_lv (lv1 := [some (.ref (g.1 0)), some (.int (nI kk)), some (.int (teaF (nearP n kk (hget w 1)) (i + 1)).1), some (.int (teaF (nearP n kk (hget w 1)) (i + 1)).2), some (.int (nI (2 ^ n))), some (.int (nI i))]) (by rw [e9]) ?_
          refine g_iinc (v := nI (i + 1)) dS_tether_70 rfl (nI_succ i).symm (by decide) rfl rfl ?_
          dsimp only [List.set]
          refine g_goto dS_tether_73 rfl ?_
          exact ih (i + 1) _ (by omega) (by omega)

set_option maxRecDepth 4000 in
theorem cS_tether {l : Launch} {g : GG} {w : Wd} {n : Nat} (hn : w 1 6 = nI n) (h8 : n ≤ 8) {k : Int32} : Res l g S_tether [.ref (g.1 0), .int k] w (IsT (tethC n k w)) := by
  refine Res.of (by decide) (by simp [Value.category]) (Nat.le_of_ble_eq_true rfl) rfl ?_
  show Go l g S_tether 0 [some (.ref (g.1 0)), some (.int k), none, none, none, none] [] w _
  refine g_iload_n dS_tether_0 rfl ?_
  refine g_iconst (v := 0) dS_tether_1 (by decide) ?_
  refine g_bipush (v := 20) dS_tether_2 (by decide) ?_
  refine gS3 dS_tether_4 kS_tether_81 cS_isWithin (Nat.le_of_ble_eq_true rfl) ?_
  refine g_if_ne dS_tether_7 rfl (fun h7 => ?_) (fun h7 => ?_)
  · have h7 := Classical.not_not.mp (fun z => h7 (bI_0.mpr z))
    obtain ⟨kk, hkk, ekk⟩ := nI_of2 (n := 20) (by decide) (Int32.not_lt.mpr h7.1) h7.2
    subst ekk
    refine g_iconst (v := 0) dS_tether_16 (by decide) ?_
    refine g_istore_n dS_tether_17 (by decide) rfl rfl ?_
    dsimp only [List.set]
    refine g_bipush (v := 9) dS_tether_18 (by decide) ?_
    refine g_istore_n dS_tether_20 (by decide) rfl rfl ?_
    dsimp only [List.set]
    refine g_iconst (v := 1) dS_tether_21 (by decide) ?_
    refine g_aload_n dS_tether_22 rfl ?_
    refine g_getR2 (k2 := 1) dS_tether_23 fS_12 rfl rfl (by decide) rfl ?_
    refine g_getI dS_tether_26 fS_166 rfl rfl ?_
    refine g_ishl dS_tether_29 ?_
    refine g_top (y := nI (2 ^ n)) (by rw [hn]; exact shl_pow n h8) ?_
    refine g_istore dS_tether_30 (by decide) rfl rfl ?_
    dsimp only [List.set]
    refine g_iconst (v := 0) dS_tether_32 (by decide) ?_
    refine g_istore dS_tether_33 (by decide) rfl rfl ?_
    dsimp only [List.set]
    refine g_w (hput_hget 7 w).symm ?_
    refine g_mono (fun r w2 h => ?_) (lS_tether hn h8 hkk (2 ^ n + 1) 0 _ (Nat.lt_succ_of_le (Nat.sub_le _ _)) (Nat.zero_le _))
    rw [tethC, if_pos h7, nI_clamp (by omega)]
    exact h
  · have h7 := bI_0.mp h7
    refine g_aload_n dS_tether_10 rfl ?_
    refine g_iconst (v := 0) dS_tether_11 (by decide) ?_
    refine gV1 dS_tether_12 kS_tether_61 rfl rfl (cS_finding (q := 0) (by decide)) (Nat.le_of_ble_eq_true rfl) ?_
    refine g_iret dS_tether_15 rfl rfl ?_
    exact IsT_of (by rw [tethC, if_neg h7])
