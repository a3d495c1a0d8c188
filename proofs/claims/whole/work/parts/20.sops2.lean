def IsT (p : Int32 × Wd) : Option Value → Wd → Prop := fun r w' => r = some (.int p.1) ∧ ∃ B, w' = hput 7 B p.2
theorem IsT_of {r : Int32} {w : Wd} {p : Int32 × Wd} (h : p = (r, w)) : IsT p (some (.int r)) w := by subst h; exact ⟨rfl, hget w 7, (hput_hget 7 w).symm⟩
theorem IsT_B {r : Int32} {w : Wd} {B : HA} {p : Int32 × Wd} (h : p = (r, w)) : IsT p (some (.int r)) (hput 7 B w) := by subst h; exact ⟨rfl, B, rfl⟩
theorem fcl_hput {q : Nat} {B : HA} {w : Wd} : fcl q (hput 7 B w) = hput 7 B (fcl q w) := by
  unfold fcl
  rw [hput_out B w (by omega : (32 : Nat) < 7 ∨ 7 + 6 ≤ 32)]
  funext k
  by_cases h : k = 32
  · subst h; rw [up_same, hput_out _ _ (by omega), hput_out _ _ (by omega), up_same]
  · rw [up_other _ _ _ _ h]; exact hput_cg B (up_other _ _ _ _ h).symm
theorem IsT_F {q : Nat} {w : Wd} {B : HA} {p : Int32 × Wd} (h : p = fnd q w) : IsT p (some (.int (-1000001 - nI q))) (fcl q (hput 7 B w)) := by subst h; exact ⟨rfl, B, fcl_hput⟩
def underF (k a : Int32) : Nat → Prop
  | 0 => False
  | m + 1 => ¬ k = -1 ∧ (k = a ∨ underF (aboveK k) a m)
def undF (k a : Int32) : Nat → Int32
  | 0 => 0
  | m + 1 => if k = -1 then 0 else if k = a then 1 else undF (aboveK k) a m
def asC (n : Nat) (s k : Int32) (w : Wd) : Int32 × Wd := if (0 ≤ s ∧ s ≤ 9) ∧ (0 ≤ k ∧ k ≤ 6) then (if hasP w (w 19 s.toNatClampNeg) then (if undF (w 2 (w 19 s.toNatClampNeg).toNatClampNeg) k 7 = 0 then fnd 2 w else (w 19 s.toNatClampNeg, w)) else fnd 5 w) else fnd 0 w
def imageC (w : Wd) : Int32 × Wd := (1, up (up (upR (hput 13 (hget w 1) w) 20 (w 19)) 0 7 (w 0 6)) 0 3 1)
def undoC (w : Wd) : Int32 × Wd := if w 0 3 = 0 then fnd 3 w else (w 13 5, up (upR (hput 1 (hget w 13) w) 19 (w 20)) 0 6 (w 0 7))
def drawZ (z : Int32) : Int32 := z * 1103515245 + 12345
def drawV (z : Int32) : Int32 := ((drawZ z).toUInt32 >>> ((8 : Int32).toUInt32 &&& Int32.toUInt32 31)).toInt32
def nightA (n : Nat) (z : Int32) (A : HA) : HA := hourF 0 n (sS (sS A 3 (drawV z - drawV z / 16 * 16)) 4 (drawV (drawZ z) - drawV (drawZ z) / 6 * 6))
def nightsF (n : Nat) : Nat → Int32 × HA → Int32 × HA
  | 0, p => p
  | m + 1, p => (drawZ (drawZ (nightsF n m p).1), nightA n (nightsF n m p).1 (nightsF n m p).2)
def nightsC (n : Nat) (k : Int32) (w : Wd) : Int32 × Wd := if 1 ≤ k ∧ k ≤ 20 then (if w 1 5 ≤ 99999 - k then (sumF (nightsF n k.toNatClampNeg (w 0 6, hget w 1)).2.2.2.2.1 n, up (hput 1 (nightsF n k.toNatClampNeg (w 0 6, hget w 1)).2 w) 0 6 (nightsF n k.toNatClampNeg (w 0 6, hget w 1)).1) else fnd 4 w) else fnd 0 w
def powF (b : Int32) : Nat → Int64
  | 0 => 1
  | m + 1 => powF b m * b.toInt64
def aheadC (n : Nat) (s x k : Int32) (w : Wd) : Int32 × Wd := if hasP w s ∧ (1 ≤ x ∧ x ≤ 4) ∧ (0 ≤ k ∧ k ≤ 100) then (traitF (hoursF 0 n k.toNatClampNeg (hget w 1)) n s.toNatClampNeg x, w) else fnd 0 w
def laterC (n : Nat) (x k : Int32) (w : Wd) : Int32 × Wd := if (x = 1 ∨ x = 2 ∨ x = 4) ∧ (0 ≤ k ∧ k ≤ 100) then (featF (hoursF 0 n k.toNatClampNeg (hget w 1)) x, w) else fnd 0 w
def firstF (p : Nat → Prop) [DecidablePred p] : Nat → Nat → Int32
  | _, 0 => -1
  | i, m + 1 => if p i then nI i else firstF p (i + 1) m
def orN (r : Int32) (w : Wd) : Int32 × Wd := if r = -1 then fnd 3 w else (r, w)
abbrev whenP (n : Nat) (A : HA) (c j : Nat) (v : Int32) (i : Nat) : Prop := v ≤ fld (hoursF 0 n i A) c j
abbrev homeP (n : Nat) (A : HA) (i : Nat) : Prop := setF (hoursF 0 n i A).2.2.1 ((hoursF 0 n i A).1 0) n = 1 <<< ((hoursF 0 n i A).1 6 &&& 31) - 1
def whenC (n : Nat) (s v : Int32) (w : Wd) : Int32 × Wd := if hasP w s ∧ (0 ≤ v ∧ v ≤ 9999) then orN (firstF (whenP n (hget w 1) 4 s.toNatClampNeg v) 0 201) w else fnd 0 w
def panicC (n : Nat) (s v : Int32) (w : Wd) : Int32 × Wd := if hasP w s ∧ (0 ≤ v ∧ v ≤ 99) then orN (firstF (whenP n (hget w 1) 2 s.toNatClampNeg v) 0 201) w else fnd 0 w
def homeC (n : Nat) (w : Wd) : Int32 × Wd := orN (firstF (homeP n (hget w 1)) 0 201) w
def nightsW (n i : Nat) (w : Wd) : Wd := up (hput 1 (nightsF n i (w 0 6, hget w 1)).2 w) 0 6 (nightsF n i (w 0 6, hget w 1)).1
theorem up_hput1 {B : HA} {w : Wd} {k j : Nat} {v : Int32} (hk : k < 1 ∨ 7 ≤ k) : up (hput 1 B w) k j v = hput 1 B (up w k j v) := by
  funext k'
  by_cases h : k' = k
  · subst h; rw [up_same, hput_out _ _ (by omega), hput_out _ _ (by omega), up_same]
  · rw [up_other _ _ _ _ h]; exact hput_cg B (up_other _ _ _ _ h).symm
theorem up_up (w : Wd) (k j : Nat) (a b : Int32) : up (up w k j a) k j b = up w k j b := by
  funext k'
  simp only [up]
  split
  · funext j'; simp only [upd]; split <;> simp_all [upd]
  · rfl
theorem up_id (w : Wd) (k j : Nat) : up w k j (w k j) = w := by
  funext k'
  simp only [up]
  split
  · subst_vars; funext j'; simp only [upd]; split <;> simp_all
  · rfl
theorem hput06 (B : HA) (W : Wd) : hput 1 B W 0 6 = W 0 6 := by rw [hput_out (h := 1) (k := 0) B W (by decide)]
theorem up06 (W : Wd) (v : Int32) : up W 0 6 v 0 6 = v := by rw [up_same]; simp [upd]
theorem up_h06 (B : HA) (W : Wd) (v : Int32) : up (hput 1 B W) 0 6 v = hput 1 B (up W 0 6 v) := up_hput1 (by decide)
theorem nightsW_0 (n : Nat) (w : Wd) : nightsW n 0 w = w := by
  show up (hput 1 (hget w 1) w) 0 6 (w 0 6) = w
  rw [hput_hget, up_id]
theorem hget1_up (w : Wd) (v : Int32) : hget (up w 0 6 v) 1 = hget w 1 := by simp [hget, up]
theorem nightsW_A (n i : Nat) (w : Wd) : hget (nightsW n i w) 1 = (nightsF n i (w 0 6, hget w 1)).2 := by
  unfold nightsW
  rw [hget1_up, hget_hput]
theorem nightsF_6 (n : Nat) (p : Int32 × HA) : ∀ i, (nightsF n i p).2.1 6 = p.2.1 6
  | 0 => rfl
  | i + 1 => by
    show (hourF 0 n _).1 6 = _
    rw [hourF_6]
    exact nightsF_6 n p i
theorem nightsW_6 (n i : Nat) (w : Wd) : (hget (nightsW n i w) 1).1 6 = w 1 6 := by rw [nightsW_A, nightsF_6]; rfl
theorem nightsW_F (n i : Nat) (w : Wd) : (nightsW n i w) 4 = (nightsF n i (w 0 6, hget w 1)).2.2.2.2.1 := by rw [← nightsW_A]; rfl
theorem nightsW_z (n i : Nat) (w : Wd) : (nightsW n i w) 0 6 = (nightsF n i (w 0 6, hget w 1)).1 := by
  unfold nightsW
  rw [up_same]
  simp [upd]
set_option maxRecDepth 4000 in
theorem cS_of {l : Launch} {g : GG} {w : Wd} {n : Nat} (hn : w 1 6 = nI n) (h8 : n ≤ 8) {s x : Int32} : Res l g S_of [.ref (g.1 0), .int s, .int x] w (IsP (ofC n s x w)) := by
  refine Res.of (by decide) (by simp [Value.category]) (Nat.le_of_ble_eq_true rfl) rfl ?_
  show Go l g S_of 0 [some (.ref (g.1 0)), some (.int s), some (.int x)] [] w _
  refine g_aload_n dS_of_0 rfl ?_
  refine g_getR2 (k2 := 1) dS_of_1 fS_12 rfl rfl (by decide) rfl ?_
  refine g_iload_n dS_of_4 rfl ?_
  refine gV1 dS_of_5 kS_of_100 rfl rfl cH_hasW (Nat.le_of_ble_eq_true rfl) ?_
  refine g_if_eq dS_of_8 rfl (fun h8_ => ?_) (fun h8_ => ?_)
  · have h8_ := bI_0.mp h8_
    refine g_aload_n dS_of_21 rfl ?_
    refine g_iconst (v := 0) dS_of_22 (by decide) ?_
    refine gV1 dS_of_23 kS_of_61 rfl rfl (cS_finding (q := 0) (by decide)) (Nat.le_of_ble_eq_true rfl) ?_
    refine g_iret dS_of_26 rfl rfl ?_
    refine IsP_of ?_
    simp only [ofC]
    rw [if_neg (by grind)]
  · have h8_ := Classical.not_not.mp (fun z => h8_ (bI_0.mpr z))
    obtain ⟨j, hj, ej⟩ := hasN h8_.1 (show s < nI n from hn ▸ h8_.2) (by omega)
    subst ej
    refine g_iload_n dS_of_11 rfl ?_
    refine g_iconst (v := 0) dS_of_12 (by decide) ?_
    refine g_bipush (v := 9) dS_of_13 (by decide) ?_
    refine gS3 dS_of_15 kS_of_81 cS_isWithin (Nat.le_of_ble_eq_true rfl) ?_
    refine g_if_ne dS_of_18 rfl (fun h18 => ?_) (fun h18 => ?_)
    · have h18 := Classical.not_not.mp (fun z => h18 (bI_0.mpr z))
      refine g_aload_n dS_of_27 rfl ?_
      refine g_getR2 (k2 := 1) dS_of_28 fS_12 rfl rfl (by decide) rfl ?_
      refine g_iload_n dS_of_31 rfl ?_
      refine g_iload_n dS_of_32 rfl ?_
      refine gV2 dS_of_33 kS_of_103 rfl rfl (toRO (cH_trait isH1 hn h8 (j := j) (by omega))) (Nat.le_of_ble_eq_true rfl) ?_
      refine g_iret dS_of_36 rfl rfl ?_
      exact IsP_of (by rw [ofC, if_pos ⟨h8_, h18⟩, nI_clamp (by omega)])
    · have h18 := bI_0.mp h18
      refine g_aload_n dS_of_21 rfl ?_
      refine g_iconst (v := 0) dS_of_22 (by decide) ?_
      refine gV1 dS_of_23 kS_of_61 rfl rfl (cS_finding (q := 0) (by decide)) (Nat.le_of_ble_eq_true rfl) ?_
      refine g_iret dS_of_26 rfl rfl ?_
      refine IsP_of ?_
      simp only [ofC]
      rw [if_neg (by grind)]

set_option maxRecDepth 4000 in
theorem cS_change {l : Launch} {g : GG} {w : Wd} {n : Nat} (hn : w 1 6 = nI n) (h8 : n ≤ 8) {s x v : Int32} : Res l g S_change [.ref (g.1 0), .int s, .int x, .int v] w (IsP (changeC n s x v w)) := by
  refine Res.of (by decide) (by simp [Value.category]) (Nat.le_of_ble_eq_true rfl) rfl ?_
  show Go l g S_change 0 [some (.ref (g.1 0)), some (.int s), some (.int x), some (.int v), none] [] w _
  refine g_aload_n dS_change_0 rfl ?_
  refine g_getR2 (k2 := 1) dS_change_1 fS_12 rfl rfl (by decide) rfl ?_
  refine g_iload_n dS_change_4 rfl ?_
  refine gV1 dS_change_5 kS_change_100 rfl rfl cH_hasW (Nat.le_of_ble_eq_true rfl) ?_
  refine g_if_eq dS_change_8 rfl (fun h8_ => ?_) (fun h8_ => ?_)
  · have h8_ := bI_0.mp h8_
    refine g_aload_n dS_change_19 rfl ?_
    refine g_iconst (v := 0) dS_change_20 (by decide) ?_
    refine gV1 dS_change_21 kS_change_61 rfl rfl (cS_finding (q := 0) (by decide)) (Nat.le_of_ble_eq_true rfl) ?_
    refine g_iret dS_change_24 rfl rfl ?_
    refine IsP_of ?_
    simp only [changeC]
    rw [if_neg (by grind)]
  · have h8_ := Classical.not_not.mp (fun z => h8_ (bI_0.mpr z))
    obtain ⟨j, hj, ej⟩ := hasN h8_.1 (show s < nI n from hn ▸ h8_.2) (by omega)
    subst ej
    refine g_iload_n dS_change_11 rfl ?_
    refine g_iload_n dS_change_12 rfl ?_
    refine gS2 dS_change_13 kS_change_106 cS_canBeChanged (Nat.le_of_ble_eq_true rfl) ?_
    refine g_if_ne dS_change_16 rfl (fun h16 => ?_) (fun h16 => ?_)
    · have h16 := Classical.not_not.mp (fun z => h16 (bI_0.mpr z))
      refine g_iload_n dS_change_25 rfl ?_
      refine g_iconst (v := 1) dS_change_26 (by decide) ?_
      refine g_icmp_ne dS_change_27 rfl (fun h27 => ?_) (fun h27 => ?_)
      · refine g_aload_n dS_change_47 rfl ?_
        refine g_getR2 (k2 := 1) dS_change_48 fS_12 rfl rfl (by decide) rfl ?_
        refine g_iload_n dS_change_51 rfl ?_
        refine g_iload_n dS_change_52 rfl ?_
        refine gV2 dS_change_53 kS_change_103 rfl rfl (toRO (cH_trait isH1 hn h8 (j := j) (by omega))) (Nat.le_of_ble_eq_true rfl) ?_
        refine g_istore dS_change_56 (by decide) rfl rfl ?_
        dsimp only [List.set]
        refine g_iload_n dS_change_58 rfl ?_
        refine g_split (0) (fun z0 => ?_) (fun z0 => ?_)
        · refine g_tabIn dS_change_59 (by decide) (by decide) rfl rfl ?_
          refine g_aload_n dS_change_88 rfl ?_
          refine g_getR2 (k2 := 1) dS_change_89 fS_12 rfl rfl (by decide) rfl ?_
          refine g_getR2 (k2 := 2) dS_change_92 fS_112 rfl rfl (by decide) rfl ?_
          refine g_iload_n dS_change_95 rfl ?_
          refine g_iload_n dS_change_96 rfl ?_
          refine g_iastN dS_change_97 rfl (by omega) (by decide) ?_
          rw [up_1K]
          refine g_goto dS_change_98 rfl ?_
          refine g_iload dS_change_150 rfl ?_
          refine g_iret dS_change_152 rfl rfl ?_
          refine IsP_of ?_
          rw [changeC, if_pos ⟨h8_, h16⟩, if_neg (by grind), nI_clamp (by omega)]
          first | (simp [chA, *]; done) | (exfalso; grind)
        refine g_split (1) (fun z1 => ?_) (fun z1 => ?_)
        · refine g_tabIn dS_change_59 (by decide) (by decide) rfl rfl ?_
          refine g_aload_n dS_change_101 rfl ?_
          refine g_getR2 (k2 := 1) dS_change_102 fS_12 rfl rfl (by decide) rfl ?_
          refine g_getR2 (k2 := 3) dS_change_105 fS_115 rfl rfl (by decide) rfl ?_
          refine g_iload_n dS_change_108 rfl ?_
          refine g_iload_n dS_change_109 rfl ?_
          refine g_iastN dS_change_110 rfl (by omega) (by decide) ?_
          rw [up_1C]
          refine g_goto dS_change_111 rfl ?_
          refine g_iload dS_change_150 rfl ?_
          refine g_iret dS_change_152 rfl rfl ?_
          refine IsP_of ?_
          rw [changeC, if_pos ⟨h8_, h16⟩, if_neg (by grind), nI_clamp (by omega)]
          first | (simp [chA, *]; done) | (exfalso; grind)
        refine g_split (2) (fun z2 => ?_) (fun z2 => ?_)
        · refine g_tabIn dS_change_59 (by decide) (by decide) rfl rfl ?_
          refine g_aload_n dS_change_114 rfl ?_
          refine g_getR2 (k2 := 1) dS_change_115 fS_12 rfl rfl (by decide) rfl ?_
          refine g_getR2 (k2 := 4) dS_change_118 fS_118 rfl rfl (by decide) rfl ?_
          refine g_iload_n dS_change_121 rfl ?_
          refine g_iload_n dS_change_122 rfl ?_
          refine g_iastN dS_change_123 rfl (by omega) (by decide) ?_
          rw [up_1F]
          refine g_goto dS_change_124 rfl ?_
          refine g_iload dS_change_150 rfl ?_
          refine g_iret dS_change_152 rfl rfl ?_
          refine IsP_of ?_
          rw [changeC, if_pos ⟨h8_, h16⟩, if_neg (by grind), nI_clamp (by omega)]
          first | (simp [chA, *]; done) | (exfalso; grind)
        refine g_split (3) (fun z3 => ?_) (fun z3 => ?_)
        · refine g_tabIn dS_change_59 (by decide) (by decide) rfl rfl ?_
          refine g_aload_n dS_change_127 rfl ?_
          refine g_getR2 (k2 := 1) dS_change_128 fS_12 rfl rfl (by decide) rfl ?_
          refine g_getR2 (k2 := 5) dS_change_131 fS_121 rfl rfl (by decide) rfl ?_
          refine g_iload_n dS_change_134 rfl ?_
          refine g_iload_n dS_change_135 rfl ?_
          refine g_iastN dS_change_136 rfl (by omega) (by decide) ?_
          rw [up_1L]
          refine g_goto dS_change_137 rfl ?_
          refine g_iload dS_change_150 rfl ?_
          refine g_iret dS_change_152 rfl rfl ?_
          refine IsP_of ?_
          rw [changeC, if_pos ⟨h8_, h16⟩, if_neg (by grind), nI_clamp (by omega)]
          first | (simp [chA, *]; done) | (exfalso; grind)
        refine g_tabOut dS_change_59 (by have q0 := lv_neT z0 (a := 0) rfl; have q1 := lv_neT z1 (a := 1) rfl; have q2 := lv_neT z2 (a := 2) rfl; have q3 := lv_neT z3 (a := 3) rfl; omega) rfl ?_
        refine g_aload_n dS_change_140 rfl ?_
        refine g_getR2 (k2 := 1) dS_change_141 fS_12 rfl rfl (by decide) rfl ?_
        refine g_getR2 (k2 := 6) dS_change_144 fS_124 rfl rfl (by decide) rfl ?_
        refine g_iload_n dS_change_147 rfl ?_
        refine g_iload_n dS_change_148 rfl ?_
        refine g_iastN dS_change_149 rfl (by omega) (by decide) ?_
        rw [up_1O]
        refine g_iload dS_change_150 rfl ?_
        refine g_iret dS_change_152 rfl rfl ?_
        refine IsP_of ?_
        rw [changeC, if_pos ⟨h8_, h16⟩, if_neg (by grind), nI_clamp (by omega)]
        first | (simp [chA, *]; done) | (exfalso; grind)
      · refine g_iload_n dS_change_30 rfl ?_
        refine g_aload_n dS_change_31 rfl ?_
        refine g_getR2 (k2 := 1) dS_change_32 fS_12 rfl rfl (by decide) rfl ?_
        refine g_getI dS_change_35 fS_109 rfl rfl ?_
        refine g_icmp_ne dS_change_38 rfl (fun h38 => ?_) (fun h38 => ?_)
        · refine g_aload_n dS_change_47 rfl ?_
          refine g_getR2 (k2 := 1) dS_change_48 fS_12 rfl rfl (by decide) rfl ?_
          refine g_iload_n dS_change_51 rfl ?_
          refine g_iload_n dS_change_52 rfl ?_
          refine gV2 dS_change_53 kS_change_103 rfl rfl (toRO (cH_trait isH1 hn h8 (j := j) (by omega))) (Nat.le_of_ble_eq_true rfl) ?_
          refine g_istore dS_change_56 (by decide) rfl rfl ?_
          dsimp only [List.set]
          refine g_iload_n dS_change_58 rfl ?_
          refine g_split (0) (fun z0 => ?_) (fun z0 => ?_)
          · refine g_tabIn dS_change_59 (by decide) (by decide) rfl rfl ?_
            refine g_aload_n dS_change_88 rfl ?_
            refine g_getR2 (k2 := 1) dS_change_89 fS_12 rfl rfl (by decide) rfl ?_
            refine g_getR2 (k2 := 2) dS_change_92 fS_112 rfl rfl (by decide) rfl ?_
            refine g_iload_n dS_change_95 rfl ?_
            refine g_iload_n dS_change_96 rfl ?_
            refine g_iastN dS_change_97 rfl (by omega) (by decide) ?_
            rw [up_1K]
            refine g_goto dS_change_98 rfl ?_
            refine g_iload dS_change_150 rfl ?_
            refine g_iret dS_change_152 rfl rfl ?_
            refine IsP_of ?_
            rw [changeC, if_pos ⟨h8_, h16⟩, if_neg (by grind), nI_clamp (by omega)]
            first | (simp [chA, *]; done) | (exfalso; grind)
          refine g_split (1) (fun z1 => ?_) (fun z1 => ?_)
          · refine g_tabIn dS_change_59 (by decide) (by decide) rfl rfl ?_
            refine g_aload_n dS_change_101 rfl ?_
            refine g_getR2 (k2 := 1) dS_change_102 fS_12 rfl rfl (by decide) rfl ?_
            refine g_getR2 (k2 := 3) dS_change_105 fS_115 rfl rfl (by decide) rfl ?_
            refine g_iload_n dS_change_108 rfl ?_
            refine g_iload_n dS_change_109 rfl ?_
            refine g_iastN dS_change_110 rfl (by omega) (by decide) ?_
            rw [up_1C]
            refine g_goto dS_change_111 rfl ?_
            refine g_iload dS_change_150 rfl ?_
            refine g_iret dS_change_152 rfl rfl ?_
            refine IsP_of ?_
            rw [changeC, if_pos ⟨h8_, h16⟩, if_neg (by grind), nI_clamp (by omega)]
            first | (simp [chA, *]; done) | (exfalso; grind)
          refine g_split (2) (fun z2 => ?_) (fun z2 => ?_)
          · refine g_tabIn dS_change_59 (by decide) (by decide) rfl rfl ?_
            refine g_aload_n dS_change_114 rfl ?_
            refine g_getR2 (k2 := 1) dS_change_115 fS_12 rfl rfl (by decide) rfl ?_
            refine g_getR2 (k2 := 4) dS_change_118 fS_118 rfl rfl (by decide) rfl ?_
            refine g_iload_n dS_change_121 rfl ?_
            refine g_iload_n dS_change_122 rfl ?_
            refine g_iastN dS_change_123 rfl (by omega) (by decide) ?_
            rw [up_1F]
            refine g_goto dS_change_124 rfl ?_
            refine g_iload dS_change_150 rfl ?_
            refine g_iret dS_change_152 rfl rfl ?_
            refine IsP_of ?_
            rw [changeC, if_pos ⟨h8_, h16⟩, if_neg (by grind), nI_clamp (by omega)]
            first | (simp [chA, *]; done) | (exfalso; grind)
          refine g_split (3) (fun z3 => ?_) (fun z3 => ?_)
          · refine g_tabIn dS_change_59 (by decide) (by decide) rfl rfl ?_
            refine g_aload_n dS_change_127 rfl ?_
            refine g_getR2 (k2 := 1) dS_change_128 fS_12 rfl rfl (by decide) rfl ?_
            refine g_getR2 (k2 := 5) dS_change_131 fS_121 rfl rfl (by decide) rfl ?_
            refine g_iload_n dS_change_134 rfl ?_
            refine g_iload_n dS_change_135 rfl ?_
            refine g_iastN dS_change_136 rfl (by omega) (by decide) ?_
            rw [up_1L]
            refine g_goto dS_change_137 rfl ?_
            refine g_iload dS_change_150 rfl ?_
            refine g_iret dS_change_152 rfl rfl ?_
            refine IsP_of ?_
            rw [changeC, if_pos ⟨h8_, h16⟩, if_neg (by grind), nI_clamp (by omega)]
            first | (simp [chA, *]; done) | (exfalso; grind)
          refine g_tabOut dS_change_59 (by have q0 := lv_neT z0 (a := 0) rfl; have q1 := lv_neT z1 (a := 1) rfl; have q2 := lv_neT z2 (a := 2) rfl; have q3 := lv_neT z3 (a := 3) rfl; omega) rfl ?_
          refine g_aload_n dS_change_140 rfl ?_
          refine g_getR2 (k2 := 1) dS_change_141 fS_12 rfl rfl (by decide) rfl ?_
          refine g_getR2 (k2 := 6) dS_change_144 fS_124 rfl rfl (by decide) rfl ?_
          refine g_iload_n dS_change_147 rfl ?_
          refine g_iload_n dS_change_148 rfl ?_
          refine g_iastN dS_change_149 rfl (by omega) (by decide) ?_
          rw [up_1O]
          refine g_iload dS_change_150 rfl ?_
          refine g_iret dS_change_152 rfl rfl ?_
          refine IsP_of ?_
          rw [changeC, if_pos ⟨h8_, h16⟩, if_neg (by grind), nI_clamp (by omega)]
          first | (simp [chA, *]; done) | (exfalso; grind)
        · refine g_aload_n dS_change_41 rfl ?_
          refine g_iconst (v := 4) dS_change_42 (by decide) ?_
          refine gV1 dS_change_43 kS_change_61 rfl rfl (cS_finding (q := 4) (by decide)) (Nat.le_of_ble_eq_true rfl) ?_
          refine g_iret dS_change_46 rfl rfl ?_
          exact IsP_of (by rw [changeC, if_pos ⟨h8_, h16⟩, if_pos ⟨h27, h38⟩])
    · have h16 := bI_0.mp h16
      refine g_aload_n dS_change_19 rfl ?_
      refine g_iconst (v := 0) dS_change_20 (by decide) ?_
      refine gV1 dS_change_21 kS_change_61 rfl rfl (cS_finding (q := 0) (by decide)) (Nat.le_of_ble_eq_true rfl) ?_
      refine g_iret dS_change_24 rfl rfl ?_
      refine IsP_of ?_
      simp only [changeC]
      rw [if_neg (by grind)]

set_option maxRecDepth 4000 in
theorem cS_go {l : Launch} {g : GG} {w : Wd} {n : Nat} (hn : w 1 6 = nI n) (h8 : n ≤ 8) {k : Int32} : Res l g S_go [.ref (g.1 0), .int k] w (IsP (goC n k w)) := by
  refine Res.of (by decide) (by simp [Value.category]) (Nat.le_of_ble_eq_true rfl) rfl ?_
  show Go l g S_go 0 [some (.ref (g.1 0)), some (.int k)] [] w _
  refine g_iload_n dS_go_0 rfl ?_
  refine g_iconst (v := 1) dS_go_1 (by decide) ?_
  refine g_bipush (v := 60) dS_go_2 (by decide) ?_
  refine gS3 dS_go_4 kS_go_81 cS_isWithin (Nat.le_of_ble_eq_true rfl) ?_
  refine g_if_ne dS_go_7 rfl (fun h7 => ?_) (fun h7 => ?_)
  · have h7 := Classical.not_not.mp (fun z => h7 (bI_0.mpr z))
    refine g_aload_n dS_go_16 rfl ?_
    refine g_getR2 (k2 := 1) dS_go_17 fS_12 rfl rfl (by decide) rfl ?_
    refine g_getI dS_go_20 fS_130 rfl rfl ?_
    refine g_ldc dS_go_23 fS_133 ?_
    refine g_iload_n dS_go_25 rfl ?_
    refine g_isub dS_go_26 ?_
    refine g_icmp_le dS_go_27 rfl (fun h27 => ?_) (fun h27 => ?_)
    · obtain ⟨j, hj, ej⟩ := nI_of2 (n := 60) (by decide) (fun z => absurd (Int32.lt_of_lt_of_le z (by decide : (0 : Int32) ≤ 1)) (Int32.not_lt.mpr h7.1)) h7.2
      subst ej
      refine g_aload_n dS_go_36 rfl ?_
      refine g_getR2 (k2 := 1) dS_go_37 fS_12 rfl rfl (by decide) rfl ?_
      refine g_iload_n dS_go_40 rfl ?_
      refine gV1v dS_go_41 kS_go_134 rfl rfl (toW (cH_passHours isH1 hn h8 (k := j) (by omega))) (Nat.le_of_ble_eq_true rfl) ?_
      refine g_aload_n dS_go_44 rfl ?_
      refine g_getR2 (k2 := 1) dS_go_45 fS_12 rfl rfl (by decide) rfl ?_
      refine g_aload_n dS_go_48 rfl ?_
      refine g_getR2 (k2 := 1) dS_go_49 fS_12 rfl rfl (by decide) rfl ?_
      refine g_getR2 (k2 := 6) dS_go_52 fS_124 rfl rfl (by decide) rfl ?_
      refine gV1 dS_go_55 kS_go_137 rfl rfl (cH_total isH1 (n := n) (by rw [hoursF_6]; exact hn) h8 (c := 5) (by decide) (by decide)) (Nat.le_of_ble_eq_true rfl) ?_
      refine g_iret dS_go_58 rfl rfl ?_
      refine IsP_of ?_
      rw [goC, if_pos h7, if_pos h27, nI_clamp (by omega)]
      rfl
    · refine g_aload_n dS_go_30 rfl ?_
      refine g_iconst (v := 4) dS_go_31 (by decide) ?_
      refine gV1 dS_go_32 kS_go_61 rfl rfl (cS_finding (q := 4) (by decide)) (Nat.le_of_ble_eq_true rfl) ?_
      refine g_iret dS_go_35 rfl rfl ?_
      exact IsP_of (by rw [goC, if_pos h7, if_neg h27])
  · have h7 := bI_0.mp h7
    refine g_aload_n dS_go_10 rfl ?_
    refine g_iconst (v := 0) dS_go_11 (by decide) ?_
    refine gV1 dS_go_12 kS_go_61 rfl rfl (cS_finding (q := 0) (by decide)) (Nat.le_of_ble_eq_true rfl) ?_
    refine g_iret dS_go_15 rfl rfl ?_
    exact IsP_of (if_neg h7)

set_option maxRecDepth 4000 in
theorem lS_status {l : Launch} {g : GG} {w : Wd} {x : Int32} : ∀ (m : Nat) (i : Nat), 7 - i < m → i ≤ 7 → Go l g S_status 31 [some (.ref (g.1 0)), some (.int x), some (.int (sumF (w 32) i)), some (.int (nI i))] [] w (Is (some (.int (sumF (w 32) 7))) w) := by
  intro m
  induction m with
  | zero => intro i hm hi; omega
  | succ m ih =>
    intro i hm hi
    refine g_iload_n dS_status_31 rfl ?_
    refine g_bipush (v := 7) dS_status_32 (by decide) ?_
    refine g_icmp_ge dS_status_34 rfl (fun h34 => ?_) (fun h34 => ?_)
    · rw [show (7 : Int32) = nI 7 from rfl, nI_leI (by omega) (by omega)] at h34
      refine g_iload_n dS_status_52 rfl ?_
      refine g_iret dS_status_53 rfl rfl ?_
      exact ⟨by rw [show i = 7 by omega], rfl⟩
    · rw [show (7 : Int32) = nI 7 from rfl, nI_leI (by omega) (by omega)] at h34
      refine g_iload_n dS_status_37 rfl ?_
      refine g_aload_n dS_status_38 rfl ?_
      refine g_getR2 (k2 := 32) dS_status_39 fS_54 rfl rfl (by decide) rfl ?_
      refine g_iload_n dS_status_42 rfl ?_
      refine g_ialdN dS_status_43 rfl (by omega) (by decide) ?_
      refine g_iadd dS_status_44 ?_
      refine g_istore_n dS_status_45 (by decide) rfl rfl ?_
      dsimp only [List.set]
      refine g_iinc (v := nI (i + 1)) dS_status_46 rfl (nI_succ i).symm (by decide) rfl rfl ?_
      dsimp only [List.set]
      refine g_goto dS_status_49 rfl ?_
      exact ih (i + 1) (by omega) (by omega)

set_option maxRecDepth 4000 in
theorem cS_status {l : Launch} {g : GG} {w : Wd} {x : Int32} : Res l g S_status [.ref (g.1 0), .int x] w (IsP (statusC x w)) := by
  refine Res.of (by decide) (by simp [Value.category]) (Nat.le_of_ble_eq_true rfl) rfl ?_
  show Go l g S_status 0 [some (.ref (g.1 0)), some (.int x), none, none] [] w _
  refine g_iload_n dS_status_0 rfl ?_
  refine g_iconst (v := (-1)) dS_status_1 (by decide) ?_
  refine g_bipush (v := 6) dS_status_2 (by decide) ?_
  refine gS3 dS_status_4 kS_status_81 cS_isWithin (Nat.le_of_ble_eq_true rfl) ?_
  refine g_if_ne dS_status_7 rfl (fun h7 => ?_) (fun h7 => ?_)
  · have h7 := Classical.not_not.mp (fun z => h7 (bI_0.mpr z))
    refine g_iload_n dS_status_16 rfl ?_
    refine g_if_lt dS_status_17 rfl (fun h17 => ?_) (fun h17 => ?_)
    · refine g_iconst (v := 0) dS_status_27 (by decide) ?_
      refine g_istore_n dS_status_28 (by decide) rfl rfl ?_
      dsimp only [List.set]
      refine g_iconst (v := 0) dS_status_29 (by decide) ?_
      refine g_istore_n dS_status_30 (by decide) rfl rfl ?_
      dsimp only [List.set]
      refine g_mono (fun r w2 h => ?_) (lS_status (w := w) (x := x) 8 0 (by omega) (by omega))
      obtain ⟨rfl, rfl⟩ := h
      exact IsP_of (by rw [statusC, if_pos h7, if_pos h17])
    · obtain ⟨j, hj, ej⟩ := nI_of2 (n := 6) (by decide) h17 h7.2
      subst ej
      refine g_aload_n dS_status_20 rfl ?_
      refine g_getR2 (k2 := 32) dS_status_21 fS_54 rfl rfl (by decide) rfl ?_
      refine g_iload_n dS_status_24 rfl ?_
      refine g_ialdN dS_status_25 rfl (by omega) (by decide) ?_
      refine g_iret dS_status_26 rfl rfl ?_
      exact IsP_of (by rw [statusC, if_pos h7, if_neg h17, nI_clamp (by omega)])
  · have h7 := bI_0.mp h7
    refine g_aload_n dS_status_10 rfl ?_
    refine g_iconst (v := 0) dS_status_11 (by decide) ?_
    refine gV1 dS_status_12 kS_status_61 rfl rfl (cS_finding (q := 0) (by decide)) (Nat.le_of_ble_eq_true rfl) ?_
    refine g_iret dS_status_15 rfl rfl ?_
    exact IsP_of (if_neg h7)

set_option maxRecDepth 4000 in
theorem cS_hold {l : Launch} {g : GG} {w : Wd} {n : Nat} (hn : w 1 6 = nI n) (h8 : n ≤ 8) {s h : Int32} : Res l g S_hold [.ref (g.1 0), .int s, .int h] w (IsP (holdC s h w)) := by
  refine Res.of (by decide) (by simp [Value.category]) (Nat.le_of_ble_eq_true rfl) rfl ?_
  show Go l g S_hold 0 [some (.ref (g.1 0)), some (.int s), some (.int h)] [] w _
  refine g_iload_n dS_hold_0 rfl ?_
  refine gS1 dS_hold_1 kS_hold_214 cS_isSpot (Nat.le_of_ble_eq_true rfl) ?_
  refine g_if_eq dS_hold_4 rfl (fun h4 => ?_) (fun h4 => ?_)
  · have h4 := bI_0.mp h4
    refine g_aload_n dS_hold_23 rfl ?_
    refine g_iconst (v := 0) dS_hold_24 (by decide) ?_
    refine gV1 dS_hold_25 kS_hold_61 rfl rfl (cS_finding (q := 0) (by decide)) (Nat.le_of_ble_eq_true rfl) ?_
    refine g_iret dS_hold_28 rfl rfl ?_
    refine IsP_of ?_
    simp only [holdC]
    rw [if_neg (by grind)]
  · have h4 := Classical.not_not.mp (fun z => h4 (bI_0.mpr z))
    obtain ⟨j, hj, ej⟩ := nI_of2 (n := 9) (by decide) (Int32.not_lt.mpr h4.1) h4.2
    subst ej
    refine g_iload_n dS_hold_7 rfl ?_
    refine g_iconst (v := (-1)) dS_hold_8 (by decide) ?_
    refine g_icmp_eq dS_hold_9 rfl (fun h9 => ?_) (fun h9 => ?_)
    · refine g_aload_n dS_hold_29 rfl ?_
      refine g_getR2 (k2 := 19) dS_hold_30 fS_26 rfl rfl (by decide) rfl ?_
      refine g_iload_n dS_hold_33 rfl ?_
      refine g_iload_n dS_hold_34 rfl ?_
      refine g_iastN dS_hold_35 rfl (by omega) (by decide) ?_
      refine g_iconst (v := 1) dS_hold_36 (by decide) ?_
      refine g_iret dS_hold_37 rfl rfl ?_
      refine IsP_of ?_
      rw [holdC, if_pos (by grind), nI_clamp (by omega)]
    · refine g_aload_n dS_hold_12 rfl ?_
      refine g_getR2 (k2 := 1) dS_hold_13 fS_12 rfl rfl (by decide) rfl ?_
      refine g_iload_n dS_hold_16 rfl ?_
      refine gV1 dS_hold_17 kS_hold_100 rfl rfl cH_hasW (Nat.le_of_ble_eq_true rfl) ?_
      refine g_if_ne dS_hold_20 rfl (fun h20 => ?_) (fun h20 => ?_)
      · have h20 := Classical.not_not.mp (fun z => h20 (bI_0.mpr z))
        refine g_aload_n dS_hold_29 rfl ?_
        refine g_getR2 (k2 := 19) dS_hold_30 fS_26 rfl rfl (by decide) rfl ?_
        refine g_iload_n dS_hold_33 rfl ?_
        refine g_iload_n dS_hold_34 rfl ?_
        refine g_iastN dS_hold_35 rfl (by omega) (by decide) ?_
        refine g_iconst (v := 1) dS_hold_36 (by decide) ?_
        refine g_iret dS_hold_37 rfl rfl ?_
        refine IsP_of ?_
        rw [holdC, if_pos (by grind), nI_clamp (by omega)]
      · have h20 := bI_0.mp h20
        refine g_aload_n dS_hold_23 rfl ?_
        refine g_iconst (v := 0) dS_hold_24 (by decide) ?_
        refine gV1 dS_hold_25 kS_hold_61 rfl rfl (cS_finding (q := 0) (by decide)) (Nat.le_of_ble_eq_true rfl) ?_
        refine g_iret dS_hold_28 rfl rfl ?_
        refine IsP_of ?_
        simp only [holdC]
        rw [if_neg (by grind)]

set_option maxRecDepth 4000 in
theorem lS_isUnder {l : Launch} {g : GG} {w : Wd} {k0 a : Int32} : ∀ (m : Nat) (k : Int32), m ≤ 7 → Go l g S_isUnder 4 [some (.int k0), some (.int a), some (.int k), some (.int (nI (7 - m)))] [] w (Is (some (.int (undF k a m))) w) := by
  intro m
  induction m with
  | zero =>
    intro k hm
    refine g_iload_n dS_isUnder_4 rfl ?_
    refine g_bipush (v := 7) dS_isUnder_5 (by decide) ?_
    refine g_icmp_ge dS_isUnder_7 rfl (fun h7 => ?_) (fun h7 => ?_)
    · refine g_iconst (v := 0) dS_isUnder_33 (by decide) ?_
      refine g_iret dS_isUnder_34 rfl rfl ?_
      exact ⟨rfl, rfl⟩
    · exact absurd (by decide) h7
  | succ m ih =>
    intro k hm
    refine g_iload_n dS_isUnder_4 rfl ?_
    refine g_bipush (v := 7) dS_isUnder_5 (by decide) ?_
    refine g_icmp_ge dS_isUnder_7 rfl (fun h7 => ?_) (fun h7 => ?_)
    · rw [show (7 : Int32) = nI 7 from rfl, nI_leI (by omega) (by omega)] at h7
      omega
    · rw [show (7 : Int32) = nI 7 from rfl, nI_leI (by omega) (by omega)] at h7
      refine g_iload_n dS_isUnder_10 rfl ?_
      refine g_iconst (v := (-1)) dS_isUnder_11 (by decide) ?_
      refine g_icmp_eq dS_isUnder_12 rfl (fun h12 => ?_) (fun h12 => ?_)
      · refine g_iconst (v := 0) dS_isUnder_33 (by decide) ?_
        refine g_iret dS_isUnder_34 rfl (by first | rfl | exact bI_n) ?_
        exact ⟨by simp [undF, h12], rfl⟩
      · refine g_iload_n dS_isUnder_15 rfl ?_
        refine g_iload_n dS_isUnder_16 rfl ?_
        refine g_icmp_ne dS_isUnder_17 rfl (fun h17 => ?_) (fun h17 => ?_)
        · refine g_iload_n dS_isUnder_22 rfl ?_
          refine gS1 dS_isUnder_23 kS_isUnder_254 cS_kindAbove (Nat.le_of_ble_eq_true rfl) ?_
          refine g_istore_n dS_isUnder_26 (by decide) rfl rfl ?_
          dsimp only [List.set]
          refine g_iinc (v := nI (7 - m)) dS_isUnder_27 rfl (by rw [show 7 - m = 7 - (m + 1) + 1 by omega, nI_succ]; rfl) (by decide) rfl rfl ?_
          dsimp only [List.set]
          refine g_goto dS_isUnder_30 rfl ?_
          refine g_mono (fun r w2 h => ?_) (ih (aboveK k) (by omega))
          obtain ⟨rfl, rfl⟩ := h
          exact ⟨by simp [undF, h12, h17], rfl⟩
        · refine g_iconst (v := 1) dS_isUnder_20 (by decide) ?_
          refine g_iret dS_isUnder_21 rfl (by first | rfl | exact bI_n) ?_
          exact ⟨by subst h17; simp [undF, h12], rfl⟩

set_option maxRecDepth 4000 in
theorem cS_isUnder {l : Launch} {g : GG} {w : Wd} {k a : Int32} : Res l g S_isUnder [.int k, .int a] w (Is (some (.int (undF k a 7))) w) := by
  refine Res.of (by decide) (by simp [Value.category]) (Nat.le_of_ble_eq_true rfl) rfl ?_
  show Go l g S_isUnder 0 [some (.int k), some (.int a), none, none] [] w _
  refine g_iload_n dS_isUnder_0 rfl ?_
  refine g_istore_n dS_isUnder_1 (by decide) rfl rfl ?_
  dsimp only [List.set]
  refine g_iconst (v := 0) dS_isUnder_2 (by decide) ?_
  refine g_istore_n dS_isUnder_3 (by decide) rfl rfl ?_
  dsimp only [List.set]
  exact lS_isUnder 7 k (by omega)

set_option maxRecDepth 4000 in
theorem cS_as {l : Launch} {g : GG} {w : Wd} {n : Nat} (hn : w 1 6 = nI n) (h8 : n ≤ 8) {s k : Int32} : Res l g S_as [.ref (g.1 0), .int s, .int k] w (IsP (asC n s k w)) := by
  refine Res.of (by decide) (by simp [Value.category]) (Nat.le_of_ble_eq_true rfl) rfl ?_
  show Go l g S_as 0 [some (.ref (g.1 0)), some (.int s), some (.int k), none] [] w _
  refine g_iload_n dS_as_0 rfl ?_
  refine gS1 dS_as_1 kS_as_214 cS_isSpot (Nat.le_of_ble_eq_true rfl) ?_
  refine g_if_eq dS_as_4 rfl (fun h4 => ?_) (fun h4 => ?_)
  · have h4 := bI_0.mp h4
    refine g_aload_n dS_as_14 rfl ?_
    refine g_iconst (v := 0) dS_as_15 (by decide) ?_
    refine gV1 dS_as_16 kS_as_61 rfl rfl (cS_finding (q := 0) (by decide)) (Nat.le_of_ble_eq_true rfl) ?_
    refine g_iret dS_as_19 rfl rfl ?_
    refine IsP_of ?_
    simp only [asC]
    rw [if_neg (by grind)]
  · have h4 := Classical.not_not.mp (fun z => h4 (bI_0.mpr z))
    obtain ⟨j, hj, ej⟩ := nI_of2 (n := 9) (by decide) (Int32.not_lt.mpr h4.1) h4.2
    subst ej
    refine g_iload_n dS_as_7 rfl ?_
    refine gS1 dS_as_8 kS_as_85 cS_isKind (Nat.le_of_ble_eq_true rfl) ?_
    refine g_if_ne dS_as_11 rfl (fun h11 => ?_) (fun h11 => ?_)
    · have h11 := Classical.not_not.mp (fun z => h11 (bI_0.mpr z))
      refine g_aload_n dS_as_20 rfl ?_
      refine g_getR2 (k2 := 19) dS_as_21 fS_26 rfl rfl (by decide) rfl ?_
      refine g_iload_n dS_as_24 rfl ?_
      refine g_ialdN dS_as_25 rfl (by omega) (by decide) ?_
      refine g_istore_n dS_as_26 (by decide) rfl rfl ?_
      dsimp only [List.set]
      refine g_aload_n dS_as_27 rfl ?_
      refine g_getR2 (k2 := 1) dS_as_28 fS_12 rfl rfl (by decide) rfl ?_
      refine g_iload_n dS_as_31 rfl ?_
      refine gV1 dS_as_32 kS_as_100 rfl rfl cH_hasW (Nat.le_of_ble_eq_true rfl) ?_
      refine g_if_ne dS_as_35 rfl (fun h35 => ?_) (fun h35 => ?_)
      · have h35 := Classical.not_not.mp (fun z => h35 (bI_0.mpr z))
        obtain ⟨c, hc, ec⟩ := hasN h35.1 (show w 19 j < nI n from hn ▸ h35.2) (by omega)
        refine g_aload_n dS_as_44 rfl ?_
        refine g_getR2 (k2 := 1) dS_as_45 fS_12 rfl rfl (by decide) rfl ?_
        refine g_getR2 (k2 := 2) dS_as_48 fS_112 rfl rfl (by decide) rfl ?_
        refine g_iload_n dS_as_51 rfl ?_
        refine g_top ec ?_
        refine g_ialdN dS_as_52 rfl (by omega) (by decide) ?_
        refine g_iload_n dS_as_53 rfl ?_
        refine gS2 dS_as_54 kS_as_217 cS_isUnder (Nat.le_of_ble_eq_true rfl) ?_
        refine g_if_ne dS_as_57 rfl (fun h57 => ?_) (fun h57 => ?_)
        · refine g_iload_n dS_as_66 rfl ?_
          refine g_iret dS_as_67 rfl rfl ?_
          exact IsP_of (by rw [asC, if_pos ⟨h4, h11⟩, nI_clamp (by omega), if_pos h35, ec, nI_clamp (by omega), if_neg h57])
        · refine g_aload_n dS_as_60 rfl ?_
          refine g_iconst (v := 2) dS_as_61 (by decide) ?_
          refine gV1 dS_as_62 kS_as_61 rfl rfl (cS_finding (q := 2) (by decide)) (Nat.le_of_ble_eq_true rfl) ?_
          refine g_iret dS_as_65 rfl rfl ?_
          exact IsP_of (by rw [asC, if_pos ⟨h4, h11⟩, nI_clamp (by omega), if_pos h35, ec, nI_clamp (by omega), if_pos h57])
      · have h35 := bI_0.mp h35
        refine g_aload_n dS_as_38 rfl ?_
        refine g_iconst (v := 5) dS_as_39 (by decide) ?_
        refine gV1 dS_as_40 kS_as_61 rfl rfl (cS_finding (q := 5) (by decide)) (Nat.le_of_ble_eq_true rfl) ?_
        refine g_iret dS_as_43 rfl rfl ?_
        exact IsP_of (by rw [asC, if_pos ⟨h4, h11⟩, nI_clamp (by omega), if_neg h35])
    · have h11 := bI_0.mp h11
      refine g_aload_n dS_as_14 rfl ?_
      refine g_iconst (v := 0) dS_as_15 (by decide) ?_
      refine gV1 dS_as_16 kS_as_61 rfl rfl (cS_finding (q := 0) (by decide)) (Nat.le_of_ble_eq_true rfl) ?_
      refine g_iret dS_as_19 rfl rfl ?_
      refine IsP_of ?_
      simp only [asC]
      rw [if_neg (by grind)]

theorem cp10 {w1 : Wd} {a b : Nat} (hb : arrN b = some 10) {k j : Nat} (hv : vis k j) : upR w1 b (w1 a) k j = upR w1 b (va_cpy (w1 a) (w1 b) 0 0 10) k j := by
  by_cases hk : k = b
  · subst hk
    rw [upR_same, upR_same, pk_cpy_in (Nat.zero_le _) (by have := vis_arr hb hv; omega)]
    simp
  · rw [upR_other _ _ _ hk, upR_other _ _ _ hk]

set_option maxRecDepth 4000 in
theorem cS_image {l : Launch} {g : GG} {w : Wd}  : Res l g S_image [.ref (g.1 0)] w (IsP (imageC w)) := by
  refine Res.of (by decide) (by simp [Value.category]) (Nat.le_of_ble_eq_true rfl) rfl ?_
  show Go l g S_image 0 [some (.ref (g.1 0))] [] w _
  refine g_aload_n dS_image_0 rfl ?_
  refine g_getR2 (k2 := 13) dS_image_1 fS_19 rfl rfl (by decide) rfl ?_
  refine g_aload_n dS_image_4 rfl ?_
  refine g_getR2 (k2 := 1) dS_image_5 fS_12 rfl rfl (by decide) rfl ?_
  refine gV1v dS_image_8 kS_image_151 rfl rfl (cH_become isH13 isH1 (by decide)) (Nat.le_of_ble_eq_true rfl) ?_
  refine g_aload_n dS_image_11 rfl ?_
  refine g_getR2 (k2 := 19) dS_image_12 fS_26 rfl rfl (by decide) rfl ?_
  refine g_iconst (v := 0) dS_image_15 (by decide) ?_
  refine g_aload_n dS_image_16 rfl ?_
  refine g_getR2 (k2 := 20) dS_image_17 fS_30 rfl rfl (by decide) rfl ?_
  refine g_iconst (v := 0) dS_image_20 (by decide) ?_
  refine g_bipush (v := 10) dS_image_21 (by decide) ?_
  refine g_acopy (sp := 0) (dp := 0) (len := 10) (k0 := 19) (k1 := 20) dS_image_23 lS_237 ac_nat ac_st ini_sys rfl rfl (by decide) (by decide) (by decide) (by decide) (by decide) (Nat.le_of_ble_eq_true rfl) ?_
  refine g_agree (w1 := upR (hput 13 (hget w 1) w) 20 (hput 13 (hget w 1) w 19)) (fun k j hv => cp10 rfl hv) ?_
  rw [hput_out (h := 13) (k := 19) _ w (by decide)]
  refine g_aload_n dS_image_26 rfl ?_
  refine g_aload_n dS_image_27 rfl ?_
  refine g_getI dS_image_28 fS_33 rfl rfl ?_
  refine g_putI dS_image_31 fS_37 rfl rfl rfl rfl ?_
  refine g_aload_n dS_image_34 rfl ?_
  refine g_iconst (v := 1) dS_image_35 (by decide) ?_
  refine g_putI dS_image_36 fS_22 rfl rfl rfl rfl ?_
  refine g_iconst (v := 1) dS_image_39 (by decide) ?_
  refine g_iret dS_image_40 rfl rfl ?_
  exact ⟨rfl, rfl⟩

set_option maxRecDepth 4000 in
theorem cS_undo {l : Launch} {g : GG} {w : Wd}  : Res l g S_undo [.ref (g.1 0)] w (IsP (undoC w)) := by
  refine Res.of (by decide) (by simp [Value.category]) (Nat.le_of_ble_eq_true rfl) rfl ?_
  show Go l g S_undo 0 [some (.ref (g.1 0))] [] w _
  refine g_aload_n dS_undo_0 rfl ?_
  refine g_getI dS_undo_1 fS_22 rfl rfl ?_
  refine g_if_ne dS_undo_4 rfl (fun h4 => ?_) (fun h4 => ?_)
  · refine g_aload_n dS_undo_13 rfl ?_
    refine g_getR2 (k2 := 1) dS_undo_14 fS_12 rfl rfl (by decide) rfl ?_
    refine g_aload_n dS_undo_17 rfl ?_
    refine g_getR2 (k2 := 13) dS_undo_18 fS_19 rfl rfl (by decide) rfl ?_
    refine gV1v dS_undo_21 kS_undo_151 rfl rfl (cH_become isH1 isH13 (by decide)) (Nat.le_of_ble_eq_true rfl) ?_
    refine g_aload_n dS_undo_24 rfl ?_
    refine g_getR2 (k2 := 20) dS_undo_25 fS_30 rfl rfl (by decide) rfl ?_
    refine g_iconst (v := 0) dS_undo_28 (by decide) ?_
    refine g_aload_n dS_undo_29 rfl ?_
    refine g_getR2 (k2 := 19) dS_undo_30 fS_26 rfl rfl (by decide) rfl ?_
    refine g_iconst (v := 0) dS_undo_33 (by decide) ?_
    refine g_bipush (v := 10) dS_undo_34 (by decide) ?_
    refine g_acopy (sp := 0) (dp := 0) (len := 10) (k0 := 20) (k1 := 19) dS_undo_36 lS_237 ac_nat ac_st ini_sys rfl rfl (by decide) (by decide) (by decide) (by decide) (by decide) (Nat.le_of_ble_eq_true rfl) ?_
    refine g_agree (w1 := upR (hput 1 (hget w 13) w) 19 (hput 1 (hget w 13) w 20)) (fun k j hv => cp10 rfl hv) ?_
    rw [hput_out (h := 1) (k := 20) _ w (by decide)]
    refine g_aload_n dS_undo_39 rfl ?_
    refine g_aload_n dS_undo_40 rfl ?_
    refine g_getI dS_undo_41 fS_37 rfl rfl ?_
    refine g_putI dS_undo_44 fS_33 rfl rfl rfl rfl ?_
    refine g_aload_n dS_undo_47 rfl ?_
    refine g_getR2 (k2 := 1) dS_undo_48 fS_12 rfl rfl (by decide) rfl ?_
    refine g_getI dS_undo_51 fS_130 rfl rfl ?_
    refine g_iret dS_undo_54 rfl rfl ?_
    exact IsP_of (by rw [undoC, if_neg h4]; rfl)
  · refine g_aload_n dS_undo_7 rfl ?_
    refine g_iconst (v := 3) dS_undo_8 (by decide) ?_
    refine gV1 dS_undo_9 kS_undo_61 rfl rfl (cS_finding (q := 3) (by decide)) (Nat.le_of_ble_eq_true rfl) ?_
    refine g_iret dS_undo_12 rfl rfl ?_
    exact IsP_of (if_pos h4)

set_option maxRecDepth 4000 in
theorem cS_draw {l : Launch} {g : GG} {w : Wd} : Res l g S_draw [.ref (g.1 0)] w (Is (some (.int (drawV (w 0 6)))) (up w 0 6 (drawZ (w 0 6)))) := by
  refine Res.of (by decide) (by simp [Value.category]) (Nat.le_of_ble_eq_true rfl) rfl ?_
  show Go l g S_draw 0 [some (.ref (g.1 0))] [] w _
  refine g_aload_n dS_draw_0 rfl ?_
  refine g_aload_n dS_draw_1 rfl ?_
  refine g_getI dS_draw_2 fS_33 rfl rfl ?_
  refine g_ldc dS_draw_5 fS_253 ?_
  refine g_imul dS_draw_7 ?_
  refine g_sipush (v := 12345) dS_draw_8 (by decide) ?_
  refine g_iadd dS_draw_11 ?_
  refine g_putI dS_draw_12 fS_33 rfl rfl rfl rfl ?_
  refine g_aload_n dS_draw_15 rfl ?_
  refine g_getI dS_draw_16 fS_33 rfl rfl ?_
  refine g_bipush (v := 8) dS_draw_19 (by decide) ?_
  refine g_iushr dS_draw_21 ?_
  refine g_iret dS_draw_22 rfl rfl ?_
  exact ⟨rfl, rfl⟩

set_option maxRecDepth 4000 in
theorem cS_ahead {l : Launch} {g : GG} {w : Wd} {n : Nat} (hn : w 1 6 = nI n) (h8 : n ≤ 8) {s x k : Int32} : Res l g S_ahead [.ref (g.1 0), .int s, .int x, .int k] w (IsT (aheadC n s x k w)) := by
  refine Res.of (by decide) (by simp [Value.category]) (Nat.le_of_ble_eq_true rfl) rfl ?_
  show Go l g S_ahead 0 [some (.ref (g.1 0)), some (.int s), some (.int x), some (.int k)] [] w _
  refine g_aload_n dS_ahead_0 rfl ?_
  refine g_getR2 (k2 := 1) dS_ahead_1 fS_12 rfl rfl (by decide) rfl ?_
  refine g_iload_n dS_ahead_4 rfl ?_
  refine gV1 dS_ahead_5 kS_ahead_100 rfl rfl cH_hasW (Nat.le_of_ble_eq_true rfl) ?_
  refine g_if_eq dS_ahead_8 rfl (fun h8_ => ?_) (fun h8_ => ?_)
  · have h8_ := bI_0.mp h8_
    refine g_aload_n dS_ahead_30 rfl ?_
    refine g_iconst (v := 0) dS_ahead_31 (by decide) ?_
    refine gV1 dS_ahead_32 kS_ahead_61 rfl rfl (cS_finding (q := 0) (by decide)) (Nat.le_of_ble_eq_true rfl) ?_
    refine g_iret dS_ahead_35 rfl rfl ?_
    refine IsT_of ?_
    rw [aheadC, if_neg (by grind)]
  · have h8_ := Classical.not_not.mp (fun z => h8_ (bI_0.mpr z))
    obtain ⟨j, hj, ej⟩ := hasN h8_.1 (show s < nI n from hn ▸ h8_.2) (by omega)
    subst ej
    refine g_iload_n dS_ahead_11 rfl ?_
    refine g_iconst (v := 1) dS_ahead_12 (by decide) ?_
    refine g_iconst (v := 4) dS_ahead_13 (by decide) ?_
    refine gS3 dS_ahead_14 kS_ahead_81 cS_isWithin (Nat.le_of_ble_eq_true rfl) ?_
    refine g_if_eq dS_ahead_17 rfl (fun h17 => ?_) (fun h17 => ?_)
    · have h17 := bI_0.mp h17
      refine g_aload_n dS_ahead_30 rfl ?_
      refine g_iconst (v := 0) dS_ahead_31 (by decide) ?_
      refine gV1 dS_ahead_32 kS_ahead_61 rfl rfl (cS_finding (q := 0) (by decide)) (Nat.le_of_ble_eq_true rfl) ?_
      refine g_iret dS_ahead_35 rfl rfl ?_
      refine IsT_of ?_
      rw [aheadC, if_neg (by grind)]
    · have h17 := Classical.not_not.mp (fun z => h17 (bI_0.mpr z))
      refine g_iload_n dS_ahead_20 rfl ?_
      refine g_iconst (v := 0) dS_ahead_21 (by decide) ?_
      refine g_bipush (v := 100) dS_ahead_22 (by decide) ?_
      refine gS3 dS_ahead_24 kS_ahead_81 cS_isWithin (Nat.le_of_ble_eq_true rfl) ?_
      refine g_if_ne dS_ahead_27 rfl (fun h27 => ?_) (fun h27 => ?_)
      · have h27 := Classical.not_not.mp (fun z => h27 (bI_0.mpr z))
        obtain ⟨kk, hkk, ekk⟩ := nI_of2 (n := 100) (by decide) (Int32.not_lt.mpr h27.1) h27.2
        subst ekk
        refine g_aload_n dS_ahead_36 rfl ?_
        refine g_getR2 (k2 := 7) dS_ahead_37 fS_16 rfl rfl (by decide) rfl ?_
        refine g_aload_n dS_ahead_40 rfl ?_
        refine g_getR2 (k2 := 1) dS_ahead_41 fS_12 rfl rfl (by decide) rfl ?_
        refine gV1v dS_ahead_44 kS_ahead_151 rfl rfl (cH_become isH7 isH1 (by decide)) (Nat.le_of_ble_eq_true rfl) ?_
        refine g_aload_n dS_ahead_47 rfl ?_
        refine g_getR2 (k2 := 7) dS_ahead_48 fS_16 rfl rfl (by decide) rfl ?_
        refine g_iload_n dS_ahead_51 rfl ?_
        refine gV1v dS_ahead_52 kS_ahead_134 rfl rfl (cH_passHours isH7 hn h8 (k := kk) (by omega)) (Nat.le_of_ble_eq_true rfl) ?_
        refine g_aload_n dS_ahead_55 rfl ?_
        refine g_getR2 (k2 := 7) dS_ahead_56 fS_16 rfl rfl (by decide) rfl ?_
        refine g_iload_n dS_ahead_59 rfl ?_
        refine g_iload_n dS_ahead_60 rfl ?_
        refine gV2 dS_ahead_61 kS_ahead_103 rfl rfl (cH_trait isH7 (n := n) (by rw [hoursF_6]; exact hn) h8 (j := j) (by omega)) (Nat.le_of_ble_eq_true rfl) ?_
        refine g_iret dS_ahead_64 rfl rfl ?_
        exact IsT_B (by rw [aheadC, if_pos ⟨h8_, h17, h27⟩, nI_clamp (by omega), nI_clamp (by omega)])
      · have h27 := bI_0.mp h27
        refine g_aload_n dS_ahead_30 rfl ?_
        refine g_iconst (v := 0) dS_ahead_31 (by decide) ?_
        refine gV1 dS_ahead_32 kS_ahead_61 rfl rfl (cS_finding (q := 0) (by decide)) (Nat.le_of_ble_eq_true rfl) ?_
        refine g_iret dS_ahead_35 rfl rfl ?_
        refine IsT_of ?_
        rw [aheadC, if_neg (by grind)]

set_option maxRecDepth 4000 in
theorem cS_later {l : Launch} {g : GG} {w : Wd} {n : Nat} (hn : w 1 6 = nI n) (h8 : n ≤ 8) {x k : Int32} : Res l g S_later [.ref (g.1 0), .int x, .int k] w (IsT (laterC n x k w)) := by
  refine Res.of (by decide) (by simp [Value.category]) (Nat.le_of_ble_eq_true rfl) rfl ?_
  show Go l g S_later 0 [some (.ref (g.1 0)), some (.int x), some (.int k)] [] w _
  refine g_iload_n dS_later_0 rfl ?_
  refine g_iconst (v := 1) dS_later_1 (by decide) ?_
  refine g_icmp_eq dS_later_2 rfl (fun h2 => ?_) (fun h2 => ?_)
  · refine g_iload_n dS_later_15 rfl ?_
    refine g_iconst (v := 0) dS_later_16 (by decide) ?_
    refine g_bipush (v := 100) dS_later_17 (by decide) ?_
    refine gS3 dS_later_19 kS_later_81 cS_isWithin (Nat.le_of_ble_eq_true rfl) ?_
    refine g_if_ne dS_later_22 rfl (fun h22 => ?_) (fun h22 => ?_)
    · have h22 := Classical.not_not.mp (fun z => h22 (bI_0.mpr z))
      obtain ⟨kk, hkk, ekk⟩ := nI_of2 (n := 100) (by decide) (Int32.not_lt.mpr h22.1) h22.2
      subst ekk
      refine g_aload_n dS_later_31 rfl ?_
      refine g_getR2 (k2 := 7) dS_later_32 fS_16 rfl rfl (by decide) rfl ?_
      refine g_aload_n dS_later_35 rfl ?_
      refine g_getR2 (k2 := 1) dS_later_36 fS_12 rfl rfl (by decide) rfl ?_
      refine gV1v dS_later_39 kS_later_151 rfl rfl (cH_become isH7 isH1 (by decide)) (Nat.le_of_ble_eq_true rfl) ?_
      refine g_aload_n dS_later_42 rfl ?_
      refine g_getR2 (k2 := 7) dS_later_43 fS_16 rfl rfl (by decide) rfl ?_
      refine g_iload_n dS_later_46 rfl ?_
      refine gV1v dS_later_47 kS_later_134 rfl rfl (cH_passHours isH7 hn h8 (k := kk) (by omega)) (Nat.le_of_ble_eq_true rfl) ?_
      refine g_aload_n dS_later_50 rfl ?_
      refine g_getR2 (k2 := 7) dS_later_51 fS_16 rfl rfl (by decide) rfl ?_
      refine g_iload_n dS_later_54 rfl ?_
      refine gV1 dS_later_55 kS_later_65 rfl rfl (cH_feature isH7) (Nat.le_of_ble_eq_true rfl) ?_
      refine g_iret dS_later_58 rfl rfl ?_
      exact IsT_B (by rw [laterC, if_pos (by grind), nI_clamp (by omega)]; rfl)
    · have h22 := bI_0.mp h22
      refine g_aload_n dS_later_25 rfl ?_
      refine g_iconst (v := 0) dS_later_26 (by decide) ?_
      refine gV1 dS_later_27 kS_later_61 rfl rfl (cS_finding (q := 0) (by decide)) (Nat.le_of_ble_eq_true rfl) ?_
      refine g_iret dS_later_30 rfl rfl ?_
      refine IsT_of ?_
      rw [laterC, if_neg (by grind)]
  · refine g_iload_n dS_later_5 rfl ?_
    refine g_iconst (v := 2) dS_later_6 (by decide) ?_
    refine g_icmp_eq dS_later_7 rfl (fun h7 => ?_) (fun h7 => ?_)
    · refine g_iload_n dS_later_15 rfl ?_
      refine g_iconst (v := 0) dS_later_16 (by decide) ?_
      refine g_bipush (v := 100) dS_later_17 (by decide) ?_
      refine gS3 dS_later_19 kS_later_81 cS_isWithin (Nat.le_of_ble_eq_true rfl) ?_
      refine g_if_ne dS_later_22 rfl (fun h22 => ?_) (fun h22 => ?_)
      · have h22 := Classical.not_not.mp (fun z => h22 (bI_0.mpr z))
        obtain ⟨kk, hkk, ekk⟩ := nI_of2 (n := 100) (by decide) (Int32.not_lt.mpr h22.1) h22.2
        subst ekk
        refine g_aload_n dS_later_31 rfl ?_
        refine g_getR2 (k2 := 7) dS_later_32 fS_16 rfl rfl (by decide) rfl ?_
        refine g_aload_n dS_later_35 rfl ?_
        refine g_getR2 (k2 := 1) dS_later_36 fS_12 rfl rfl (by decide) rfl ?_
        refine gV1v dS_later_39 kS_later_151 rfl rfl (cH_become isH7 isH1 (by decide)) (Nat.le_of_ble_eq_true rfl) ?_
        refine g_aload_n dS_later_42 rfl ?_
        refine g_getR2 (k2 := 7) dS_later_43 fS_16 rfl rfl (by decide) rfl ?_
        refine g_iload_n dS_later_46 rfl ?_
        refine gV1v dS_later_47 kS_later_134 rfl rfl (cH_passHours isH7 hn h8 (k := kk) (by omega)) (Nat.le_of_ble_eq_true rfl) ?_
        refine g_aload_n dS_later_50 rfl ?_
        refine g_getR2 (k2 := 7) dS_later_51 fS_16 rfl rfl (by decide) rfl ?_
        refine g_iload_n dS_later_54 rfl ?_
        refine gV1 dS_later_55 kS_later_65 rfl rfl (cH_feature isH7) (Nat.le_of_ble_eq_true rfl) ?_
        refine g_iret dS_later_58 rfl rfl ?_
        exact IsT_B (by rw [laterC, if_pos (by grind), nI_clamp (by omega)]; rfl)
      · have h22 := bI_0.mp h22
        refine g_aload_n dS_later_25 rfl ?_
        refine g_iconst (v := 0) dS_later_26 (by decide) ?_
        refine gV1 dS_later_27 kS_later_61 rfl rfl (cS_finding (q := 0) (by decide)) (Nat.le_of_ble_eq_true rfl) ?_
        refine g_iret dS_later_30 rfl rfl ?_
        refine IsT_of ?_
        rw [laterC, if_neg (by grind)]
    · refine g_iload_n dS_later_10 rfl ?_
      refine g_iconst (v := 4) dS_later_11 (by decide) ?_
      refine g_icmp_ne dS_later_12 rfl (fun h12 => ?_) (fun h12 => ?_)
      · refine g_aload_n dS_later_25 rfl ?_
        refine g_iconst (v := 0) dS_later_26 (by decide) ?_
        refine gV1 dS_later_27 kS_later_61 rfl rfl (cS_finding (q := 0) (by decide)) (Nat.le_of_ble_eq_true rfl) ?_
        refine g_iret dS_later_30 rfl rfl ?_
        refine IsT_of ?_
        rw [laterC, if_neg (by grind)]
      · refine g_iload_n dS_later_15 rfl ?_
        refine g_iconst (v := 0) dS_later_16 (by decide) ?_
        refine g_bipush (v := 100) dS_later_17 (by decide) ?_
        refine gS3 dS_later_19 kS_later_81 cS_isWithin (Nat.le_of_ble_eq_true rfl) ?_
        refine g_if_ne dS_later_22 rfl (fun h22 => ?_) (fun h22 => ?_)
        · have h22 := Classical.not_not.mp (fun z => h22 (bI_0.mpr z))
          obtain ⟨kk, hkk, ekk⟩ := nI_of2 (n := 100) (by decide) (Int32.not_lt.mpr h22.1) h22.2
          subst ekk
          refine g_aload_n dS_later_31 rfl ?_
          refine g_getR2 (k2 := 7) dS_later_32 fS_16 rfl rfl (by decide) rfl ?_
          refine g_aload_n dS_later_35 rfl ?_
          refine g_getR2 (k2 := 1) dS_later_36 fS_12 rfl rfl (by decide) rfl ?_
          refine gV1v dS_later_39 kS_later_151 rfl rfl (cH_become isH7 isH1 (by decide)) (Nat.le_of_ble_eq_true rfl) ?_
          refine g_aload_n dS_later_42 rfl ?_
          refine g_getR2 (k2 := 7) dS_later_43 fS_16 rfl rfl (by decide) rfl ?_
          refine g_iload_n dS_later_46 rfl ?_
          refine gV1v dS_later_47 kS_later_134 rfl rfl (cH_passHours isH7 hn h8 (k := kk) (by omega)) (Nat.le_of_ble_eq_true rfl) ?_
          refine g_aload_n dS_later_50 rfl ?_
          refine g_getR2 (k2 := 7) dS_later_51 fS_16 rfl rfl (by decide) rfl ?_
          refine g_iload_n dS_later_54 rfl ?_
          refine gV1 dS_later_55 kS_later_65 rfl rfl (cH_feature isH7) (Nat.le_of_ble_eq_true rfl) ?_
          refine g_iret dS_later_58 rfl rfl ?_
          exact IsT_B (by rw [laterC, if_pos (by grind), nI_clamp (by omega)]; rfl)
        · have h22 := bI_0.mp h22
          refine g_aload_n dS_later_25 rfl ?_
          refine g_iconst (v := 0) dS_later_26 (by decide) ?_
          refine gV1 dS_later_27 kS_later_61 rfl rfl (cS_finding (q := 0) (by decide)) (Nat.le_of_ble_eq_true rfl) ?_
          refine g_iret dS_later_30 rfl rfl ?_
          refine IsT_of ?_
          rw [laterC, if_neg (by grind)]

theorem hput_fld {A : HA} {w : Wd} {h c : Nat} (hc : c < 5) : hput h A w (h + (c + 1)) = fld A c := by
  have : c = 0 ∨ c = 1 ∨ c = 2 ∨ c = 3 ∨ c = 4 := by omega
  rcases this with rfl | rfl | rfl | rfl | rfl
  · exact hput_K h A w
  · exact hput_C h A w
  · exact hput_F h A w
  · exact hput_L h A w
  · exact hput_O h A w

set_option maxRecDepth 4000 in
theorem lS_first {l : Launch} {g : GG} {w : Wd} {n : Nat} (hn : w 1 6 = nI n) (h8 : n ≤ 8) {c j : Nat} (hc : c < 5) (hj : j < 8) {v : Int32} : ∀ (m : Nat) (i : Nat), 201 - i < m → i ≤ 201 → Go l g S_firstHourOfAtLeast 14 [some (.ref (g.1 0)), some (.ref (g.1 (7 + (c + 1)))), some (.int (nI j)), some (.int v), some (.int (nI i))] [] (hput 7 (hoursF 0 n i (hget w 1)) w) (IsT (orN (firstF (whenP n (hget w 1) c j v) i (201 - i)) w)) := by
  intro m
  induction m with
  | zero => intro i hm hi; omega
  | succ m ih =>
    intro i hm hi
    refine g_iload dS_firstHourOfAtLeast_14 rfl ?_
    refine g_sipush (v := 200) dS_firstHourOfAtLeast_16 (by decide) ?_
    refine g_icmp_gt dS_firstHourOfAtLeast_19 rfl (fun h19 => ?_) (fun h19 => ?_)
    · rw [show (200 : Int32) = nI 200 from rfl, nI_ltI (by omega) (by omega)] at h19
      refine g_aload_n dS_firstHourOfAtLeast_46 rfl ?_
      refine g_iconst (v := 3) dS_firstHourOfAtLeast_47 (by decide) ?_
      refine gV1 dS_firstHourOfAtLeast_48 kS_firstHourOfAtLeast_61 rfl rfl (cS_finding (q := 3) (by decide)) (Nat.le_of_ble_eq_true rfl) ?_
      refine g_iret dS_firstHourOfAtLeast_51 rfl rfl ?_
      refine IsT_F ?_
      rw [show 201 - i = 0 by omega]
      rfl
    · rw [show (200 : Int32) = nI 200 from rfl, nI_ltI (by omega) (by omega)] at h19
      refine g_aload_n dS_firstHourOfAtLeast_22 rfl ?_
      refine g_iload_n dS_firstHourOfAtLeast_23 rfl ?_
      refine g_ialdN dS_firstHourOfAtLeast_24 (isH7.a (by omega) (by omega)) (by omega) (by decide) ?_
      rw [hput_fld hc]
      refine g_iload_n dS_firstHourOfAtLeast_25 rfl ?_
      refine g_icmp_lt dS_firstHourOfAtLeast_26 rfl (fun h26 => ?_) (fun h26 => ?_)
      · have hne : ¬ whenP n (hget w 1) c j v i := fun z => absurd h26 (Int32.not_lt.mpr z)
        refine g_aload_n dS_firstHourOfAtLeast_32 rfl ?_
        refine g_getR2 (k2 := 7) dS_firstHourOfAtLeast_33 fS_16 rfl rfl (by decide) rfl ?_
        refine g_iconst (v := 0) dS_firstHourOfAtLeast_36 (by decide) ?_
        refine gV1v dS_firstHourOfAtLeast_37 kS_firstHourOfAtLeast_162 rfl rfl (cH_passHour isH7 (n := n) (by rw [hoursF_6]; exact hn) h8) (Nat.le_of_ble_eq_true rfl) ?_
        refine g_iinc (v := nI (i + 1)) dS_firstHourOfAtLeast_40 rfl (nI_succ i).symm (by decide) rfl rfl ?_
        dsimp only [List.set]
        refine g_goto dS_firstHourOfAtLeast_43 rfl ?_
        refine g_mono (fun r w2 h => ?_) (ih (i + 1) (by omega) (by omega))
        rw [show 201 - i = (201 - (i + 1)) + 1 by omega, firstF, if_neg hne]
        exact h
      · have hye : whenP n (hget w 1) c j v i := Int32.not_lt.mp h26
        refine g_iload dS_firstHourOfAtLeast_29 rfl ?_
        refine g_iret dS_firstHourOfAtLeast_31 rfl rfl ?_
        refine IsT_B ?_
        rw [show 201 - i = (200 - i) + 1 by omega, firstF, if_pos hye, orN, if_neg (fun z => absurd (nI_pos' (show i < 2 ^ 31 by omega)) (by rw [z]; decide))]

set_option maxRecDepth 4000 in
theorem cS_first {l : Launch} {g : GG} {w : Wd} {n : Nat} (hn : w 1 6 = nI n) (h8 : n ≤ 8) {c j : Nat} (hc : c < 5) (hj : j < 8) {v : Int32} : Res l g S_firstHourOfAtLeast [.ref (g.1 0), .ref (g.1 (7 + (c + 1))), .int (nI j), .int v] w (IsT (orN (firstF (whenP n (hget w 1) c j v) 0 201) w)) := by
  refine Res.of (by decide) (by simp [Value.category]) (Nat.le_of_ble_eq_true rfl) rfl ?_
  show Go l g S_firstHourOfAtLeast 0 [some (.ref (g.1 0)), some (.ref (g.1 (7 + (c + 1)))), some (.int (nI j)), some (.int v), none] [] w _
  refine g_aload_n dS_firstHourOfAtLeast_0 rfl ?_
  refine g_getR2 (k2 := 7) dS_firstHourOfAtLeast_1 fS_16 rfl rfl (by decide) rfl ?_
  refine g_aload_n dS_firstHourOfAtLeast_4 rfl ?_
  refine g_getR2 (k2 := 1) dS_firstHourOfAtLeast_5 fS_12 rfl rfl (by decide) rfl ?_
  refine gV1v dS_firstHourOfAtLeast_8 kS_firstHourOfAtLeast_151 rfl rfl (cH_become isH7 isH1 (by decide)) (Nat.le_of_ble_eq_true rfl) ?_
  refine g_iconst (v := 0) dS_firstHourOfAtLeast_11 (by decide) ?_
  refine g_istore dS_firstHourOfAtLeast_12 (by decide) rfl rfl ?_
  dsimp only [List.set]
  exact lS_first hn h8 hc hj 202 0 (by omega) (by omega)

set_option maxRecDepth 4000 in
theorem cS_when {l : Launch} {g : GG} {w : Wd} {n : Nat} (hn : w 1 6 = nI n) (h8 : n ≤ 8) {s v : Int32} : Res l g S_when [.ref (g.1 0), .int s, .int v] w (IsT (whenC n s v w)) := by
  refine Res.of (by decide) (by simp [Value.category]) (Nat.le_of_ble_eq_true rfl) rfl ?_
  show Go l g S_when 0 [some (.ref (g.1 0)), some (.int s), some (.int v)] [] w _
  refine g_aload_n dS_when_0 rfl ?_
  refine g_getR2 (k2 := 1) dS_when_1 fS_12 rfl rfl (by decide) rfl ?_
  refine g_iload_n dS_when_4 rfl ?_
  refine gV1 dS_when_5 kS_when_100 rfl rfl cH_hasW (Nat.le_of_ble_eq_true rfl) ?_
  refine g_if_eq dS_when_8 rfl (fun h8_ => ?_) (fun h8_ => ?_)
  · have h8_ := bI_0.mp h8_
    refine g_aload_n dS_when_22 rfl ?_
    refine g_iconst (v := 0) dS_when_23 (by decide) ?_
    refine gV1 dS_when_24 kS_when_61 rfl rfl (cS_finding (q := 0) (by decide)) (Nat.le_of_ble_eq_true rfl) ?_
    refine g_iret dS_when_27 rfl rfl ?_
    refine IsT_of ?_
    rw [whenC, if_neg (by grind)]
  · have h8_ := Classical.not_not.mp (fun z => h8_ (bI_0.mpr z))
    obtain ⟨j, hj, ej⟩ := hasN h8_.1 (show s < nI n from hn ▸ h8_.2) (by omega)
    subst ej
    refine g_iload_n dS_when_11 rfl ?_
    refine g_iconst (v := 0) dS_when_12 (by decide) ?_
    refine g_sipush (v := 9999) dS_when_13 (by decide) ?_
    refine gS3 dS_when_16 kS_when_81 cS_isWithin (Nat.le_of_ble_eq_true rfl) ?_
    refine g_if_ne dS_when_19 rfl (fun h19 => ?_) (fun h19 => ?_)
    · have h19 := Classical.not_not.mp (fun z => h19 (bI_0.mpr z))
      refine g_aload_n dS_when_28 rfl ?_
      refine g_aload_n dS_when_29 rfl ?_
      refine g_getR2 (k2 := 7) dS_when_30 fS_16 rfl rfl (by decide) rfl ?_
      refine g_getR2 (k2 := 12) dS_when_33 fS_124 rfl rfl (by decide) rfl ?_
      refine g_iload_n dS_when_36 rfl ?_
      refine g_iload_n dS_when_37 rfl ?_
      refine gV3q dS_when_38 kS_when_155 rfl rfl (cS_first hn h8 (c := 4) (j := j) (by decide) (by omega)) (Nat.le_of_ble_eq_true rfl) (fun r1 w1 q1 => ?_)
      obtain ⟨rfl, B, rfl⟩ := q1
      refine g_iret dS_when_41 rfl rfl ?_
      exact ⟨by rw [whenC, if_pos (by grind), nI_clamp (by omega)], B, by rw [whenC, if_pos (by grind), nI_clamp (by omega)]⟩
    · have h19 := bI_0.mp h19
      refine g_aload_n dS_when_22 rfl ?_
      refine g_iconst (v := 0) dS_when_23 (by decide) ?_
      refine gV1 dS_when_24 kS_when_61 rfl rfl (cS_finding (q := 0) (by decide)) (Nat.le_of_ble_eq_true rfl) ?_
      refine g_iret dS_when_27 rfl rfl ?_
      refine IsT_of ?_
      rw [whenC, if_neg (by grind)]

set_option maxRecDepth 4000 in
theorem cS_panic {l : Launch} {g : GG} {w : Wd} {n : Nat} (hn : w 1 6 = nI n) (h8 : n ≤ 8) {s v : Int32} : Res l g S_panic [.ref (g.1 0), .int s, .int v] w (IsT (panicC n s v w)) := by
  refine Res.of (by decide) (by simp [Value.category]) (Nat.le_of_ble_eq_true rfl) rfl ?_
  show Go l g S_panic 0 [some (.ref (g.1 0)), some (.int s), some (.int v)] [] w _
  refine g_aload_n dS_panic_0 rfl ?_
  refine g_getR2 (k2 := 1) dS_panic_1 fS_12 rfl rfl (by decide) rfl ?_
  refine g_iload_n dS_panic_4 rfl ?_
  refine gV1 dS_panic_5 kS_panic_100 rfl rfl cH_hasW (Nat.le_of_ble_eq_true rfl) ?_
  refine g_if_eq dS_panic_8 rfl (fun h8_ => ?_) (fun h8_ => ?_)
  · have h8_ := bI_0.mp h8_
    refine g_aload_n dS_panic_21 rfl ?_
    refine g_iconst (v := 0) dS_panic_22 (by decide) ?_
    refine gV1 dS_panic_23 kS_panic_61 rfl rfl (cS_finding (q := 0) (by decide)) (Nat.le_of_ble_eq_true rfl) ?_
    refine g_iret dS_panic_26 rfl rfl ?_
    refine IsT_of ?_
    rw [panicC, if_neg (by grind)]
  · have h8_ := Classical.not_not.mp (fun z => h8_ (bI_0.mpr z))
    obtain ⟨j, hj, ej⟩ := hasN h8_.1 (show s < nI n from hn ▸ h8_.2) (by omega)
    subst ej
    refine g_iload_n dS_panic_11 rfl ?_
    refine g_iconst (v := 0) dS_panic_12 (by decide) ?_
    refine g_bipush (v := 99) dS_panic_13 (by decide) ?_
    refine gS3 dS_panic_15 kS_panic_81 cS_isWithin (Nat.le_of_ble_eq_true rfl) ?_
    refine g_if_ne dS_panic_18 rfl (fun h18 => ?_) (fun h18 => ?_)
    · have h18 := Classical.not_not.mp (fun z => h18 (bI_0.mpr z))
      refine g_aload_n dS_panic_27 rfl ?_
      refine g_aload_n dS_panic_28 rfl ?_
      refine g_getR2 (k2 := 7) dS_panic_29 fS_16 rfl rfl (by decide) rfl ?_
      refine g_getR2 (k2 := 10) dS_panic_32 fS_118 rfl rfl (by decide) rfl ?_
      refine g_iload_n dS_panic_35 rfl ?_
      refine g_iload_n dS_panic_36 rfl ?_
      refine gV3q dS_panic_37 kS_panic_155 rfl rfl (cS_first hn h8 (c := 2) (j := j) (by decide) (by omega)) (Nat.le_of_ble_eq_true rfl) (fun r1 w1 q1 => ?_)
      obtain ⟨rfl, B, rfl⟩ := q1
      refine g_iret dS_panic_40 rfl rfl ?_
      exact ⟨by rw [panicC, if_pos (by grind), nI_clamp (by omega)], B, by rw [panicC, if_pos (by grind), nI_clamp (by omega)]⟩
    · have h18 := bI_0.mp h18
      refine g_aload_n dS_panic_21 rfl ?_
      refine g_iconst (v := 0) dS_panic_22 (by decide) ?_
      refine gV1 dS_panic_23 kS_panic_61 rfl rfl (cS_finding (q := 0) (by decide)) (Nat.le_of_ble_eq_true rfl) ?_
      refine g_iret dS_panic_26 rfl rfl ?_
      refine IsT_of ?_
      rw [panicC, if_neg (by grind)]

set_option maxRecDepth 4000 in
theorem lS_home {l : Launch} {g : GG} {w : Wd} {n : Nat} (hn : w 1 6 = nI n) (h8 : n ≤ 8)  : ∀ (m : Nat) (i : Nat), 201 - i < m → i ≤ 201 → Go l g S_home 13 [some (.ref (g.1 0)), some (.int (nI i))] [] (hput 7 (hoursF 0 n i (hget w 1)) w) (IsT (orN (firstF (homeP n (hget w 1)) i (201 - i)) w)) := by
  intro m
  induction m with
  | zero => intro i hm hi; omega
  | succ m ih =>
    intro i hm hi
    refine g_iload_n dS_home_13 rfl ?_
    refine g_sipush (v := 200) dS_home_14 (by decide) ?_
    refine g_icmp_gt dS_home_17 rfl (fun h17 => ?_) (fun h17 => ?_)
    · rw [show (200 : Int32) = nI 200 from rfl, nI_ltI (by omega) (by omega)] at h17
      refine g_aload_n dS_home_46 rfl ?_
      refine g_iconst (v := 3) dS_home_47 (by decide) ?_
      refine gV1 dS_home_48 kS_home_61 rfl rfl (cS_finding (q := 3) (by decide)) (Nat.le_of_ble_eq_true rfl) ?_
      refine g_iret dS_home_51 rfl rfl ?_
      refine IsT_F ?_
      rw [show 201 - i = 0 by omega]
      rfl
    · rw [show (200 : Int32) = nI 200 from rfl, nI_ltI (by omega) (by omega)] at h17
      refine g_aload_n dS_home_20 rfl ?_
      refine g_getR2 (k2 := 7) dS_home_21 fS_16 rfl rfl (by decide) rfl ?_
      refine gV0 dS_home_24 kS_home_159 rfl rfl (cH_allAtFold isH7 (n := n) (by rw [hoursF_6]; exact hn) h8) (Nat.le_of_ble_eq_true rfl) ?_
      refine g_if_eq dS_home_27 rfl (fun h27 => ?_) (fun h27 => ?_)
      · have h27 := bI_0.mp h27
        refine g_aload_n dS_home_32 rfl ?_
        refine g_getR2 (k2 := 7) dS_home_33 fS_16 rfl rfl (by decide) rfl ?_
        refine g_iconst (v := 0) dS_home_36 (by decide) ?_
        refine gV1v dS_home_37 kS_home_162 rfl rfl (cH_passHour isH7 (n := n) (by rw [hoursF_6]; exact hn) h8) (Nat.le_of_ble_eq_true rfl) ?_
        refine g_iinc (v := nI (i + 1)) dS_home_40 rfl (nI_succ i).symm (by decide) rfl rfl ?_
        dsimp only [List.set]
        refine g_goto dS_home_43 rfl ?_
        refine g_mono (fun r w2 h => ?_) (ih (i + 1) (by omega) (by omega))
        rw [show 201 - i = (201 - (i + 1)) + 1 by omega, firstF, if_neg (show ¬ homeP n (hget w 1) i from h27)]
        exact h
      · have h27 := Classical.not_not.mp (fun z => h27 (bI_0.mpr z))
        refine g_iload_n dS_home_30 rfl ?_
        refine g_iret dS_home_31 rfl rfl ?_
        refine IsT_B ?_
        rw [show 201 - i = (200 - i) + 1 by omega, firstF, if_pos (show homeP n (hget w 1) i from h27), orN, if_neg (fun z => absurd (nI_pos' (show i < 2 ^ 31 by omega)) (by rw [z]; decide))]

set_option maxRecDepth 4000 in
theorem cS_home {l : Launch} {g : GG} {w : Wd} {n : Nat} (hn : w 1 6 = nI n) (h8 : n ≤ 8)  : Res l g S_home [.ref (g.1 0)] w (IsT (homeC n w)) := by
  refine Res.of (by decide) (by simp [Value.category]) (Nat.le_of_ble_eq_true rfl) rfl ?_
  show Go l g S_home 0 [some (.ref (g.1 0)), none] [] w _
  refine g_aload_n dS_home_0 rfl ?_
  refine g_getR2 (k2 := 7) dS_home_1 fS_16 rfl rfl (by decide) rfl ?_
  refine g_aload_n dS_home_4 rfl ?_
  refine g_getR2 (k2 := 1) dS_home_5 fS_12 rfl rfl (by decide) rfl ?_
  refine gV1v dS_home_8 kS_home_151 rfl rfl (cH_become isH7 isH1 (by decide)) (Nat.le_of_ble_eq_true rfl) ?_
  refine g_iconst (v := 0) dS_home_11 (by decide) ?_
  refine g_istore_n dS_home_12 (by decide) rfl rfl ?_
  dsimp only [List.set]
  exact lS_home hn h8 202 0 (by omega) (by omega)

set_option maxRecDepth 4000 in
theorem lS_nights {l : Launch} {g : GG} {w : Wd} {n : Nat} (hn : w 1 6 = nI n) (h8 : n ≤ 8) {k : Nat} (hk : k ≤ 20) : ∀ (m : Nat) (i : Nat), k - i < m → i ≤ k → Go l g S_nights 38 [some (.ref (g.1 0)), some (.int (nI k)), some (.int (nI i))] [] (nightsW n i w) (IsP (sumF (nightsF n k (w 0 6, hget w 1)).2.2.2.2.1 n, nightsW n k w)) := by
  intro m
  induction m with
  | zero => intro i hm hi; omega
  | succ m ih =>
    intro i hm hi
    refine g_iload_n dS_nights_38 rfl ?_
    refine g_iload_n dS_nights_39 rfl ?_
    refine g_icmp_ge dS_nights_40 rfl (fun h40 => ?_) (fun h40 => ?_)
    · rw [nI_leI (by omega) (by omega)] at h40
      refine g_aload_n dS_nights_85 rfl ?_
      refine g_getR2 (k2 := 1) dS_nights_86 fS_12 rfl rfl (by decide) rfl ?_
      refine g_aload_n dS_nights_89 rfl ?_
      refine g_getR2 (k2 := 1) dS_nights_90 fS_12 rfl rfl (by decide) rfl ?_
      refine g_getR2 (k2 := 4) dS_nights_93 fS_118 rfl rfl (by decide) rfl ?_
      refine gV1 dS_nights_96 kS_nights_137 rfl rfl (toRO (cH_total isH1 (n := n) (by exact (nightsW_6 n i w).trans hn) h8 (c := 3) (by decide) (by decide))) (Nat.le_of_ble_eq_true rfl) ?_
      refine g_iret dS_nights_99 rfl rfl ?_
      refine IsP_of ?_
      rw [show i = k by omega]
      exact Prod.ext (congrArg (fun f => sumF f n) (nightsW_F n k w).symm) rfl
    · rw [nI_leI (by omega) (by omega)] at h40
      refine g_aload_n dS_nights_43 rfl ?_
      refine g_getR2 (k2 := 1) dS_nights_44 fS_12 rfl rfl (by decide) rfl ?_
      refine g_aload_n dS_nights_47 rfl ?_
      refine gV0 dS_nights_48 kS_nights_191 rfl rfl cS_draw (Nat.le_of_ble_eq_true rfl) ?_
      refine g_bipush (v := 16) dS_nights_51 (by decide) ?_
      refine g_irem dS_nights_53 (by decide) ?_
      refine g_putI dS_nights_54 fS_75 rfl rfl rfl rfl ?_
      rw [up_1S]
      refine g_aload_n dS_nights_57 rfl ?_
      refine g_getR2 (k2 := 1) dS_nights_58 fS_12 rfl rfl (by decide) rfl ?_
      refine g_aload_n dS_nights_61 rfl ?_
      refine gV0 dS_nights_62 kS_nights_191 rfl rfl cS_draw (Nat.le_of_ble_eq_true rfl) ?_
      refine g_bipush (v := 6) dS_nights_65 (by decide) ?_
      refine g_irem dS_nights_67 (by decide) ?_
      refine g_putI dS_nights_68 fS_78 rfl rfl rfl rfl ?_
      rw [up_1S]
      refine g_aload_n dS_nights_71 rfl ?_
      refine g_getR2 (k2 := 1) dS_nights_72 fS_12 rfl rfl (by decide) rfl ?_
      refine g_iconst (v := 0) dS_nights_75 (by decide) ?_
      refine gV1v dS_nights_76 kS_nights_162 rfl rfl (toW (cH_passHour isH1 (n := n) (by exact (nightsW_6 n i w).trans hn) h8)) (Nat.le_of_ble_eq_true rfl) ?_
      refine g_iinc (v := nI (i + 1)) dS_nights_79 rfl (nI_succ i).symm (by decide) rfl rfl ?_
      dsimp only [List.set]
      refine g_goto dS_nights_82 rfl ?_
      refine g_w (by simp only [nightsW, nightsF, nightA, hget1_up, hget_hput, hput_hput, up06, hput06, up_h06, up_up]) (ih (i + 1) (by omega) (by omega))

set_option maxRecDepth 4000 in
theorem cS_nights {l : Launch} {g : GG} {w : Wd} {n : Nat} (hn : w 1 6 = nI n) (h8 : n ≤ 8) {k : Int32} : Res l g S_nights [.ref (g.1 0), .int k] w (IsP (nightsC n k w)) := by
  refine Res.of (by decide) (by simp [Value.category]) (Nat.le_of_ble_eq_true rfl) rfl ?_
  show Go l g S_nights 0 [some (.ref (g.1 0)), some (.int k), none] [] w _
  refine g_iload_n dS_nights_0 rfl ?_
  refine g_iconst (v := 1) dS_nights_1 (by decide) ?_
  refine g_bipush (v := 20) dS_nights_2 (by decide) ?_
  refine gS3 dS_nights_4 kS_nights_81 cS_isWithin (Nat.le_of_ble_eq_true rfl) ?_
  refine g_if_ne dS_nights_7 rfl (fun h7 => ?_) (fun h7 => ?_)
  · have h7 := Classical.not_not.mp (fun z => h7 (bI_0.mpr z))
    refine g_aload_n dS_nights_16 rfl ?_
    refine g_getR2 (k2 := 1) dS_nights_17 fS_12 rfl rfl (by decide) rfl ?_
    refine g_getI dS_nights_20 fS_130 rfl rfl ?_
    refine g_ldc dS_nights_23 fS_133 ?_
    refine g_iload_n dS_nights_25 rfl ?_
    refine g_isub dS_nights_26 ?_
    refine g_icmp_le dS_nights_27 rfl (fun h27 => ?_) (fun h27 => ?_)
    · obtain ⟨j, hj, ej⟩ := nI_of2 (n := 20) (by decide) (fun z => absurd (Int32.lt_of_lt_of_le z (by decide : (0 : Int32) ≤ 1)) (Int32.not_lt.mpr h7.1)) h7.2
      subst ej
      refine g_iconst (v := 0) dS_nights_36 (by decide) ?_
      refine g_istore_n dS_nights_37 (by decide) rfl rfl ?_
      dsimp only [List.set]
      refine g_w (nightsW_0 n w).symm ?_
      refine g_mono (fun r w2 h => ?_) (lS_nights hn h8 hj (j + 1) 0 (by omega) (by omega))
      rw [nightsC, if_pos h7, if_pos h27, nI_clamp (by omega)]
      exact h
    · refine g_aload_n dS_nights_30 rfl ?_
      refine g_iconst (v := 4) dS_nights_31 (by decide) ?_
      refine gV1 dS_nights_32 kS_nights_61 rfl rfl (cS_finding (q := 4) (by decide)) (Nat.le_of_ble_eq_true rfl) ?_
      refine g_iret dS_nights_35 rfl rfl ?_
      exact IsP_of (by rw [nightsC, if_pos h7, if_neg h27])
  · have h7 := bI_0.mp h7
    refine g_aload_n dS_nights_10 rfl ?_
    refine g_iconst (v := 0) dS_nights_11 (by decide) ?_
    refine gV1 dS_nights_12 kS_nights_61 rfl rfl (cS_finding (q := 0) (by decide)) (Nat.le_of_ble_eq_true rfl) ?_
    refine g_iret dS_nights_15 rfl rfl ?_
    exact IsP_of (if_neg h7)
