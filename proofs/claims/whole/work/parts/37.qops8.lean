def bt (x : Int32) (i : Nat) : Bool := x.toBitVec.getLsbD i
theorem b_ext {x y : Int32} (h : ∀ i, i < 32 → bt x i = bt y i) : x = y := Int32.toBitVec_inj.mp (BitVec.eq_of_getLsbD_eq (fun i hi => h i hi))
theorem b_and (x y : Int32) (i : Nat) : bt (x &&& y) i = (bt x i && bt y i) := by unfold bt; rw [Int32.toBitVec_and, BitVec.getLsbD_and]
theorem b_255 : ∀ i, i < 32 → bt 255 i = decide (i < 8) := by decide +kernel
theorem s_l : ∀ n, n < 32 → ((nI n &&& 31).toBitVec.smod 32).toNat = n := by decide +kernel
theorem s_u : ∀ n, n < 32 → (((nI n).toUInt32 &&& Int32.toUInt32 31).toBitVec % 32).toNat = n := by decide +kernel
theorem b_ushr (n : Nat) (hn : n < 32) (x : Int32) (i : Nat) : bt ((x.toUInt32 >>> ((nI n).toUInt32 &&& Int32.toUInt32 31)).toInt32) i = bt x (n + i) := by
  show (x.toUInt32 >>> ((nI n).toUInt32 &&& Int32.toUInt32 31)).toBitVec.getLsbD i = x.toUInt32.toBitVec.getLsbD (n + i)
  rw [UInt32.toBitVec_shiftRight]
  show (x.toUInt32.toBitVec >>> (((nI n).toUInt32 &&& Int32.toUInt32 31).toBitVec % 32).toNat).getLsbD i = _
  rw [s_u n hn, BitVec.getLsbD_ushiftRight]
theorem b_sshr (n : Nat) (hn : n < 32) (x : Int32) {i : Nat} (hi : i < 32) : bt (x >>> (nI n &&& 31)) i = if n + i < 32 then bt x (n + i) else bt x 31 := by
  unfold bt
  rw [Int32.toBitVec_shiftRight]
  show (x.toBitVec.sshiftRight ((nI n &&& 31).toBitVec.smod 32).toNat).getLsbD i = _
  rw [s_l n hn, BitVec.getLsbD_sshiftRight, BitVec.msb_eq_getLsbD_last]
  simp [hi]
theorem by_eq (b : Int32) {m : Nat} (hm : m < 4) : (b >>> (8 * nI m &&& 31)) &&& 255 = byF b m := by
  unfold byF
  rw [show (8 : Int32) * nI m = nI (8 * m) from pk_mul 8 m]
  refine b_ext (fun i hi => ?_)
  rw [b_and, b_and, b_255 i hi, b_ushr (8 * m) (by omega), b_sshr (8 * m) (by omega) b hi]
  by_cases h : i < 8
  · rw [if_pos (by omega)]
  · rw [decide_eq_false h, Bool.and_false, Bool.and_false]
theorem load_f {S : Wd} {n : Nat} {s : Int32} (e : ¬ lkN S s True = 7) : loadC n s S = fnd (lkN S s True) S := by
  unfold loadC lkN at *
  by_cases h1 : okSh s
  · rw [if_pos h1] at e ⊢
    rw [if_pos h1]
    by_cases h2 : shB S s = 0
    · rw [if_pos h2, if_pos h2]
    · rw [if_neg h2] at e; exact absurd rfl e
  · rw [if_neg h1, if_neg h1]
theorem judge_f {S : Wd} {n : Nat} {s : Int32} (e : ¬ lkN S s True = 7) : judgeC n s S = fnd (lkN S s True) S := by
  unfold judgeC lkN at *
  by_cases h1 : okSh s
  · rw [if_pos h1] at e ⊢
    rw [if_pos h1]
    by_cases h2 : shB S s = 0
    · rw [if_pos h2, if_pos h2]
    · rw [if_neg h2] at e; exact absurd rfl e
  · rw [if_neg h1, if_neg h1]
theorem lk_7t {S : Wd} {s : Int32} (e : lkN S s True = 7) : okSh s ∧ ¬ shB S s = 0 := by
  unfold lkN at e
  by_cases h1 : okSh s
  · rw [if_pos h1] at e
    by_cases h2 : shB S s = 0
    · rw [if_pos h2] at e; cases e
    · exact ⟨h1, h2⟩
  · rw [if_neg h1] at e; cases e
theorem idx_z {z : Nat} (hz : z ≤ 40) {x : Int32} (h0 : 0 ≤ x) (h : x ≤ nI z - 1) : ∃ c, c < z ∧ x = nI c := by
  obtain ⟨c, hc, rfl⟩ := nI_of (Int32.not_lt.mpr h0)
  rcases z with _ | z
  · exact absurd (Int32.le_trans h0 h) (by decide)
  · rw [nI_succ, Int32.add_sub_cancel, nI_leI hc (by omega)] at h
    exact ⟨c, by omega, rfl⟩
def zfl (f : Nat → Int32) (base k : Nat) : Nat → Int32 := fun i => if base ≤ i ∧ i < base + k then 0 else f i
theorem zfl_0 (f : Nat → Int32) (base : Nat) : zfl f base 0 = f := by
  funext i
  unfold zfl
  rw [if_neg (by omega)]
theorem zfl_s (f : Nat → Int32) (base k : Nat) : upd (zfl f base k) (base + k) 0 = zfl f base (k + 1) := by
  funext i
  unfold upd zfl
  by_cases h : i = base + k
  · rw [if_pos h, if_pos (by omega)]
  · rw [if_neg h]
    by_cases h2 : base ≤ i ∧ i < base + k
    · rw [if_pos h2, if_pos (by omega)]
    · rw [if_neg h2, if_neg (by omega)]
def mvF (m f : Nat → Int32) (base k : Nat) : Nat → Int32 := fun i => if i < k then f (base + i) else m i
theorem mvF_s (m f : Nat → Int32) (base k : Nat) : upd (mvF m f base k) k (f (base + k)) = mvF m f base (k + 1) := by
  funext i
  unfold upd mvF
  by_cases h : i = k
  · rw [if_pos h, if_pos (by omega), h]
  · rw [if_neg h]
    by_cases h2 : i < k
    · rw [if_pos h2, if_pos (by omega)]
    · rw [if_neg h2, if_neg (by omega)]
def cpF (f m : Nat → Int32) (base k : Nat) : Nat → Int32 := fun i => if base ≤ i ∧ i < base + k then m (i - base) else f i
theorem cpF_s (f m : Nat → Int32) (base k : Nat) : upd (cpF f m base k) (base + k) (m k) = cpF f m base (k + 1) := by
  funext i
  unfold upd cpF
  by_cases h : i = base + k
  · rw [if_pos h, if_pos (by omega), show i - base = k by omega]
  · rw [if_neg h]
    by_cases h2 : base ≤ i ∧ i < base + k
    · rw [if_pos h2, if_pos (by omega)]
    · rw [if_neg h2, if_neg (by omega)]
theorem upR_id (w : Wd) (k : Nat) {f : Nat → Int32} (h : f = w k) : upR w k f = w := by
  subst h
  funext i
  unfold upR
  split
  · subst_vars; rfl
  · rfl
theorem RM.sheet {S w : Wd} (h : RM S w) {q0 : Nat} (hq0 : q0 < 4) (b n : Int32) : RM (shW q0 b n S) (upR (up (up w 44 q0 b) 45 q0 (if b = 0 then 0 else n)) 46 (zfl (w 46) (40 * q0) 40)) := by
  generalize eS : shW q0 b n S = S2
  generalize eW : upR (up (up w 44 q0 b) 45 q0 (if b = 0 then 0 else n)) 46 (zfl (w 46) (40 * q0) 40) = w2
  have oS : ∀ k, k ≠ 24 + 2 * q0 → k ≠ 24 + 2 * q0 + 1 → S2 k = S k := fun k hk hk2 => by rw [← eS]; unfold shW; rw [upR_other _ _ _ hk2, up_other _ _ _ _ hk, up_other _ _ _ _ hk]
  have oW : ∀ k, k ≠ 44 → k ≠ 45 → k ≠ 46 → w2 k = w k := fun k h1 h2 h3 => by rw [← eW, upR_other _ _ _ h3, up_other _ _ _ _ h2, up_other _ _ _ _ h1]
  have w46 : w2 46 = zfl (w 46) (40 * q0) 40 := by rw [← eW, upR_same]
  have w45 : w2 45 = upd (w 45) q0 (if b = 0 then 0 else n) := by rw [← eW, upR_other _ _ _ (by decide), up_same, up_other _ _ _ _ (by decide)]
  have w44 : w2 44 = upd (w 44) q0 b := by rw [← eW, upR_other _ _ _ (by decide), up_other _ _ _ _ (by decide), up_same]
  have sB : S2 (24 + 2 * q0 + 1) = fun _ => 0 := by rw [← eS]; exact upR_same _ _ _
  have sA : S2 (24 + 2 * q0) = upd (upd (S (24 + 2 * q0)) 0 b) 1 (if b = 0 then 0 else n) := by rw [← eS]; unfold shW; rw [upR_other _ _ _ (by omega), up_same, up_same]
  have h1 : hget S2 1 = hget S 1 := by unfold hget; rw [oS 1 (by omega) (by omega), oS 2 (by omega) (by omega), oS 3 (by omega) (by omega), oS 4 (by omega) (by omega), oS 5 (by omega) (by omega), oS 6 (by omega) (by omega)]
  have h13 : hget S2 13 = hget S 13 := by unfold hget; rw [oS 13 (by omega) (by omega), oS 14 (by omega) (by omega), oS 15 (by omega) (by omega), oS 16 (by omega) (by omega), oS 17 (by omega) (by omega), oS 18 (by omega) (by omega)]
  have s06 : S2 0 6 = S 0 6 := by rw [oS 0 (by omega) (by omega)]
  have s07 : S2 0 7 = S 0 7 := by rw [oS 0 (by omega) (by omega)]
  have s03 : S2 0 3 = S 0 3 := by rw [oS 0 (by omega) (by omega)]
  have s19 : S2 19 = S 19 := oS 19 (by omega) (by omega)
  have s20 : S2 20 = S 20 := oS 20 (by omega) (by omega)
  have s21 : S2 21 1 = S 21 1 := by rw [oS 21 (by omega) (by omega)]
  have s22 : S2 22 = S 22 := oS 22 (by omega) (by omega)
  have s32 : S2 32 = S 32 := oS 32 (by omega) (by omega)
  have W34 : w2 34 = w 34 := oW 34 (by decide) (by decide) (by decide)
  have W35 : w2 35 = w 35 := oW 35 (by decide) (by decide) (by decide)
  have W33_3 : w2 33 3 = w 33 3 := by rw [oW 33 (by decide) (by decide) (by decide)]
  have W33_5 : w2 33 5 = w 33 5 := by rw [oW 33 (by decide) (by decide) (by decide)]
  have W33_7 : w2 33 7 = w 33 7 := by rw [oW 33 (by decide) (by decide) (by decide)]
  have W38 : w2 38 = w 38 := oW 38 (by decide) (by decide) (by decide)
  have W37 : w2 37 = w 37 := oW 37 (by decide) (by decide) (by decide)
  refine RM.mk (fun i hi => ?_) ?_ (fun hk i hi => ?_) ?_ ?_ (fun i hi => ?_) (fun q hq => ?_) ?_ (fun q hq => ?_)
  · rw [W34, h1, s06, s19]; exact h.row i hi
  · rw [W33_3, s03]; exact h.kf
  · rw [s03] at hk; rw [W35, h13, s07, s20]; exact h.kr hk i hi
  · rw [W33_5]; exact h.te
  · rw [W33_7, s21]; exact h.tl
  · rw [W38, s22]; exact h.tb i hi
  · rw [W37, s32]; exact h.fq q hq
  · rw [W37, s32]; exact h.f0
  · rw [w44, w45, w46]
    by_cases e : q = q0
    · subst e
      rw [sA, sB]
      refine ⟨if_pos rfl, if_pos rfl, fun i hi => ?_⟩
      unfold zfl
      rw [if_pos (by omega)]
    · rw [oS _ (by omega) (by omega), oS _ (by omega) (by omega)]
      unfold upd
      rw [if_neg e, if_neg e]
      refine ⟨(h.sh q hq).1, (h.sh q hq).2.1, fun i hi => ?_⟩
      unfold zfl
      rw [if_neg (by omega)]
      exact (h.sh q hq).2.2 i hi
theorem RM.copy {S w : Wd} (h : RM S w) {q1 t : Nat} (hq1 : q1 < 4) (ht : t < 4) {f d n : Nat} (hf : f + n ≤ 40) (hd : d + n ≤ 40) : RM (upR S (24 + 2 * t + 1) (va_cpy (S (24 + 2 * q1 + 1)) (S (24 + 2 * t + 1)) f d n)) (upR (upR w 47 (mvF (w 47) (w 46) (40 * q1 + f) n)) 46 (cpF (w 46) (mvF (w 47) (w 46) (40 * q1 + f) n) (40 * t + d) n)) := by
  generalize eS : upR S (24 + 2 * t + 1) (va_cpy (S (24 + 2 * q1 + 1)) (S (24 + 2 * t + 1)) f d n) = S2
  generalize eW : upR (upR w 47 (mvF (w 47) (w 46) (40 * q1 + f) n)) 46 (cpF (w 46) (mvF (w 47) (w 46) (40 * q1 + f) n) (40 * t + d) n) = w2
  have oS : ∀ k, k ≠ 24 + 2 * t + 1 → S2 k = S k := fun k hk => by rw [← eS]; exact upR_other _ _ _ hk
  have oW : ∀ k, k ≠ 46 → k ≠ 47 → w2 k = w k := fun k h1 h2 => by rw [← eW, upR_other _ _ _ h1, upR_other _ _ _ h2]
  have h1 : hget S2 1 = hget S 1 := by unfold hget; rw [oS 1 (by omega), oS 2 (by omega), oS 3 (by omega), oS 4 (by omega), oS 5 (by omega), oS 6 (by omega)]
  have h13 : hget S2 13 = hget S 13 := by unfold hget; rw [oS 13 (by omega), oS 14 (by omega), oS 15 (by omega), oS 16 (by omega), oS 17 (by omega), oS 18 (by omega)]
  have s06 : S2 0 6 = S 0 6 := by rw [oS 0 (by omega)]
  have s07 : S2 0 7 = S 0 7 := by rw [oS 0 (by omega)]
  have s03 : S2 0 3 = S 0 3 := by rw [oS 0 (by omega)]
  have s19 : S2 19 = S 19 := oS 19 (by omega)
  have s20 : S2 20 = S 20 := oS 20 (by omega)
  have s21 : S2 21 1 = S 21 1 := by rw [oS 21 (by omega)]
  have s22 : S2 22 = S 22 := oS 22 (by omega)
  have s32 : S2 32 = S 32 := oS 32 (by omega)
  have A : ∀ q, q < 4 → S2 (24 + 2 * q) = S (24 + 2 * q) := fun q hq => oS _ (by omega)
  have W34 : w2 34 = w 34 := oW 34 (by decide) (by decide)
  have W35 : w2 35 = w 35 := oW 35 (by decide) (by decide)
  have W33_3 : w2 33 3 = w 33 3 := by rw [oW 33 (by decide) (by decide)]
  have W33_5 : w2 33 5 = w 33 5 := by rw [oW 33 (by decide) (by decide)]
  have W33_7 : w2 33 7 = w 33 7 := by rw [oW 33 (by decide) (by decide)]
  have W38 : w2 38 = w 38 := oW 38 (by decide) (by decide)
  have W37 : w2 37 = w 37 := oW 37 (by decide) (by decide)
  have W44 : w2 44 = w 44 := oW 44 (by decide) (by decide)
  have W45 : w2 45 = w 45 := oW 45 (by decide) (by decide)
  refine RM.mk (fun i hi => ?_) ?_ (fun hk i hi => ?_) ?_ ?_ (fun i hi => ?_) (fun q hq => ?_) ?_ (fun q hq => ?_)
  · rw [W34, h1, s06, s19]; exact h.row i hi
  · rw [W33_3, s03]; exact h.kf
  · rw [s03] at hk; rw [W35, h13, s07, s20]; exact h.kr hk i hi
  · rw [W33_5]; exact h.te
  · rw [W33_7, s21]; exact h.tl
  · rw [W38, s22]; exact h.tb i hi
  · rw [W37, s32]; exact h.fq q hq
  · rw [W37, s32]; exact h.f0
  · rw [W44, W45, A _ hq]
    refine ⟨(h.sh _ hq).1, (h.sh _ hq).2.1, fun i hi => ?_⟩
    rw [← eW, upR_same]
    unfold cpF mvF
    by_cases e : q = t
    · subst e
      rw [← eS, upR_same]
      unfold va_cpy
      by_cases e2 : d ≤ i ∧ i < d + n
      · rw [if_pos (by omega), if_pos e2, if_pos (by omega), ← (h.sh q1 hq1).2.2 (f + (i - d)) (by omega)]
        congr 1
        omega
      · rw [if_neg (by omega), if_neg e2]; exact (h.sh _ hq).2.2 i hi
    · rw [if_neg (by omega), oS _ (by omega)]; exact (h.sh _ hq).2.2 i hi
set_option maxRecDepth 4000 in
theorem lQ_load {l : Launch} {g : GG} {S w : Wd} {A : HA} {n b : Nat} (hA : hget S 1 = A) (hR : RM S w) (hI : IVA n b A) {q : Nat} (hq : q < 4) {z : Nat} (hz : z ≤ 40) (ez : w 45 q = nI z) {ff : Nat → Int32} (hff : ∀ i, i < 40 → w 46 (40 * q + i) = ff i) : ∀ (m : Nat) (i : Nat) (B : HA), (z - i < m) → (i ≤ z) → (IVA n b B) → Go l g Q_load 22 [some (.ref (g.1 33)), some (.int (nI q)), some (.int (nI i))] [] (mput B w) (IsQ ((loadF ff z n (41 - i) i B).1, hput 1 (loadF ff z n (41 - i) i B).2 S) w) := by
  intro m
  induction m with
  | zero => intro i B hm hi hB; omega
  | succ m ih =>
    intro i B hm hi hB
    have h8 := hI.n8
    refine g_iload_n dQ_load_22 rfl ?_
    refine g_aload_n dQ_load_23 rfl ?_
    refine g_getR2 (k2 := 45) dQ_load_24 fQ_60 rfl rfl (by decide) rfl ?_
    refine g_iload_n dQ_load_27 rfl ?_
    refine g_ialdN (i := q) dQ_load_28 rfl hq (by decide) ?_
    refine g_top (y := nI z) ez ?_
    refine g_icmp_ge dQ_load_29 rfl (fun h29 => ?_) (fun h29 => ?_)
    · rw [nI_leI (by omega) (by omega)] at h29
      refine g_iload_n dQ_load_87 rfl ?_
      refine g_iret dQ_load_88 rfl rfl ?_
      refine IsQ_A hR ?_
      rw [show 41 - i = (40 - i) + 1 by omega, loadF, if_neg (by grind)]
    · rw [nI_leI (by omega) (by omega)] at h29
      refine g_aload_n dQ_load_32 rfl ?_
      refine g_iload_n dQ_load_33 rfl ?_
      refine gV1 dQ_load_34 kQ_load_119 rfl rfl (eQ_isSheep hB) (Nat.le_of_ble_eq_true rfl) ?_
      refine g_if_eq dQ_load_37 rfl (fun h37 => ?_) (fun h37 => ?_)
      · have h37 := bI_0.mp h37
        rw [hB.n6, nI_ltI (by omega) (by omega)] at h37
        have hin : ¬ i < n := fun zz => h37 ⟨nI_pos' (by omega), zz⟩
        refine g_iload_n dQ_load_87 rfl ?_
        refine g_iret dQ_load_88 rfl rfl ?_
        refine IsQ_A hR ?_
        rw [show 41 - i = (40 - i) + 1 by omega, loadF, if_neg (by grind)]
      · have h37 := Classical.not_not.mp (fun z => h37 (bI_0.mpr z))
        rw [hB.n6, nI_ltI (by omega) (by omega)] at h37
        refine g_aload_n dQ_load_40 rfl ?_
        refine g_getR2 (k2 := 46) dQ_load_41 fQ_63 rfl rfl (by decide) rfl ?_
        refine g_bipush (v := 40) dQ_load_44 (by decide) ?_
        refine g_iload_n dQ_load_46 rfl ?_
        refine g_imul dQ_load_47 ?_
        refine g_iload_n dQ_load_48 rfl ?_
        refine g_iadd dQ_load_49 ?_
        refine g_top (y := nI (40 * q + i)) (by rw [show (40 : Int32) = nI 40 from rfl, pk_mul, nI_add]) ?_
        refine g_ialdN (i := (40 * q + i)) dQ_load_50 rfl (by omega) (by decide) ?_
        refine g_top (y := ff i) (hff i (by omega)) ?_
        refine g_iconst (v := 0) dQ_load_51 (by decide) ?_
        refine g_bipush (v := 99) dQ_load_52 (by decide) ?_
        refine gS3 dQ_load_54 kQ_load_79 cQ_within (Nat.le_of_ble_eq_true rfl) ?_
        refine g_if_eq dQ_load_57 rfl (fun h57 => ?_) (fun h57 => ?_)
        · have h57 := bI_0.mp h57
          refine g_iload_n dQ_load_87 rfl ?_
          refine g_iret dQ_load_88 rfl rfl ?_
          refine IsQ_A hR ?_
          rw [show 41 - i = (40 - i) + 1 by omega, loadF, if_neg (by grind)]
        · have h57 := Classical.not_not.mp (fun z => h57 (bI_0.mpr z))
          refine g_aload_n dQ_load_60 rfl ?_
          refine g_getR2 (k2 := 34) dQ_load_61 fQ_9 rfl rfl (by decide) rfl ?_
          refine g_iload_n dQ_load_64 rfl ?_
          refine g_iconst (v := 2) dQ_load_65 (by decide) ?_
          refine gS2 dQ_load_66 kQ_load_83 (cQ_sheepAt (f := 2)) (Nat.le_of_ble_eq_true rfl) ?_
          refine g_aload_n dQ_load_69 rfl ?_
          refine g_getR2 (k2 := 46) dQ_load_70 fQ_63 rfl rfl (by decide) rfl ?_
          refine g_bipush (v := 40) dQ_load_73 (by decide) ?_
          refine g_iload_n dQ_load_75 rfl ?_
          refine g_imul dQ_load_76 ?_
          refine g_iload_n dQ_load_77 rfl ?_
          refine g_iadd dQ_load_78 ?_
          refine g_top (y := nI (40 * q + i)) (by rw [show (40 : Int32) = nI 40 from rfl, pk_mul, nI_add]) ?_
          refine g_ialdN (i := (40 * q + i)) dQ_load_79 rfl (by omega) (by decide) ?_
          refine g_top (y := ff i) (hff i (by omega)) ?_
          refine g_ms (f := 2) dQ_load_80 (by decide) (by omega) ?_
          refine g_iinc (v := nI (i + 1)) dQ_load_81 rfl (nI_succ i).symm (by decide) rfl rfl ?_
          dsimp only [List.set]
          refine g_goto dQ_load_84 rfl ?_
          refine g_mono (fun r w2 hh => ?_) (ih (i + 1) (sF B i (ff i)) (by omega) (by omega) (hB.F h57))
          rw [show 41 - i = (41 - (i + 1)) + 1 by omega, loadF, if_pos ⟨by omega, h37.2, h57⟩]
          exact hh

set_option maxRecDepth 4000 in
theorem cQ_load {l : Launch} {g : GG} {S w : Wd} {A : HA} {n b : Nat} (hA : hget S 1 = A) (hR : RM S w) (hI : IVA n b A) {s : Int32} (hzz : ∀ q, q < 4 → ∃ z, z ≤ 40 ∧ S (24 + 2 * q) 1 = nI z)  : Res l g Q_load [.ref (g.1 33), .int s] (mput A w) (IsQ (loadC n s S) w) := by
  have h8 := hI.n8
  refine Res.of (by decide) (by simp [Value.category]) (Nat.le_of_ble_eq_true rfl) rfl ?_
  show Go l g Q_load 0 [some (.ref (g.1 33)), some (.int s), none] [] (mput A w) _
  refine g_aload_n dQ_load_0 rfl ?_
  refine g_iload_n dQ_load_1 rfl ?_
  refine g_iconst (v := 1) dQ_load_2 (by decide) ?_
  refine gV2 dQ_load_3 kQ_load_238 rfl rfl (cQ_lacks hR (c := True)) (Nat.le_of_ble_eq_true rfl) ?_
  have e12 := lkI_0 (lkN_c S s True)
  have e12q : lkN S s True < 8 := by have := lkN_c S s True; omega
  refine g_if_eq dQ_load_6 rfl (fun h6 => ?_) (fun h6 => ?_)
  · have h7 := lk_7t (e12.mp h6)
    obtain ⟨q, hq, eq⟩ := sh_q h7.1
    subst eq
    have hsh := hR.sh q hq
    obtain ⟨z, hz, ez⟩ := hzz q hq
    have eb : shZ S (nI q) = nI z := by unfold shZ; rw [nI_clamp (by omega)]; exact ez
    have en : ∀ i, i < 40 → w 46 (40 * q + i) = shN S (nI q) i := fun i hi => by unfold shN; rw [nI_clamp (by omega)]; exact hsh.2.2 i hi
    refine g_iconst (v := 0) dQ_load_20 (by decide) ?_
    refine g_istore_n dQ_load_21 (by decide) rfl rfl ?_
    dsimp only [List.set]
    refine g_mono (fun r w2 hh => ?_) (lQ_load hA hR hI hq hz (hsh.2.1.trans ez) en 41 0 A (by omega) (by omega) hI)
    rw [show loadC n (nI q) S = ((loadF (shN S (nI q)) z n 41 0 A).1, hput 1 (loadF (shN S (nI q)) z n 41 0 A).2 S) by simp only [loadC, hA, gA1 hA, gA2 hA, gA3 hA, gA4 hA, gA5 hA, gA6 hA]; rw [if_pos h7.1, if_neg h7.2, eb, nI_clamp (by omega)]]
    exact hh
  · have hq7 : lkN S s True < 7 := by
      have : ¬ lkN S s True = 7 := fun zz => h6 (e12.mpr zz)
      omega
    have hn7 : ¬ lkN S s True = 7 := by omega
    refine g_aload_n dQ_load_9 rfl ?_
    refine g_aload_n dQ_load_10 rfl ?_
    refine g_iload_n dQ_load_11 rfl ?_
    refine g_iconst (v := 1) dQ_load_12 (by decide) ?_
    refine gV2 dQ_load_13 kQ_load_238 rfl rfl (cQ_lacks hR (c := True)) (Nat.le_of_ble_eq_true rfl) ?_
    refine g_top (lkI_n hn7) ?_
    refine gV1 dQ_load_16 kQ_load_75 rfl rfl (cQ_finding (q := lkN S s True) hq7) (Nat.le_of_ble_eq_true rfl) ?_
    refine g_iret dQ_load_19 rfl rfl ?_
    exact IsQ_F hA hR hq7 (load_f hn7)

set_option maxRecDepth 4000 in
theorem lQ_judge {l : Launch} {g : GG} {S w : Wd} {A : HA} {n b : Nat} (hA : hget S 1 = A) (hR : RM S w) (hI : IVA n b A) {q : Nat} (hq : q < 4) {z : Nat} (hz : z ≤ 40) (ez : w 45 q = nI z) {ff : Nat → Int32} (hff : ∀ i, i < 40 → w 46 (40 * q + i) = ff i) : ∀ (m : Nat) (i : Nat), (z - i < m) → (i ≤ z) → Go l g Q_judge 22 [some (.ref (g.1 33)), some (.int (nI q)), some (.int (nI i))] [] (mput A w) (IsQ (judgeF ff A.2.2.1 z n (41 - i) i, S) w) := by
  intro m
  induction m with
  | zero => intro i hm hi; omega
  | succ m ih =>
    intro i hm hi
    have h8 := hI.n8
    refine g_iload_n dQ_judge_22 rfl ?_
    refine g_aload_n dQ_judge_23 rfl ?_
    refine g_getR2 (k2 := 45) dQ_judge_24 fQ_60 rfl rfl (by decide) rfl ?_
    refine g_iload_n dQ_judge_27 rfl ?_
    refine g_ialdN (i := q) dQ_judge_28 rfl hq (by decide) ?_
    refine g_top (y := nI z) ez ?_
    refine g_icmp_ge dQ_judge_29 rfl (fun h29 => ?_) (fun h29 => ?_)
    · rw [nI_leI (by omega) (by omega)] at h29
      refine g_iload_n dQ_judge_66 rfl ?_
      refine g_aload_n dQ_judge_67 rfl ?_
      refine g_getR2 (k2 := 45) dQ_judge_68 fQ_60 rfl rfl (by decide) rfl ?_
      refine g_iload_n dQ_judge_71 rfl ?_
      refine g_ialdN (i := q) dQ_judge_72 rfl hq (by decide) ?_
      refine g_top (y := nI z) ez ?_
      refine g_icmp_ne dQ_judge_73 rfl (fun h73 => ?_) (fun h73 => ?_)
      · rw [nI_eq (by omega) (by omega)] at h73
        refine g_iconst (v := 1) dQ_judge_80 (by decide) ?_
        refine g_iload_n dQ_judge_81 rfl ?_
        refine g_iadd dQ_judge_82 ?_
        refine g_iret dQ_judge_83 rfl rfl ?_
        first
          | exact absurd h29 (by omega)
          | (refine IsQ_R hA hR ?_; rw [show 41 - i = (40 - i) + 1 by omega, judgeF]; first | rw [if_neg (by omega)] | rw [if_pos (by omega), if_neg (by grind)])
      · rw [nI_eq (by omega) (by omega)] at h73
        refine g_iconst (v := 0) dQ_judge_76 (by decide) ?_
        refine g_goto dQ_judge_77 rfl ?_
        refine g_iret dQ_judge_83 rfl rfl ?_
        first
          | exact absurd h29 (by omega)
          | (refine IsQ_R hA hR ?_; rw [show 41 - i = (40 - i) + 1 by omega, judgeF]; first | rw [if_neg (by omega)] | rw [if_pos (by omega), if_neg (by grind)])
    · rw [nI_leI (by omega) (by omega)] at h29
      refine g_aload_n dQ_judge_32 rfl ?_
      refine g_iload_n dQ_judge_33 rfl ?_
      refine gV1 dQ_judge_34 kQ_judge_119 rfl rfl (eQ_isSheep hI) (Nat.le_of_ble_eq_true rfl) ?_
      refine g_if_eq dQ_judge_37 rfl (fun h37 => ?_) (fun h37 => ?_)
      · have h37 := bI_0.mp h37
        rw [hI.n6, nI_ltI (by omega) (by omega)] at h37
        have hin : ¬ i < n := fun zz => h37 ⟨nI_pos' (by omega), zz⟩
        refine g_iload_n dQ_judge_66 rfl ?_
        refine g_aload_n dQ_judge_67 rfl ?_
        refine g_getR2 (k2 := 45) dQ_judge_68 fQ_60 rfl rfl (by decide) rfl ?_
        refine g_iload_n dQ_judge_71 rfl ?_
        refine g_ialdN (i := q) dQ_judge_72 rfl hq (by decide) ?_
        refine g_top (y := nI z) ez ?_
        refine g_icmp_ne dQ_judge_73 rfl (fun h73 => ?_) (fun h73 => ?_)
        · rw [nI_eq (by omega) (by omega)] at h73
          refine g_iconst (v := 1) dQ_judge_80 (by decide) ?_
          refine g_iload_n dQ_judge_81 rfl ?_
          refine g_iadd dQ_judge_82 ?_
          refine g_iret dQ_judge_83 rfl rfl ?_
          first
            | exact absurd h29 (by omega)
            | (refine IsQ_R hA hR ?_; rw [show 41 - i = (40 - i) + 1 by omega, judgeF]; first | rw [if_neg (by omega)] | rw [if_pos (by omega), if_neg (by grind)])
        · rw [nI_eq (by omega) (by omega)] at h73
          refine g_iconst (v := 0) dQ_judge_76 (by decide) ?_
          refine g_goto dQ_judge_77 rfl ?_
          refine g_iret dQ_judge_83 rfl rfl ?_
          first
            | exact absurd h29 (by omega)
            | (refine IsQ_R hA hR ?_; rw [show 41 - i = (40 - i) + 1 by omega, judgeF]; first | rw [if_neg (by omega)] | rw [if_pos (by omega), if_neg (by grind)])
      · have h37 := Classical.not_not.mp (fun z => h37 (bI_0.mpr z))
        rw [hI.n6, nI_ltI (by omega) (by omega)] at h37
        refine g_aload_n dQ_judge_40 rfl ?_
        refine g_getR2 (k2 := 46) dQ_judge_41 fQ_63 rfl rfl (by decide) rfl ?_
        refine g_bipush (v := 40) dQ_judge_44 (by decide) ?_
        refine g_iload_n dQ_judge_46 rfl ?_
        refine g_imul dQ_judge_47 ?_
        refine g_iload_n dQ_judge_48 rfl ?_
        refine g_iadd dQ_judge_49 ?_
        refine g_top (y := nI (40 * q + i)) (by rw [show (40 : Int32) = nI 40 from rfl, pk_mul, nI_add]) ?_
        refine g_ialdN (i := (40 * q + i)) dQ_judge_50 rfl (by omega) (by decide) ?_
        refine g_top (y := ff i) (hff i (by omega)) ?_
        refine g_aload_n dQ_judge_51 rfl ?_
        refine g_iload_n dQ_judge_52 rfl ?_
        refine g_iconst (v := 1) dQ_judge_53 (by decide) ?_
        refine gV2 dQ_judge_54 kQ_judge_108 rfl rfl (cQ_sheepIsC (by omega)) (Nat.le_of_ble_eq_true rfl) ?_
        refine g_icmp_ne dQ_judge_57 rfl (fun h57 => ?_) (fun h57 => ?_)
        · refine g_iload_n dQ_judge_66 rfl ?_
          refine g_aload_n dQ_judge_67 rfl ?_
          refine g_getR2 (k2 := 45) dQ_judge_68 fQ_60 rfl rfl (by decide) rfl ?_
          refine g_iload_n dQ_judge_71 rfl ?_
          refine g_ialdN (i := q) dQ_judge_72 rfl hq (by decide) ?_
          refine g_top (y := nI z) ez ?_
          refine g_icmp_ne dQ_judge_73 rfl (fun h73 => ?_) (fun h73 => ?_)
          · rw [nI_eq (by omega) (by omega)] at h73
            refine g_iconst (v := 1) dQ_judge_80 (by decide) ?_
            refine g_iload_n dQ_judge_81 rfl ?_
            refine g_iadd dQ_judge_82 ?_
            refine g_iret dQ_judge_83 rfl rfl ?_
            first
              | exact absurd h29 (by omega)
              | (refine IsQ_R hA hR ?_; rw [show 41 - i = (40 - i) + 1 by omega, judgeF]; first | rw [if_neg (by omega)] | rw [if_pos (by omega), if_neg (by grind)])
          · rw [nI_eq (by omega) (by omega)] at h73
            refine g_iconst (v := 0) dQ_judge_76 (by decide) ?_
            refine g_goto dQ_judge_77 rfl ?_
            refine g_iret dQ_judge_83 rfl rfl ?_
            first
              | exact absurd h29 (by omega)
              | (refine IsQ_R hA hR ?_; rw [show 41 - i = (40 - i) + 1 by omega, judgeF]; first | rw [if_neg (by omega)] | rw [if_pos (by omega), if_neg (by grind)])
        · refine g_iinc (v := nI (i + 1)) dQ_judge_60 rfl (nI_succ i).symm (by decide) rfl rfl ?_
          dsimp only [List.set]
          refine g_goto dQ_judge_63 rfl ?_
          refine g_mono (fun r w2 hh => ?_) (ih (i + 1) (by omega) (by omega))
          rw [show 41 - i = (41 - (i + 1)) + 1 by omega, judgeF, if_pos (by omega), if_pos (by grind)]
          exact hh

set_option maxRecDepth 4000 in
theorem cQ_judge {l : Launch} {g : GG} {S w : Wd} {A : HA} {n b : Nat} (hA : hget S 1 = A) (hR : RM S w) (hI : IVA n b A) {s : Int32} (hzz : ∀ q, q < 4 → ∃ z, z ≤ 40 ∧ S (24 + 2 * q) 1 = nI z)  : Res l g Q_judge [.ref (g.1 33), .int s] (mput A w) (IsQ (judgeC n s S) w) := by
  have h8 := hI.n8
  refine Res.of (by decide) (by simp [Value.category]) (Nat.le_of_ble_eq_true rfl) rfl ?_
  show Go l g Q_judge 0 [some (.ref (g.1 33)), some (.int s), none] [] (mput A w) _
  refine g_aload_n dQ_judge_0 rfl ?_
  refine g_iload_n dQ_judge_1 rfl ?_
  refine g_iconst (v := 1) dQ_judge_2 (by decide) ?_
  refine gV2 dQ_judge_3 kQ_judge_238 rfl rfl (cQ_lacks hR (c := True)) (Nat.le_of_ble_eq_true rfl) ?_
  have e12 := lkI_0 (lkN_c S s True)
  have e12q : lkN S s True < 8 := by have := lkN_c S s True; omega
  refine g_if_eq dQ_judge_6 rfl (fun h6 => ?_) (fun h6 => ?_)
  · have h7 := lk_7t (e12.mp h6)
    obtain ⟨q, hq, eq⟩ := sh_q h7.1
    subst eq
    have hsh := hR.sh q hq
    obtain ⟨z, hz, ez⟩ := hzz q hq
    have eb : shZ S (nI q) = nI z := by unfold shZ; rw [nI_clamp (by omega)]; exact ez
    have en : ∀ i, i < 40 → w 46 (40 * q + i) = shN S (nI q) i := fun i hi => by unfold shN; rw [nI_clamp (by omega)]; exact hsh.2.2 i hi
    refine g_iconst (v := 0) dQ_judge_20 (by decide) ?_
    refine g_istore_n dQ_judge_21 (by decide) rfl rfl ?_
    dsimp only [List.set]
    refine g_mono (fun r w2 hh => ?_) (lQ_judge hA hR hI hq hz (hsh.2.1.trans ez) en 41 0 (by omega) (by omega))
    rw [show judgeC n (nI q) S = (judgeF (shN S (nI q)) A.2.2.1 z n 41 0, S) by simp only [judgeC, hA, gA1 hA, gA2 hA, gA3 hA, gA4 hA, gA5 hA, gA6 hA]; rw [if_pos h7.1, if_neg h7.2, eb, nI_clamp (by omega)]]
    exact hh
  · have hq7 : lkN S s True < 7 := by
      have : ¬ lkN S s True = 7 := fun zz => h6 (e12.mpr zz)
      omega
    have hn7 : ¬ lkN S s True = 7 := by omega
    refine g_aload_n dQ_judge_9 rfl ?_
    refine g_aload_n dQ_judge_10 rfl ?_
    refine g_iload_n dQ_judge_11 rfl ?_
    refine g_iconst (v := 1) dQ_judge_12 (by decide) ?_
    refine gV2 dQ_judge_13 kQ_judge_238 rfl rfl (cQ_lacks hR (c := True)) (Nat.le_of_ble_eq_true rfl) ?_
    refine g_top (lkI_n hn7) ?_
    refine gV1 dQ_judge_16 kQ_judge_75 rfl rfl (cQ_finding (q := lkN S s True) hq7) (Nat.le_of_ble_eq_true rfl) ?_
    refine g_iret dQ_judge_19 rfl rfl ?_
    exact IsQ_F hA hR hq7 (judge_f hn7)
