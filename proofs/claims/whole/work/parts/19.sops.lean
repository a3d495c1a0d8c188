theorem isH1 : isH 1 := Or.inl rfl
theorem isH7 : isH 7 := Or.inr (Or.inl rfl)
theorem isH13 : isH 13 := Or.inr (Or.inr rfl)
theorem toRO {l : Launch} {g : GG} {M : MM} {as : List Value} {w : Wd} {h : Nat} {r : Option Value} (hr : Res l g M as (hput h (hget w h) w) (Is r (hput h (hget w h) w))) : Res l g M as w (Is r w) := by rw [hput_hget] at hr; exact hr
def IsP (p : Int32 × Wd) : Option Value → Wd → Prop := Is (some (.int p.1)) p.2
theorem IsP_of {r : Int32} {w : Wd} {p : Int32 × Wd} (h : p = (r, w)) : IsP p (some (.int r)) w := by subst h; exact ⟨rfl, rfl⟩
def fcl (q : Nat) (w : Wd) : Wd := up w 32 q (w 32 q + 1)
def fnd (q : Nat) (w : Wd) : Int32 × Wd := (-1000001 - nI q, fcl q w)
theorem up_1S (w : Wd) (j : Nat) (v : Int32) : up w 1 j v = hput 1 (sS (hget w 1) j v) w := by rw [← up_hS, hput_hget]
theorem up_1K (w : Wd) (j : Nat) (v : Int32) : up w 2 j v = hput 1 (sK (hget w 1) j v) w := by rw [← up_hK, hput_hget]
theorem up_1C (w : Wd) (j : Nat) (v : Int32) : up w 3 j v = hput 1 (sC (hget w 1) j v) w := by rw [← up_hC, hput_hget]
theorem up_1F (w : Wd) (j : Nat) (v : Int32) : up w 4 j v = hput 1 (sF (hget w 1) j v) w := by rw [← up_hF, hput_hget]
theorem up_1L (w : Wd) (j : Nat) (v : Int32) : up w 5 j v = hput 1 (sL (hget w 1) j v) w := by rw [← up_hL, hput_hget]
theorem up_1O (w : Wd) (j : Nat) (v : Int32) : up w 6 j v = hput 1 (sO (hget w 1) j v) w := by rw [← up_hO, hput_hget]
abbrev canSetP (x v : Int32) : Prop := ((x = 0 ∨ x = 1) ∧ (0 ≤ v ∧ v ≤ 15)) ∨ (x = 2 ∧ ((0 ≤ v ∧ v ≤ 15) ∨ v = -1)) ∨ (x = 3 ∧ (0 ≤ v ∧ v ≤ 5))
abbrev canChP (x v : Int32) : Prop := (x = 0 ∧ (0 ≤ v ∧ v ≤ 6)) ∨ (x = 1 ∧ (0 ≤ v ∧ v ≤ 15)) ∨ (x = 2 ∧ (0 ≤ v ∧ v ≤ 99)) ∨ ((x = 3 ∨ x = 4) ∧ (0 ≤ v ∧ v ≤ 9999))
def featF (A : HA) (x : Int32) : Int32 := if x = 0 then A.1 0 else if x = 1 then A.1 1 else if x = 2 then A.1 3 else if x = 3 then A.1 4 else A.1 2
def setA (x v : Int32) (A : HA) : HA := if x = 0 then sS A 0 v else if x = 1 then mkF v A else if x = 2 then sS A 3 v else sS A 4 v
def setC (x v : Int32) (w : Wd) : Int32 × Wd := if canSetP x v then (featF (hget w 1) x, hput 1 (setA x v (hget w 1)) w) else fnd 0 w
def hillC (x : Int32) (w : Wd) : Int32 × Wd := if 0 ≤ x ∧ x ≤ 4 then (featF (hget w 1) x, w) else fnd 0 w
def sheepC (n : Nat) (k c : Int32) (w : Wd) : Int32 × Wd := if (0 ≤ k ∧ k ≤ 6) ∧ (0 ≤ c ∧ c ≤ 15) then (if n = 8 then fnd 1 w else (nI n, hput 1 (addF n k c (hget w 1)) w)) else fnd 0 w
abbrev hasP (w : Wd) (s : Int32) : Prop := 0 ≤ s ∧ s < w 1 6
def ofC (n : Nat) (s x : Int32) (w : Wd) : Int32 × Wd := if hasP w s ∧ (0 ≤ x ∧ x ≤ 9) then (traitF (hget w 1) n s.toNatClampNeg x, w) else fnd 0 w
def chA (x : Int32) (j : Nat) (v : Int32) (A : HA) : HA := if x = 0 then sK A j v else if x = 1 then sC A j v else if x = 2 then sF A j v else if x = 3 then sL A j v else sO A j v
def changeC (n : Nat) (s x v : Int32) (w : Wd) : Int32 × Wd := if hasP w s ∧ canChP x v then (if x = 1 ∧ s = w 1 2 then fnd 4 w else (traitF (hget w 1) n s.toNatClampNeg x, hput 1 (chA x s.toNatClampNeg v (hget w 1)) w)) else fnd 0 w
def dropC (w : Wd) : Int32 × Wd := if w 1 2 = -1 then fnd 3 w else (w 1 2, hput 1 (sS (hget w 1) 2 (-1)) w)
def whoC (n : Nat) (c : Int32) (w : Wd) : Int32 × Wd := if 0 ≤ c ∧ c ≤ 15 then (setF (w 3) c n, w) else fnd 0 w
def goC (n : Nat) (k : Int32) (w : Wd) : Int32 × Wd := if 1 ≤ k ∧ k ≤ 60 then (if w 1 5 ≤ 99999 - k then (sumF (hoursF 0 n k.toNatClampNeg (hget w 1)).2.2.2.2.2 n, hput 1 (hoursF 0 n k.toNatClampNeg (hget w 1)) w) else fnd 4 w) else fnd 0 w
def nowC (n : Nat) (x : Int32) (w : Wd) : Int32 × Wd := if x = 0 then (w 1 5, w) else if x = 1 then (farF (w 3) (w 1 0) n, w) else if x = 2 then (sumF (w 4) n, w) else if x = 3 then (sumF (w 6) n, w) else if x = 4 then (sumF (w 5) n, w) else if x = 5 then ((soF (w 3) (w 1 0) n).1, w) else if x = 6 then (setF (w 3) (w 1 0) n, w) else if x = 7 then ((maF (w 4) n).1, w) else fnd 0 w
def useF (f : Nat → Int32) : Nat → Int32
  | 0 => 0
  | n + 1 => if f n = -1 then useF f n else useF f n + 1
def countC (n : Nat) (x : Int32) (w : Wd) : Int32 × Wd := if x = 0 then (w 1 5, w) else if x = 1 then (w 1 6, w) else if x = 2 then (sumF (w 4) n, w) else if x = 3 then (sumF (w 6) n, w) else if x = 4 then (sumF (w 5) n, w) else if x = 5 then (w 21 1, w) else if x = 6 then (w 0 6, w) else if x = 7 then (useF (w 19) 10, w) else fnd 0 w
def statusC (x : Int32) (w : Wd) : Int32 × Wd := if -1 ≤ x ∧ x ≤ 6 then (if x < 0 then sumF (w 32) 7 else w 32 x.toNatClampNeg, w) else fnd 0 w
def seedC (v : Int32) (w : Wd) : Int32 × Wd := (w 0 6, up w 0 6 v)
def wipeC (w : Wd) : Int32 × Wd := (w 21 1, up w 21 1 0)
def tearC (w : Wd) : Int32 × Wd := (if w 0 3 = 0 then 0 else 1, up w 0 3 0)
def holdC (s h : Int32) (w : Wd) : Int32 × Wd := if (0 ≤ s ∧ s ≤ 9) ∧ (h = -1 ∨ hasP w h) then (1, up w 19 s.toNatClampNeg h) else fnd 0 w
set_option maxRecDepth 4000 in
theorem cS_finding {l : Launch} {g : GG} {w : Wd} {q : Nat} (hq : q < 7) : Res l g S_finding [.ref (g.1 0), .int (nI q)] w (IsP (fnd q w)) := by
  refine Res.of (by decide) (by simp [Value.category]) (Nat.le_of_ble_eq_true rfl) rfl ?_
  show Go l g S_finding 0 [some (.ref (g.1 0)), some (.int (nI q))] [] w _
  refine g_aload_n dS_finding_0 rfl ?_
  refine g_getR2 (k2 := 32) dS_finding_1 fS_54 rfl rfl (by decide) rfl ?_
  refine g_iload_n dS_finding_4 rfl ?_
  refine g_dup2 dS_finding_5 rfl rfl ?_
  refine g_ialdN dS_finding_6 rfl (by omega) (by decide) ?_
  refine g_iconst (v := 1) dS_finding_7 (by decide) ?_
  refine g_iadd dS_finding_8 ?_
  refine g_iastN dS_finding_9 rfl (by omega) (by decide) ?_
  refine g_ldc dS_finding_10 fS_246 ?_
  refine g_iload_n dS_finding_12 rfl ?_
  refine g_isub dS_finding_13 ?_
  refine g_iret dS_finding_14 rfl rfl ?_
  exact ⟨rfl, rfl⟩

set_option maxRecDepth 4000 in
theorem cS_canBeSet {l : Launch} {g : GG} {w : Wd} {x v : Int32} : Res l g S_canBeSet [.int x, .int v] w (Is (some (.int (bI (canSetP x v)))) w) := by
  refine Res.of (by decide) (by simp [Value.category]) (Nat.le_of_ble_eq_true rfl) rfl ?_
  show Go l g S_canBeSet 0 [some (.int x), some (.int v)] [] w _
  refine g_iload_n dS_canBeSet_0 rfl ?_
  refine g_split (0) (fun z0 => ?_) (fun z0 => ?_)
  · refine g_tabIn dS_canBeSet_1 (by decide) (by decide) rfl rfl ?_
    refine g_iload_n dS_canBeSet_32 rfl ?_
    refine gS1 dS_canBeSet_33 kS_canBeSet_89 cS_isCell (Nat.le_of_ble_eq_true rfl) ?_
    refine g_iret dS_canBeSet_36 rfl (by first | rfl | exact bI_n) ?_
    exact ⟨by grind [bI], rfl⟩
  refine g_split (1) (fun z1 => ?_) (fun z1 => ?_)
  · refine g_tabIn dS_canBeSet_1 (by decide) (by decide) rfl rfl ?_
    refine g_iload_n dS_canBeSet_32 rfl ?_
    refine gS1 dS_canBeSet_33 kS_canBeSet_89 cS_isCell (Nat.le_of_ble_eq_true rfl) ?_
    refine g_iret dS_canBeSet_36 rfl (by first | rfl | exact bI_n) ?_
    exact ⟨by grind [bI], rfl⟩
  refine g_split (2) (fun z2 => ?_) (fun z2 => ?_)
  · refine g_tabIn dS_canBeSet_1 (by decide) (by decide) rfl rfl ?_
    refine g_iload_n dS_canBeSet_37 rfl ?_
    refine gS1 dS_canBeSet_38 kS_canBeSet_89 cS_isCell (Nat.le_of_ble_eq_true rfl) ?_
    refine g_if_ne dS_canBeSet_41 rfl (fun h41 => ?_) (fun h41 => ?_)
    · have h41 := Classical.not_not.mp (fun z => h41 (bI_0.mpr z))
      refine g_iconst (v := 1) dS_canBeSet_49 (by decide) ?_
      refine g_goto dS_canBeSet_50 rfl ?_
      refine g_iret dS_canBeSet_54 rfl (by first | rfl | exact bI_n) ?_
      exact ⟨by grind [bI], rfl⟩
    · have h41 := bI_0.mp h41
      refine g_iload_n dS_canBeSet_44 rfl ?_
      refine g_iconst (v := (-1)) dS_canBeSet_45 (by decide) ?_
      refine g_icmp_ne dS_canBeSet_46 rfl (fun h46 => ?_) (fun h46 => ?_)
      · refine g_iconst (v := 0) dS_canBeSet_53 (by decide) ?_
        refine g_iret dS_canBeSet_54 rfl (by first | rfl | exact bI_n) ?_
        exact ⟨by grind [bI], rfl⟩
      · refine g_iconst (v := 1) dS_canBeSet_49 (by decide) ?_
        refine g_goto dS_canBeSet_50 rfl ?_
        refine g_iret dS_canBeSet_54 rfl (by first | rfl | exact bI_n) ?_
        exact ⟨by grind [bI], rfl⟩
  refine g_split (3) (fun z3 => ?_) (fun z3 => ?_)
  · refine g_tabIn dS_canBeSet_1 (by decide) (by decide) rfl rfl ?_
    refine g_iload_n dS_canBeSet_55 rfl ?_
    refine g_iconst (v := 0) dS_canBeSet_56 (by decide) ?_
    refine g_iconst (v := 5) dS_canBeSet_57 (by decide) ?_
    refine gS3 dS_canBeSet_58 kS_canBeSet_81 cS_isWithin (Nat.le_of_ble_eq_true rfl) ?_
    refine g_iret dS_canBeSet_61 rfl (by first | rfl | exact bI_n) ?_
    exact ⟨by grind [bI], rfl⟩
  refine g_tabOut dS_canBeSet_1 (by have q0 := lv_neT z0 (a := 0) rfl; have q1 := lv_neT z1 (a := 1) rfl; have q2 := lv_neT z2 (a := 2) rfl; have q3 := lv_neT z3 (a := 3) rfl; omega) rfl ?_
  refine g_iconst (v := 0) dS_canBeSet_62 (by decide) ?_
  refine g_iret dS_canBeSet_63 rfl (by first | rfl | exact bI_n) ?_
  exact ⟨by grind [bI], rfl⟩

set_option maxRecDepth 4000 in
theorem cS_canBeChanged {l : Launch} {g : GG} {w : Wd} {x v : Int32} : Res l g S_canBeChanged [.int x, .int v] w (Is (some (.int (bI (canChP x v)))) w) := by
  refine Res.of (by decide) (by simp [Value.category]) (Nat.le_of_ble_eq_true rfl) rfl ?_
  show Go l g S_canBeChanged 0 [some (.int x), some (.int v)] [] w _
  refine g_iload_n dS_canBeChanged_0 rfl ?_
  refine g_split (0) (fun z0 => ?_) (fun z0 => ?_)
  · refine g_tabIn dS_canBeChanged_1 (by decide) (by decide) rfl rfl ?_
    refine g_iload_n dS_canBeChanged_36 rfl ?_
    refine gS1 dS_canBeChanged_37 kS_canBeChanged_85 cS_isKind (Nat.le_of_ble_eq_true rfl) ?_
    refine g_iret dS_canBeChanged_40 rfl (by first | rfl | exact bI_n) ?_
    exact ⟨by grind [bI], rfl⟩
  refine g_split (1) (fun z1 => ?_) (fun z1 => ?_)
  · refine g_tabIn dS_canBeChanged_1 (by decide) (by decide) rfl rfl ?_
    refine g_iload_n dS_canBeChanged_41 rfl ?_
    refine gS1 dS_canBeChanged_42 kS_canBeChanged_89 cS_isCell (Nat.le_of_ble_eq_true rfl) ?_
    refine g_iret dS_canBeChanged_45 rfl (by first | rfl | exact bI_n) ?_
    exact ⟨by grind [bI], rfl⟩
  refine g_split (2) (fun z2 => ?_) (fun z2 => ?_)
  · refine g_tabIn dS_canBeChanged_1 (by decide) (by decide) rfl rfl ?_
    refine g_iload_n dS_canBeChanged_46 rfl ?_
    refine g_iconst (v := 0) dS_canBeChanged_47 (by decide) ?_
    refine g_bipush (v := 99) dS_canBeChanged_48 (by decide) ?_
    refine gS3 dS_canBeChanged_50 kS_canBeChanged_81 cS_isWithin (Nat.le_of_ble_eq_true rfl) ?_
    refine g_iret dS_canBeChanged_53 rfl (by first | rfl | exact bI_n) ?_
    exact ⟨by grind [bI], rfl⟩
  refine g_split (3) (fun z3 => ?_) (fun z3 => ?_)
  · refine g_tabIn dS_canBeChanged_1 (by decide) (by decide) rfl rfl ?_
    refine g_iload_n dS_canBeChanged_54 rfl ?_
    refine g_iconst (v := 0) dS_canBeChanged_55 (by decide) ?_
    refine g_sipush (v := 9999) dS_canBeChanged_56 (by decide) ?_
    refine gS3 dS_canBeChanged_59 kS_canBeChanged_81 cS_isWithin (Nat.le_of_ble_eq_true rfl) ?_
    refine g_iret dS_canBeChanged_62 rfl (by first | rfl | exact bI_n) ?_
    exact ⟨by grind [bI], rfl⟩
  refine g_split (4) (fun z4 => ?_) (fun z4 => ?_)
  · refine g_tabIn dS_canBeChanged_1 (by decide) (by decide) rfl rfl ?_
    refine g_iload_n dS_canBeChanged_63 rfl ?_
    refine g_iconst (v := 0) dS_canBeChanged_64 (by decide) ?_
    refine g_sipush (v := 9999) dS_canBeChanged_65 (by decide) ?_
    refine gS3 dS_canBeChanged_68 kS_canBeChanged_81 cS_isWithin (Nat.le_of_ble_eq_true rfl) ?_
    refine g_iret dS_canBeChanged_71 rfl (by first | rfl | exact bI_n) ?_
    exact ⟨by grind [bI], rfl⟩
  refine g_tabOut dS_canBeChanged_1 (by have q0 := lv_neT z0 (a := 0) rfl; have q1 := lv_neT z1 (a := 1) rfl; have q2 := lv_neT z2 (a := 2) rfl; have q3 := lv_neT z3 (a := 3) rfl; have q4 := lv_neT z4 (a := 4) rfl; omega) rfl ?_
  refine g_iconst (v := 0) dS_canBeChanged_72 (by decide) ?_
  refine g_iret dS_canBeChanged_73 rfl (by first | rfl | exact bI_n) ?_
  exact ⟨by grind [bI], rfl⟩

theorem cH_hasW {l : Launch} {g : GG} {w : Wd} {s : Int32} : Res l g H_has [.ref (g.1 1), .int s] w (Is (some (.int (bI (hasP w s)))) w) := toRO (cH_has isH1)

set_option maxRecDepth 4000 in
theorem cS_set {l : Launch} {g : GG} {w : Wd} {n : Nat} (hn : w 1 6 = nI n) (h8 : n ≤ 8) {x v : Int32} : Res l g S_set [.ref (g.1 0), .int x, .int v] w (IsP (setC x v w)) := by
  refine Res.of (by decide) (by simp [Value.category]) (Nat.le_of_ble_eq_true rfl) rfl ?_
  show Go l g S_set 0 [some (.ref (g.1 0)), some (.int x), some (.int v), none] [] w _
  refine g_iload_n dS_set_0 rfl ?_
  refine g_iload_n dS_set_1 rfl ?_
  refine gS2 dS_set_2 kS_set_57 cS_canBeSet (Nat.le_of_ble_eq_true rfl) ?_
  refine g_if_ne dS_set_5 rfl (fun h5 => ?_) (fun h5 => ?_)
  · have h5 := Classical.not_not.mp (fun z => h5 (bI_0.mpr z))
    refine g_aload_n dS_set_14 rfl ?_
    refine g_getR2 (k2 := 1) dS_set_15 fS_12 rfl rfl (by decide) rfl ?_
    refine g_iload_n dS_set_18 rfl ?_
    refine gV1 dS_set_19 kS_set_65 rfl rfl (toRO (cH_feature isH1)) (Nat.le_of_ble_eq_true rfl) ?_
    refine g_istore_n dS_set_22 (by decide) rfl rfl ?_
    dsimp only [List.set]
    refine g_iload_n dS_set_23 rfl ?_
    refine g_split (0) (fun z0 => ?_) (fun z0 => ?_)
    · refine g_tabIn dS_set_24 (by decide) (by decide) rfl rfl ?_
      refine g_aload_n dS_set_52 rfl ?_
      refine g_getR2 (k2 := 1) dS_set_53 fS_12 rfl rfl (by decide) rfl ?_
      refine g_iload_n dS_set_56 rfl ?_
      refine g_putI dS_set_57 fS_68 rfl rfl rfl rfl ?_
      rw [up_1S]
      refine g_goto dS_set_60 rfl ?_
      refine g_iload_n dS_set_93 rfl ?_
      refine g_iret dS_set_94 rfl rfl ?_
      refine IsP_of ?_
      simp only [setC, setA, featF]
      grind
    refine g_split (1) (fun z1 => ?_) (fun z1 => ?_)
    · refine g_tabIn dS_set_24 (by decide) (by decide) rfl rfl ?_
      refine g_aload_n dS_set_63 rfl ?_
      refine g_getR2 (k2 := 1) dS_set_64 fS_12 rfl rfl (by decide) rfl ?_
      refine g_iload_n dS_set_67 rfl ?_
      refine gV1v dS_set_68 kS_set_71 rfl rfl (toW (cH_moveKeeper isH1 hn h8)) (Nat.le_of_ble_eq_true rfl) ?_
      refine g_goto dS_set_71 rfl ?_
      refine g_iload_n dS_set_93 rfl ?_
      refine g_iret dS_set_94 rfl rfl ?_
      refine IsP_of ?_
      simp only [setC, setA, featF]
      grind
    refine g_split (2) (fun z2 => ?_) (fun z2 => ?_)
    · refine g_tabIn dS_set_24 (by decide) (by decide) rfl rfl ?_
      refine g_aload_n dS_set_74 rfl ?_
      refine g_getR2 (k2 := 1) dS_set_75 fS_12 rfl rfl (by decide) rfl ?_
      refine g_iload_n dS_set_78 rfl ?_
      refine g_putI dS_set_79 fS_75 rfl rfl rfl rfl ?_
      rw [up_1S]
      refine g_goto dS_set_82 rfl ?_
      refine g_iload_n dS_set_93 rfl ?_
      refine g_iret dS_set_94 rfl rfl ?_
      refine IsP_of ?_
      simp only [setC, setA, featF]
      grind
    refine g_tabOut dS_set_24 (by have q0 := lv_neT z0 (a := 0) rfl; have q1 := lv_neT z1 (a := 1) rfl; have q2 := lv_neT z2 (a := 2) rfl; omega) rfl ?_
    refine g_aload_n dS_set_85 rfl ?_
    refine g_getR2 (k2 := 1) dS_set_86 fS_12 rfl rfl (by decide) rfl ?_
    refine g_iload_n dS_set_89 rfl ?_
    refine g_putI dS_set_90 fS_78 rfl rfl rfl rfl ?_
    rw [up_1S]
    refine g_iload_n dS_set_93 rfl ?_
    refine g_iret dS_set_94 rfl rfl ?_
    refine IsP_of ?_
    simp only [setC, setA, featF]
    grind
  · have h5 := bI_0.mp h5
    refine g_aload_n dS_set_8 rfl ?_
    refine g_iconst (v := 0) dS_set_9 (by decide) ?_
    refine gV1 dS_set_10 kS_set_61 rfl rfl (cS_finding (q := 0) (by decide)) (Nat.le_of_ble_eq_true rfl) ?_
    refine g_iret dS_set_13 rfl rfl ?_
    exact IsP_of (if_neg h5)

set_option maxRecDepth 4000 in
theorem cS_hill {l : Launch} {g : GG} {w : Wd} {x : Int32} : Res l g S_hill [.ref (g.1 0), .int x] w (IsP (hillC x w)) := by
  refine Res.of (by decide) (by simp [Value.category]) (Nat.le_of_ble_eq_true rfl) rfl ?_
  show Go l g S_hill 0 [some (.ref (g.1 0)), some (.int x)] [] w _
  refine g_iload_n dS_hill_0 rfl ?_
  refine g_iconst (v := 0) dS_hill_1 (by decide) ?_
  refine g_iconst (v := 4) dS_hill_2 (by decide) ?_
  refine gS3 dS_hill_3 kS_hill_81 cS_isWithin (Nat.le_of_ble_eq_true rfl) ?_
  refine g_if_ne dS_hill_6 rfl (fun h6 => ?_) (fun h6 => ?_)
  · have h6 := Classical.not_not.mp (fun z => h6 (bI_0.mpr z))
    refine g_aload_n dS_hill_15 rfl ?_
    refine g_getR2 (k2 := 1) dS_hill_16 fS_12 rfl rfl (by decide) rfl ?_
    refine g_iload_n dS_hill_19 rfl ?_
    refine gV1 dS_hill_20 kS_hill_65 rfl rfl (toRO (cH_feature isH1)) (Nat.le_of_ble_eq_true rfl) ?_
    refine g_iret dS_hill_23 rfl rfl ?_
    exact IsP_of (by first | exact if_neg h6 | exact if_pos h6)
  · have h6 := bI_0.mp h6
    refine g_aload_n dS_hill_9 rfl ?_
    refine g_iconst (v := 0) dS_hill_10 (by decide) ?_
    refine gV1 dS_hill_11 kS_hill_61 rfl rfl (cS_finding (q := 0) (by decide)) (Nat.le_of_ble_eq_true rfl) ?_
    refine g_iret dS_hill_14 rfl rfl ?_
    exact IsP_of (by first | exact if_neg h6 | exact if_pos h6)

set_option maxRecDepth 4000 in
theorem cS_sheep {l : Launch} {g : GG} {w : Wd} {n : Nat} (hn : w 1 6 = nI n) (h8 : n ≤ 8) {k c : Int32} : Res l g S_sheep [.ref (g.1 0), .int k, .int c] w (IsP (sheepC n k c w)) := by
  refine Res.of (by decide) (by simp [Value.category]) (Nat.le_of_ble_eq_true rfl) rfl ?_
  show Go l g S_sheep 0 [some (.ref (g.1 0)), some (.int k), some (.int c)] [] w _
  refine g_iload_n dS_sheep_0 rfl ?_
  refine gS1 dS_sheep_1 kS_sheep_85 cS_isKind (Nat.le_of_ble_eq_true rfl) ?_
  refine g_if_eq dS_sheep_4 rfl (fun h4 => ?_) (fun h4 => ?_)
  · have h4 := bI_0.mp h4
    refine g_aload_n dS_sheep_14 rfl ?_
    refine g_iconst (v := 0) dS_sheep_15 (by decide) ?_
    refine gV1 dS_sheep_16 kS_sheep_61 rfl rfl (cS_finding (q := 0) (by decide)) (Nat.le_of_ble_eq_true rfl) ?_
    refine g_iret dS_sheep_19 rfl rfl ?_
    refine IsP_of ?_
    simp only [sheepC]
    grind
  · have h4 := Classical.not_not.mp (fun z => h4 (bI_0.mpr z))
    refine g_iload_n dS_sheep_7 rfl ?_
    refine gS1 dS_sheep_8 kS_sheep_89 cS_isCell (Nat.le_of_ble_eq_true rfl) ?_
    refine g_if_ne dS_sheep_11 rfl (fun h11 => ?_) (fun h11 => ?_)
    · have h11 := Classical.not_not.mp (fun z => h11 (bI_0.mpr z))
      refine g_aload_n dS_sheep_20 rfl ?_
      refine g_getR2 (k2 := 1) dS_sheep_21 fS_12 rfl rfl (by decide) rfl ?_
      refine gV0 dS_sheep_24 kS_sheep_92 rfl rfl (toRO (cH_isFull isH1)) (Nat.le_of_ble_eq_true rfl) ?_
      refine g_if_eq dS_sheep_27 rfl (fun h27 => ?_) (fun h27 => ?_)
      · have h27 := bI_0.mp h27
        rw [show (8 : Int32) = nI 8 from rfl, show (hget w 1).1 6 = nI n from hn, nI_leI (by omega) (by omega)] at h27
        refine g_aload_n dS_sheep_36 rfl ?_
        refine g_getR2 (k2 := 1) dS_sheep_37 fS_12 rfl rfl (by decide) rfl ?_
        refine g_iload_n dS_sheep_40 rfl ?_
        refine g_iload_n dS_sheep_41 rfl ?_
        refine gV2 dS_sheep_42 kS_sheep_96 rfl rfl (toW (cH_add isH1 hn h8)) (Nat.le_of_ble_eq_true rfl) ?_
        rw [if_neg (show ¬ n = 8 by omega), if_neg (show ¬ n = 8 by omega)]
        refine g_iret dS_sheep_45 rfl rfl ?_
        refine IsP_of ?_
        simp only [sheepC]
        grind
      · have h27 := Classical.not_not.mp (fun z => h27 (bI_0.mpr z))
        rw [show (8 : Int32) = nI 8 from rfl, show (hget w 1).1 6 = nI n from hn, nI_leI (by omega) (by omega)] at h27
        refine g_aload_n dS_sheep_30 rfl ?_
        refine g_iconst (v := 1) dS_sheep_31 (by decide) ?_
        refine gV1 dS_sheep_32 kS_sheep_61 rfl rfl (cS_finding (q := 1) (by decide)) (Nat.le_of_ble_eq_true rfl) ?_
        refine g_iret dS_sheep_35 rfl rfl ?_
        refine IsP_of ?_
        simp only [sheepC]
        grind
    · have h11 := bI_0.mp h11
      refine g_aload_n dS_sheep_14 rfl ?_
      refine g_iconst (v := 0) dS_sheep_15 (by decide) ?_
      refine gV1 dS_sheep_16 kS_sheep_61 rfl rfl (cS_finding (q := 0) (by decide)) (Nat.le_of_ble_eq_true rfl) ?_
      refine g_iret dS_sheep_19 rfl rfl ?_
      refine IsP_of ?_
      simp only [sheepC]
      grind

set_option maxRecDepth 4000 in
theorem cS_drop {l : Launch} {g : GG} {w : Wd}  : Res l g S_drop [.ref (g.1 0)] w (IsP (dropC w)) := by
  refine Res.of (by decide) (by simp [Value.category]) (Nat.le_of_ble_eq_true rfl) rfl ?_
  show Go l g S_drop 0 [some (.ref (g.1 0)), none] [] w _
  refine g_aload_n dS_drop_0 rfl ?_
  refine g_getR2 (k2 := 1) dS_drop_1 fS_12 rfl rfl (by decide) rfl ?_
  refine g_getI dS_drop_4 fS_109 rfl rfl ?_
  refine g_iconst (v := (-1)) dS_drop_7 (by decide) ?_
  refine g_icmp_ne dS_drop_8 rfl (fun h8 => ?_) (fun h8 => ?_)
  · refine g_aload_n dS_drop_17 rfl ?_
    refine g_getR2 (k2 := 1) dS_drop_18 fS_12 rfl rfl (by decide) rfl ?_
    refine g_getI dS_drop_21 fS_109 rfl rfl ?_
    refine g_istore_n dS_drop_24 (by decide) rfl rfl ?_
    dsimp only [List.set]
    refine g_aload_n dS_drop_25 rfl ?_
    refine g_getR2 (k2 := 1) dS_drop_26 fS_12 rfl rfl (by decide) rfl ?_
    refine g_iconst (v := (-1)) dS_drop_29 (by decide) ?_
    refine g_putI dS_drop_30 fS_109 rfl rfl rfl rfl ?_
    rw [up_1S]
    refine g_iload_n dS_drop_33 rfl ?_
    refine g_iret dS_drop_34 rfl rfl ?_
    refine IsP_of ?_
    simp only [dropC]
    first | rw [if_pos h8] | rw [if_neg h8]
  · refine g_aload_n dS_drop_11 rfl ?_
    refine g_iconst (v := 3) dS_drop_12 (by decide) ?_
    refine gV1 dS_drop_13 kS_drop_61 rfl rfl (cS_finding (q := 3) (by decide)) (Nat.le_of_ble_eq_true rfl) ?_
    refine g_iret dS_drop_16 rfl rfl ?_
    refine IsP_of ?_
    simp only [dropC]
    first | rw [if_pos h8] | rw [if_neg h8]

set_option maxRecDepth 4000 in
theorem cS_who {l : Launch} {g : GG} {w : Wd} {n : Nat} (hn : w 1 6 = nI n) (h8 : n ≤ 8) {c : Int32} : Res l g S_who [.ref (g.1 0), .int c] w (IsP (whoC n c w)) := by
  refine Res.of (by decide) (by simp [Value.category]) (Nat.le_of_ble_eq_true rfl) rfl ?_
  show Go l g S_who 0 [some (.ref (g.1 0)), some (.int c)] [] w _
  refine g_iload_n dS_who_0 rfl ?_
  refine gS1 dS_who_1 kS_who_89 cS_isCell (Nat.le_of_ble_eq_true rfl) ?_
  refine g_if_ne dS_who_4 rfl (fun h4 => ?_) (fun h4 => ?_)
  · have h4 := Classical.not_not.mp (fun z => h4 (bI_0.mpr z))
    refine g_aload_n dS_who_13 rfl ?_
    refine g_getR2 (k2 := 1) dS_who_14 fS_12 rfl rfl (by decide) rfl ?_
    refine g_iload_n dS_who_17 rfl ?_
    refine gV1 dS_who_18 kS_who_127 rfl rfl (toRO (cH_sheepAt isH1 hn h8)) (Nat.le_of_ble_eq_true rfl) ?_
    refine g_iret dS_who_21 rfl rfl ?_
    refine IsP_of ?_
    simp only [whoC]
    first | (rw [if_pos h4]; rfl) | rw [if_neg h4]
  · have h4 := bI_0.mp h4
    refine g_aload_n dS_who_7 rfl ?_
    refine g_iconst (v := 0) dS_who_8 (by decide) ?_
    refine gV1 dS_who_9 kS_who_61 rfl rfl (cS_finding (q := 0) (by decide)) (Nat.le_of_ble_eq_true rfl) ?_
    refine g_iret dS_who_12 rfl rfl ?_
    refine IsP_of ?_
    simp only [whoC]
    first | (rw [if_pos h4]; rfl) | rw [if_neg h4]

set_option maxRecDepth 4000 in
theorem cS_now {l : Launch} {g : GG} {w : Wd} {n : Nat} (hn : w 1 6 = nI n) (h8 : n ≤ 8) {x : Int32} : Res l g S_now [.ref (g.1 0), .int x] w (IsP (nowC n x w)) := by
  refine Res.of (by decide) (by simp [Value.category]) (Nat.le_of_ble_eq_true rfl) rfl ?_
  show Go l g S_now 0 [some (.ref (g.1 0)), some (.int x)] [] w _
  refine g_iload_n dS_now_0 rfl ?_
  refine g_split (0) (fun z0 => ?_) (fun z0 => ?_)
  · refine g_tabIn dS_now_1 (by decide) (by decide) rfl rfl ?_
    refine g_aload_n dS_now_48 rfl ?_
    refine g_getR2 (k2 := 1) dS_now_49 fS_12 rfl rfl (by decide) rfl ?_
    refine g_getI dS_now_52 fS_130 rfl rfl ?_
    refine g_iret dS_now_55 rfl rfl ?_
    refine IsP_of ?_
    simp only [nowC, *]
    rfl
  refine g_split (1) (fun z1 => ?_) (fun z1 => ?_)
  · refine g_tabIn dS_now_1 (by decide) (by decide) rfl rfl ?_
    refine g_aload_n dS_now_56 rfl ?_
    refine g_getR2 (k2 := 1) dS_now_57 fS_12 rfl rfl (by decide) rfl ?_
    refine gV0 dS_now_60 kS_now_141 rfl rfl (toRO (cH_farSheep isH1 hn h8)) (Nat.le_of_ble_eq_true rfl) ?_
    refine g_iret dS_now_63 rfl rfl ?_
    refine IsP_of ?_
    simp only [nowC, *]
    rfl
  refine g_split (2) (fun z2 => ?_) (fun z2 => ?_)
  · refine g_tabIn dS_now_1 (by decide) (by decide) rfl rfl ?_
    refine g_aload_n dS_now_64 rfl ?_
    refine g_getR2 (k2 := 1) dS_now_65 fS_12 rfl rfl (by decide) rfl ?_
    refine g_aload_n dS_now_68 rfl ?_
    refine g_getR2 (k2 := 1) dS_now_69 fS_12 rfl rfl (by decide) rfl ?_
    refine g_getR2 (k2 := 4) dS_now_72 fS_118 rfl rfl (by decide) rfl ?_
    refine gV1 dS_now_75 kS_now_137 rfl rfl (toRO (cH_total isH1 hn h8 (c := 3) (by decide) (by decide))) (Nat.le_of_ble_eq_true rfl) ?_
    refine g_iret dS_now_78 rfl rfl ?_
    refine IsP_of ?_
    simp only [nowC, *]
    rfl
  refine g_split (3) (fun z3 => ?_) (fun z3 => ?_)
  · refine g_tabIn dS_now_1 (by decide) (by decide) rfl rfl ?_
    refine g_aload_n dS_now_79 rfl ?_
    refine g_getR2 (k2 := 1) dS_now_80 fS_12 rfl rfl (by decide) rfl ?_
    refine g_aload_n dS_now_83 rfl ?_
    refine g_getR2 (k2 := 1) dS_now_84 fS_12 rfl rfl (by decide) rfl ?_
    refine g_getR2 (k2 := 6) dS_now_87 fS_124 rfl rfl (by decide) rfl ?_
    refine gV1 dS_now_90 kS_now_137 rfl rfl (toRO (cH_total isH1 hn h8 (c := 5) (by decide) (by decide))) (Nat.le_of_ble_eq_true rfl) ?_
    refine g_iret dS_now_93 rfl rfl ?_
    refine IsP_of ?_
    simp only [nowC, *]
    rfl
  refine g_split (4) (fun z4 => ?_) (fun z4 => ?_)
  · refine g_tabIn dS_now_1 (by decide) (by decide) rfl rfl ?_
    refine g_aload_n dS_now_94 rfl ?_
    refine g_getR2 (k2 := 1) dS_now_95 fS_12 rfl rfl (by decide) rfl ?_
    refine g_aload_n dS_now_98 rfl ?_
    refine g_getR2 (k2 := 1) dS_now_99 fS_12 rfl rfl (by decide) rfl ?_
    refine g_getR2 (k2 := 5) dS_now_102 fS_121 rfl rfl (by decide) rfl ?_
    refine gV1 dS_now_105 kS_now_137 rfl rfl (toRO (cH_total isH1 hn h8 (c := 4) (by decide) (by decide))) (Nat.le_of_ble_eq_true rfl) ?_
    refine g_iret dS_now_108 rfl rfl ?_
    refine IsP_of ?_
    simp only [nowC, *]
    rfl
  refine g_split (5) (fun z5 => ?_) (fun z5 => ?_)
  · refine g_tabIn dS_now_1 (by decide) (by decide) rfl rfl ?_
    refine g_aload_n dS_now_109 rfl ?_
    refine g_getR2 (k2 := 1) dS_now_110 fS_12 rfl rfl (by decide) rfl ?_
    refine gV0 dS_now_113 kS_now_145 rfl rfl (toRO (cH_sought isH1 hn h8)) (Nat.le_of_ble_eq_true rfl) ?_
    refine g_iret dS_now_116 rfl rfl ?_
    refine IsP_of ?_
    simp only [nowC, *]
    rfl
  refine g_split (6) (fun z6 => ?_) (fun z6 => ?_)
  · refine g_tabIn dS_now_1 (by decide) (by decide) rfl rfl ?_
    refine g_aload_n dS_now_117 rfl ?_
    refine g_getR2 (k2 := 1) dS_now_118 fS_12 rfl rfl (by decide) rfl ?_
    refine g_aload_n dS_now_121 rfl ?_
    refine g_getR2 (k2 := 1) dS_now_122 fS_12 rfl rfl (by decide) rfl ?_
    refine g_getI dS_now_125 fS_68 rfl rfl ?_
    refine gV1 dS_now_128 kS_now_127 rfl rfl (toRO (cH_sheepAt isH1 hn h8)) (Nat.le_of_ble_eq_true rfl) ?_
    refine g_iret dS_now_131 rfl rfl ?_
    refine IsP_of ?_
    simp only [nowC, *]
    rfl
  refine g_split (7) (fun z7 => ?_) (fun z7 => ?_)
  · refine g_tabIn dS_now_1 (by decide) (by decide) rfl rfl ?_
    refine g_aload_n dS_now_132 rfl ?_
    refine g_getR2 (k2 := 1) dS_now_133 fS_12 rfl rfl (by decide) rfl ?_
    refine gV0 dS_now_136 kS_now_148 rfl rfl (toRO (cH_mostAfraid isH1 hn h8)) (Nat.le_of_ble_eq_true rfl) ?_
    refine g_iret dS_now_139 rfl rfl ?_
    refine IsP_of ?_
    simp only [nowC, *]
    rfl
  refine g_tabOut dS_now_1 (by have q0 := lv_neT z0 (a := 0) rfl; have q1 := lv_neT z1 (a := 1) rfl; have q2 := lv_neT z2 (a := 2) rfl; have q3 := lv_neT z3 (a := 3) rfl; have q4 := lv_neT z4 (a := 4) rfl; have q5 := lv_neT z5 (a := 5) rfl; have q6 := lv_neT z6 (a := 6) rfl; have q7 := lv_neT z7 (a := 7) rfl; omega) rfl ?_
  refine g_aload_n dS_now_140 rfl ?_
  refine g_iconst (v := 0) dS_now_141 (by decide) ?_
  refine gV1 dS_now_142 kS_now_61 rfl rfl (cS_finding (q := 0) (by decide)) (Nat.le_of_ble_eq_true rfl) ?_
  refine g_iret dS_now_145 rfl rfl ?_
  refine IsP_of ?_
  simp only [nowC, if_neg z0, if_neg z1, if_neg z2, if_neg z3, if_neg z4, if_neg z5, if_neg z6, if_neg z7]

set_option maxRecDepth 4000 in
theorem lS_spots {l : Launch} {g : GG} {w : Wd} : ∀ (m : Nat) (i : Nat), 10 - i < m → i ≤ 10 → Go l g S_spotsInUse 4 [some (.ref (g.1 0)), some (.int (useF (w 19) i)), some (.int (nI i))] [] w (Is (some (.int (useF (w 19) 10))) w) := by
  intro m
  induction m with
  | zero => intro i hm hi; omega
  | succ m ih =>
    intro i hm hi
    refine g_iload_n dS_spotsInUse_4 rfl ?_
    refine g_bipush (v := 10) dS_spotsInUse_5 (by decide) ?_
    refine g_icmp_ge dS_spotsInUse_7 rfl (fun h7 => ?_) (fun h7 => ?_)
    · rw [show (10 : Int32) = nI 10 from rfl, nI_leI (by omega) (by omega)] at h7
      refine g_iload_n dS_spotsInUse_29 rfl ?_
      refine g_iret dS_spotsInUse_30 rfl rfl ?_
      exact ⟨by rw [show i = 10 by omega], rfl⟩
    · rw [show (10 : Int32) = nI 10 from rfl, nI_leI (by omega) (by omega)] at h7
      refine g_aload_n dS_spotsInUse_10 rfl ?_
      refine g_getR2 (k2 := 19) dS_spotsInUse_11 fS_26 rfl rfl (by decide) rfl ?_
      refine g_iload_n dS_spotsInUse_14 rfl ?_
      refine g_ialdN dS_spotsInUse_15 rfl (by omega) (by decide) ?_
      refine g_iconst (v := (-1)) dS_spotsInUse_16 (by decide) ?_
      refine g_icmp_eq dS_spotsInUse_17 rfl (fun h17 => ?_) (fun h17 => ?_)
      · rw [show useF (w 19) i = useF (w 19) (i + 1) from (if_pos h17).symm]
        refine g_iinc (v := nI (i + 1)) dS_spotsInUse_23 rfl (nI_succ i).symm (by decide) rfl rfl ?_
        dsimp only [List.set]
        refine g_goto dS_spotsInUse_26 rfl ?_
        exact ih (i + 1) (by omega) (by omega)
      · refine g_iinc (v := useF (w 19) (i + 1)) dS_spotsInUse_20 rfl (if_neg h17).symm (by decide) rfl rfl ?_
        dsimp only [List.set]
        refine g_iinc (v := nI (i + 1)) dS_spotsInUse_23 rfl (nI_succ i).symm (by decide) rfl rfl ?_
        dsimp only [List.set]
        refine g_goto dS_spotsInUse_26 rfl ?_
        exact ih (i + 1) (by omega) (by omega)

set_option maxRecDepth 4000 in
theorem cS_spotsInUse {l : Launch} {g : GG} {w : Wd} : Res l g S_spotsInUse [.ref (g.1 0)] w (Is (some (.int (useF (w 19) 10))) w) := by
  refine Res.of (by decide) (by simp [Value.category]) (Nat.le_of_ble_eq_true rfl) rfl ?_
  show Go l g S_spotsInUse 0 [some (.ref (g.1 0)), none, none] [] w _
  refine g_iconst (v := 0) dS_spotsInUse_0 (by decide) ?_
  refine g_istore_n dS_spotsInUse_1 (by decide) rfl rfl ?_
  dsimp only [List.set]
  refine g_iconst (v := 0) dS_spotsInUse_2 (by decide) ?_
  refine g_istore_n dS_spotsInUse_3 (by decide) rfl rfl ?_
  dsimp only [List.set]
  exact lS_spots 11 0 (by omega) (by omega)

set_option maxRecDepth 4000 in
theorem cS_count {l : Launch} {g : GG} {w : Wd} {n : Nat} (hn : w 1 6 = nI n) (h8 : n ≤ 8) {x : Int32} : Res l g S_count [.ref (g.1 0), .int x] w (IsP (countC n x w)) := by
  refine Res.of (by decide) (by simp [Value.category]) (Nat.le_of_ble_eq_true rfl) rfl ?_
  show Go l g S_count 0 [some (.ref (g.1 0)), some (.int x)] [] w _
  refine g_iload_n dS_count_0 rfl ?_
  refine g_split (0) (fun z0 => ?_) (fun z0 => ?_)
  · refine g_tabIn dS_count_1 (by decide) (by decide) rfl rfl ?_
    refine g_aload_n dS_count_48 rfl ?_
    refine g_getR2 (k2 := 1) dS_count_49 fS_12 rfl rfl (by decide) rfl ?_
    refine g_getI dS_count_52 fS_130 rfl rfl ?_
    refine g_iret dS_count_55 rfl rfl ?_
    refine IsP_of ?_
    simp only [countC, *]
    rfl
  refine g_split (1) (fun z1 => ?_) (fun z1 => ?_)
  · refine g_tabIn dS_count_1 (by decide) (by decide) rfl rfl ?_
    refine g_aload_n dS_count_56 rfl ?_
    refine g_getR2 (k2 := 1) dS_count_57 fS_12 rfl rfl (by decide) rfl ?_
    refine g_getI dS_count_60 fS_166 rfl rfl ?_
    refine g_iret dS_count_63 rfl rfl ?_
    refine IsP_of ?_
    simp only [countC, *]
    rfl
  refine g_split (2) (fun z2 => ?_) (fun z2 => ?_)
  · refine g_tabIn dS_count_1 (by decide) (by decide) rfl rfl ?_
    refine g_aload_n dS_count_64 rfl ?_
    refine g_getR2 (k2 := 1) dS_count_65 fS_12 rfl rfl (by decide) rfl ?_
    refine g_aload_n dS_count_68 rfl ?_
    refine g_getR2 (k2 := 1) dS_count_69 fS_12 rfl rfl (by decide) rfl ?_
    refine g_getR2 (k2 := 4) dS_count_72 fS_118 rfl rfl (by decide) rfl ?_
    refine gV1 dS_count_75 kS_count_137 rfl rfl (toRO (cH_total isH1 hn h8 (c := 3) (by decide) (by decide))) (Nat.le_of_ble_eq_true rfl) ?_
    refine g_iret dS_count_78 rfl rfl ?_
    refine IsP_of ?_
    simp only [countC, *]
    rfl
  refine g_split (3) (fun z3 => ?_) (fun z3 => ?_)
  · refine g_tabIn dS_count_1 (by decide) (by decide) rfl rfl ?_
    refine g_aload_n dS_count_79 rfl ?_
    refine g_getR2 (k2 := 1) dS_count_80 fS_12 rfl rfl (by decide) rfl ?_
    refine g_aload_n dS_count_83 rfl ?_
    refine g_getR2 (k2 := 1) dS_count_84 fS_12 rfl rfl (by decide) rfl ?_
    refine g_getR2 (k2 := 6) dS_count_87 fS_124 rfl rfl (by decide) rfl ?_
    refine gV1 dS_count_90 kS_count_137 rfl rfl (toRO (cH_total isH1 hn h8 (c := 5) (by decide) (by decide))) (Nat.le_of_ble_eq_true rfl) ?_
    refine g_iret dS_count_93 rfl rfl ?_
    refine IsP_of ?_
    simp only [countC, *]
    rfl
  refine g_split (4) (fun z4 => ?_) (fun z4 => ?_)
  · refine g_tabIn dS_count_1 (by decide) (by decide) rfl rfl ?_
    refine g_aload_n dS_count_94 rfl ?_
    refine g_getR2 (k2 := 1) dS_count_95 fS_12 rfl rfl (by decide) rfl ?_
    refine g_aload_n dS_count_98 rfl ?_
    refine g_getR2 (k2 := 1) dS_count_99 fS_12 rfl rfl (by decide) rfl ?_
    refine g_getR2 (k2 := 5) dS_count_102 fS_121 rfl rfl (by decide) rfl ?_
    refine gV1 dS_count_105 kS_count_137 rfl rfl (toRO (cH_total isH1 hn h8 (c := 4) (by decide) (by decide))) (Nat.le_of_ble_eq_true rfl) ?_
    refine g_iret dS_count_108 rfl rfl ?_
    refine IsP_of ?_
    simp only [countC, *]
    rfl
  refine g_split (5) (fun z5 => ?_) (fun z5 => ?_)
  · refine g_tabIn dS_count_1 (by decide) (by decide) rfl rfl ?_
    refine g_aload_n dS_count_109 rfl ?_
    refine g_getR2 (k2 := 21) dS_count_110 fS_43 rfl rfl (by decide) rfl ?_
    refine g_getI dS_count_113 fS_207 rfl rfl ?_
    refine g_iret dS_count_116 rfl rfl ?_
    refine IsP_of ?_
    simp only [countC, *]
    rfl
  refine g_split (6) (fun z6 => ?_) (fun z6 => ?_)
  · refine g_tabIn dS_count_1 (by decide) (by decide) rfl rfl ?_
    refine g_aload_n dS_count_117 rfl ?_
    refine g_getI dS_count_118 fS_33 rfl rfl ?_
    refine g_iret dS_count_121 rfl rfl ?_
    refine IsP_of ?_
    simp only [countC, *]
    rfl
  refine g_split (7) (fun z7 => ?_) (fun z7 => ?_)
  · refine g_tabIn dS_count_1 (by decide) (by decide) rfl rfl ?_
    refine g_aload_n dS_count_122 rfl ?_
    refine gV0 dS_count_123 kS_count_243 rfl rfl cS_spotsInUse (Nat.le_of_ble_eq_true rfl) ?_
    refine g_iret dS_count_126 rfl rfl ?_
    refine IsP_of ?_
    simp only [countC, *]
    rfl
  refine g_tabOut dS_count_1 (by have q0 := lv_neT z0 (a := 0) rfl; have q1 := lv_neT z1 (a := 1) rfl; have q2 := lv_neT z2 (a := 2) rfl; have q3 := lv_neT z3 (a := 3) rfl; have q4 := lv_neT z4 (a := 4) rfl; have q5 := lv_neT z5 (a := 5) rfl; have q6 := lv_neT z6 (a := 6) rfl; have q7 := lv_neT z7 (a := 7) rfl; omega) rfl ?_
  refine g_aload_n dS_count_127 rfl ?_
  refine g_iconst (v := 0) dS_count_128 (by decide) ?_
  refine gV1 dS_count_129 kS_count_61 rfl rfl (cS_finding (q := 0) (by decide)) (Nat.le_of_ble_eq_true rfl) ?_
  refine g_iret dS_count_132 rfl rfl ?_
  refine IsP_of ?_
  simp only [countC, if_neg z0, if_neg z1, if_neg z2, if_neg z3, if_neg z4, if_neg z5, if_neg z6, if_neg z7]

set_option maxRecDepth 4000 in
theorem cS_seed {l : Launch} {g : GG} {w : Wd} {v : Int32} : Res l g S_seed [.ref (g.1 0), .int v] w (IsP (seedC v w)) := by
  refine Res.of (by decide) (by simp [Value.category]) (Nat.le_of_ble_eq_true rfl) rfl ?_
  show Go l g S_seed 0 [some (.ref (g.1 0)), some (.int v), none] [] w _
  refine g_aload_n dS_seed_0 rfl ?_
  refine g_getI dS_seed_1 fS_33 rfl rfl ?_
  refine g_istore_n dS_seed_4 (by decide) rfl rfl ?_
  dsimp only [List.set]
  refine g_aload_n dS_seed_5 rfl ?_
  refine g_iload_n dS_seed_6 rfl ?_
  refine g_putI dS_seed_7 fS_33 rfl rfl rfl rfl ?_
  refine g_iload_n dS_seed_10 rfl ?_
  refine g_iret dS_seed_11 rfl rfl ?_
  exact ⟨rfl, rfl⟩

set_option maxRecDepth 4000 in
theorem cS_wipe {l : Launch} {g : GG} {w : Wd}  : Res l g S_wipe [.ref (g.1 0)] w (IsP (wipeC w)) := by
  refine Res.of (by decide) (by simp [Value.category]) (Nat.le_of_ble_eq_true rfl) rfl ?_
  show Go l g S_wipe 0 [some (.ref (g.1 0)), none] [] w _
  refine g_aload_n dS_wipe_0 rfl ?_
  refine g_getR2 (k2 := 21) dS_wipe_1 fS_43 rfl rfl (by decide) rfl ?_
  refine g_getI dS_wipe_4 fS_207 rfl rfl ?_
  refine g_istore_n dS_wipe_7 (by decide) rfl rfl ?_
  dsimp only [List.set]
  refine g_aload_n dS_wipe_8 rfl ?_
  refine g_getR2 (k2 := 21) dS_wipe_9 fS_43 rfl rfl (by decide) rfl ?_
  refine g_iconst (v := 0) dS_wipe_12 (by decide) ?_
  refine g_putI dS_wipe_13 fS_207 rfl rfl rfl rfl ?_
  refine g_iload_n dS_wipe_16 rfl ?_
  refine g_iret dS_wipe_17 rfl rfl ?_
  exact ⟨rfl, rfl⟩

set_option maxRecDepth 4000 in
theorem cS_tear {l : Launch} {g : GG} {w : Wd}  : Res l g S_tear [.ref (g.1 0)] w (IsP (tearC w)) := by
  refine Res.of (by decide) (by simp [Value.category]) (Nat.le_of_ble_eq_true rfl) rfl ?_
  show Go l g S_tear 0 [some (.ref (g.1 0)), none] [] w _
  refine g_aload_n dS_tear_0 rfl ?_
  refine g_getI dS_tear_1 fS_22 rfl rfl ?_
  refine g_if_eq dS_tear_4 rfl (fun h4 => ?_) (fun h4 => ?_)
  · refine g_iconst (v := 0) dS_tear_11 (by decide) ?_
    refine g_istore_n dS_tear_12 (by decide) rfl rfl ?_
    dsimp only [List.set]
    refine g_aload_n dS_tear_13 rfl ?_
    refine g_iconst (v := 0) dS_tear_14 (by decide) ?_
    refine g_putI dS_tear_15 fS_22 rfl rfl rfl rfl ?_
    refine g_iload_n dS_tear_18 rfl ?_
    refine g_iret dS_tear_19 rfl rfl ?_
    refine IsP_of ?_
    simp only [tearC]
    first | rw [if_pos h4] | rw [if_neg h4]
  · refine g_iconst (v := 1) dS_tear_7 (by decide) ?_
    refine g_goto dS_tear_8 rfl ?_
    refine g_istore_n dS_tear_12 (by decide) rfl rfl ?_
    dsimp only [List.set]
    refine g_aload_n dS_tear_13 rfl ?_
    refine g_iconst (v := 0) dS_tear_14 (by decide) ?_
    refine g_putI dS_tear_15 fS_22 rfl rfl rfl rfl ?_
    refine g_iload_n dS_tear_18 rfl ?_
    refine g_iret dS_tear_19 rfl rfl ?_
    refine IsP_of ?_
    simp only [tearC]
    first | rw [if_pos h4] | rw [if_neg h4]
