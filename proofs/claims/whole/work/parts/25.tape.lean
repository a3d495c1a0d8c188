abbrev TT : Type := Nat × Nat × Int32
def tw (T : TT) (w : Wd) : Wd := up (up (up w 21 2 (nI T.1)) 21 3 (nI T.2.1)) 21 4 T.2.2
abbrev tz (A : HA) (T : TT) (w : Wd) : Wd := hput 7 A (tw T w)
theorem tz_21 (A : HA) (T : TT) (w : Wd) : tz A T w 21 = upd (upd (upd (w 21) 2 (nI T.1)) 3 (nI T.2.1)) 4 T.2.2 := by
  show hput 7 A (tw T w) 21 = _
  rw [hput_out (h := 7) (k := 21) A _ (by decide)]
  unfold tw
  rw [up_same, up_same, up_same]
theorem tz_22 (A : HA) (T : TT) (w : Wd) : tz A T w 22 = w 22 := by
  show hput 7 A (tw T w) 22 = _
  rw [hput_out (h := 7) (k := 22) A _ (by decide)]
  unfold tw
  rw [up_other _ _ _ _ (by decide), up_other _ _ _ _ (by decide), up_other _ _ _ _ (by decide)]
theorem up_hput7 {B : HA} {w : Wd} {k j : Nat} {v : Int32} (hk : k < 7 ∨ 13 ≤ k) : up (hput 7 B w) k j v = hput 7 B (up w k j v) := by
  funext k'
  by_cases h : k' = k
  · subst h; rw [up_same, hput_out _ _ (by omega), hput_out _ _ (by omega), up_same]
  · rw [up_other _ _ _ _ h]; exact hput_cg B (up_other _ _ _ _ h).symm
theorem tw_21 (T : TT) (w : Wd) : tw T w 21 = upd (upd (upd (w 21) 2 (nI T.1)) 3 (nI T.2.1)) 4 T.2.2 := by
  unfold tw
  rw [up_same, up_same, up_same]
theorem tw_o {T : TT} {w : Wd} {k : Nat} (h : k ≠ 21) : tw T w k = w k := by
  unfold tw
  rw [up_other _ _ _ _ h, up_other _ _ _ _ h, up_other _ _ _ _ h]
theorem tw_P (T : TT) (w : Wd) (p : Nat) : up (tw T w) 21 2 (nI p) = tw (p, T.2) w := by
  funext k
  by_cases h : k = 21
  · subst h
    rw [up_same, tw_21, tw_21]
    funext j
    show (if j = 2 then nI p else if j = 4 then T.2.2 else if j = 3 then nI T.2.1 else if j = 2 then nI T.1 else w 21 j) = (if j = 4 then T.2.2 else if j = 3 then nI T.2.1 else if j = 2 then nI p else w 21 j)
    repeat' split
    all_goals first | rfl | omega
  · rw [up_other _ _ _ _ h, tw_o h, tw_o h]
theorem tw_B (T : TT) (w : Wd) (b : Nat) : up (tw T w) 21 3 (nI b) = tw (T.1, b, T.2.2) w := by
  funext k
  by_cases h : k = 21
  · subst h
    rw [up_same, tw_21, tw_21]
    funext j
    show (if j = 3 then nI b else if j = 4 then T.2.2 else if j = 3 then nI T.2.1 else if j = 2 then nI T.1 else w 21 j) = (if j = 4 then T.2.2 else if j = 3 then nI b else if j = 2 then nI T.1 else w 21 j)
    repeat' split
    all_goals first | rfl | omega
  · rw [up_other _ _ _ _ h, tw_o h, tw_o h]
theorem tw_K (T : TT) (w : Wd) (x : Int32) : up (tw T w) 21 4 x = tw (T.1, T.2.1, x) w := by
  funext k
  by_cases h : k = 21
  · subst h
    rw [up_same, tw_21, tw_21]
    funext j
    show (if j = 4 then x else if j = 4 then T.2.2 else if j = 3 then nI T.2.1 else if j = 2 then nI T.1 else w 21 j) = (if j = 4 then x else if j = 3 then nI T.2.1 else if j = 2 then nI T.1 else w 21 j)
    repeat' split
    all_goals first | rfl | omega
  · rw [up_other _ _ _ _ h, tw_o h, tw_o h]
section TR
variable {l : Launch} {g : GG} {M : MM} {pc n : Nat} {lv : List (Option Value)} {st : List Value} {w : Wd} {A : HA} {T : TT} {Q : Option Value → Wd → Prop}
theorem g_tL {idx : Nat} {ty : FieldType} {fin : Bool} (hd : Dc M pc (.getfield idx) 3 n) (hf : Fk M.1.cls idx 3 1 ty fin) (kk : Go l g M n lv (.int (w 21 1) :: st) (tz A T w) Q) : Go l g M pc lv (.ref (g.1 21) :: st) (tz A T w) Q := g_getI hd hf rfl rfl (by rw [tz_21]; exact kk)
theorem g_tP {idx : Nat} {ty : FieldType} {fin : Bool} (hd : Dc M pc (.getfield idx) 3 n) (hf : Fk M.1.cls idx 3 2 ty fin) (kk : Go l g M n lv (.int (nI T.1) :: st) (tz A T w) Q) : Go l g M pc lv (.ref (g.1 21) :: st) (tz A T w) Q := g_getI hd hf rfl rfl (by rw [tz_21]; exact kk)
theorem g_tB {idx : Nat} {ty : FieldType} {fin : Bool} (hd : Dc M pc (.getfield idx) 3 n) (hf : Fk M.1.cls idx 3 3 ty fin) (kk : Go l g M n lv (.int (nI T.2.1) :: st) (tz A T w) Q) : Go l g M pc lv (.ref (g.1 21) :: st) (tz A T w) Q := g_getI hd hf rfl rfl (by rw [tz_21]; exact kk)
theorem g_tK {idx : Nat} {ty : FieldType} {fin : Bool} (hd : Dc M pc (.getfield idx) 3 n) (hf : Fk M.1.cls idx 3 4 ty fin) (kk : Go l g M n lv (.int T.2.2 :: st) (tz A T w) Q) : Go l g M pc lv (.ref (g.1 21) :: st) (tz A T w) Q := g_getI hd hf rfl rfl (by rw [tz_21]; exact kk)
theorem g_tsP {idx p : Nat} (hd : Dc M pc (.putfield idx) 3 n) (hf : Fk M.1.cls idx 3 2 .int false) (kk : Go l g M n lv st (tz A (p, T.2) w) Q) : Go l g M pc lv (.int (nI p) :: .ref (g.1 21) :: st) (tz A T w) Q := g_putI hd hf rfl rfl rfl rfl (by rw [up_hput7 (by decide), tw_P]; exact kk)
theorem g_tsB {idx b : Nat} (hd : Dc M pc (.putfield idx) 3 n) (hf : Fk M.1.cls idx 3 3 .int false) (kk : Go l g M n lv st (tz A (T.1, b, T.2.2) w) Q) : Go l g M pc lv (.int (nI b) :: .ref (g.1 21) :: st) (tz A T w) Q := g_putI hd hf rfl rfl rfl rfl (by rw [up_hput7 (by decide), tw_B]; exact kk)
theorem g_tsK {idx : Nat} {x : Int32} (hd : Dc M pc (.putfield idx) 3 n) (hf : Fk M.1.cls idx 3 4 .int false) (kk : Go l g M n lv st (tz A (T.1, T.2.1, x) w) Q) : Go l g M pc lv (.int x :: .ref (g.1 21) :: st) (tz A T w) Q := g_putI hd hf rfl rfl rfl rfl (by rw [up_hput7 (by decide), tw_K]; exact kk)
theorem g_tY {i : Nat} (hd : Dc M pc .iaload 1 n) (hi : i < 120) (kk : Go l g M n lv (.int (w 22 i) :: st) (tz A T w) Q) : Go l g M pc lv (.int (nI i) :: .ref (g.1 22) :: st) (tz A T w) Q := g_ialdN hd (N := 120) rfl hi (by decide) (by rw [tz_22]; exact kk)
end TR
/-! tokens -/
def clsF (b : Int32) : Int32 := if 97 ≤ b ∧ b ≤ 122 then 1 else if 48 ≤ b ∧ b ≤ 57 then 2 else if b = 59 then 3 else if b = 32 then 4 else 5
def tkF (f : Nat → Int32) (t i : Nat) : Int32 := if i < t then clsF (f i) else 0
def skF (f : Nat → Int32) (t : Nat) : Nat → Nat → Nat
  | 0, i => i
  | m + 1, i => if tkF f t i = 4 then skF f t m (i + 1) else i
def skN (f : Nat → Int32) (t i : Nat) : Nat := skF f t (t - i) i
theorem skN_y {f : Nat → Int32} {t i : Nat} (hi : i < t) (h : tkF f t i = 4) : skN f t i = skN f t (i + 1) := by
  unfold skN
  rw [show t - i = (t - (i + 1)) + 1 by omega, skF, if_pos h]
theorem skN_n {f : Nat → Int32} {t i : Nat} (h : ¬ tkF f t i = 4) : skN f t i = i := by
  unfold skN
  cases t - i with
  | zero => rfl
  | succ m => rw [skF, if_neg h]
theorem skN_e {f : Nat → Int32} {t i : Nat} (h : t ≤ i) : skN f t i = i := by
  unfold skN
  rw [show t - i = 0 by omega]; rfl
def rnF (f : Nat → Int32) (t : Nat) (k : Int32) : Nat → Nat → Nat
  | 0, i => i
  | m + 1, i => if tkF f t i = k then rnF f t k m (i + 1) else i
def rnN (f : Nat → Int32) (t : Nat) (k : Int32) (i : Nat) : Nat := rnF f t k (t - i) i
theorem rnN_y {f : Nat → Int32} {t i : Nat} {k : Int32} (hi : i < t) (h : tkF f t i = k) : rnN f t k i = rnN f t k (i + 1) := by
  unfold rnN
  rw [show t - i = (t - (i + 1)) + 1 by omega, rnF, if_pos h]
theorem rnN_n {f : Nat → Int32} {t i : Nat} {k : Int32} (h : ¬ tkF f t i = k) : rnN f t k i = i := by
  unfold rnN
  cases t - i with
  | zero => rfl
  | succ m => rw [rnF, if_neg h]
theorem rnN_e {f : Nat → Int32} {t i : Nat} {k : Int32} (h : t ≤ i) : rnN f t k i = i := by
  unfold rnN
  rw [show t - i = 0 by omega]; rfl
def beF (f : Nat → Int32) (t b p : Nat) (k : Int32) : Nat := if k = 0 then b else if k = 1 ∨ k = 2 then rnN f t k (p + 1) else p + 1
def nextF (f : Nat → Int32) (t b : Nat) : TT := (skN f t b, beF f t b (skN f t b) (tkF f t (skN f t b)), tkF f t (skN f t b))
theorem skF_le (f : Nat → Int32) (t : Nat) : ∀ m i, i + m ≤ t → i ≤ skF f t m i ∧ skF f t m i ≤ t
  | 0, i, h => ⟨Nat.le_refl _, h⟩
  | m + 1, i, h => by
    unfold skF
    split
    · have := skF_le f t m (i + 1) (by omega); omega
    · omega
theorem rnF_le (f : Nat → Int32) (t : Nat) (k : Int32) : ∀ m i, i + m ≤ t → i ≤ rnF f t k m i ∧ rnF f t k m i ≤ t
  | 0, i, h => ⟨Nat.le_refl _, h⟩
  | m + 1, i, h => by
    unfold rnF
    split
    · have := rnF_le f t k m (i + 1) (by omega); omega
    · omega
theorem skN_le {f : Nat → Int32} {t i : Nat} (h : i ≤ t) : i ≤ skN f t i ∧ skN f t i ≤ t := skF_le f t _ i (by omega)
theorem rnN_le {f : Nat → Int32} {t i : Nat} {k : Int32} (h : i ≤ t) : i ≤ rnN f t k i ∧ rnN f t k i ≤ t := rnF_le f t k _ i (by omega)
def TI (t : Nat) (T : TT) : Prop := T.1 ≤ t ∧ T.2.1 ≤ t ∧ (T.2.2 ≠ 0 → T.1 < T.2.1)
theorem tkF_lt {f : Nat → Int32} {t i : Nat} (h : tkF f t i ≠ 0) : i < t := by
  unfold tkF at h
  split at h
  · assumption
  · exact absurd rfl h
theorem nextF_TI {f : Nat → Int32} {t b : Nat} (h : b ≤ t) : TI t (nextF f t b) := by
  have h1 := skN_le (f := f) h
  refine ⟨h1.2, ?_, fun hk => ?_⟩
  · show beF f t b (skN f t b) (tkF f t (skN f t b)) ≤ t
    unfold beF
    split
    · exact h
    · rename_i hk
      have h2 := tkF_lt hk
      split
      · exact (rnN_le (by omega)).2
      · omega
  · show skN f t b < beF f t b (skN f t b) (tkF f t (skN f t b))
    have hk : tkF f t (skN f t b) ≠ 0 := hk
    have h2 := tkF_lt hk
    unfold beF
    rw [if_neg hk]
    split
    · have := (rnN_le (f := f) (t := t) (i := skN f t b + 1) (k := tkF f t (skN f t b)) (by omega)).1; omega
    · omega
abbrev wdP (f : Nat → Int32) (T : TT) (i : Nat) : Prop := T.2.2 = 1 ∧ T.2.1 - T.1 = stL i ∧ ∀ j, j < stL i → f (T.1 + j) = sC_ i j
def swF (f : Nat → Int32) (t : Nat) (T : TT) (i : Nat) : TT := if wdP f T i then nextF f t T.2.1 else T
def nuF (f : Nat → Int32) (p : Nat) : Nat → Int32
  | 0 => 0
  | m + 1 => mnI (nuF f p m * 10 + f (p + m) - 48) 10000
def tnF (f : Nat → Int32) (t : Nat) (T : TT) (mx : Int32) : Int32 × TT := if T.2.2 = 2 ∧ nuF f T.1 (T.2.1 - T.1) ≤ mx then (nuF f T.1 (T.2.1 - T.1), nextF f t T.2.1) else (-1, T)
set_option maxRecDepth 4000 in
theorem cT_isLong {l : Launch} {g : GG} {w : Wd} {k : Int32} : Res l g T_isLong [.int k] w (Is (some (.int (bI (k = 1 ∨ k = 2)))) w) := by
  refine Res.of (by decide) (by simp [Value.category]) (Nat.le_of_ble_eq_true rfl) rfl ?_
  show Go l g T_isLong 0 [some (.int k)] [] w _
  refine g_iload_n dT_isLong_0 rfl ?_
  refine g_iconst (v := 1) dT_isLong_1 (by decide) ?_
  refine g_icmp_eq dT_isLong_2 rfl (fun h2 => ?_) (fun h2 => ?_)
  · refine g_iconst (v := 1) dT_isLong_10 (by decide) ?_
    refine g_goto dT_isLong_11 rfl ?_
    refine g_iret dT_isLong_15 rfl (by first | rfl | exact bI_n) ?_
    exact ⟨by grind [bI], rfl⟩
  · refine g_iload_n dT_isLong_5 rfl ?_
    refine g_iconst (v := 2) dT_isLong_6 (by decide) ?_
    refine g_icmp_ne dT_isLong_7 rfl (fun h7 => ?_) (fun h7 => ?_)
    · refine g_iconst (v := 0) dT_isLong_14 (by decide) ?_
      refine g_iret dT_isLong_15 rfl (by first | rfl | exact bI_n) ?_
      exact ⟨by grind [bI], rfl⟩
    · refine g_iconst (v := 1) dT_isLong_10 (by decide) ?_
      refine g_goto dT_isLong_11 rfl ?_
      refine g_iret dT_isLong_15 rfl (by first | rfl | exact bI_n) ?_
      exact ⟨by grind [bI], rfl⟩

set_option maxRecDepth 4000 in
theorem cT_tokenAt {l : Launch} {g : GG} {w : Wd} {A : HA} {T : TT} {t : Nat} (ht : w 21 1 = nI t) (h120 : t ≤ 120) {i : Nat} (hi : i ≤ 120) : Res l g T_tokenAt [.ref (g.1 21), .int (nI i)] (tz A T w) (Is (some (.int (tkF (w 22) t i))) (tz A T w)) := by
  refine Res.of (by decide) (by simp [Value.category]) (Nat.le_of_ble_eq_true rfl) rfl ?_
  show Go l g T_tokenAt 0 [some (.ref (g.1 21)), some (.int (nI i)), none] [] (tz A T w) _
  refine g_iload_n dT_tokenAt_0 rfl ?_
  refine g_aload_n dT_tokenAt_1 rfl ?_
  refine g_tL dT_tokenAt_2 fT_15 ?_
  refine g_icmp_lt dT_tokenAt_5 rfl (fun h5 => ?_) (fun h5 => ?_)
  · rw [ht, nI_ltI (by omega) (by omega)] at h5
    refine g_aload_n dT_tokenAt_10 rfl ?_
    refine g_getR2 (k2 := 22) dT_tokenAt_11 fT_9 rfl rfl (by decide) rfl ?_
    refine g_iload_n dT_tokenAt_14 rfl ?_
    refine g_tY dT_tokenAt_15 (by omega) ?_
    refine g_istore_n dT_tokenAt_16 (by decide) rfl rfl ?_
    dsimp only [List.set]
    refine g_iload_n dT_tokenAt_17 rfl ?_
    refine g_bipush (v := 97) dT_tokenAt_18 (by decide) ?_
    refine g_icmp_lt dT_tokenAt_20 rfl (fun h20 => ?_) (fun h20 => ?_)
    · refine g_iload_n dT_tokenAt_31 rfl ?_
      refine g_bipush (v := 48) dT_tokenAt_32 (by decide) ?_
      refine g_icmp_lt dT_tokenAt_34 rfl (fun h34 => ?_) (fun h34 => ?_)
      · refine g_iload_n dT_tokenAt_45 rfl ?_
        refine g_bipush (v := 59) dT_tokenAt_46 (by decide) ?_
        refine g_icmp_ne dT_tokenAt_48 rfl (fun h48 => ?_) (fun h48 => ?_)
        · refine g_iload_n dT_tokenAt_53 rfl ?_
          refine g_bipush (v := 32) dT_tokenAt_54 (by decide) ?_
          refine g_icmp_ne dT_tokenAt_56 rfl (fun h56 => ?_) (fun h56 => ?_)
          · refine g_iconst (v := 5) dT_tokenAt_63 (by decide) ?_
            refine g_iret dT_tokenAt_64 rfl rfl ?_
            exact ⟨by rw [tkF, if_pos h5]; grind [clsF], rfl⟩
          · refine g_iconst (v := 4) dT_tokenAt_59 (by decide) ?_
            refine g_goto dT_tokenAt_60 rfl ?_
            refine g_iret dT_tokenAt_64 rfl rfl ?_
            exact ⟨by rw [tkF, if_pos h5]; grind [clsF], rfl⟩
        · refine g_iconst (v := 3) dT_tokenAt_51 (by decide) ?_
          refine g_iret dT_tokenAt_52 rfl rfl ?_
          exact ⟨by rw [tkF, if_pos h5]; grind [clsF], rfl⟩
      · refine g_iload_n dT_tokenAt_37 rfl ?_
        refine g_bipush (v := 57) dT_tokenAt_38 (by decide) ?_
        refine g_icmp_gt dT_tokenAt_40 rfl (fun h40 => ?_) (fun h40 => ?_)
        · refine g_iload_n dT_tokenAt_45 rfl ?_
          refine g_bipush (v := 59) dT_tokenAt_46 (by decide) ?_
          refine g_icmp_ne dT_tokenAt_48 rfl (fun h48 => ?_) (fun h48 => ?_)
          · refine g_iload_n dT_tokenAt_53 rfl ?_
            refine g_bipush (v := 32) dT_tokenAt_54 (by decide) ?_
            refine g_icmp_ne dT_tokenAt_56 rfl (fun h56 => ?_) (fun h56 => ?_)
            · refine g_iconst (v := 5) dT_tokenAt_63 (by decide) ?_
              refine g_iret dT_tokenAt_64 rfl rfl ?_
              exact ⟨by rw [tkF, if_pos h5]; grind [clsF], rfl⟩
            · refine g_iconst (v := 4) dT_tokenAt_59 (by decide) ?_
              refine g_goto dT_tokenAt_60 rfl ?_
              refine g_iret dT_tokenAt_64 rfl rfl ?_
              exact ⟨by rw [tkF, if_pos h5]; grind [clsF], rfl⟩
          · refine g_iconst (v := 3) dT_tokenAt_51 (by decide) ?_
            refine g_iret dT_tokenAt_52 rfl rfl ?_
            exact ⟨by rw [tkF, if_pos h5]; grind [clsF], rfl⟩
        · refine g_iconst (v := 2) dT_tokenAt_43 (by decide) ?_
          refine g_iret dT_tokenAt_44 rfl rfl ?_
          exact ⟨by rw [tkF, if_pos h5]; grind [clsF], rfl⟩
    · refine g_iload_n dT_tokenAt_23 rfl ?_
      refine g_bipush (v := 122) dT_tokenAt_24 (by decide) ?_
      refine g_icmp_gt dT_tokenAt_26 rfl (fun h26 => ?_) (fun h26 => ?_)
      · refine g_iload_n dT_tokenAt_31 rfl ?_
        refine g_bipush (v := 48) dT_tokenAt_32 (by decide) ?_
        refine g_icmp_lt dT_tokenAt_34 rfl (fun h34 => ?_) (fun h34 => ?_)
        · refine g_iload_n dT_tokenAt_45 rfl ?_
          refine g_bipush (v := 59) dT_tokenAt_46 (by decide) ?_
          refine g_icmp_ne dT_tokenAt_48 rfl (fun h48 => ?_) (fun h48 => ?_)
          · refine g_iload_n dT_tokenAt_53 rfl ?_
            refine g_bipush (v := 32) dT_tokenAt_54 (by decide) ?_
            refine g_icmp_ne dT_tokenAt_56 rfl (fun h56 => ?_) (fun h56 => ?_)
            · refine g_iconst (v := 5) dT_tokenAt_63 (by decide) ?_
              refine g_iret dT_tokenAt_64 rfl rfl ?_
              exact ⟨by rw [tkF, if_pos h5]; grind [clsF], rfl⟩
            · refine g_iconst (v := 4) dT_tokenAt_59 (by decide) ?_
              refine g_goto dT_tokenAt_60 rfl ?_
              refine g_iret dT_tokenAt_64 rfl rfl ?_
              exact ⟨by rw [tkF, if_pos h5]; grind [clsF], rfl⟩
          · refine g_iconst (v := 3) dT_tokenAt_51 (by decide) ?_
            refine g_iret dT_tokenAt_52 rfl rfl ?_
            exact ⟨by rw [tkF, if_pos h5]; grind [clsF], rfl⟩
        · refine g_iload_n dT_tokenAt_37 rfl ?_
          refine g_bipush (v := 57) dT_tokenAt_38 (by decide) ?_
          refine g_icmp_gt dT_tokenAt_40 rfl (fun h40 => ?_) (fun h40 => ?_)
          · refine g_iload_n dT_tokenAt_45 rfl ?_
            refine g_bipush (v := 59) dT_tokenAt_46 (by decide) ?_
            refine g_icmp_ne dT_tokenAt_48 rfl (fun h48 => ?_) (fun h48 => ?_)
            · refine g_iload_n dT_tokenAt_53 rfl ?_
              refine g_bipush (v := 32) dT_tokenAt_54 (by decide) ?_
              refine g_icmp_ne dT_tokenAt_56 rfl (fun h56 => ?_) (fun h56 => ?_)
              · refine g_iconst (v := 5) dT_tokenAt_63 (by decide) ?_
                refine g_iret dT_tokenAt_64 rfl rfl ?_
                exact ⟨by rw [tkF, if_pos h5]; grind [clsF], rfl⟩
              · refine g_iconst (v := 4) dT_tokenAt_59 (by decide) ?_
                refine g_goto dT_tokenAt_60 rfl ?_
                refine g_iret dT_tokenAt_64 rfl rfl ?_
                exact ⟨by rw [tkF, if_pos h5]; grind [clsF], rfl⟩
            · refine g_iconst (v := 3) dT_tokenAt_51 (by decide) ?_
              refine g_iret dT_tokenAt_52 rfl rfl ?_
              exact ⟨by rw [tkF, if_pos h5]; grind [clsF], rfl⟩
          · refine g_iconst (v := 2) dT_tokenAt_43 (by decide) ?_
            refine g_iret dT_tokenAt_44 rfl rfl ?_
            exact ⟨by rw [tkF, if_pos h5]; grind [clsF], rfl⟩
      · refine g_iconst (v := 1) dT_tokenAt_29 (by decide) ?_
        refine g_iret dT_tokenAt_30 rfl rfl ?_
        exact ⟨by rw [tkF, if_pos h5]; grind [clsF], rfl⟩
  · rw [ht, nI_ltI (by omega) (by omega)] at h5
    refine g_iconst (v := 0) dT_tokenAt_8 (by decide) ?_
    refine g_iret dT_tokenAt_9 rfl rfl ?_
    exact ⟨by rw [tkF, if_neg h5], rfl⟩

set_option maxRecDepth 4000 in
theorem lT_next1 {l : Launch} {g : GG} {w : Wd} {A : HA} {t : Nat} (ht : w 21 1 = nI t) (h120 : t ≤ 120) {b : Nat} {k : Int32} {Q : Option Value → Wd → Prop} : ∀ (m : Nat) (i : Nat), (t - i < m) → (i ≤ t) → (Go l g T_nextToken 44 [some (.ref (g.1 21))] [] (tz A (skN (w 22) t i, b, k) w) Q) → Go l g T_nextToken 8 [some (.ref (g.1 21))] [] (tz A (i, b, k) w) (Q) := by
  intro m
  induction m with
  | zero => intro i hm hi hk; omega
  | succ m ih =>
    intro i hm hi hk
    refine g_aload_n dT_nextToken_8 rfl ?_
    refine g_tP dT_nextToken_9 fT_19 ?_
    refine g_aload_n dT_nextToken_12 rfl ?_
    refine g_tL dT_nextToken_13 fT_15 ?_
    refine g_icmp_ge dT_nextToken_16 rfl (fun h16 => ?_) (fun h16 => ?_)
    · rw [ht, nI_leI (by omega) (by omega)] at h16
      first | (rw [skN_e h16] at hk; exact hk) | (rw [skN_n h28] at hk; exact hk)
    · rw [ht, nI_leI (by omega) (by omega)] at h16
      refine g_aload_n dT_nextToken_19 rfl ?_
      refine g_aload_n dT_nextToken_20 rfl ?_
      refine g_tP dT_nextToken_21 fT_19 ?_
      refine gV1 dT_nextToken_24 kT_nextToken_135 rfl rfl (cT_tokenAt ht h120 (by first | omega | (dsimp only; omega))) (Nat.le_of_ble_eq_true rfl) ?_
      refine g_iconst (v := 4) dT_nextToken_27 (by decide) ?_
      refine g_icmp_ne dT_nextToken_28 rfl (fun h28 => ?_) (fun h28 => ?_)
      · first | (rw [skN_e h16] at hk; exact hk) | (rw [skN_n h28] at hk; exact hk)
      · refine g_aload_n dT_nextToken_31 rfl ?_
        refine g_dup dT_nextToken_32 rfl ?_
        refine g_tP dT_nextToken_33 fT_19 ?_
        refine g_iconst (v := 1) dT_nextToken_36 (by decide) ?_
        refine g_iadd dT_nextToken_37 ?_
        refine g_top (y := nI (i + 1)) (nI_succ i).symm ?_
        refine g_tsP dT_nextToken_38 fT_19 ?_
        refine g_goto dT_nextToken_41 rfl ?_
        exact ih (i + 1) (by omega) (by omega) (by rw [← skN_y (by omega) h28]; exact hk)

set_option maxRecDepth 4000 in
theorem lT_next2 {l : Launch} {g : GG} {w : Wd} {A : HA} {t : Nat} (ht : w 21 1 = nI t) (h120 : t ≤ 120) {p : Nat} {k : Int32} : ∀ (m : Nat) (i : Nat), (t - i < m) → (i ≤ t) → Go l g T_nextToken 74 [some (.ref (g.1 21))] [] (tz A (p, i, k) w) (Is none (tz A (p, if k = 1 ∨ k = 2 then rnN (w 22) t k i else i, k) w)) := by
  intro m
  induction m with
  | zero => intro i hm hi; omega
  | succ m ih =>
    intro i hm hi
    refine g_aload_n dT_nextToken_74 rfl ?_
    refine g_tB dT_nextToken_75 fT_22 ?_
    refine g_aload_n dT_nextToken_78 rfl ?_
    refine g_tL dT_nextToken_79 fT_15 ?_
    refine g_icmp_ge dT_nextToken_82 rfl (fun h82 => ?_) (fun h82 => ?_)
    · dsimp only at h82
      rw [ht, nI_leI (by omega) (by omega)] at h82
      refine g_vret dT_nextToken_123 rfl ?_
      first | exact ⟨rfl, by rw [rnN_e h82]; split <;> rfl⟩ | exact ⟨rfl, by rw [if_neg h92]⟩ | exact ⟨rfl, by rw [rnN_n h107]; split <;> rfl⟩
    · dsimp only at h82
      rw [ht, nI_leI (by omega) (by omega)] at h82
      refine g_aload_n dT_nextToken_85 rfl ?_
      refine g_tK dT_nextToken_86 fT_25 ?_
      refine gS1 dT_nextToken_89 kT_nextToken_138 cT_isLong (Nat.le_of_ble_eq_true rfl) ?_
      refine g_if_eq dT_nextToken_92 rfl (fun h92 => ?_) (fun h92 => ?_)
      · dsimp only at h92
        have h92 := bI_0.mp h92
        refine g_vret dT_nextToken_123 rfl ?_
        first | exact ⟨rfl, by rw [rnN_e h82]; split <;> rfl⟩ | exact ⟨rfl, by rw [if_neg h92]⟩ | exact ⟨rfl, by rw [rnN_n h107]; split <;> rfl⟩
      · dsimp only at h92
        have h92 := Classical.not_not.mp (fun z => h92 (bI_0.mpr z))
        refine g_aload_n dT_nextToken_95 rfl ?_
        refine g_aload_n dT_nextToken_96 rfl ?_
        refine g_tB dT_nextToken_97 fT_22 ?_
        refine gV1 dT_nextToken_100 kT_nextToken_135 rfl rfl (cT_tokenAt ht h120 (by first | omega | (dsimp only; omega))) (Nat.le_of_ble_eq_true rfl) ?_
        refine g_aload_n dT_nextToken_103 rfl ?_
        refine g_tK dT_nextToken_104 fT_25 ?_
        refine g_icmp_ne dT_nextToken_107 rfl (fun h107 => ?_) (fun h107 => ?_)
        · dsimp only at h107
          refine g_vret dT_nextToken_123 rfl ?_
          first | exact ⟨rfl, by rw [rnN_e h82]; split <;> rfl⟩ | exact ⟨rfl, by rw [if_neg h92]⟩ | exact ⟨rfl, by rw [rnN_n h107]; split <;> rfl⟩
        · dsimp only at h107
          refine g_aload_n dT_nextToken_110 rfl ?_
          refine g_dup dT_nextToken_111 rfl ?_
          refine g_tB dT_nextToken_112 fT_22 ?_
          refine g_iconst (v := 1) dT_nextToken_115 (by decide) ?_
          refine g_iadd dT_nextToken_116 ?_
          refine g_top (y := nI (i + 1)) (nI_succ i).symm ?_
          refine g_tsB dT_nextToken_117 fT_22 ?_
          refine g_goto dT_nextToken_120 rfl ?_
          refine g_mono (fun r w2 h => ?_) (ih (i + 1) (by omega) (by omega))
          rw [if_pos h92, rnN_y (by omega) h107]
          rw [if_pos h92] at h
          exact h

set_option maxRecDepth 4000 in
theorem cT_nextToken {l : Launch} {g : GG} {w : Wd} {A : HA} {T : TT} {t : Nat} (ht : w 21 1 = nI t) (h120 : t ≤ 120) (hb : T.2.1 ≤ t) : Res l g T_nextToken [.ref (g.1 21)] (tz A T w) (Is (none) (tz A (nextF (w 22) t T.2.1) w)) := by
  refine Res.of (by decide) (by simp [Value.category]) (Nat.le_of_ble_eq_true rfl) rfl ?_
  show Go l g T_nextToken 0 [some (.ref (g.1 21))] [] (tz A T w) _
  refine g_aload_n dT_nextToken_0 rfl ?_
  refine g_aload_n dT_nextToken_1 rfl ?_
  refine g_tB dT_nextToken_2 fT_22 ?_
  refine g_tsP dT_nextToken_5 fT_19 ?_
  refine lT_next1 ht h120 (t + 1) T.2.1 (by omega) hb ?_
  refine g_aload_n dT_nextToken_44 rfl ?_
  refine g_aload_n dT_nextToken_45 rfl ?_
  refine g_aload_n dT_nextToken_46 rfl ?_
  refine g_tP dT_nextToken_47 fT_19 ?_
  refine gV1 dT_nextToken_50 kT_nextToken_135 rfl rfl (cT_tokenAt ht h120 (by have := skN_le (f := w 22) hb; omega)) (Nat.le_of_ble_eq_true rfl) ?_
  refine g_tsK dT_nextToken_53 fT_25 ?_
  refine g_aload_n dT_nextToken_56 rfl ?_
  refine g_tK dT_nextToken_57 fT_25 ?_
  refine g_if_ne dT_nextToken_60 rfl (fun h60 => ?_) (fun h60 => ?_)
  · refine g_aload_n dT_nextToken_64 rfl ?_
    refine g_aload_n dT_nextToken_65 rfl ?_
    refine g_tP dT_nextToken_66 fT_19 ?_
    refine g_iconst (v := 1) dT_nextToken_69 (by decide) ?_
    refine g_iadd dT_nextToken_70 ?_
    refine g_top (y := nI (skN (w 22) t T.2.1 + 1)) (nI_succ _).symm ?_
    refine g_tsB dT_nextToken_71 fT_22 ?_
    refine g_mono (fun r w2 h => ?_) (lT_next2 ht h120 (t + 1) (skN (w 22) t T.2.1 + 1) (by omega) (by have := tkF_lt h60; omega))
    rw [nextF, beF, if_neg h60]
    exact h
  · refine g_vret dT_nextToken_63 rfl ?_
    exact ⟨rfl, by rw [nextF, beF, if_pos h60]⟩

set_option maxRecDepth 4000 in
theorem lT_isWord {l : Launch} {g : GG} {w : Wd} {A : HA} {T : TT} {t : Nat} (ht : w 21 1 = nI t) (h120 : t ≤ 120) {x : Nat} (hx : x < 14) (hk : T.2.2 = 1) (hl : T.2.1 - T.1 = stL x) (hT : TI t T) : ∀ (m : Nat) (i : Nat), (stL x - i < m) → (i ≤ stL x) → (∀ j, j < i → w 22 (T.1 + j) = sC_ x j) → Go l g T_isWord 28 [some (.ref (g.1 21)), some (.ref (g.2.2.2.1 x)), some (.int (nI i))] [] (tz A T w) (Is (some (.int (bI (wdP (w 22) T x)))) (tz A T w)) := by
  intro m
  induction m with
  | zero => intro i hm hi hp; omega
  | succ m ih =>
    intro i hm hi hp
    have h8 := stL_lt x hx
    have hT1 := hT.1
    have hT2 := hT.2.1
    refine g_iload_n dT_isWord_28 rfl ?_
    refine g_aload_n dT_isWord_29 rfl ?_
    refine gT0 dT_isWord_30 kT_isWord_122 hx rfl (cJS_length hx) (Nat.le_of_ble_eq_true rfl) ?_
    refine g_icmp_ge dT_isWord_33 rfl (fun h33 => ?_) (fun h33 => ?_)
    · rw [nI_leI (by omega) (by omega)] at h33
      refine g_iconst (v := 1) dT_isWord_63 (by decide) ?_
      refine g_iret dT_isWord_64 rfl (by first | rfl | exact bI_n) ?_
      exact ⟨by rw [bI_t ⟨hk, hl, fun j hj => hp j (by omega)⟩], rfl⟩
    · rw [nI_leI (by omega) (by omega)] at h33
      refine g_aload_n dT_isWord_36 rfl ?_
      refine g_getR2 (k2 := 22) dT_isWord_37 fT_9 rfl rfl (by decide) rfl ?_
      refine g_aload_n dT_isWord_40 rfl ?_
      refine g_tP dT_isWord_41 fT_19 ?_
      refine g_iload_n dT_isWord_44 rfl ?_
      refine g_iadd dT_isWord_45 ?_
      refine g_top (y := nI (T.1 + i)) (nI_add _ _) ?_
      refine g_tY dT_isWord_46 (by omega) ?_
      refine g_aload_n dT_isWord_47 rfl ?_
      refine g_iload_n dT_isWord_48 rfl ?_
      refine gT1 dT_isWord_49 kT_isWord_126 hx rfl (cJS_charAt hx (by omega)) (Nat.le_of_ble_eq_true rfl) ?_
      refine g_icmp_eq dT_isWord_52 rfl (fun h52 => ?_) (fun h52 => ?_)
      · refine g_iinc (v := nI (i + 1)) dT_isWord_57 rfl (nI_succ i).symm (by decide) rfl rfl ?_
        dsimp only [List.set]
        refine g_goto dT_isWord_60 rfl ?_
        exact ih (i + 1) (by omega) (by omega) (lt_s hp h52)
      · refine g_iconst (v := 0) dT_isWord_55 (by decide) ?_
        refine g_iret dT_isWord_56 rfl (by first | rfl | exact bI_n) ?_
        exact ⟨by rw [bI_f (fun z => h52 (z.2.2 i (by omega)))], rfl⟩

set_option maxRecDepth 4000 in
theorem cT_isWord {l : Launch} {g : GG} {w : Wd} {A : HA} {T : TT} {t : Nat} (ht : w 21 1 = nI t) (h120 : t ≤ 120) {x : Nat} (hx : x < 14) (hT : TI t T) : Res l g T_isWord [.ref (g.1 21), .ref (g.2.2.2.1 x)] (tz A T w) (Is (some (.int (bI (wdP (w 22) T x)))) (tz A T w)) := by
  refine Res.of (by decide) (by simp [Value.category]) (Nat.le_of_ble_eq_true rfl) rfl ?_
  show Go l g T_isWord 0 [some (.ref (g.1 21)), some (.ref (g.2.2.2.1 x)), none] [] (tz A T w) _
  refine g_aload_n dT_isWord_0 rfl ?_
  refine g_tK dT_isWord_1 fT_25 ?_
  refine g_iconst (v := 1) dT_isWord_4 (by decide) ?_
  refine g_icmp_ne dT_isWord_5 rfl (fun h5 => ?_) (fun h5 => ?_)
  · refine g_iconst (v := 0) dT_isWord_24 (by decide) ?_
    refine g_iret dT_isWord_25 rfl (by first | rfl | exact bI_n) ?_
    exact ⟨by rw [bI_f (by grind)], rfl⟩
  · have hlt := hT.2.2 (by rw [h5]; decide)
    have h8 := stL_lt x hx
    have hT2 := hT.2.1
    refine g_aload_n dT_isWord_8 rfl ?_
    refine g_tB dT_isWord_9 fT_22 ?_
    refine g_aload_n dT_isWord_12 rfl ?_
    refine g_tP dT_isWord_13 fT_19 ?_
    refine g_isub dT_isWord_16 ?_
    rw [pk_sub (by omega)]
    refine g_aload_n dT_isWord_17 rfl ?_
    refine gT0 dT_isWord_18 kT_isWord_122 hx rfl (cJS_length hx) (Nat.le_of_ble_eq_true rfl) ?_
    refine g_icmp_eq dT_isWord_21 rfl (fun h21 => ?_) (fun h21 => ?_)
    · rw [nI_eq (by omega) (by omega)] at h21
      refine g_iconst (v := 0) dT_isWord_26 (by decide) ?_
      refine g_istore_n dT_isWord_27 (by decide) rfl rfl ?_
      dsimp only [List.set]
      exact lT_isWord ht h120 hx h5 h21 hT (stL x + 1) 0 (by omega) (by omega) (fun j hj => absurd hj (Nat.not_lt_zero j))
    · rw [nI_eq (by omega) (by omega)] at h21
      refine g_iconst (v := 0) dT_isWord_24 (by decide) ?_
      refine g_iret dT_isWord_25 rfl (by first | rfl | exact bI_n) ?_
      exact ⟨by rw [bI_f (by grind)], rfl⟩

set_option maxRecDepth 4000 in
theorem cT_skipWord {l : Launch} {g : GG} {w : Wd} {A : HA} {T : TT} {t : Nat} (ht : w 21 1 = nI t) (h120 : t ≤ 120) {x : Nat} (hx : x < 14) (hT : TI t T) : Res l g T_skipWord [.ref (g.1 21), .ref (g.2.2.2.1 x)] (tz A T w) (Is (some (.int (bI (wdP (w 22) T x)))) (tz A (swF (w 22) t T x) w)) := by
  refine Res.of (by decide) (by simp [Value.category]) (Nat.le_of_ble_eq_true rfl) rfl ?_
  show Go l g T_skipWord 0 [some (.ref (g.1 21)), some (.ref (g.2.2.2.1 x))] [] (tz A T w) _
  refine g_aload_n dT_skipWord_0 rfl ?_
  refine g_aload_n dT_skipWord_1 rfl ?_
  refine gV1 dT_skipWord_2 kT_skipWord_105 rfl rfl (cT_isWord ht h120 hx hT) (Nat.le_of_ble_eq_true rfl) ?_
  refine g_if_ne dT_skipWord_5 rfl (fun h5 => ?_) (fun h5 => ?_)
  · have h5 := Classical.not_not.mp (fun z => h5 (bI_0.mpr z))
    refine g_aload_n dT_skipWord_10 rfl ?_
    refine gV0v dT_skipWord_11 kT_skipWord_32 rfl rfl (cT_nextToken ht h120 hT.2.1) (Nat.le_of_ble_eq_true rfl) ?_
    refine g_iconst (v := 1) dT_skipWord_14 (by decide) ?_
    refine g_iret dT_skipWord_15 rfl (by first | rfl | exact bI_n) ?_
    exact ⟨by first | rw [bI_t h5] | rw [bI_f h5], by first | rw [swF, if_pos h5] | rw [swF, if_neg h5]⟩
  · have h5 := bI_0.mp h5
    refine g_iconst (v := 0) dT_skipWord_8 (by decide) ?_
    refine g_iret dT_skipWord_9 rfl (by first | rfl | exact bI_n) ?_
    exact ⟨by first | rw [bI_t h5] | rw [bI_f h5], by first | rw [swF, if_pos h5] | rw [swF, if_neg h5]⟩

set_option maxRecDepth 4000 in
theorem lT_takeNumber {l : Launch} {g : GG} {w : Wd} {A : HA} {T : TT} {t : Nat} (ht : w 21 1 = nI t) (h120 : t ≤ 120) {mx : Int32} (hk : T.2.2 = 2) (hT : TI t T) : ∀ (m : Nat) (i : Nat), (T.2.1 - (T.1 + i) < m) → (T.1 + i ≤ T.2.1) → Go l g T_takeNumber 17 [some (.ref (g.1 21)), some (.int mx), some (.int (nuF (w 22) T.1 i)), some (.int (nI (T.1 + i)))] [] (tz A T w) (Is (some (.int (tnF (w 22) t T mx).1)) (tz A (tnF (w 22) t T mx).2 w)) := by
  intro m
  induction m with
  | zero => intro i hm hi; omega
  | succ m ih =>
    intro i hm hi
    have hT2 := hT.2.1
    refine g_iload_n dT_takeNumber_17 rfl ?_
    refine g_aload_n dT_takeNumber_18 rfl ?_
    refine g_tB dT_takeNumber_19 fT_22 ?_
    refine g_icmp_ge dT_takeNumber_22 rfl (fun h22 => ?_) (fun h22 => ?_)
    · rw [nI_leI (by omega) (by omega)] at h22
      have ei : i = T.2.1 - T.1 := by omega
      subst ei
      refine g_iload_n dT_takeNumber_52 rfl ?_
      refine g_iload_n dT_takeNumber_53 rfl ?_
      refine g_icmp_le dT_takeNumber_54 rfl (fun h54 => ?_) (fun h54 => ?_)
      · refine g_aload_n dT_takeNumber_59 rfl ?_
        refine gV0v dT_takeNumber_60 kT_takeNumber_32 rfl rfl (cT_nextToken ht h120 hT.2.1) (Nat.le_of_ble_eq_true rfl) ?_
        refine g_iload_n dT_takeNumber_63 rfl ?_
        refine g_iret dT_takeNumber_64 rfl rfl ?_
        have e9 : tnF (w 22) t T mx = (nuF (w 22) T.1 (T.2.1 - T.1), nextF (w 22) t T.2.1) := if_pos ⟨hk, h54⟩
        exact ⟨by rw [e9], by rw [e9]⟩
      · refine g_iconst (v := (-1)) dT_takeNumber_57 (by decide) ?_
        refine g_iret dT_takeNumber_58 rfl rfl ?_
        have e9 : tnF (w 22) t T mx = (-1, T) := if_neg (fun z => h54 z.2)
        exact ⟨by rw [e9], by rw [e9]⟩
    · rw [nI_leI (by omega) (by omega)] at h22
      refine g_iload_n dT_takeNumber_25 rfl ?_
      refine g_bipush (v := 10) dT_takeNumber_26 (by decide) ?_
      refine g_imul dT_takeNumber_28 ?_
      refine g_aload_n dT_takeNumber_29 rfl ?_
      refine g_getR2 (k2 := 22) dT_takeNumber_30 fT_9 rfl rfl (by decide) rfl ?_
      refine g_iload_n dT_takeNumber_33 rfl ?_
      refine g_tY dT_takeNumber_34 (by omega) ?_
      refine g_iadd dT_takeNumber_35 ?_
      refine g_bipush (v := 48) dT_takeNumber_36 (by decide) ?_
      refine g_isub dT_takeNumber_38 ?_
      refine g_sipush (v := 10000) dT_takeNumber_39 (by decide) ?_
      refine g_min dT_takeNumber_42 lT_130 (by decide) (Nat.le_of_ble_eq_true rfl) ?_
      refine g_istore_n dT_takeNumber_45 (by decide) rfl rfl ?_
      dsimp only [List.set]
      refine g_iinc (v := nI (T.1 + (i + 1))) dT_takeNumber_46 rfl (nI_succ (T.1 + i)).symm (by decide) rfl rfl ?_
      dsimp only [List.set]
      refine g_goto dT_takeNumber_49 rfl ?_
      exact ih (i + 1) (by omega) (by omega)

set_option maxRecDepth 4000 in
theorem cT_takeNumber {l : Launch} {g : GG} {w : Wd} {A : HA} {T : TT} {t : Nat} (ht : w 21 1 = nI t) (h120 : t ≤ 120) {mx : Int32} (hT : TI t T) : Res l g T_takeNumber [.ref (g.1 21), .int mx] (tz A T w) (Is (some (.int (tnF (w 22) t T mx).1)) (tz A (tnF (w 22) t T mx).2 w)) := by
  refine Res.of (by decide) (by simp [Value.category]) (Nat.le_of_ble_eq_true rfl) rfl ?_
  show Go l g T_takeNumber 0 [some (.ref (g.1 21)), some (.int mx), none, none] [] (tz A T w) _
  refine g_aload_n dT_takeNumber_0 rfl ?_
  refine g_tK dT_takeNumber_1 fT_25 ?_
  refine g_iconst (v := 2) dT_takeNumber_4 (by decide) ?_
  refine g_icmp_eq dT_takeNumber_5 rfl (fun h5 => ?_) (fun h5 => ?_)
  · have hlt := hT.2.2 (by rw [h5]; decide)
    refine g_iconst (v := 0) dT_takeNumber_10 (by decide) ?_
    refine g_istore_n dT_takeNumber_11 (by decide) rfl rfl ?_
    dsimp only [List.set]
    refine g_aload_n dT_takeNumber_12 rfl ?_
    refine g_tP dT_takeNumber_13 fT_19 ?_
    refine g_istore_n dT_takeNumber_16 (by decide) rfl rfl ?_
    dsimp only [List.set]
    exact lT_takeNumber ht h120 h5 hT (T.2.1 + 1) 0 (by omega) (by omega)
  · refine g_iconst (v := (-1)) dT_takeNumber_8 (by decide) ?_
    refine g_iret dT_takeNumber_9 rfl rfl ?_
    have e9 : tnF (w 22) t T mx = (-1, T) := if_neg (fun z => h5 z.1)
    exact ⟨by rw [e9], by rw [e9]⟩
