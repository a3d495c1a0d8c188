def cutI (b v : Int32) : Int32 := if b = 8 then v.toInt8.toInt32 else if b = 16 then v.toInt16.toInt32 else v
def shW (q : Nat) (b n : Int32) (w : Wd) : Wd := upR (up (up w (24 + 2 * q) 0 b) (24 + 2 * q) 1 (if b = 0 then 0 else n)) (24 + 2 * q + 1) (fun _ => 0)
abbrev okSh (s : Int32) : Prop := 0 ≤ s ∧ s ≤ 3
abbrev okB (b : Int32) : Prop := b = 0 ∨ b = 8 ∨ b = 16 ∨ b = 32
def shB (w : Wd) (s : Int32) : Int32 := w (24 + 2 * s.toNatClampNeg) 0
def shZ (w : Wd) (s : Int32) : Int32 := w (24 + 2 * s.toNatClampNeg) 1
def shN (w : Wd) (s : Int32) : Nat → Int32 := w (24 + 2 * s.toNatClampNeg + 1)
def sheetC (s b n : Int32) (w : Wd) : Int32 × Wd := if okSh s ∧ okB b then (if n < 0 then fnd 6 w else if n ≤ 40 then (if b = 0 then 0 else n, shW s.toNatClampNeg b n w) else fnd 0 w) else fnd 0 w
def writeC (s i v : Int32) (w : Wd) : Int32 × Wd := if okSh s then (if shB w s = 0 then fnd 5 w else if 0 ≤ i ∧ i ≤ shZ w s - 1 then (1, up w (24 + 2 * s.toNatClampNeg + 1) i.toNatClampNeg (cutI (shB w s) v)) else fnd 0 w) else fnd 0 w
abbrev runP (f n z : Int32) : Prop := 0 ≤ f ∧ 0 ≤ n ∧ n ≤ z ∧ f ≤ z - n
def copyC (s f t d n : Int32) (w : Wd) : Int32 × Wd := if okSh s ∧ okSh t then (if shB w s = 0 ∨ shB w t = 0 then fnd 5 w else if shB w s = shB w t then (if runP f n (shZ w s) ∧ runP d n (shZ w t) then (n, upR w (24 + 2 * t.toNatClampNeg + 1) (va_cpy (shN w s) (shN w t) f.toNatClampNeg d.toNatClampNeg n.toNatClampNeg)) else fnd 0 w) else fnd 2 w) else fnd 0 w
def loadF (f : Nat → Int32) (z n : Nat) : Nat → Nat → HA → Int32 × HA
  | 0, i, A => (nI i, A)
  | m + 1, i, A => if i < z ∧ i < n ∧ (0 ≤ f i ∧ f i ≤ 99) then loadF f z n m (i + 1) (sF A i (f i)) else (nI i, A)
def loadC (n : Nat) (s : Int32) (w : Wd) : Int32 × Wd := if okSh s then (if shB w s = 0 then fnd 5 w else ((loadF (shN w s) (shZ w s).toNatClampNeg n 41 0 (hget w 1)).1, hput 1 (loadF (shN w s) (shZ w s).toNatClampNeg n 41 0 (hget w 1)).2 w)) else fnd 0 w
def judgeF (f c : Nat → Int32) (z n : Nat) : Nat → Nat → Int32
  | 0, _ => 0
  | m + 1, i => if i < z then (if i < n ∧ c i = f i then judgeF f c z n m (i + 1) else 1 + nI i) else 0
def judgeC (n : Nat) (s : Int32) (w : Wd) : Int32 × Wd := if okSh s then (if shB w s = 0 then fnd 5 w else (judgeF (shN w s) (w 3) (shZ w s).toNatClampNeg n 41 0, w)) else fnd 0 w
/-- hour by hour: place x of the hill is as the row tells -/
def toldF (n z : Nat) (f : Nat → Int32) (x : HA → Int32) : Nat → Nat → HA → Int32
  | 0, _, _ => 1
  | m + 1, i, A => if i < z then (if f i = -1 ∨ f i = x A then toldF n z f x m (i + 1) (hourF 0 n A) else 0) else 1
def waysF (P : Nat → Int32) : Nat → Int32
  | 0 => 0
  | p + 1 => if P p = 0 then waysF P p else waysF P p ||| bitI p
def fitsV (n z : Nat) (f : Nat → Int32) (j : Nat) (A : HA) (p : Nat) : Int32 := toldF n z f (fun B => B.1 1) 41 0 (sC A j (nI p))
def kindsV (n z : Nat) (f : Nat → Int32) (j : Nat) (A : HA) (p : Nat) : Int32 := toldF n z f (fun B => B.2.2.1 j) 41 0 (sK A j (nI p))
def fitsC (n : Nat) (s h : Int32) (w : Wd) : Int32 × Wd := if okSh s then (if shB w s = 0 then fnd 5 w else if hasP w h then (if h = w 1 2 then fnd 4 w else (waysF (fitsV n (shZ w s).toNatClampNeg (shN w s) h.toNatClampNeg (hget w 1)) 16, w)) else fnd 0 w) else fnd 0 w
def kindsC (n : Nat) (s h : Int32) (w : Wd) : Int32 × Wd := if okSh s then (if shB w s = 0 then fnd 5 w else if hasP w h then (waysF (kindsV n (shZ w s).toNatClampNeg (shN w s) h.toNatClampNeg (hget w 1)) 7, w) else fnd 0 w) else fnd 0 w
theorem fil_step {w : Wd} {b i : Nat} : up (upR w b (va_cpy (fun _ => 0) (w b) 0 0 i)) b i 0 = upR w b (va_cpy (fun _ => 0) (w b) 0 0 (i + 1)) := by
  rw [upR_up]; congr 1
  funext j
  unfold upd va_cpy
  by_cases h : j = i
  · subst h; rw [if_pos rfl, if_pos (by omega)]
  · rw [if_neg h]
    by_cases h2 : j < i
    · rw [if_pos (by omega), if_pos (by omega)]
    · rw [if_neg (by omega), if_neg (by omega)]
theorem fil_0 {w : Wd} {b : Nat} : upR w b (va_cpy (fun _ => 0) (w b) 0 0 0) = w := by
  funext k
  unfold upR
  split
  · subst_vars; funext j; unfold va_cpy; rw [if_neg (by omega)]
  · rfl
theorem ixN {i : Int32} {z : Nat} (h1 : 0 ≤ i) (h2 : i ≤ nI z - 1) (hz : z ≤ 40) : ∃ j, j < z ∧ i = nI j := by
  obtain ⟨j, hj, rfl⟩ := nI_of (Int32.not_lt.mpr h1)
  cases z with
  | zero =>
    exfalso
    have h3 : nI j ≤ -1 := h2
    exact absurd (Int32.le_trans (nI_pos' hj) h3) (by decide)
  | succ z =>
    rw [nI_pred, nI_leI hj (by omega)] at h2
    exact ⟨j, by omega, rfl⟩
theorem h7_sh (B : HA) (w : Wd) {q : Nat} : hput 7 B w (24 + 2 * q) = w (24 + 2 * q) := hput_out B w (by omega)
theorem h7_sn (B : HA) (w : Wd) {q : Nat} : hput 7 B w (24 + 2 * q + 1) = w (24 + 2 * q + 1) := hput_out B w (by omega)
theorem h1_sh (B : HA) (w : Wd) {q : Nat} : hput 1 B w (24 + 2 * q) = w (24 + 2 * q) := hput_out B w (by omega)
theorem h1_sn (B : HA) (w : Wd) {q : Nat} : hput 1 B w (24 + 2 * q + 1) = w (24 + 2 * q + 1) := hput_out B w (by omega)
theorem runN {f n : Int32} {z : Nat} (h : runP f n (nI z)) (hz : z ≤ 40) : ∃ f0 n0 : Nat, f0 + n0 ≤ z ∧ f = nI f0 ∧ n = nI n0 := by
  obtain ⟨h1, h2, h3, h4⟩ := h
  obtain ⟨n0, hn, rfl⟩ := nI_of (Int32.not_lt.mpr h2)
  rw [nI_leI hn (by omega)] at h3
  obtain ⟨f0, hf, rfl⟩ := nI_of (Int32.not_lt.mpr h1)
  rw [pk_sub h3, nI_leI hf (by omega)] at h4
  exact ⟨f0, n0, by omega, rfl, rfl⟩
theorem runN2 {d : Int32} {z n0 : Nat} (h : runP d (nI n0) (nI z)) (hz : z ≤ 40) (hn0 : n0 ≤ 40) : ∃ d0 : Nat, d0 + n0 ≤ z ∧ d = nI d0 := by
  obtain ⟨d0, n1, h1, rfl, e⟩ := runN h hz
  have : n0 = n1 := (nI_eq (by omega) (by omega)).mp e
  subst this
  exact ⟨d0, h1, rfl⟩
set_option maxRecDepth 4000 in
theorem cE_isMissing {l : Launch} {g : GG} {w : Wd} {q : Nat} (hq : q < 4)  : Res l g E_isMissing [.ref (g.1 (24 + 2 * q))] w (Is (some (.int (bI (w (24 + 2 * q) 0 = 0)))) w) := by
  refine Res.of (by decide) (by simp [Value.category]) (Nat.le_of_ble_eq_true rfl) rfl ?_
  show Go l g E_isMissing 0 [some (.ref (g.1 (24 + 2 * q)))] [] w _
  refine g_aload_n dE_isMissing_0 rfl ?_
  refine g_getI dE_isMissing_1 fE_9 (shO hq) rfl ?_
  refine g_if_ne dE_isMissing_4 rfl (fun h4 => ?_) (fun h4 => ?_)
  · refine g_iconst (v := 0) dE_isMissing_11 (by decide) ?_
    refine g_iret dE_isMissing_12 rfl (by first | rfl | exact bI_n) ?_
    exact ⟨by first | rw [bI_t h4] | rw [bI_f h4], rfl⟩
  · refine g_iconst (v := 1) dE_isMissing_7 (by decide) ?_
    refine g_goto dE_isMissing_8 rfl ?_
    refine g_iret dE_isMissing_12 rfl (by first | rfl | exact bI_n) ?_
    exact ⟨by first | rw [bI_t h4] | rw [bI_f h4], rfl⟩

set_option maxRecDepth 4000 in
theorem cE_hasRun {l : Launch} {g : GG} {w : Wd} {q : Nat} (hq : q < 4) {f n : Int32} : Res l g E_hasRun [.ref (g.1 (24 + 2 * q)), .int f, .int n] w (Is (some (.int (bI (runP f n (w (24 + 2 * q) 1))))) w) := by
  refine Res.of (by decide) (by simp [Value.category]) (Nat.le_of_ble_eq_true rfl) rfl ?_
  show Go l g E_hasRun 0 [some (.ref (g.1 (24 + 2 * q))), some (.int f), some (.int n)] [] w _
  refine g_iload_n dE_hasRun_0 rfl ?_
  refine g_if_lt dE_hasRun_1 rfl (fun h1 => ?_) (fun h1 => ?_)
  · refine g_iconst (v := 0) dE_hasRun_30 (by decide) ?_
    refine g_iret dE_hasRun_31 rfl (by first | rfl | exact bI_n) ?_
    exact ⟨by grind [bI], rfl⟩
  · refine g_iload_n dE_hasRun_4 rfl ?_
    refine g_if_lt dE_hasRun_5 rfl (fun h5 => ?_) (fun h5 => ?_)
    · refine g_iconst (v := 0) dE_hasRun_30 (by decide) ?_
      refine g_iret dE_hasRun_31 rfl (by first | rfl | exact bI_n) ?_
      exact ⟨by grind [bI], rfl⟩
    · refine g_iload_n dE_hasRun_8 rfl ?_
      refine g_aload_n dE_hasRun_9 rfl ?_
      refine g_getI dE_hasRun_10 fE_15 (shO hq) rfl ?_
      refine g_icmp_gt dE_hasRun_13 rfl (fun h13 => ?_) (fun h13 => ?_)
      · refine g_iconst (v := 0) dE_hasRun_30 (by decide) ?_
        refine g_iret dE_hasRun_31 rfl (by first | rfl | exact bI_n) ?_
        exact ⟨by grind [bI], rfl⟩
      · refine g_iload_n dE_hasRun_16 rfl ?_
        refine g_aload_n dE_hasRun_17 rfl ?_
        refine g_getI dE_hasRun_18 fE_15 (shO hq) rfl ?_
        refine g_iload_n dE_hasRun_21 rfl ?_
        refine g_isub dE_hasRun_22 ?_
        refine g_icmp_gt dE_hasRun_23 rfl (fun h23 => ?_) (fun h23 => ?_)
        · refine g_iconst (v := 0) dE_hasRun_30 (by decide) ?_
          refine g_iret dE_hasRun_31 rfl (by first | rfl | exact bI_n) ?_
          exact ⟨by grind [bI], rfl⟩
        · refine g_iconst (v := 1) dE_hasRun_26 (by decide) ?_
          refine g_goto dE_hasRun_27 rfl ?_
          refine g_iret dE_hasRun_31 rfl (by first | rfl | exact bI_n) ?_
          exact ⟨by grind [bI], rfl⟩

set_option maxRecDepth 4000 in
theorem cE_allows {l : Launch} {g : GG} {w : Wd} {q : Nat} (hq : q < 4) {i : Nat} (hi : i < 40) {v : Int32} : Res l g E_allows [.ref (g.1 (24 + 2 * q)), .int (nI i), .int v] w (Is (some (.int (bI (w (24 + 2 * q + 1) i = -1 ∨ w (24 + 2 * q + 1) i = v)))) w) := by
  refine Res.of (by decide) (by simp [Value.category]) (Nat.le_of_ble_eq_true rfl) rfl ?_
  show Go l g E_allows 0 [some (.ref (g.1 (24 + 2 * q))), some (.int (nI i)), some (.int v)] [] w _
  refine g_aload_n dE_allows_0 rfl ?_
  refine g_getR2 (k2 := ((24 + 2 * q) + 1)) dE_allows_1 fE_18 (shO hq) rfl (by decide) rfl ?_
  refine g_iload_n dE_allows_4 rfl ?_
  refine g_ialdN dE_allows_5 (shA hq) (by omega) (by decide) ?_
  refine g_iconst (v := (-1)) dE_allows_6 (by decide) ?_
  refine g_icmp_eq dE_allows_7 rfl (fun h7 => ?_) (fun h7 => ?_)
  · refine g_iconst (v := 1) dE_allows_20 (by decide) ?_
    refine g_goto dE_allows_21 rfl ?_
    refine g_iret dE_allows_25 rfl (by first | rfl | exact bI_n) ?_
    exact ⟨by grind [bI], rfl⟩
  · refine g_aload_n dE_allows_10 rfl ?_
    refine g_getR2 (k2 := ((24 + 2 * q) + 1)) dE_allows_11 fE_18 (shO hq) rfl (by decide) rfl ?_
    refine g_iload_n dE_allows_14 rfl ?_
    refine g_ialdN dE_allows_15 (shA hq) (by omega) (by decide) ?_
    refine g_iload_n dE_allows_16 rfl ?_
    refine g_icmp_ne dE_allows_17 rfl (fun h17 => ?_) (fun h17 => ?_)
    · refine g_iconst (v := 0) dE_allows_24 (by decide) ?_
      refine g_iret dE_allows_25 rfl (by first | rfl | exact bI_n) ?_
      exact ⟨by grind [bI], rfl⟩
    · refine g_iconst (v := 1) dE_allows_20 (by decide) ?_
      refine g_goto dE_allows_21 rfl ?_
      refine g_iret dE_allows_25 rfl (by first | rfl | exact bI_n) ?_
      exact ⟨by grind [bI], rfl⟩

set_option maxRecDepth 4000 in
theorem cE_put {l : Launch} {g : GG} {w : Wd} {q : Nat} (hq : q < 4) {i : Nat} (hi : i < 40) {v : Int32} : Res l g E_put [.ref (g.1 (24 + 2 * q)), .int (nI i), .int v] w (Is (none) (up w (24 + 2 * q + 1) i (cutI (w (24 + 2 * q) 0) v))) := by
  refine Res.of (by decide) (by simp [Value.category]) (Nat.le_of_ble_eq_true rfl) rfl ?_
  show Go l g E_put 0 [some (.ref (g.1 (24 + 2 * q))), some (.int (nI i)), some (.int v)] [] w _
  refine g_aload_n dE_put_0 rfl ?_
  refine g_getI dE_put_1 fE_9 (shO hq) rfl ?_
  refine g_split (8) (fun z8 => ?_) (fun z8 => ?_)
  · refine g_lookup dE_put_4 rfl rfl rfl ?_
    refine g_aload_n dE_put_32 rfl ?_
    refine g_getR2 (k2 := ((24 + 2 * q) + 1)) dE_put_33 fE_18 (shO hq) rfl (by decide) rfl ?_
    refine g_iload_n dE_put_36 rfl ?_
    refine g_iload_n dE_put_37 rfl ?_
    refine g_i2b dE_put_38 ?_
    refine g_iastN dE_put_39 (shA hq) (by omega) (by decide) ?_
    refine g_goto dE_put_40 rfl ?_
    refine g_vret dE_put_61 rfl ?_
    exact ⟨rfl, by simp [cutI, *]⟩
  refine g_split (16) (fun z16 => ?_) (fun z16 => ?_)
  · refine g_lookup dE_put_4 rfl rfl rfl ?_
    refine g_aload_n dE_put_43 rfl ?_
    refine g_getR2 (k2 := ((24 + 2 * q) + 1)) dE_put_44 fE_18 (shO hq) rfl (by decide) rfl ?_
    refine g_iload_n dE_put_47 rfl ?_
    refine g_iload_n dE_put_48 rfl ?_
    refine g_i2s dE_put_49 ?_
    refine g_iastN dE_put_50 (shA hq) (by omega) (by decide) ?_
    refine g_goto dE_put_51 rfl ?_
    refine g_vret dE_put_61 rfl ?_
    exact ⟨rfl, by simp [cutI, *]⟩
  refine g_lookup (off := 50) dE_put_4 rfl (by show Op.lookupswitch.offset [(8, 28), (16, 39)] _ _ = _; rw [lv_osw (a := 8) z8 rfl, lv_osw (a := 16) z16 rfl]; rfl) rfl ?_
  refine g_aload_n dE_put_54 rfl ?_
  refine g_getR2 (k2 := ((24 + 2 * q) + 1)) dE_put_55 fE_18 (shO hq) rfl (by decide) rfl ?_
  refine g_iload_n dE_put_58 rfl ?_
  refine g_iload_n dE_put_59 rfl ?_
  refine g_iastN dE_put_60 (shA hq) (by omega) (by decide) ?_
  refine g_vret dE_put_61 rfl ?_
  exact ⟨rfl, by simp [cutI, *]⟩

set_option maxRecDepth 4000 in
theorem lE_begin {l : Launch} {g : GG} {w : Wd} {q : Nat} (hq : q < 4) {b n : Int32} : ∀ (m : Nat) (i : Nat), 40 - i < m → i ≤ 40 → Go l g E_begin 20 [some (.ref (g.1 (24 + 2 * q))), some (.int b), some (.int n), some (.int (nI i))] [] (upR w (24 + 2 * q + 1) (va_cpy (fun _ => 0) (w (24 + 2 * q + 1)) 0 0 i)) (Is none (upR w (24 + 2 * q + 1) (fun _ => 0))) := by
  intro m
  induction m with
  | zero => intro i hm hi; omega
  | succ m ih =>
    intro i hm hi
    refine g_iload_n dE_begin_20 rfl ?_
    refine g_bipush (v := 40) dE_begin_21 (by decide) ?_
    refine g_icmp_ge dE_begin_23 rfl (fun h23 => ?_) (fun h23 => ?_)
    · rw [show (40 : Int32) = nI 40 from rfl, nI_leI (by omega) (by omega)] at h23
      have e40 : i = 40 := by omega
      subst e40
      refine g_agree (w1 := upR w (24 + 2 * q + 1) (fun _ => 0)) (fun k j hv => by
          by_cases hk : k = 24 + 2 * q + 1
          · subst hk
            rw [upR_same, upR_same, pk_cpy_in (Nat.zero_le _) (by have := vis_arr (shA hq) hv; omega)]
          · rw [upR_other _ _ _ hk, upR_other _ _ _ hk]) ?_
      refine g_vret dE_begin_39 rfl ?_
      exact ⟨rfl, rfl⟩
    · rw [show (40 : Int32) = nI 40 from rfl, nI_leI (by omega) (by omega)] at h23
      refine g_aload_n dE_begin_26 rfl ?_
      refine g_getR2 (k2 := ((24 + 2 * q) + 1)) dE_begin_27 fE_18 (shO hq) rfl (by decide) rfl ?_
      refine g_iload_n dE_begin_30 rfl ?_
      refine g_iconst (v := 0) dE_begin_31 (by decide) ?_
      refine g_iastN dE_begin_32 (shA hq) (by omega) (by decide) ?_
      rw [fil_step]
      refine g_iinc (v := nI (i + 1)) dE_begin_33 rfl (nI_succ i).symm (by decide) rfl rfl ?_
      dsimp only [List.set]
      refine g_goto dE_begin_36 rfl ?_
      exact ih (i + 1) (by omega) (by omega)

set_option maxRecDepth 4000 in
theorem cE_begin {l : Launch} {g : GG} {w : Wd} {q : Nat} (hq : q < 4) {b n : Int32} : Res l g E_begin [.ref (g.1 (24 + 2 * q)), .int b, .int n] w (Is none (shW q b n w)) := by
  refine Res.of (by decide) (by simp [Value.category]) (Nat.le_of_ble_eq_true rfl) rfl ?_
  show Go l g E_begin 0 [some (.ref (g.1 (24 + 2 * q))), some (.int b), some (.int n), none] [] w _
  refine g_aload_n dE_begin_0 rfl ?_
  refine g_iload_n dE_begin_1 rfl ?_
  refine g_putI dE_begin_2 fE_9 (shO hq) rfl rfl rfl ?_
  refine g_aload_n dE_begin_5 rfl ?_
  refine g_iload_n dE_begin_6 rfl ?_
  refine g_if_ne dE_begin_7 rfl (fun h7 => ?_) (fun h7 => ?_)
  · refine g_iload_n dE_begin_14 rfl ?_
    refine g_putI dE_begin_15 fE_15 (shO hq) rfl rfl rfl ?_
    refine g_w (w1 := up (up w (24 + 2 * q) 0 b) (24 + 2 * q) 1 (if b = 0 then 0 else n)) (by first | rw [if_neg h7] | rw [if_pos h7]) ?_
    refine g_iconst (v := 0) dE_begin_18 (by decide) ?_
    refine g_istore_n dE_begin_19 (by decide) rfl rfl ?_
    dsimp only [List.set]
    refine g_w (fil_0 (b := 24 + 2 * q + 1)).symm ?_
    exact lE_begin hq 41 0 (by omega) (by omega)
  · refine g_iconst (v := 0) dE_begin_10 (by decide) ?_
    refine g_goto dE_begin_11 rfl ?_
    refine g_putI dE_begin_15 fE_15 (shO hq) rfl rfl rfl ?_
    refine g_w (w1 := up (up w (24 + 2 * q) 0 b) (24 + 2 * q) 1 (if b = 0 then 0 else n)) (by first | rw [if_neg h7] | rw [if_pos h7]) ?_
    refine g_iconst (v := 0) dE_begin_18 (by decide) ?_
    refine g_istore_n dE_begin_19 (by decide) rfl rfl ?_
    dsimp only [List.set]
    refine g_w (fil_0 (b := 24 + 2 * q + 1)).symm ?_
    exact lE_begin hq 41 0 (by omega) (by omega)

set_option maxRecDepth 4000 in
theorem cS_sheet {l : Launch} {g : GG} {w : Wd} {s b n : Int32} : Res l g S_sheet [.ref (g.1 0), .int s, .int b, .int n] w (IsP (sheetC s b n w)) := by
  refine Res.of (by decide) (by simp [Value.category]) (Nat.le_of_ble_eq_true rfl) rfl ?_
  show Go l g S_sheet 0 [some (.ref (g.1 0)), some (.int s), some (.int b), some (.int n)] [] w _
  refine g_iload_n dS_sheet_0 rfl ?_
  refine gS1 dS_sheet_1 kS_sheet_177 cS_isSheet (Nat.le_of_ble_eq_true rfl) ?_
  refine g_if_eq dS_sheet_4 rfl (fun h4 => ?_) (fun h4 => ?_)
  · have h4 := bI_0.mp h4
    refine g_aload_n dS_sheet_29 rfl ?_
    refine g_iconst (v := 0) dS_sheet_30 (by decide) ?_
    refine gV1 dS_sheet_31 kS_sheet_61 rfl rfl (cS_finding (q := 0) (by decide)) (Nat.le_of_ble_eq_true rfl) ?_
    refine g_iret dS_sheet_34 rfl rfl ?_
    exact IsP_of (by rw [sheetC, if_neg (by grind)])
  · have h4 := Classical.not_not.mp (fun z => h4 (bI_0.mpr z))
    obtain ⟨q, hq, eq⟩ := nI_of2 (n := 3) (by decide) (Int32.not_lt.mpr h4.1) h4.2
    have hq : q < 4 := by omega
    subst eq
    have cq : (nI q).toNatClampNeg = q := nI_clamp (by omega)
    refine g_iload_n dS_sheet_7 rfl ?_
    refine g_if_eq dS_sheet_8 rfl (fun h8 => ?_) (fun h8 => ?_)
    · refine g_iload_n dS_sheet_35 rfl ?_
      refine g_if_ge dS_sheet_36 rfl (fun h36 => ?_) (fun h36 => ?_)
      · refine g_iload_n dS_sheet_46 rfl ?_
        refine g_bipush (v := 40) dS_sheet_47 (by decide) ?_
        refine g_icmp_le dS_sheet_49 rfl (fun h49 => ?_) (fun h49 => ?_)
        · refine g_aload_n dS_sheet_58 rfl ?_
          refine g_getR2 (k2 := 23) dS_sheet_59 fS_50 rfl rfl (by decide) rfl ?_
          refine g_iload_n dS_sheet_62 rfl ?_
          refine g_sheetN (i := q) dS_sheet_63 hq ?_
          refine g_iload_n dS_sheet_64 rfl ?_
          refine g_iload_n dS_sheet_65 rfl ?_
          refine gV2v dS_sheet_66 kS_sheet_220 (shO hq) rfl (cE_begin hq) (Nat.le_of_ble_eq_true rfl) ?_
          refine g_aload_n dS_sheet_69 rfl ?_
          refine g_getR2 (k2 := 23) dS_sheet_70 fS_50 rfl rfl (by decide) rfl ?_
          refine g_iload_n dS_sheet_73 rfl ?_
          refine g_sheetN (i := q) dS_sheet_74 hq ?_
          refine g_getI dS_sheet_75 fS_224 (shO hq) rfl ?_
          refine g_top (y := if b = 0 then 0 else n) (by simp [shW, upR, up, upd]) ?_
          refine g_iret dS_sheet_78 rfl rfl ?_
          exact IsP_of (by rw [sheetC, if_pos (by grind), if_neg (Int32.not_lt.mpr h36), if_pos h49, cq])
        · refine g_aload_n dS_sheet_52 rfl ?_
          refine g_iconst (v := 0) dS_sheet_53 (by decide) ?_
          refine gV1 dS_sheet_54 kS_sheet_61 rfl rfl (cS_finding (q := 0) (by decide)) (Nat.le_of_ble_eq_true rfl) ?_
          refine g_iret dS_sheet_57 rfl rfl ?_
          exact IsP_of (by rw [sheetC, if_pos (by grind), if_neg (Int32.not_lt.mpr h36), if_neg h49])
      · refine g_aload_n dS_sheet_39 rfl ?_
        refine g_bipush (v := 6) dS_sheet_40 (by decide) ?_
        refine gV1 dS_sheet_42 kS_sheet_61 rfl rfl (cS_finding (q := 6) (by decide)) (Nat.le_of_ble_eq_true rfl) ?_
        refine g_iret dS_sheet_45 rfl rfl ?_
        exact IsP_of (by rw [sheetC, if_pos (by grind), if_pos (Int32.not_le.mp h36)])
    · refine g_iload_n dS_sheet_11 rfl ?_
      refine g_bipush (v := 8) dS_sheet_12 (by decide) ?_
      refine g_icmp_eq dS_sheet_14 rfl (fun h14 => ?_) (fun h14 => ?_)
      · refine g_iload_n dS_sheet_35 rfl ?_
        refine g_if_ge dS_sheet_36 rfl (fun h36 => ?_) (fun h36 => ?_)
        · refine g_iload_n dS_sheet_46 rfl ?_
          refine g_bipush (v := 40) dS_sheet_47 (by decide) ?_
          refine g_icmp_le dS_sheet_49 rfl (fun h49 => ?_) (fun h49 => ?_)
          · refine g_aload_n dS_sheet_58 rfl ?_
            refine g_getR2 (k2 := 23) dS_sheet_59 fS_50 rfl rfl (by decide) rfl ?_
            refine g_iload_n dS_sheet_62 rfl ?_
            refine g_sheetN (i := q) dS_sheet_63 hq ?_
            refine g_iload_n dS_sheet_64 rfl ?_
            refine g_iload_n dS_sheet_65 rfl ?_
            refine gV2v dS_sheet_66 kS_sheet_220 (shO hq) rfl (cE_begin hq) (Nat.le_of_ble_eq_true rfl) ?_
            refine g_aload_n dS_sheet_69 rfl ?_
            refine g_getR2 (k2 := 23) dS_sheet_70 fS_50 rfl rfl (by decide) rfl ?_
            refine g_iload_n dS_sheet_73 rfl ?_
            refine g_sheetN (i := q) dS_sheet_74 hq ?_
            refine g_getI dS_sheet_75 fS_224 (shO hq) rfl ?_
            refine g_top (y := if b = 0 then 0 else n) (by simp [shW, upR, up, upd]) ?_
            refine g_iret dS_sheet_78 rfl rfl ?_
            exact IsP_of (by rw [sheetC, if_pos (by grind), if_neg (Int32.not_lt.mpr h36), if_pos h49, cq])
          · refine g_aload_n dS_sheet_52 rfl ?_
            refine g_iconst (v := 0) dS_sheet_53 (by decide) ?_
            refine gV1 dS_sheet_54 kS_sheet_61 rfl rfl (cS_finding (q := 0) (by decide)) (Nat.le_of_ble_eq_true rfl) ?_
            refine g_iret dS_sheet_57 rfl rfl ?_
            exact IsP_of (by rw [sheetC, if_pos (by grind), if_neg (Int32.not_lt.mpr h36), if_neg h49])
        · refine g_aload_n dS_sheet_39 rfl ?_
          refine g_bipush (v := 6) dS_sheet_40 (by decide) ?_
          refine gV1 dS_sheet_42 kS_sheet_61 rfl rfl (cS_finding (q := 6) (by decide)) (Nat.le_of_ble_eq_true rfl) ?_
          refine g_iret dS_sheet_45 rfl rfl ?_
          exact IsP_of (by rw [sheetC, if_pos (by grind), if_pos (Int32.not_le.mp h36)])
      · refine g_iload_n dS_sheet_17 rfl ?_
        refine g_bipush (v := 16) dS_sheet_18 (by decide) ?_
        refine g_icmp_eq dS_sheet_20 rfl (fun h20 => ?_) (fun h20 => ?_)
        · refine g_iload_n dS_sheet_35 rfl ?_
          refine g_if_ge dS_sheet_36 rfl (fun h36 => ?_) (fun h36 => ?_)
          · refine g_iload_n dS_sheet_46 rfl ?_
            refine g_bipush (v := 40) dS_sheet_47 (by decide) ?_
            refine g_icmp_le dS_sheet_49 rfl (fun h49 => ?_) (fun h49 => ?_)
            · refine g_aload_n dS_sheet_58 rfl ?_
              refine g_getR2 (k2 := 23) dS_sheet_59 fS_50 rfl rfl (by decide) rfl ?_
              refine g_iload_n dS_sheet_62 rfl ?_
              refine g_sheetN (i := q) dS_sheet_63 hq ?_
              refine g_iload_n dS_sheet_64 rfl ?_
              refine g_iload_n dS_sheet_65 rfl ?_
              refine gV2v dS_sheet_66 kS_sheet_220 (shO hq) rfl (cE_begin hq) (Nat.le_of_ble_eq_true rfl) ?_
              refine g_aload_n dS_sheet_69 rfl ?_
              refine g_getR2 (k2 := 23) dS_sheet_70 fS_50 rfl rfl (by decide) rfl ?_
              refine g_iload_n dS_sheet_73 rfl ?_
              refine g_sheetN (i := q) dS_sheet_74 hq ?_
              refine g_getI dS_sheet_75 fS_224 (shO hq) rfl ?_
              refine g_top (y := if b = 0 then 0 else n) (by simp [shW, upR, up, upd]) ?_
              refine g_iret dS_sheet_78 rfl rfl ?_
              exact IsP_of (by rw [sheetC, if_pos (by grind), if_neg (Int32.not_lt.mpr h36), if_pos h49, cq])
            · refine g_aload_n dS_sheet_52 rfl ?_
              refine g_iconst (v := 0) dS_sheet_53 (by decide) ?_
              refine gV1 dS_sheet_54 kS_sheet_61 rfl rfl (cS_finding (q := 0) (by decide)) (Nat.le_of_ble_eq_true rfl) ?_
              refine g_iret dS_sheet_57 rfl rfl ?_
              exact IsP_of (by rw [sheetC, if_pos (by grind), if_neg (Int32.not_lt.mpr h36), if_neg h49])
          · refine g_aload_n dS_sheet_39 rfl ?_
            refine g_bipush (v := 6) dS_sheet_40 (by decide) ?_
            refine gV1 dS_sheet_42 kS_sheet_61 rfl rfl (cS_finding (q := 6) (by decide)) (Nat.le_of_ble_eq_true rfl) ?_
            refine g_iret dS_sheet_45 rfl rfl ?_
            exact IsP_of (by rw [sheetC, if_pos (by grind), if_pos (Int32.not_le.mp h36)])
        · refine g_iload_n dS_sheet_23 rfl ?_
          refine g_bipush (v := 32) dS_sheet_24 (by decide) ?_
          refine g_icmp_eq dS_sheet_26 rfl (fun h26 => ?_) (fun h26 => ?_)
          · refine g_iload_n dS_sheet_35 rfl ?_
            refine g_if_ge dS_sheet_36 rfl (fun h36 => ?_) (fun h36 => ?_)
            · refine g_iload_n dS_sheet_46 rfl ?_
              refine g_bipush (v := 40) dS_sheet_47 (by decide) ?_
              refine g_icmp_le dS_sheet_49 rfl (fun h49 => ?_) (fun h49 => ?_)
              · refine g_aload_n dS_sheet_58 rfl ?_
                refine g_getR2 (k2 := 23) dS_sheet_59 fS_50 rfl rfl (by decide) rfl ?_
                refine g_iload_n dS_sheet_62 rfl ?_
                refine g_sheetN (i := q) dS_sheet_63 hq ?_
                refine g_iload_n dS_sheet_64 rfl ?_
                refine g_iload_n dS_sheet_65 rfl ?_
                refine gV2v dS_sheet_66 kS_sheet_220 (shO hq) rfl (cE_begin hq) (Nat.le_of_ble_eq_true rfl) ?_
                refine g_aload_n dS_sheet_69 rfl ?_
                refine g_getR2 (k2 := 23) dS_sheet_70 fS_50 rfl rfl (by decide) rfl ?_
                refine g_iload_n dS_sheet_73 rfl ?_
                refine g_sheetN (i := q) dS_sheet_74 hq ?_
                refine g_getI dS_sheet_75 fS_224 (shO hq) rfl ?_
                refine g_top (y := if b = 0 then 0 else n) (by simp [shW, upR, up, upd]) ?_
                refine g_iret dS_sheet_78 rfl rfl ?_
                exact IsP_of (by rw [sheetC, if_pos (by grind), if_neg (Int32.not_lt.mpr h36), if_pos h49, cq])
              · refine g_aload_n dS_sheet_52 rfl ?_
                refine g_iconst (v := 0) dS_sheet_53 (by decide) ?_
                refine gV1 dS_sheet_54 kS_sheet_61 rfl rfl (cS_finding (q := 0) (by decide)) (Nat.le_of_ble_eq_true rfl) ?_
                refine g_iret dS_sheet_57 rfl rfl ?_
                exact IsP_of (by rw [sheetC, if_pos (by grind), if_neg (Int32.not_lt.mpr h36), if_neg h49])
            · refine g_aload_n dS_sheet_39 rfl ?_
              refine g_bipush (v := 6) dS_sheet_40 (by decide) ?_
              refine gV1 dS_sheet_42 kS_sheet_61 rfl rfl (cS_finding (q := 6) (by decide)) (Nat.le_of_ble_eq_true rfl) ?_
              refine g_iret dS_sheet_45 rfl rfl ?_
              exact IsP_of (by rw [sheetC, if_pos (by grind), if_pos (Int32.not_le.mp h36)])
          · refine g_aload_n dS_sheet_29 rfl ?_
            refine g_iconst (v := 0) dS_sheet_30 (by decide) ?_
            refine gV1 dS_sheet_31 kS_sheet_61 rfl rfl (cS_finding (q := 0) (by decide)) (Nat.le_of_ble_eq_true rfl) ?_
            refine g_iret dS_sheet_34 rfl rfl ?_
            exact IsP_of (by rw [sheetC, if_neg (by grind)])

set_option maxRecDepth 4000 in
theorem cS_write {l : Launch} {g : GG} {w : Wd} {s i v : Int32} (hz : ∀ q, q < 4 → ∃ z, z ≤ 40 ∧ w (24 + 2 * q) 1 = nI z) : Res l g S_write [.ref (g.1 0), .int s, .int i, .int v] w (IsP (writeC s i v w)) := by
  refine Res.of (by decide) (by simp [Value.category]) (Nat.le_of_ble_eq_true rfl) rfl ?_
  show Go l g S_write 0 [some (.ref (g.1 0)), some (.int s), some (.int i), some (.int v)] [] w _
  refine g_iload_n dS_write_0 rfl ?_
  refine gS1 dS_write_1 kS_write_177 cS_isSheet (Nat.le_of_ble_eq_true rfl) ?_
  refine g_if_ne dS_write_4 rfl (fun h4 => ?_) (fun h4 => ?_)
  · have h4 := Classical.not_not.mp (fun z => h4 (bI_0.mpr z))
    obtain ⟨q, hq, eq⟩ := nI_of2 (n := 3) (by decide) (Int32.not_lt.mpr h4.1) h4.2
    have hq : q < 4 := by omega
    subst eq
    have cq : (nI q).toNatClampNeg = q := nI_clamp (by omega)
    refine g_aload_n dS_write_13 rfl ?_
    refine g_getR2 (k2 := 23) dS_write_14 fS_50 rfl rfl (by decide) rfl ?_
    refine g_iload_n dS_write_17 rfl ?_
    refine g_sheetN (i := q) dS_write_18 hq ?_
    refine gV0 dS_write_19 kS_write_180 (shO hq) rfl (cE_isMissing hq) (Nat.le_of_ble_eq_true rfl) ?_
    refine g_if_eq dS_write_22 rfl (fun h22 => ?_) (fun h22 => ?_)
    · have h22 := bI_0.mp h22
      refine g_iload_n dS_write_31 rfl ?_
      refine g_iconst (v := 0) dS_write_32 (by decide) ?_
      refine g_aload_n dS_write_33 rfl ?_
      refine g_getR2 (k2 := 23) dS_write_34 fS_50 rfl rfl (by decide) rfl ?_
      refine g_iload_n dS_write_37 rfl ?_
      refine g_sheetN (i := q) dS_write_38 hq ?_
      refine g_getI dS_write_39 fS_224 (shO hq) rfl ?_
      refine g_iconst (v := 1) dS_write_42 (by decide) ?_
      refine g_isub dS_write_43 ?_
      refine gS3 dS_write_44 kS_write_81 cS_isWithin (Nat.le_of_ble_eq_true rfl) ?_
      refine g_if_ne dS_write_47 rfl (fun h47 => ?_) (fun h47 => ?_)
      · have h47 := Classical.not_not.mp (fun z => h47 (bI_0.mpr z))
        obtain ⟨z, hz40, ez⟩ := hz q hq
        obtain ⟨j, hj, ej⟩ := ixN h47.1 (ez ▸ h47.2) hz40
        subst ej
        refine g_aload_n dS_write_56 rfl ?_
        refine g_getR2 (k2 := 23) dS_write_57 fS_50 rfl rfl (by decide) rfl ?_
        refine g_iload_n dS_write_60 rfl ?_
        refine g_sheetN (i := q) dS_write_61 hq ?_
        refine g_iload_n dS_write_62 rfl ?_
        refine g_iload_n dS_write_63 rfl ?_
        refine gV2v dS_write_64 kS_write_225 (shO hq) rfl (cE_put hq (by omega)) (Nat.le_of_ble_eq_true rfl) ?_
        refine g_iconst (v := 1) dS_write_67 (by decide) ?_
        refine g_iret dS_write_68 rfl rfl ?_
        exact IsP_of (by rw [writeC, if_pos h4, shB, shZ, cq, if_neg h22, if_pos h47, nI_clamp (by omega)])
      · have h47 := bI_0.mp h47
        refine g_aload_n dS_write_50 rfl ?_
        refine g_iconst (v := 0) dS_write_51 (by decide) ?_
        refine gV1 dS_write_52 kS_write_61 rfl rfl (cS_finding (q := 0) (by decide)) (Nat.le_of_ble_eq_true rfl) ?_
        refine g_iret dS_write_55 rfl rfl ?_
        exact IsP_of (by rw [writeC, if_pos h4, shB, shZ, cq, if_neg h22, if_neg h47])
    · have h22 := Classical.not_not.mp (fun z => h22 (bI_0.mpr z))
      refine g_aload_n dS_write_25 rfl ?_
      refine g_iconst (v := 5) dS_write_26 (by decide) ?_
      refine gV1 dS_write_27 kS_write_61 rfl rfl (cS_finding (q := 5) (by decide)) (Nat.le_of_ble_eq_true rfl) ?_
      refine g_iret dS_write_30 rfl rfl ?_
      exact IsP_of (by rw [writeC, if_pos h4, shB, cq, if_pos h22])
  · have h4 := bI_0.mp h4
    refine g_aload_n dS_write_7 rfl ?_
    refine g_iconst (v := 0) dS_write_8 (by decide) ?_
    refine gV1 dS_write_9 kS_write_61 rfl rfl (cS_finding (q := 0) (by decide)) (Nat.le_of_ble_eq_true rfl) ?_
    refine g_iret dS_write_12 rfl rfl ?_
    exact IsP_of (by rw [writeC, if_neg h4])

set_option maxRecDepth 4000 in
theorem cS_copy {l : Launch} {g : GG} {w : Wd} {s f t d n : Int32} (hz : ∀ q, q < 4 → ∃ z, z ≤ 40 ∧ w (24 + 2 * q) 1 = nI z) : Res l g S_copy [.ref (g.1 0), .int s, .int f, .int t, .int d, .int n] w (IsP (copyC s f t d n w)) := by
  refine Res.of (by decide) (by simp [Value.category]) (Nat.le_of_ble_eq_true rfl) rfl ?_
  show Go l g S_copy 0 [some (.ref (g.1 0)), some (.int s), some (.int f), some (.int t), some (.int d), some (.int n)] [] w _
  refine g_iload_n dS_copy_0 rfl ?_
  refine gS1 dS_copy_1 kS_copy_177 cS_isSheet (Nat.le_of_ble_eq_true rfl) ?_
  refine g_if_eq dS_copy_4 rfl (fun h4 => ?_) (fun h4 => ?_)
  · have h4 := bI_0.mp h4
    refine g_aload_n dS_copy_14 rfl ?_
    refine g_iconst (v := 0) dS_copy_15 (by decide) ?_
    refine gV1 dS_copy_16 kS_copy_61 rfl rfl (cS_finding (q := 0) (by decide)) (Nat.le_of_ble_eq_true rfl) ?_
    refine g_iret dS_copy_19 rfl rfl ?_
    exact IsP_of (by rw [copyC, if_neg (by grind)])
  · have h4 := Classical.not_not.mp (fun z => h4 (bI_0.mpr z))
    obtain ⟨q, hq, eq⟩ := nI_of2 (n := 3) (by decide) (Int32.not_lt.mpr h4.1) h4.2
    have hq : q < 4 := by omega
    subst eq
    have cq : (nI q).toNatClampNeg = q := nI_clamp (by omega)
    refine g_iload_n dS_copy_7 rfl ?_
    refine gS1 dS_copy_8 kS_copy_177 cS_isSheet (Nat.le_of_ble_eq_true rfl) ?_
    refine g_if_ne dS_copy_11 rfl (fun h11 => ?_) (fun h11 => ?_)
    · have h11 := Classical.not_not.mp (fun z => h11 (bI_0.mpr z))
      obtain ⟨q2, hq2, eq2⟩ := nI_of2 (n := 3) (by decide) (Int32.not_lt.mpr h11.1) h11.2
      have hq2 : q2 < 4 := by omega
      subst eq2
      have cq2 : (nI q2).toNatClampNeg = q2 := nI_clamp (by omega)
      refine g_aload_n dS_copy_20 rfl ?_
      refine g_getR2 (k2 := 23) dS_copy_21 fS_50 rfl rfl (by decide) rfl ?_
      refine g_iload_n dS_copy_24 rfl ?_
      refine g_sheetN (i := q) dS_copy_25 hq ?_
      refine gV0 dS_copy_26 kS_copy_180 (shO hq) rfl (cE_isMissing hq) (Nat.le_of_ble_eq_true rfl) ?_
      refine g_if_ne dS_copy_29 rfl (fun h29 => ?_) (fun h29 => ?_)
      · have h29 := Classical.not_not.mp (fun z => h29 (bI_0.mpr z))
        refine g_aload_n dS_copy_44 rfl ?_
        refine g_iconst (v := 5) dS_copy_45 (by decide) ?_
        refine gV1 dS_copy_46 kS_copy_61 rfl rfl (cS_finding (q := 5) (by decide)) (Nat.le_of_ble_eq_true rfl) ?_
        refine g_iret dS_copy_49 rfl rfl ?_
        exact IsP_of (by rw [copyC, if_pos ⟨h4, h11⟩, shB, shB, cq, cq2, if_pos (by grind)])
      · have h29 := bI_0.mp h29
        refine g_aload_n dS_copy_32 rfl ?_
        refine g_getR2 (k2 := 23) dS_copy_33 fS_50 rfl rfl (by decide) rfl ?_
        refine g_iload_n dS_copy_36 rfl ?_
        refine g_sheetN (i := q2) dS_copy_37 hq2 ?_
        refine gV0 dS_copy_38 kS_copy_180 (shO hq2) rfl (cE_isMissing hq2) (Nat.le_of_ble_eq_true rfl) ?_
        refine g_if_eq dS_copy_41 rfl (fun h41 => ?_) (fun h41 => ?_)
        · have h41 := bI_0.mp h41
          refine g_aload_n dS_copy_50 rfl ?_
          refine g_getR2 (k2 := 23) dS_copy_51 fS_50 rfl rfl (by decide) rfl ?_
          refine g_iload_n dS_copy_54 rfl ?_
          refine g_sheetN (i := q) dS_copy_55 hq ?_
          refine g_getI dS_copy_56 fS_228 (shO hq) rfl ?_
          refine g_aload_n dS_copy_59 rfl ?_
          refine g_getR2 (k2 := 23) dS_copy_60 fS_50 rfl rfl (by decide) rfl ?_
          refine g_iload_n dS_copy_63 rfl ?_
          refine g_sheetN (i := q2) dS_copy_64 hq2 ?_
          refine g_getI dS_copy_65 fS_228 (shO hq2) rfl ?_
          refine g_icmp_eq dS_copy_68 rfl (fun h68 => ?_) (fun h68 => ?_)
          · refine g_aload_n dS_copy_77 rfl ?_
            refine g_getR2 (k2 := 23) dS_copy_78 fS_50 rfl rfl (by decide) rfl ?_
            refine g_iload_n dS_copy_81 rfl ?_
            refine g_sheetN (i := q) dS_copy_82 hq ?_
            refine g_iload_n dS_copy_83 rfl ?_
            refine g_iload dS_copy_84 rfl ?_
            refine gV2 dS_copy_86 kS_copy_231 (shO hq) rfl (cE_hasRun hq) (Nat.le_of_ble_eq_true rfl) ?_
            refine g_if_eq dS_copy_89 rfl (fun h89 => ?_) (fun h89 => ?_)
            · have h89 := bI_0.mp h89
              refine g_aload_n dS_copy_108 rfl ?_
              refine g_iconst (v := 0) dS_copy_109 (by decide) ?_
              refine gV1 dS_copy_110 kS_copy_61 rfl rfl (cS_finding (q := 0) (by decide)) (Nat.le_of_ble_eq_true rfl) ?_
              refine g_iret dS_copy_113 rfl rfl ?_
              exact IsP_of (by rw [copyC, if_pos ⟨h4, h11⟩, shB, shB, shZ, shZ, cq, cq2, if_neg (by grind), if_pos h68, if_neg (by grind)])
            · have h89 := Classical.not_not.mp (fun z => h89 (bI_0.mpr z))
              refine g_aload_n dS_copy_92 rfl ?_
              refine g_getR2 (k2 := 23) dS_copy_93 fS_50 rfl rfl (by decide) rfl ?_
              refine g_iload_n dS_copy_96 rfl ?_
              refine g_sheetN (i := q2) dS_copy_97 hq2 ?_
              refine g_iload dS_copy_98 rfl ?_
              refine g_iload dS_copy_100 rfl ?_
              refine gV2 dS_copy_102 kS_copy_231 (shO hq2) rfl (cE_hasRun hq2) (Nat.le_of_ble_eq_true rfl) ?_
              refine g_if_ne dS_copy_105 rfl (fun h105 => ?_) (fun h105 => ?_)
              · have h105 := Classical.not_not.mp (fun z => h105 (bI_0.mpr z))
                obtain ⟨z, hz40, ez⟩ := hz q hq
                obtain ⟨z2, hz402, ez2⟩ := hz q2 hq2
                obtain ⟨f0, n0, h0z, rfl, rfl⟩ := runN (ez ▸ h89) hz40
                obtain ⟨d0, h0d, rfl⟩ := runN2 (ez2 ▸ h105) hz402 (by omega)
                refine g_aload_n dS_copy_114 rfl ?_
                refine g_getR2 (k2 := 23) dS_copy_115 fS_50 rfl rfl (by decide) rfl ?_
                refine g_iload_n dS_copy_118 rfl ?_
                refine g_sheetN (i := q) dS_copy_119 hq ?_
                refine g_getR2 (k2 := ((24 + 2 * q) + 1)) dS_copy_120 fS_234 (shO hq) rfl (by decide) rfl ?_
                refine g_iload_n dS_copy_123 rfl ?_
                refine g_aload_n dS_copy_124 rfl ?_
                refine g_getR2 (k2 := 23) dS_copy_125 fS_50 rfl rfl (by decide) rfl ?_
                refine g_iload_n dS_copy_128 rfl ?_
                refine g_sheetN (i := q2) dS_copy_129 hq2 ?_
                refine g_getR2 (k2 := ((24 + 2 * q2) + 1)) dS_copy_130 fS_234 (shO hq2) rfl (by decide) rfl ?_
                refine g_iload dS_copy_133 rfl ?_
                refine g_iload dS_copy_135 rfl ?_
                refine g_acopy (sp := f0) (dp := d0) (len := n0) (k0 := 24 + 2 * q + 1) (k1 := 24 + 2 * q2 + 1) dS_copy_137 lS_237 ac_nat ac_st ini_sys (shA hq) (shA hq2) (by omega) (by omega) (by decide) (by decide) (by decide) (Nat.le_of_ble_eq_true rfl) ?_
                refine g_iload dS_copy_140 rfl ?_
                refine g_iret dS_copy_142 rfl rfl ?_
                exact IsP_of (by rw [copyC, if_pos ⟨h4, h11⟩, shB, shB, shZ, shZ, shN, shN, cq, cq2, if_neg (by grind), if_pos h68, if_pos ⟨h89, h105⟩, nI_clamp (by omega), nI_clamp (by omega), nI_clamp (by omega)])
              · have h105 := bI_0.mp h105
                refine g_aload_n dS_copy_108 rfl ?_
                refine g_iconst (v := 0) dS_copy_109 (by decide) ?_
                refine gV1 dS_copy_110 kS_copy_61 rfl rfl (cS_finding (q := 0) (by decide)) (Nat.le_of_ble_eq_true rfl) ?_
                refine g_iret dS_copy_113 rfl rfl ?_
                exact IsP_of (by rw [copyC, if_pos ⟨h4, h11⟩, shB, shB, shZ, shZ, cq, cq2, if_neg (by grind), if_pos h68, if_neg (by grind)])
          · refine g_aload_n dS_copy_71 rfl ?_
            refine g_iconst (v := 2) dS_copy_72 (by decide) ?_
            refine gV1 dS_copy_73 kS_copy_61 rfl rfl (cS_finding (q := 2) (by decide)) (Nat.le_of_ble_eq_true rfl) ?_
            refine g_iret dS_copy_76 rfl rfl ?_
            exact IsP_of (by rw [copyC, if_pos ⟨h4, h11⟩, shB, shB, cq, cq2, if_neg (by grind), if_neg h68])
        · have h41 := Classical.not_not.mp (fun z => h41 (bI_0.mpr z))
          refine g_aload_n dS_copy_44 rfl ?_
          refine g_iconst (v := 5) dS_copy_45 (by decide) ?_
          refine gV1 dS_copy_46 kS_copy_61 rfl rfl (cS_finding (q := 5) (by decide)) (Nat.le_of_ble_eq_true rfl) ?_
          refine g_iret dS_copy_49 rfl rfl ?_
          exact IsP_of (by rw [copyC, if_pos ⟨h4, h11⟩, shB, shB, cq, cq2, if_pos (by grind)])
    · have h11 := bI_0.mp h11
      refine g_aload_n dS_copy_14 rfl ?_
      refine g_iconst (v := 0) dS_copy_15 (by decide) ?_
      refine gV1 dS_copy_16 kS_copy_61 rfl rfl (cS_finding (q := 0) (by decide)) (Nat.le_of_ble_eq_true rfl) ?_
      refine g_iret dS_copy_19 rfl rfl ?_
      exact IsP_of (by rw [copyC, if_neg (by grind)])

set_option maxRecDepth 4000 in
theorem lS_load {l : Launch} {g : GG} {w : Wd} {n : Nat} (h8 : n ≤ 8) {q : Nat} (hq : q < 4) {z : Nat} (hz40 : z ≤ 40) (ez : w (24 + 2 * q) 1 = nI z)  : ∀ (m : Nat) (i : Nat) (A : HA), 41 - i < m → i ≤ 40 → A.1 6 = nI n → Go l g S_load 33 [some (.ref (g.1 0)), some (.int (nI q)), some (.int (nI i))] [] (hput 1 A w) (IsP ((loadF (w (24 + 2 * q + 1)) z n (41 - i) i A).1, hput 1 (loadF (w (24 + 2 * q + 1)) z n (41 - i) i A).2 w)) := by
  intro m
  induction m with
  | zero => intro i A hm hi hn; omega
  | succ m ih =>
    intro i A hm hi hn
    refine g_iload_n dS_load_33 rfl ?_
    refine g_aload_n dS_load_34 rfl ?_
    refine g_getR2 (k2 := 23) dS_load_35 fS_50 rfl rfl (by decide) rfl ?_
    refine g_iload_n dS_load_38 rfl ?_
    refine g_sheetN (i := q) dS_load_39 hq ?_
    refine g_getI dS_load_40 fS_224 (shO hq) rfl ?_
    rw [h1_sh]
    refine g_icmp_ge dS_load_43 rfl (fun h43 => ?_) (fun h43 => ?_)
    · rw [ez, nI_leI (by omega) (by omega)] at h43
      refine g_iload_n dS_load_103 rfl ?_
      refine g_iret dS_load_104 rfl rfl ?_
      refine IsP_of ?_
      rw [show 41 - i = (40 - i) + 1 by omega, loadF, if_neg (by grind)]
    · rw [ez, nI_leI (by omega) (by omega)] at h43
      refine g_aload_n dS_load_46 rfl ?_
      refine g_getR2 (k2 := 1) dS_load_47 fS_12 rfl rfl (by decide) rfl ?_
      refine g_iload_n dS_load_50 rfl ?_
      refine gV1 dS_load_51 kS_load_100 rfl rfl (cH_has isH1) (Nat.le_of_ble_eq_true rfl) ?_
      refine g_if_eq dS_load_54 rfl (fun h54 => ?_) (fun h54 => ?_)
      · rw [hn] at h54
        have h54 := bI_0.mp h54
        have h54 : ¬ i < n := fun z => h54 ⟨nI_pos' (by omega), nI_lt z (by omega)⟩
        refine g_iload_n dS_load_103 rfl ?_
        refine g_iret dS_load_104 rfl rfl ?_
        refine IsP_of ?_
        rw [show 41 - i = (40 - i) + 1 by omega, loadF, if_neg (by grind)]
      · rw [hn] at h54
        have h54 := Classical.not_not.mp (fun z => h54 (bI_0.mpr z))
        have h54 := (nI_ltI (by omega) (by omega)).mp h54.2
        refine g_aload_n dS_load_57 rfl ?_
        refine g_getR2 (k2 := 23) dS_load_58 fS_50 rfl rfl (by decide) rfl ?_
        refine g_iload_n dS_load_61 rfl ?_
        refine g_sheetN (i := q) dS_load_62 hq ?_
        refine g_getR2 (k2 := ((24 + 2 * q) + 1)) dS_load_63 fS_234 (shO hq) rfl (by decide) rfl ?_
        refine g_iload_n dS_load_66 rfl ?_
        refine g_ialdN dS_load_67 (shA hq) (by omega) (by decide) ?_
        rw [h1_sn]
        refine g_iconst (v := 0) dS_load_68 (by decide) ?_
        refine g_bipush (v := 99) dS_load_69 (by decide) ?_
        refine gS3 dS_load_71 kS_load_81 cS_isWithin (Nat.le_of_ble_eq_true rfl) ?_
        refine g_if_eq dS_load_74 rfl (fun h74 => ?_) (fun h74 => ?_)
        · have h74 := bI_0.mp h74
          refine g_iload_n dS_load_103 rfl ?_
          refine g_iret dS_load_104 rfl rfl ?_
          refine IsP_of ?_
          rw [show 41 - i = (40 - i) + 1 by omega, loadF, if_neg (by grind)]
        · have h74 := Classical.not_not.mp (fun z => h74 (bI_0.mpr z))
          refine g_aload_n dS_load_77 rfl ?_
          refine g_getR2 (k2 := 1) dS_load_78 fS_12 rfl rfl (by decide) rfl ?_
          refine g_getR2 (k2 := 4) dS_load_81 fS_118 rfl rfl (by decide) rfl ?_
          refine g_iload_n dS_load_84 rfl ?_
          refine g_aload_n dS_load_85 rfl ?_
          refine g_getR2 (k2 := 23) dS_load_86 fS_50 rfl rfl (by decide) rfl ?_
          refine g_iload_n dS_load_89 rfl ?_
          refine g_sheetN (i := q) dS_load_90 hq ?_
          refine g_getR2 (k2 := ((24 + 2 * q) + 1)) dS_load_91 fS_234 (shO hq) rfl (by decide) rfl ?_
          refine g_iload_n dS_load_94 rfl ?_
          refine g_ialdN dS_load_95 (shA hq) (by omega) (by decide) ?_
          rw [h1_sn]
          refine g_iastN dS_load_96 rfl (by omega) (by decide) ?_
          rw [show (4 : Nat) = 1 + 3 from rfl, up_hF]
          refine g_iinc (v := nI (i + 1)) dS_load_97 rfl (nI_succ i).symm (by decide) rfl rfl ?_
          dsimp only [List.set]
          refine g_goto dS_load_100 rfl ?_
          refine g_mono (fun r w2 h => ?_) (ih (i + 1) _ (by omega) (by omega) hn)
          rw [show 41 - i = (41 - (i + 1)) + 1 by omega, loadF, if_pos ⟨by omega, h54, h74⟩]
          exact h

set_option maxRecDepth 4000 in
theorem cS_load {l : Launch} {g : GG} {w : Wd} {n : Nat} (hn : w 1 6 = nI n) (h8 : n ≤ 8) {s : Int32} (hz : ∀ q, q < 4 → ∃ z, z ≤ 40 ∧ w (24 + 2 * q) 1 = nI z) : Res l g S_load [.ref (g.1 0), .int s] w (IsP (loadC n s w)) := by
  refine Res.of (by decide) (by simp [Value.category]) (Nat.le_of_ble_eq_true rfl) rfl ?_
  show Go l g S_load 0 [some (.ref (g.1 0)), some (.int s), none] [] w _
  refine g_iload_n dS_load_0 rfl ?_
  refine gS1 dS_load_1 kS_load_177 cS_isSheet (Nat.le_of_ble_eq_true rfl) ?_
  refine g_if_ne dS_load_4 rfl (fun h4 => ?_) (fun h4 => ?_)
  · have h4 := Classical.not_not.mp (fun z => h4 (bI_0.mpr z))
    obtain ⟨q, hq, eq⟩ := nI_of2 (n := 3) (by decide) (Int32.not_lt.mpr h4.1) h4.2
    have hq : q < 4 := by omega
    subst eq
    have cq : (nI q).toNatClampNeg = q := nI_clamp (by omega)
    refine g_aload_n dS_load_13 rfl ?_
    refine g_getR2 (k2 := 23) dS_load_14 fS_50 rfl rfl (by decide) rfl ?_
    refine g_iload_n dS_load_17 rfl ?_
    refine g_sheetN (i := q) dS_load_18 hq ?_
    refine gV0 dS_load_19 kS_load_180 (shO hq) rfl (cE_isMissing hq) (Nat.le_of_ble_eq_true rfl) ?_
    refine g_if_eq dS_load_22 rfl (fun h22 => ?_) (fun h22 => ?_)
    · have h22 := bI_0.mp h22
      refine g_iconst (v := 0) dS_load_31 (by decide) ?_
      refine g_istore_n dS_load_32 (by decide) rfl rfl ?_
      dsimp only [List.set]
      obtain ⟨z, hz40, ez⟩ := hz q hq
      refine g_w (hput_hget 1 w).symm ?_
      refine g_mono (fun r w2 h => ?_) (lS_load h8 hq hz40 ez 42 0 _ (by omega) (by omega) hn)
      rw [loadC, if_pos h4, shB, shZ, shN, cq, if_neg h22, ez, nI_clamp (by omega)]
      exact h
    · have h22 := Classical.not_not.mp (fun z => h22 (bI_0.mpr z))
      refine g_aload_n dS_load_25 rfl ?_
      refine g_iconst (v := 5) dS_load_26 (by decide) ?_
      refine gV1 dS_load_27 kS_load_61 rfl rfl (cS_finding (q := 5) (by decide)) (Nat.le_of_ble_eq_true rfl) ?_
      refine g_iret dS_load_30 rfl rfl ?_
      exact IsP_of (by rw [loadC, if_pos h4, shB, cq, if_pos h22])
  · have h4 := bI_0.mp h4
    refine g_aload_n dS_load_7 rfl ?_
    refine g_iconst (v := 0) dS_load_8 (by decide) ?_
    refine gV1 dS_load_9 kS_load_61 rfl rfl (cS_finding (q := 0) (by decide)) (Nat.le_of_ble_eq_true rfl) ?_
    refine g_iret dS_load_12 rfl rfl ?_
    exact IsP_of (by rw [loadC, if_neg h4])

set_option maxRecDepth 4000 in
theorem lS_judge {l : Launch} {g : GG} {w : Wd} {n : Nat} (hn : w 1 6 = nI n) (h8 : n ≤ 8) {q : Nat} (hq : q < 4) {z : Nat} (hz40 : z ≤ 40) (ez : w (24 + 2 * q) 1 = nI z)  : ∀ (m : Nat) (i : Nat), 41 - i < m → i ≤ 40 → Go l g S_judge 33 [some (.ref (g.1 0)), some (.int (nI q)), some (.int (nI i))] [] w (IsP (judgeF (w (24 + 2 * q + 1)) (w 3) z n (41 - i) i, w)) := by
  intro m
  induction m with
  | zero => intro i hm hi; omega
  | succ m ih =>
    intro i hm hi
    refine g_iload_n dS_judge_33 rfl ?_
    refine g_aload_n dS_judge_34 rfl ?_
    refine g_getR2 (k2 := 23) dS_judge_35 fS_50 rfl rfl (by decide) rfl ?_
    refine g_iload_n dS_judge_38 rfl ?_
    refine g_sheetN (i := q) dS_judge_39 hq ?_
    refine g_getI dS_judge_40 fS_224 (shO hq) rfl ?_
    refine g_icmp_ge dS_judge_43 rfl (fun h43 => ?_) (fun h43 => ?_)
    · rw [ez, nI_leI (by omega) (by omega)] at h43
      refine g_iconst (v := 0) dS_judge_90 (by decide) ?_
      refine g_iret dS_judge_91 rfl rfl ?_
      refine IsP_of ?_
      rw [show 41 - i = (40 - i) + 1 by omega, judgeF, if_neg (by omega)]
    · rw [ez, nI_leI (by omega) (by omega)] at h43
      refine g_aload_n dS_judge_46 rfl ?_
      refine g_getR2 (k2 := 1) dS_judge_47 fS_12 rfl rfl (by decide) rfl ?_
      refine g_iload_n dS_judge_50 rfl ?_
      refine gV1 dS_judge_51 kS_judge_100 rfl rfl cH_hasW (Nat.le_of_ble_eq_true rfl) ?_
      refine g_if_eq dS_judge_54 rfl (fun h54 => ?_) (fun h54 => ?_)
      · simp only [hasP, hn] at h54
        have h54 := bI_0.mp h54
        have h54 : ¬ i < n := fun z => h54 ⟨nI_pos' (by omega), nI_lt z (by omega)⟩
        refine g_iconst (v := 1) dS_judge_80 (by decide) ?_
        refine g_iload_n dS_judge_81 rfl ?_
        refine g_iadd dS_judge_82 ?_
        refine g_iret dS_judge_83 rfl rfl ?_
        refine IsP_of ?_
        rw [show 41 - i = (40 - i) + 1 by omega, judgeF, if_pos (by omega), if_neg (by grind)]
      · simp only [hasP, hn] at h54
        have h54 := Classical.not_not.mp (fun z => h54 (bI_0.mpr z))
        have h54 := (nI_ltI (by omega) (by omega)).mp h54.2
        refine g_aload_n dS_judge_57 rfl ?_
        refine g_getR2 (k2 := 1) dS_judge_58 fS_12 rfl rfl (by decide) rfl ?_
        refine g_getR2 (k2 := 3) dS_judge_61 fS_115 rfl rfl (by decide) rfl ?_
        refine g_iload_n dS_judge_64 rfl ?_
        refine g_ialdN dS_judge_65 rfl (by omega) (by decide) ?_
        refine g_aload_n dS_judge_66 rfl ?_
        refine g_getR2 (k2 := 23) dS_judge_67 fS_50 rfl rfl (by decide) rfl ?_
        refine g_iload_n dS_judge_70 rfl ?_
        refine g_sheetN (i := q) dS_judge_71 hq ?_
        refine g_getR2 (k2 := ((24 + 2 * q) + 1)) dS_judge_72 fS_234 (shO hq) rfl (by decide) rfl ?_
        refine g_iload_n dS_judge_75 rfl ?_
        refine g_ialdN dS_judge_76 (shA hq) (by omega) (by decide) ?_
        refine g_icmp_eq dS_judge_77 rfl (fun h77 => ?_) (fun h77 => ?_)
        · refine g_iinc (v := nI (i + 1)) dS_judge_84 rfl (nI_succ i).symm (by decide) rfl rfl ?_
          dsimp only [List.set]
          refine g_goto dS_judge_87 rfl ?_
          refine g_mono (fun r w2 h => ?_) (ih (i + 1) (by omega) (by omega))
          rw [show 41 - i = (41 - (i + 1)) + 1 by omega, judgeF, if_pos (by omega), if_pos ⟨h54, h77⟩]
          exact h
        · refine g_iconst (v := 1) dS_judge_80 (by decide) ?_
          refine g_iload_n dS_judge_81 rfl ?_
          refine g_iadd dS_judge_82 ?_
          refine g_iret dS_judge_83 rfl rfl ?_
          refine IsP_of ?_
          rw [show 41 - i = (40 - i) + 1 by omega, judgeF, if_pos (by omega), if_neg (by grind)]

set_option maxRecDepth 4000 in
theorem cS_judge {l : Launch} {g : GG} {w : Wd} {n : Nat} (hn : w 1 6 = nI n) (h8 : n ≤ 8) {s : Int32} (hz : ∀ q, q < 4 → ∃ z, z ≤ 40 ∧ w (24 + 2 * q) 1 = nI z) : Res l g S_judge [.ref (g.1 0), .int s] w (IsP (judgeC n s w)) := by
  refine Res.of (by decide) (by simp [Value.category]) (Nat.le_of_ble_eq_true rfl) rfl ?_
  show Go l g S_judge 0 [some (.ref (g.1 0)), some (.int s), none] [] w _
  refine g_iload_n dS_judge_0 rfl ?_
  refine gS1 dS_judge_1 kS_judge_177 cS_isSheet (Nat.le_of_ble_eq_true rfl) ?_
  refine g_if_ne dS_judge_4 rfl (fun h4 => ?_) (fun h4 => ?_)
  · have h4 := Classical.not_not.mp (fun z => h4 (bI_0.mpr z))
    obtain ⟨q, hq, eq⟩ := nI_of2 (n := 3) (by decide) (Int32.not_lt.mpr h4.1) h4.2
    have hq : q < 4 := by omega
    subst eq
    have cq : (nI q).toNatClampNeg = q := nI_clamp (by omega)
    refine g_aload_n dS_judge_13 rfl ?_
    refine g_getR2 (k2 := 23) dS_judge_14 fS_50 rfl rfl (by decide) rfl ?_
    refine g_iload_n dS_judge_17 rfl ?_
    refine g_sheetN (i := q) dS_judge_18 hq ?_
    refine gV0 dS_judge_19 kS_judge_180 (shO hq) rfl (cE_isMissing hq) (Nat.le_of_ble_eq_true rfl) ?_
    refine g_if_eq dS_judge_22 rfl (fun h22 => ?_) (fun h22 => ?_)
    · have h22 := bI_0.mp h22
      refine g_iconst (v := 0) dS_judge_31 (by decide) ?_
      refine g_istore_n dS_judge_32 (by decide) rfl rfl ?_
      dsimp only [List.set]
      obtain ⟨z, hz40, ez⟩ := hz q hq
      refine g_mono (fun r w2 h => ?_) (lS_judge hn h8 hq hz40 ez 42 0 (by omega) (by omega))
      rw [judgeC, if_pos h4, shB, shZ, shN, cq, if_neg h22, ez, nI_clamp (by omega)]
      exact h
    · have h22 := Classical.not_not.mp (fun z => h22 (bI_0.mpr z))
      refine g_aload_n dS_judge_25 rfl ?_
      refine g_iconst (v := 5) dS_judge_26 (by decide) ?_
      refine gV1 dS_judge_27 kS_judge_61 rfl rfl (cS_finding (q := 5) (by decide)) (Nat.le_of_ble_eq_true rfl) ?_
      refine g_iret dS_judge_30 rfl rfl ?_
      exact IsP_of (by rw [judgeC, if_pos h4, shB, cq, if_pos h22])
  · have h4 := bI_0.mp h4
    refine g_aload_n dS_judge_7 rfl ?_
    refine g_iconst (v := 0) dS_judge_8 (by decide) ?_
    refine gV1 dS_judge_9 kS_judge_61 rfl rfl (cS_finding (q := 0) (by decide)) (Nat.le_of_ble_eq_true rfl) ?_
    refine g_iret dS_judge_12 rfl rfl ?_
    exact IsP_of (by rw [judgeC, if_neg h4])

set_option maxRecDepth 4000 in
theorem lS_keeperGoesAsTold {l : Launch} {g : GG} {w : Wd} {n : Nat} (h8 : n ≤ 8) {q : Nat} (hq : q < 4) {z : Nat} (hz40 : z ≤ 40) (ez : w (24 + 2 * q) 1 = nI z)  : ∀ (m : Nat) (i : Nat) (A : HA), 41 - i < m → i ≤ 40 → A.1 6 = nI n → Go l g S_keeperGoesAsTold 2 [some (.ref (g.1 0)), some (.ref (g.1 (24 + 2 * q))), some (.int (nI i))] [] (hput 7 A w) (fun r w' => r = some (.int (toldF n z (w (24 + 2 * q + 1)) (fun B => B.1 1) (41 - i) i A)) ∧ ∃ B, w' = hput 7 B w) := by
  intro m
  induction m with
  | zero => intro i A hm hi hn; omega
  | succ m ih =>
    intro i A hm hi hn
    refine g_iload_n dS_keeperGoesAsTold_2 rfl ?_
    refine g_aload_n dS_keeperGoesAsTold_3 rfl ?_
    refine g_getI dS_keeperGoesAsTold_4 fS_224 (shO hq) rfl ?_
    rw [h7_sh]
    refine g_icmp_ge dS_keeperGoesAsTold_7 rfl (fun h7 => ?_) (fun h7 => ?_)
    · rw [ez, nI_leI (by omega) (by omega)] at h7
      refine g_iconst (v := 1) dS_keeperGoesAsTold_41 (by decide) ?_
      refine g_iret dS_keeperGoesAsTold_42 rfl (by first | rfl | exact bI_n) ?_
      refine ⟨?_, A, rfl⟩
      rw [show 41 - i = (40 - i) + 1 by omega, toldF, if_neg (by omega)]
    · rw [ez, nI_leI (by omega) (by omega)] at h7
      refine g_aload_n dS_keeperGoesAsTold_10 rfl ?_
      refine g_iload_n dS_keeperGoesAsTold_11 rfl ?_
      refine g_aload_n dS_keeperGoesAsTold_12 rfl ?_
      refine g_getR2 (k2 := 7) dS_keeperGoesAsTold_13 fS_16 rfl rfl (by decide) rfl ?_
      refine g_getI dS_keeperGoesAsTold_16 fS_247 rfl rfl ?_
      refine g_top (y := (fun B => B.1 1) A) (by rw [hput_S]) ?_
      refine gV2 dS_keeperGoesAsTold_19 kS_keeperGoesAsTold_250 (shO hq) rfl (cE_allows hq (by omega)) (Nat.le_of_ble_eq_true rfl) ?_
      refine g_if_ne dS_keeperGoesAsTold_22 rfl (fun h22 => ?_) (fun h22 => ?_)
      · rw [h7_sn] at h22
        have h22 := Classical.not_not.mp (fun z => h22 (bI_0.mpr z))
        refine g_aload_n dS_keeperGoesAsTold_27 rfl ?_
        refine g_getR2 (k2 := 7) dS_keeperGoesAsTold_28 fS_16 rfl rfl (by decide) rfl ?_
        refine g_iconst (v := 0) dS_keeperGoesAsTold_31 (by decide) ?_
        refine gV1v dS_keeperGoesAsTold_32 kS_keeperGoesAsTold_162 rfl rfl (cH_passHour isH7 (n := n) hn h8) (Nat.le_of_ble_eq_true rfl) ?_
        refine g_iinc (v := nI (i + 1)) dS_keeperGoesAsTold_35 rfl (nI_succ i).symm (by decide) rfl rfl ?_
        dsimp only [List.set]
        refine g_goto dS_keeperGoesAsTold_38 rfl ?_
        refine g_mono (fun r w2 h => ?_) (ih (i + 1) _ (by omega) (by omega) ((hoursF_6 0 n A 1).trans hn))
        rw [show 41 - i = (41 - (i + 1)) + 1 by omega, toldF, if_pos (by omega), if_pos h22]
        exact h
      · rw [h7_sn] at h22
        have h22 := bI_0.mp h22
        refine g_iconst (v := 0) dS_keeperGoesAsTold_25 (by decide) ?_
        refine g_iret dS_keeperGoesAsTold_26 rfl (by first | rfl | exact bI_n) ?_
        refine ⟨?_, A, rfl⟩
        rw [show 41 - i = (40 - i) + 1 by omega, toldF, if_pos (by omega), if_neg h22]

set_option maxRecDepth 4000 in
theorem cS_keeperGoesAsTold {l : Launch} {g : GG} {w : Wd} {A : HA} {n : Nat} (hn : A.1 6 = nI n) (h8 : n ≤ 8) {q : Nat} (hq : q < 4) {z : Nat} (hz40 : z ≤ 40) (ez : w (24 + 2 * q) 1 = nI z)  : Res l g S_keeperGoesAsTold [.ref (g.1 0), .ref (g.1 (24 + 2 * q))] (hput 7 A w) (fun r w' => r = some (.int (toldF n z (w (24 + 2 * q + 1)) (fun B => B.1 1) 41 0 A)) ∧ ∃ B, w' = hput 7 B w) := by
  refine Res.of (by decide) (by simp [Value.category]) (Nat.le_of_ble_eq_true rfl) rfl ?_
  show Go l g S_keeperGoesAsTold 0 [some (.ref (g.1 0)), some (.ref (g.1 (24 + 2 * q))), none] [] (hput 7 A w) _
  refine g_iconst (v := 0) dS_keeperGoesAsTold_0 (by decide) ?_
  refine g_istore_n dS_keeperGoesAsTold_1 (by decide) rfl rfl ?_
  dsimp only [List.set]
  exact lS_keeperGoesAsTold h8 hq hz40 ez 42 0 A (by omega) (by omega) hn

set_option maxRecDepth 4000 in
theorem lS_sheepGoesAsTold {l : Launch} {g : GG} {w : Wd} {n : Nat} (h8 : n ≤ 8) {q : Nat} (hq : q < 4) {z : Nat} (hz40 : z ≤ 40) (ez : w (24 + 2 * q) 1 = nI z) {j : Nat} (hj : j < 8)  : ∀ (m : Nat) (i : Nat) (A : HA), 41 - i < m → i ≤ 40 → A.1 6 = nI n → Go l g S_sheepGoesAsTold 2 [some (.ref (g.1 0)), some (.ref (g.1 (24 + 2 * q))), some (.int (nI j)), some (.int (nI i))] [] (hput 7 A w) (fun r w' => r = some (.int (toldF n z (w (24 + 2 * q + 1)) (fun B => B.2.2.1 j) (41 - i) i A)) ∧ ∃ B, w' = hput 7 B w) := by
  intro m
  induction m with
  | zero => intro i A hm hi hn; omega
  | succ m ih =>
    intro i A hm hi hn
    refine g_iload_n dS_sheepGoesAsTold_2 rfl ?_
    refine g_aload_n dS_sheepGoesAsTold_3 rfl ?_
    refine g_getI dS_sheepGoesAsTold_4 fS_224 (shO hq) rfl ?_
    rw [h7_sh]
    refine g_icmp_ge dS_sheepGoesAsTold_7 rfl (fun h7 => ?_) (fun h7 => ?_)
    · rw [ez, nI_leI (by omega) (by omega)] at h7
      refine g_iconst (v := 1) dS_sheepGoesAsTold_43 (by decide) ?_
      refine g_iret dS_sheepGoesAsTold_44 rfl (by first | rfl | exact bI_n) ?_
      refine ⟨?_, A, rfl⟩
      rw [show 41 - i = (40 - i) + 1 by omega, toldF, if_neg (by omega)]
    · rw [ez, nI_leI (by omega) (by omega)] at h7
      refine g_aload_n dS_sheepGoesAsTold_10 rfl ?_
      refine g_iload_n dS_sheepGoesAsTold_11 rfl ?_
      refine g_aload_n dS_sheepGoesAsTold_12 rfl ?_
      refine g_getR2 (k2 := 7) dS_sheepGoesAsTold_13 fS_16 rfl rfl (by decide) rfl ?_
      refine g_getR2 (k2 := 9) dS_sheepGoesAsTold_16 fS_115 rfl rfl (by decide) rfl ?_
      refine g_iload_n dS_sheepGoesAsTold_19 rfl ?_
      refine g_ialdN dS_sheepGoesAsTold_20 rfl (by omega) (by decide) ?_
      refine g_top (y := (fun B => B.2.2.1 j) A) (by exact congrFun (hput_C 7 A w) j) ?_
      refine gV2 dS_sheepGoesAsTold_21 kS_sheepGoesAsTold_250 (shO hq) rfl (cE_allows hq (by omega)) (Nat.le_of_ble_eq_true rfl) ?_
      refine g_if_ne dS_sheepGoesAsTold_24 rfl (fun h24 => ?_) (fun h24 => ?_)
      · rw [h7_sn] at h24
        have h24 := Classical.not_not.mp (fun z => h24 (bI_0.mpr z))
        refine g_aload_n dS_sheepGoesAsTold_29 rfl ?_
        refine g_getR2 (k2 := 7) dS_sheepGoesAsTold_30 fS_16 rfl rfl (by decide) rfl ?_
        refine g_iconst (v := 0) dS_sheepGoesAsTold_33 (by decide) ?_
        refine gV1v dS_sheepGoesAsTold_34 kS_sheepGoesAsTold_162 rfl rfl (cH_passHour isH7 (n := n) hn h8) (Nat.le_of_ble_eq_true rfl) ?_
        refine g_iinc (v := nI (i + 1)) dS_sheepGoesAsTold_37 rfl (nI_succ i).symm (by decide) rfl rfl ?_
        dsimp only [List.set]
        refine g_goto dS_sheepGoesAsTold_40 rfl ?_
        refine g_mono (fun r w2 h => ?_) (ih (i + 1) _ (by omega) (by omega) ((hoursF_6 0 n A 1).trans hn))
        rw [show 41 - i = (41 - (i + 1)) + 1 by omega, toldF, if_pos (by omega), if_pos h24]
        exact h
      · rw [h7_sn] at h24
        have h24 := bI_0.mp h24
        refine g_iconst (v := 0) dS_sheepGoesAsTold_27 (by decide) ?_
        refine g_iret dS_sheepGoesAsTold_28 rfl (by first | rfl | exact bI_n) ?_
        refine ⟨?_, A, rfl⟩
        rw [show 41 - i = (40 - i) + 1 by omega, toldF, if_pos (by omega), if_neg h24]

set_option maxRecDepth 4000 in
theorem cS_sheepGoesAsTold {l : Launch} {g : GG} {w : Wd} {A : HA} {n : Nat} (hn : A.1 6 = nI n) (h8 : n ≤ 8) {q : Nat} (hq : q < 4) {z : Nat} (hz40 : z ≤ 40) (ez : w (24 + 2 * q) 1 = nI z) {j : Nat} (hj : j < 8)  : Res l g S_sheepGoesAsTold [.ref (g.1 0), .ref (g.1 (24 + 2 * q)), .int (nI j)] (hput 7 A w) (fun r w' => r = some (.int (toldF n z (w (24 + 2 * q + 1)) (fun B => B.2.2.1 j) 41 0 A)) ∧ ∃ B, w' = hput 7 B w) := by
  refine Res.of (by decide) (by simp [Value.category]) (Nat.le_of_ble_eq_true rfl) rfl ?_
  show Go l g S_sheepGoesAsTold 0 [some (.ref (g.1 0)), some (.ref (g.1 (24 + 2 * q))), some (.int (nI j)), none] [] (hput 7 A w) _
  refine g_iconst (v := 0) dS_sheepGoesAsTold_0 (by decide) ?_
  refine g_istore_n dS_sheepGoesAsTold_1 (by decide) rfl rfl ?_
  dsimp only [List.set]
  exact lS_sheepGoesAsTold h8 hq hz40 ez hj 42 0 A (by omega) (by omega) hn

set_option maxRecDepth 4000 in
theorem lS_fits {l : Launch} {g : GG} {w : Wd} {n : Nat} (hn : w 1 6 = nI n) (h8 : n ≤ 8) {q : Nat} (hq : q < 4) {z : Nat} (hz40 : z ≤ 40) (ez : w (24 + 2 * q) 1 = nI z) {j : Nat} (hj : j < 8) : ∀ (m : Nat) (i : Nat) (B : HA), 16 - i < m → i ≤ 16 → Go l g S_fits 70 [some (.ref (g.1 0)), some (.int (nI q)), some (.int (nI j)), some (.int (waysF (fitsV n z (w (24 + 2 * q + 1)) j (hget w 1)) i)), some (.int (nI i))] [] (hput 7 B w) (IsT (waysF (fitsV n z (w (24 + 2 * q + 1)) j (hget w 1)) 16, w)) := by
  intro m
  induction m with
  | zero => intro i B hm hi; omega
  | succ m ih =>
    intro i B hm hi
    refine g_iload dS_fits_70 rfl ?_
    refine g_bipush (v := 16) dS_fits_72 (by decide) ?_
    refine g_icmp_ge dS_fits_74 rfl (fun h74 => ?_) (fun h74 => ?_)
    · rw [show (16 : Int32) = nI 16 from rfl, nI_leI (by omega) (by omega)] at h74
      refine g_iload_n dS_fits_125 rfl ?_
      refine g_iret dS_fits_126 rfl rfl ?_
      exact IsT_B (by rw [show i = 16 by omega])
    · rw [show (16 : Int32) = nI 16 from rfl, nI_leI (by omega) (by omega)] at h74
      refine g_aload_n dS_fits_77 rfl ?_
      refine g_getR2 (k2 := 7) dS_fits_78 fS_16 rfl rfl (by decide) rfl ?_
      refine g_aload_n dS_fits_81 rfl ?_
      refine g_getR2 (k2 := 1) dS_fits_82 fS_12 rfl rfl (by decide) rfl ?_
      refine gV1v dS_fits_85 kS_fits_151 rfl rfl cbec7 (Nat.le_of_ble_eq_true rfl) ?_
      refine g_aload_n dS_fits_88 rfl ?_
      refine g_getR2 (k2 := 7) dS_fits_89 fS_16 rfl rfl (by decide) rfl ?_
      refine g_getR2 (k2 := 9) dS_fits_92 fS_115 rfl rfl (by decide) rfl ?_
      refine g_iload_n dS_fits_95 rfl ?_
      refine g_iload dS_fits_96 rfl ?_
      refine g_iastN dS_fits_98 rfl (by omega) (by decide) ?_
      rw [up_7C]
      refine g_aload_n dS_fits_99 rfl ?_
      refine g_aload_n dS_fits_100 rfl ?_
      refine g_getR2 (k2 := 23) dS_fits_101 fS_50 rfl rfl (by decide) rfl ?_
      refine g_iload_n dS_fits_104 rfl ?_
      refine g_sheetN (i := q) dS_fits_105 hq ?_
      refine gV1q dS_fits_106 kS_fits_183 rfl rfl (cS_keeperGoesAsTold (n := n) hn h8 hq hz40 ez) (Nat.le_of_ble_eq_true rfl) (fun r1 w1 q1 => ?_)
      obtain ⟨rfl, B1, rfl⟩ := q1
      dsimp only [Option.toList, List.cons_append, List.nil_append]
      refine g_top (y := fitsV n z (w (24 + 2 * q + 1)) j (hget w 1) i) (by rw [fitsV]) ?_
      refine g_if_eq dS_fits_109 rfl (fun h109 => ?_) (fun h109 => ?_)
      · rw [show waysF (fitsV n z (w (24 + 2 * q + 1)) j (hget w 1)) i = waysF (fitsV n z (w (24 + 2 * q + 1)) j (hget w 1)) (i + 1) from (if_pos h109).symm]
        refine g_iinc (v := nI (i + 1)) dS_fits_119 rfl (nI_succ i).symm (by decide) rfl rfl ?_
        dsimp only [List.set]
        refine g_goto dS_fits_122 rfl ?_
        exact ih (i + 1) _ (by omega) (by omega)
      · refine g_iload_n dS_fits_112 rfl ?_
        refine g_iconst (v := 1) dS_fits_113 (by decide) ?_
        refine g_iload dS_fits_114 rfl ?_
        refine g_ishl dS_fits_116 ?_
        refine g_ior dS_fits_117 ?_
        refine g_istore_n dS_fits_118 (by decide) rfl rfl ?_
        dsimp only [List.set]
        rw [show waysF (fitsV n z (w (24 + 2 * q + 1)) j (hget w 1)) i ||| 1 <<< (nI i &&& 31) = waysF (fitsV n z (w (24 + 2 * q + 1)) j (hget w 1)) (i + 1) from (if_neg h109).symm]
        refine g_iinc (v := nI (i + 1)) dS_fits_119 rfl (nI_succ i).symm (by decide) rfl rfl ?_
        dsimp only [List.set]
        refine g_goto dS_fits_122 rfl ?_
        exact ih (i + 1) _ (by omega) (by omega)

set_option maxRecDepth 4000 in
theorem cS_fits {l : Launch} {g : GG} {w : Wd} {n : Nat} (hn : w 1 6 = nI n) (h8 : n ≤ 8) {s h : Int32} (hz : ∀ q, q < 4 → ∃ z, z ≤ 40 ∧ w (24 + 2 * q) 1 = nI z) : Res l g S_fits [.ref (g.1 0), .int s, .int h] w (IsT (fitsC n s h w)) := by
  refine Res.of (by decide) (by simp [Value.category]) (Nat.le_of_ble_eq_true rfl) rfl ?_
  show Go l g S_fits 0 [some (.ref (g.1 0)), some (.int s), some (.int h), none, none] [] w _
  refine g_iload_n dS_fits_0 rfl ?_
  refine gS1 dS_fits_1 kS_fits_177 cS_isSheet (Nat.le_of_ble_eq_true rfl) ?_
  refine g_if_ne dS_fits_4 rfl (fun h4 => ?_) (fun h4 => ?_)
  · have h4 := Classical.not_not.mp (fun z => h4 (bI_0.mpr z))
    obtain ⟨q, hq, eq⟩ := nI_of2 (n := 3) (by decide) (Int32.not_lt.mpr h4.1) h4.2
    have hq : q < 4 := by omega
    subst eq
    have cq : (nI q).toNatClampNeg = q := nI_clamp (by omega)
    refine g_aload_n dS_fits_13 rfl ?_
    refine g_getR2 (k2 := 23) dS_fits_14 fS_50 rfl rfl (by decide) rfl ?_
    refine g_iload_n dS_fits_17 rfl ?_
    refine g_sheetN (i := q) dS_fits_18 hq ?_
    refine gV0 dS_fits_19 kS_fits_180 (shO hq) rfl (cE_isMissing hq) (Nat.le_of_ble_eq_true rfl) ?_
    refine g_if_eq dS_fits_22 rfl (fun h22 => ?_) (fun h22 => ?_)
    · have h22 := bI_0.mp h22
      refine g_aload_n dS_fits_31 rfl ?_
      refine g_getR2 (k2 := 1) dS_fits_32 fS_12 rfl rfl (by decide) rfl ?_
      refine g_iload_n dS_fits_35 rfl ?_
      refine gV1 dS_fits_36 kS_fits_100 rfl rfl cH_hasW (Nat.le_of_ble_eq_true rfl) ?_
      refine g_if_ne dS_fits_39 rfl (fun h39 => ?_) (fun h39 => ?_)
      · have h39 := Classical.not_not.mp (fun z => h39 (bI_0.mpr z))
        obtain ⟨j, hj, ej⟩ := hasN h39.1 (show h < nI n from hn ▸ h39.2) (by omega)
        subst ej
        refine g_iload_n dS_fits_48 rfl ?_
        refine g_aload_n dS_fits_49 rfl ?_
        refine g_getR2 (k2 := 1) dS_fits_50 fS_12 rfl rfl (by decide) rfl ?_
        refine g_getI dS_fits_53 fS_109 rfl rfl ?_
        refine g_icmp_ne dS_fits_56 rfl (fun h56 => ?_) (fun h56 => ?_)
        · refine g_iconst (v := 0) dS_fits_65 (by decide) ?_
          refine g_istore_n dS_fits_66 (by decide) rfl rfl ?_
          dsimp only [List.set]
          refine g_iconst (v := 0) dS_fits_67 (by decide) ?_
          refine g_istore dS_fits_68 (by decide) rfl rfl ?_
          dsimp only [List.set]
          obtain ⟨z, hz40, ez⟩ := hz q hq
          refine g_w (hput_hget 7 w).symm ?_
          refine g_mono (fun r w2 h => ?_) (lS_fits hn h8 hq hz40 ez (j := j) (by omega) 17 0 _ (by omega) (by omega))
          rw [fitsC, if_pos h4, shB, shZ, shN, cq, if_neg h22, if_pos h39, if_neg h56, ez, nI_clamp (by omega), nI_clamp (by omega)]
          exact h
        · refine g_aload_n dS_fits_59 rfl ?_
          refine g_iconst (v := 4) dS_fits_60 (by decide) ?_
          refine gV1 dS_fits_61 kS_fits_61 rfl rfl (cS_finding (q := 4) (by decide)) (Nat.le_of_ble_eq_true rfl) ?_
          refine g_iret dS_fits_64 rfl rfl ?_
          exact IsT_of (by rw [fitsC, if_pos h4, shB, cq, if_neg h22, if_pos h39, if_pos h56])
      · have h39 := bI_0.mp h39
        refine g_aload_n dS_fits_42 rfl ?_
        refine g_iconst (v := 0) dS_fits_43 (by decide) ?_
        refine gV1 dS_fits_44 kS_fits_61 rfl rfl (cS_finding (q := 0) (by decide)) (Nat.le_of_ble_eq_true rfl) ?_
        refine g_iret dS_fits_47 rfl rfl ?_
        exact IsT_of (by rw [fitsC, if_pos h4, shB, cq, if_neg h22, if_neg h39])
    · have h22 := Classical.not_not.mp (fun z => h22 (bI_0.mpr z))
      refine g_aload_n dS_fits_25 rfl ?_
      refine g_iconst (v := 5) dS_fits_26 (by decide) ?_
      refine gV1 dS_fits_27 kS_fits_61 rfl rfl (cS_finding (q := 5) (by decide)) (Nat.le_of_ble_eq_true rfl) ?_
      refine g_iret dS_fits_30 rfl rfl ?_
      exact IsT_of (by rw [fitsC, if_pos h4, shB, cq, if_pos h22])
  · have h4 := bI_0.mp h4
    refine g_aload_n dS_fits_7 rfl ?_
    refine g_iconst (v := 0) dS_fits_8 (by decide) ?_
    refine gV1 dS_fits_9 kS_fits_61 rfl rfl (cS_finding (q := 0) (by decide)) (Nat.le_of_ble_eq_true rfl) ?_
    refine g_iret dS_fits_12 rfl rfl ?_
    exact IsT_of (by rw [fitsC, if_neg h4])

set_option maxRecDepth 4000 in
theorem lS_kinds {l : Launch} {g : GG} {w : Wd} {n : Nat} (hn : w 1 6 = nI n) (h8 : n ≤ 8) {q : Nat} (hq : q < 4) {z : Nat} (hz40 : z ≤ 40) (ez : w (24 + 2 * q) 1 = nI z) {j : Nat} (hj : j < 8) : ∀ (m : Nat) (i : Nat) (B : HA), 7 - i < m → i ≤ 7 → Go l g S_kinds 53 [some (.ref (g.1 0)), some (.int (nI q)), some (.int (nI j)), some (.int (waysF (kindsV n z (w (24 + 2 * q + 1)) j (hget w 1)) i)), some (.int (nI i))] [] (hput 7 B w) (IsT (waysF (kindsV n z (w (24 + 2 * q + 1)) j (hget w 1)) 7, w)) := by
  intro m
  induction m with
  | zero => intro i B hm hi; omega
  | succ m ih =>
    intro i B hm hi
    refine g_iload dS_kinds_53 rfl ?_
    refine g_bipush (v := 7) dS_kinds_55 (by decide) ?_
    refine g_icmp_ge dS_kinds_57 rfl (fun h57 => ?_) (fun h57 => ?_)
    · rw [show (7 : Int32) = nI 7 from rfl, nI_leI (by omega) (by omega)] at h57
      refine g_iload_n dS_kinds_109 rfl ?_
      refine g_iret dS_kinds_110 rfl rfl ?_
      exact IsT_B (by rw [show i = 7 by omega])
    · rw [show (7 : Int32) = nI 7 from rfl, nI_leI (by omega) (by omega)] at h57
      refine g_aload_n dS_kinds_60 rfl ?_
      refine g_getR2 (k2 := 7) dS_kinds_61 fS_16 rfl rfl (by decide) rfl ?_
      refine g_aload_n dS_kinds_64 rfl ?_
      refine g_getR2 (k2 := 1) dS_kinds_65 fS_12 rfl rfl (by decide) rfl ?_
      refine gV1v dS_kinds_68 kS_kinds_151 rfl rfl cbec7 (Nat.le_of_ble_eq_true rfl) ?_
      refine g_aload_n dS_kinds_71 rfl ?_
      refine g_getR2 (k2 := 7) dS_kinds_72 fS_16 rfl rfl (by decide) rfl ?_
      refine g_getR2 (k2 := 8) dS_kinds_75 fS_112 rfl rfl (by decide) rfl ?_
      refine g_iload_n dS_kinds_78 rfl ?_
      refine g_iload dS_kinds_79 rfl ?_
      refine g_iastN dS_kinds_81 rfl (by omega) (by decide) ?_
      rw [up_7K]
      refine g_aload_n dS_kinds_82 rfl ?_
      refine g_aload_n dS_kinds_83 rfl ?_
      refine g_getR2 (k2 := 23) dS_kinds_84 fS_50 rfl rfl (by decide) rfl ?_
      refine g_iload_n dS_kinds_87 rfl ?_
      refine g_sheetN (i := q) dS_kinds_88 hq ?_
      refine g_iload_n dS_kinds_89 rfl ?_
      refine gV2q dS_kinds_90 kS_kinds_187 rfl rfl (cS_sheepGoesAsTold (n := n) hn h8 hq hz40 ez hj) (Nat.le_of_ble_eq_true rfl) (fun r1 w1 q1 => ?_)
      obtain ⟨rfl, B1, rfl⟩ := q1
      dsimp only [Option.toList, List.cons_append, List.nil_append]
      refine g_top (y := kindsV n z (w (24 + 2 * q + 1)) j (hget w 1) i) (by rw [kindsV]) ?_
      refine g_if_eq dS_kinds_93 rfl (fun h93 => ?_) (fun h93 => ?_)
      · rw [show waysF (kindsV n z (w (24 + 2 * q + 1)) j (hget w 1)) i = waysF (kindsV n z (w (24 + 2 * q + 1)) j (hget w 1)) (i + 1) from (if_pos h93).symm]
        refine g_iinc (v := nI (i + 1)) dS_kinds_103 rfl (nI_succ i).symm (by decide) rfl rfl ?_
        dsimp only [List.set]
        refine g_goto dS_kinds_106 rfl ?_
        exact ih (i + 1) _ (by omega) (by omega)
      · refine g_iload_n dS_kinds_96 rfl ?_
        refine g_iconst (v := 1) dS_kinds_97 (by decide) ?_
        refine g_iload dS_kinds_98 rfl ?_
        refine g_ishl dS_kinds_100 ?_
        refine g_ior dS_kinds_101 ?_
        refine g_istore_n dS_kinds_102 (by decide) rfl rfl ?_
        dsimp only [List.set]
        rw [show waysF (kindsV n z (w (24 + 2 * q + 1)) j (hget w 1)) i ||| 1 <<< (nI i &&& 31) = waysF (kindsV n z (w (24 + 2 * q + 1)) j (hget w 1)) (i + 1) from (if_neg h93).symm]
        refine g_iinc (v := nI (i + 1)) dS_kinds_103 rfl (nI_succ i).symm (by decide) rfl rfl ?_
        dsimp only [List.set]
        refine g_goto dS_kinds_106 rfl ?_
        exact ih (i + 1) _ (by omega) (by omega)

set_option maxRecDepth 4000 in
theorem cS_kinds {l : Launch} {g : GG} {w : Wd} {n : Nat} (hn : w 1 6 = nI n) (h8 : n ≤ 8) {s h : Int32} (hz : ∀ q, q < 4 → ∃ z, z ≤ 40 ∧ w (24 + 2 * q) 1 = nI z) : Res l g S_kinds [.ref (g.1 0), .int s, .int h] w (IsT (kindsC n s h w)) := by
  refine Res.of (by decide) (by simp [Value.category]) (Nat.le_of_ble_eq_true rfl) rfl ?_
  show Go l g S_kinds 0 [some (.ref (g.1 0)), some (.int s), some (.int h), none, none] [] w _
  refine g_iload_n dS_kinds_0 rfl ?_
  refine gS1 dS_kinds_1 kS_kinds_177 cS_isSheet (Nat.le_of_ble_eq_true rfl) ?_
  refine g_if_ne dS_kinds_4 rfl (fun h4 => ?_) (fun h4 => ?_)
  · have h4 := Classical.not_not.mp (fun z => h4 (bI_0.mpr z))
    obtain ⟨q, hq, eq⟩ := nI_of2 (n := 3) (by decide) (Int32.not_lt.mpr h4.1) h4.2
    have hq : q < 4 := by omega
    subst eq
    have cq : (nI q).toNatClampNeg = q := nI_clamp (by omega)
    refine g_aload_n dS_kinds_13 rfl ?_
    refine g_getR2 (k2 := 23) dS_kinds_14 fS_50 rfl rfl (by decide) rfl ?_
    refine g_iload_n dS_kinds_17 rfl ?_
    refine g_sheetN (i := q) dS_kinds_18 hq ?_
    refine gV0 dS_kinds_19 kS_kinds_180 (shO hq) rfl (cE_isMissing hq) (Nat.le_of_ble_eq_true rfl) ?_
    refine g_if_eq dS_kinds_22 rfl (fun h22 => ?_) (fun h22 => ?_)
    · have h22 := bI_0.mp h22
      refine g_aload_n dS_kinds_31 rfl ?_
      refine g_getR2 (k2 := 1) dS_kinds_32 fS_12 rfl rfl (by decide) rfl ?_
      refine g_iload_n dS_kinds_35 rfl ?_
      refine gV1 dS_kinds_36 kS_kinds_100 rfl rfl cH_hasW (Nat.le_of_ble_eq_true rfl) ?_
      refine g_if_ne dS_kinds_39 rfl (fun h39 => ?_) (fun h39 => ?_)
      · have h39 := Classical.not_not.mp (fun z => h39 (bI_0.mpr z))
        obtain ⟨j, hj, ej⟩ := hasN h39.1 (show h < nI n from hn ▸ h39.2) (by omega)
        subst ej
        refine g_iconst (v := 0) dS_kinds_48 (by decide) ?_
        refine g_istore_n dS_kinds_49 (by decide) rfl rfl ?_
        dsimp only [List.set]
        refine g_iconst (v := 0) dS_kinds_50 (by decide) ?_
        refine g_istore dS_kinds_51 (by decide) rfl rfl ?_
        dsimp only [List.set]
        obtain ⟨z, hz40, ez⟩ := hz q hq
        refine g_w (hput_hget 7 w).symm ?_
        refine g_mono (fun r w2 h => ?_) (lS_kinds hn h8 hq hz40 ez (j := j) (by omega) 8 0 _ (by omega) (by omega))
        rw [kindsC, if_pos h4, shB, shZ, shN, cq, if_neg h22, if_pos h39, ez, nI_clamp (by omega), nI_clamp (by omega)]
        exact h
      · have h39 := bI_0.mp h39
        refine g_aload_n dS_kinds_42 rfl ?_
        refine g_iconst (v := 0) dS_kinds_43 (by decide) ?_
        refine gV1 dS_kinds_44 kS_kinds_61 rfl rfl (cS_finding (q := 0) (by decide)) (Nat.le_of_ble_eq_true rfl) ?_
        refine g_iret dS_kinds_47 rfl rfl ?_
        exact IsT_of (by rw [kindsC, if_pos h4, shB, cq, if_neg h22, if_neg h39])
    · have h22 := Classical.not_not.mp (fun z => h22 (bI_0.mpr z))
      refine g_aload_n dS_kinds_25 rfl ?_
      refine g_iconst (v := 5) dS_kinds_26 (by decide) ?_
      refine gV1 dS_kinds_27 kS_kinds_61 rfl rfl (cS_finding (q := 5) (by decide)) (Nat.le_of_ble_eq_true rfl) ?_
      refine g_iret dS_kinds_30 rfl rfl ?_
      exact IsT_of (by rw [kindsC, if_pos h4, shB, cq, if_pos h22])
  · have h4 := bI_0.mp h4
    refine g_aload_n dS_kinds_7 rfl ?_
    refine g_iconst (v := 0) dS_kinds_8 (by decide) ?_
    refine gV1 dS_kinds_9 kS_kinds_61 rfl rfl (cS_finding (q := 0) (by decide)) (Nat.le_of_ble_eq_true rfl) ?_
    refine g_iret dS_kinds_12 rfl rfl ?_
    exact IsT_of (by rw [kindsC, if_neg h4])
