theorem RM.cgS {S S' w : Wd} (h : RM S w) (h1 : hget S' 1 = hget S 1) (h13 : hget S' 13 = hget S 13) (h0 : S' 0 = S 0) (h19 : S' 19 = S 19) (h20 : S' 20 = S 20) (h21 : S' 21 1 = S 21 1) (h22 : S' 22 = S 22) (h32 : S' 32 = S 32) (hs : ∀ k, 24 ≤ k → k < 32 → S' k = S k) : RM S' w := by
  refine RM.mk (fun i hi => ?_) ?_ (fun hk i hi => ?_) ?_ ?_ (fun i hi => ?_) (fun q hq => ?_) ?_ (fun q hq => ?_)
  · rw [h1, h0, h19]; exact h.row i hi
  · rw [h0]; exact h.kf
  · rw [h0] at hk
    rw [h13, h0, h20]; exact h.kr hk i hi
  · exact h.te
  · rw [h21]; exact h.tl
  · rw [h22]; exact h.tb i hi
  · rw [h32]; exact h.fq q hq
  · rw [h32]; exact h.f0
  · rw [hs _ (by omega) (by omega), hs _ (by omega) (by omega)]; exact h.sh q hq
theorem IVW.cgS {b : Nat} {S S' : Wd} (h : IVW b S) (h1 : hget S' 1 = hget S 1) (h13 : hget S' 13 = hget S 13) (h0 : S' 0 = S 0) (h19 : S' 19 = S 19) (h20 : S' 20 = S 20) (h21 : S' 21 1 = S 21 1) (h22 : S' 22 = S 22) (hs : ∀ k, 24 ≤ k → k < 32 → S' k = S k) : IVW b S' := by
  refine ⟨by rw [h1, h19]; exact h.1, fun e => ?_, fun q hq => by rw [hs _ (by omega) (by omega)]; exact h.2.2.1 q hq, by rw [h21]; exact h.2.2.2.1, fun i hi => by rw [h22]; exact h.2.2.2.2 i hi⟩
  rw [h0] at e
  rw [h13, h20]
  exact h.2.1 e
def INV (b : Nat) (w : Wd) : Prop := RM w w ∧ IVW b w
theorem ju_o {B : HA} {T : TT} {p : Wd} {k : Nat} (h : k < 7 ∨ 13 ≤ k) (h2 : k ≠ 21) : hput 7 B (tw T p) k = p k := (hput_out _ _ (by omega)).trans (tw_o h2)
theorem ju_21 {B : HA} {T : TT} {p : Wd} : hput 7 B (tw T p) 21 1 = p 21 1 := by
  rw [hput_out _ _ (by decide), tw_21]; rfl
theorem step_mid {b : Nat} {w p w1 : Wd} {B : HA} {T : TT} (hR : RM w w) (hG : GOOD b w p) (h : w1 = hput 7 B (tw T p)) : RM w w1 := by
  have hc : ∀ k, 33 ≤ k → w1 k = w k := fun k hk => by rw [h, ju_o (by omega) (by omega)]; exact hG.2 k hk
  refine RM.mk (fun i hi => ?_) ?_ (fun hk i hi => ?_) ?_ ?_ (fun i hi => ?_) (fun q hq => ?_) ?_ (fun q hq => ?_)
  · rw [hc 34 (by decide)]; exact hR.row i hi
  · rw [hc 33 (by decide)]; exact hR.kf
  · rw [hc 35 (by decide)]; exact hR.kr hk i hi
  · rw [hc 33 (by decide)]; exact hR.te
  · rw [hc 33 (by decide)]; exact hR.tl
  · rw [hc 38 (by decide)]; exact hR.tb i hi
  · rw [hc 37 (by decide)]; exact hR.fq q hq
  · rw [hc 37 (by decide)]; exact hR.f0
  · rw [hc 44 (by decide), hc 45 (by decide), hc 46 (by decide)]; exact hR.sh q hq
theorem step_fin {b : Nat} {w p w1 w2 : Wd} {B : HA} {T : TT} (hG : GOOD b w p) (h : w1 = hput 7 B (tw T p)) (hR : RM p w2) (hc : ∀ k, k < 33 → w2 k = w1 k) : INV b w2 := by
  have o : ∀ k, (k < 7 ∨ 13 ≤ k) → k ≠ 21 → k < 33 → w2 k = p k := fun k h1 h2 h3 => by rw [hc k h3, h, ju_o h1 h2]
  have o1 : hget w2 1 = hget p 1 := by
    unfold hget
    rw [o 1 (by decide) (by decide) (by decide), o 2 (by decide) (by decide) (by decide), o 3 (by decide) (by decide) (by decide), o 4 (by decide) (by decide) (by decide), o 5 (by decide) (by decide) (by decide), o 6 (by decide) (by decide) (by decide)]
  have o13 : hget w2 13 = hget p 13 := by
    unfold hget
    rw [o 13 (by decide) (by decide) (by decide), o 14 (by decide) (by decide) (by decide), o 15 (by decide) (by decide) (by decide), o 16 (by decide) (by decide) (by decide), o 17 (by decide) (by decide) (by decide), o 18 (by decide) (by decide) (by decide)]
  have o21 : w2 21 1 = p 21 1 := by rw [hc 21 (by decide), h, ju_21]
  exact ⟨hR.cgS o1 o13 (o 0 (by decide) (by decide) (by decide)) (o 19 (by decide) (by decide) (by decide)) (o 20 (by decide) (by decide) (by decide)) o21 (o 22 (by decide) (by decide) (by decide)) (o 32 (by decide) (by decide) (by decide)) (fun k h1 h2 => o k (by omega) (by omega) (by omega)),
    hG.1.cgS o1 o13 (o 0 (by decide) (by decide) (by decide)) (o 19 (by decide) (by decide) (by decide)) (o 20 (by decide) (by decide) (by decide)) o21 (o 22 (by decide) (by decide) (by decide)) (fun k h1 h2 => o k (by omega) (by omega) (by omega))⟩
theorem resP {l : Launch} {g : GG} {M : MM} {as : List Value} {w : Wd} {p : Int32 × Wd} (h : Res l g M as w (IsP p)) : Res l g M as w (IsU p) := Res.mono (fun r w' hh => by
  obtain ⟨rfl, rfl⟩ := hh
  obtain ⟨T, eT⟩ := tw_self p.2
  exact ⟨rfl, hget p.2 7, T, by rw [eT, hput_hget]⟩) h
theorem resT {l : Launch} {g : GG} {M : MM} {as : List Value} {w : Wd} {p : Int32 × Wd} (h : Res l g M as w (IsT p)) : Res l g M as w (IsU p) := Res.mono (fun r w' hh => by
  obtain ⟨rfl, B, rfl⟩ := hh
  obtain ⟨T, eT⟩ := tw_self p.2
  exact ⟨rfl, B, T, by rw [eT]⟩) h
/-! the text keeps the ranges -/
theorem item_6 {f : Nat → Int32} {t n : Nat} {T : TT} {A : HA} (hV : VT f t T) (hn : A.1 6 = nI n) : (itemR f t n T A).2.2.1 6 = nI n ∨ (itemR f t n T A).2.2.1 6 = nI (n + 1) := by
  unfold itemR
  split
  · refine Or.inl ?_
    split
    · exact (rdN_6 (st := fun B v => sS B 0 v) (fun _ _ => rfl)).trans hn
    · split
      · exact (rdN_6 (st := fun B v => mkF v B) (fun B v => mkF_6 v B)).trans hn
      · split
        · unfold wolfR
          split
          · exact hn
          · exact (opF_6 (st := fun B v => sS B 4 v) (fun _ _ => rfl)).trans hn
        · exact hn
  · unfold sheepR
    split
    · exact Or.inl hn
    · refine Or.inr ?_
      have h1 := shR2_ok (f := f) (n := n) (r := opF f t 10 15 (fun B v => sC B n v) (nextF f t T.2.1) (addF n (kwF f T 7 0) 0 A)) (opF_TI (nextF_TI hV.ti.2.1))
      exact h1.2.trans ((opF_6 (st := fun B v => sC B n v) (fun _ _ => rfl)).trans rfl)
theorem ont_IV {f : Nat → Int32} {t b : Nat} (h120 : t ≤ 120) : ∀ (m i n : Nat) (T : TT) (A : HA), VT f t T → IVA n b A → ¬ (ontoF f t m i T A).1 < 0 → ∃ n', n ≤ n' ∧ IVA n' b (ontoF f t m i T A).2.2 := by
  intro m
  induction m with
  | zero =>
    intro i n T A hV hI h
    have e : ontoF f t 0 i T A = (-1 - nI T.1, T, A) := rfl
    rw [e] at h
    exact absurd (neg_lt (Nat.le_trans hV.ti.1 h120)) h
  | succ m ih =>
    intro i n T A hV hI h
    obtain ⟨hok, -⟩ := item_ok hV hI
    have h6 := item_6 (A := A) hV hI.n6
    rw [ont_0 hI.n6 hI.n8 rfl] at h ⊢
    generalize itemR f t n T A = R at *
    have hneg := neg_lt (Nat.le_trans hok.1.ti.1 h120)
    by_cases h0 : R.1 = 0
    · rw [if_pos h0] at h
      exact absurd hneg h
    · rw [if_neg h0] at h ⊢
      obtain ⟨n2, hI2⟩ := hok.2.2 h0
      have hle : n ≤ n2 := by
        have e := hI2.n6
        have h8 := hI2.n8
        have h9 := hI.n8
        rcases h6 with h6 | h6 <;> rw [h6, nI_eq (by omega) (by omega)] at e <;> omega
      by_cases h1 : R.2.1.2.2 = 0
      · rw [if_pos h1] at h ⊢
        exact ⟨n2, hle, hI2⟩
      · rw [if_neg h1] at h ⊢
        by_cases h3 : R.2.1.2.2 = 3
        · rw [if_pos h3] at h ⊢
          obtain ⟨n3, h4, h5⟩ := ih (i + 1) n2 _ R.2.2 hok.1.next hI2 h
          exact ⟨n3, by omega, h5⟩
        · rw [if_neg h3] at h
          exact absurd hneg h
theorem gd_text {b n : Nat} {S : Wd} (h : IVW b S) (hI : IVA n b (hget S 1)) (hs : spOK n (S 19)) (h2 : b < 2 ^ 31) : GOOD b S (textC S).2 := by
  obtain ⟨t, ht, et⟩ := h.2.2.2.1
  have hw : GOOD b S (up S 21 1 0) := gd_wipe h
  unfold textC
  rw [et, nI_clamp (by omega)]
  show GOOD b S (if (textR (S 22) t (hget S 1)).1 < 0 then up S 21 1 0 else hput 1 (textR (S 22) t (hget S 1)).2.2 (up S 21 1 0))
  split
  · exact hw
  · rename_i hr
    obtain ⟨n', hle, hI'⟩ := ont_IV ht 120 1 n _ (hget S 1) ⟨0, Nat.zero_le _, rfl⟩ hI hr
    exact G_tr hw (G_hput hw.1 (Nat.le_refl _) h2 hI' (by rw [up_other _ _ _ _ (by decide)]; exact hs.mono hle))
/-! a call of both -/
def STEP (l : Launch) (g : GG) (b : Nat) (w : Wd) (X Y : MM) (as : List Value) : Prop := ∃ p : Int32 × Wd, Res l g X (.ref (g.1 0) :: as) w (IsU p) ∧ GOOD (b + 60) w p.2 ∧ ∀ w1, RM w w1 → Res l g Y (.ref (g.1 33) :: as) w1 (IsQ p w1)
section ST
variable {l : Launch} {g : GG} {b : Nat} {w : Wd}
theorem st_set (hI : INV b w) (hb : b ≤ 40000) {x v : Int32} : STEP l g b w S_set Q_set [.int x, .int v] := by
  obtain ⟨-, hW⟩ := hI
  obtain ⟨n, hA, hs⟩ := hW.n1
  have hz := hW.2.2.1
  obtain ⟨t, h120, ht⟩ := hW.2.2.2.1
  refine ⟨setC x v w, resP (cS_set hA.n6 hA.n8), G_up (gd_set hW hA hs (by omega)) (by omega) (by omega), fun w1 h1 => ?_⟩
  have h := cQ_set (l := l) (g := g) rfl h1 hA (x := x) (v := v)
  rw [h1.self] at h
  exact h
theorem st_hill (hI : INV b w) (hb : b ≤ 40000) {x : Int32} : STEP l g b w S_hill Q_hill [.int x] := by
  obtain ⟨-, hW⟩ := hI
  obtain ⟨n, hA, hs⟩ := hW.n1
  have hz := hW.2.2.1
  obtain ⟨t, h120, ht⟩ := hW.2.2.2.1
  have hG : GOOD b w (hillC x w).2 := by
    unfold hillC
    repeat' split
    all_goals first | exact G_same hW | exact G_fcl hW _
  refine ⟨hillC x w, resP (cS_hill), G_up hG (by omega) (by omega), fun w1 h1 => ?_⟩
  have h := cQ_hill (l := l) (g := g) rfl h1 hA (x := x)
  rw [h1.self] at h
  exact h
theorem st_sheep (hI : INV b w) (hb : b ≤ 40000) {k c : Int32} : STEP l g b w S_sheep Q_sheep [.int k, .int c] := by
  obtain ⟨-, hW⟩ := hI
  obtain ⟨n, hA, hs⟩ := hW.n1
  have hz := hW.2.2.1
  obtain ⟨t, h120, ht⟩ := hW.2.2.2.1
  refine ⟨sheepC n k c w, resP (cS_sheep hA.n6 hA.n8), G_up (gd_sheep hW hA hs (by omega)) (by omega) (by omega), fun w1 h1 => ?_⟩
  have h := cQ_sheep (l := l) (g := g) rfl h1 hA (k := k) (c := c)
  rw [h1.self] at h
  exact h
theorem st_of (hI : INV b w) (hb : b ≤ 40000) {s x : Int32} : STEP l g b w S_of Q_of [.int s, .int x] := by
  obtain ⟨-, hW⟩ := hI
  obtain ⟨n, hA, hs⟩ := hW.n1
  have hz := hW.2.2.1
  obtain ⟨t, h120, ht⟩ := hW.2.2.2.1
  have hG : GOOD b w (ofC n s x w).2 := by
    unfold ofC
    repeat' split
    all_goals first | exact G_same hW | exact G_fcl hW _
  refine ⟨ofC n s x w, resP (cS_of hA.n6 hA.n8), G_up hG (by omega) (by omega), fun w1 h1 => ?_⟩
  have h := cQ_of (l := l) (g := g) rfl h1 hA (s := s) (x := x)
  rw [h1.self] at h
  exact h
theorem st_change (hI : INV b w) (hb : b ≤ 40000) {s x v : Int32} : STEP l g b w S_change Q_change [.int s, .int x, .int v] := by
  obtain ⟨-, hW⟩ := hI
  obtain ⟨n, hA, hs⟩ := hW.n1
  have hz := hW.2.2.1
  obtain ⟨t, h120, ht⟩ := hW.2.2.2.1
  refine ⟨changeC n s x v w, resP (cS_change hA.n6 hA.n8), G_up (gd_change hW hA hs (by omega)) (by omega) (by omega), fun w1 h1 => ?_⟩
  have h := cQ_change (l := l) (g := g) rfl h1 hA (s := s) (x := x) (v := v)
  rw [h1.self] at h
  exact h
theorem st_drop (hI : INV b w) (hb : b ≤ 40000)  : STEP l g b w S_drop Q_drop [] := by
  obtain ⟨-, hW⟩ := hI
  obtain ⟨n, hA, hs⟩ := hW.n1
  have hz := hW.2.2.1
  obtain ⟨t, h120, ht⟩ := hW.2.2.2.1
  refine ⟨dropC w, resP (cS_drop), G_up (gd_drop hW hA hs (by omega)) (by omega) (by omega), fun w1 h1 => ?_⟩
  have h := cQ_drop (l := l) (g := g) rfl h1 hA
  rw [h1.self] at h
  exact h
theorem st_who (hI : INV b w) (hb : b ≤ 40000) {c : Int32} : STEP l g b w S_who Q_who [.int c] := by
  obtain ⟨-, hW⟩ := hI
  obtain ⟨n, hA, hs⟩ := hW.n1
  have hz := hW.2.2.1
  obtain ⟨t, h120, ht⟩ := hW.2.2.2.1
  have hG : GOOD b w (whoC n c w).2 := by
    unfold whoC
    repeat' split
    all_goals first | exact G_same hW | exact G_fcl hW _
  refine ⟨whoC n c w, resP (cS_who hA.n6 hA.n8), G_up hG (by omega) (by omega), fun w1 h1 => ?_⟩
  have h := cQ_who (l := l) (g := g) rfl h1 hA (c := c)
  rw [h1.self] at h
  exact h
theorem st_go (hI : INV b w) (hb : b ≤ 40000) {k : Int32} : STEP l g b w S_go Q_go [.int k] := by
  obtain ⟨-, hW⟩ := hI
  obtain ⟨n, hA, hs⟩ := hW.n1
  have hz := hW.2.2.1
  obtain ⟨t, h120, ht⟩ := hW.2.2.2.1
  refine ⟨goC n k w, resP (cS_go hA.n6 hA.n8), gd_go hW hA hs (by omega), fun w1 h1 => ?_⟩
  have h := cQ_go (l := l) (g := g) rfl h1 hA (k := k) (by omega)
  rw [h1.self] at h
  exact h
theorem st_now (hI : INV b w) (hb : b ≤ 40000) {x : Int32} : STEP l g b w S_now Q_now [.int x] := by
  obtain ⟨-, hW⟩ := hI
  obtain ⟨n, hA, hs⟩ := hW.n1
  have hz := hW.2.2.1
  obtain ⟨t, h120, ht⟩ := hW.2.2.2.1
  have hG : GOOD b w (nowC n x w).2 := by
    unfold nowC
    repeat' split
    all_goals first | exact G_same hW | exact G_fcl hW _
  refine ⟨nowC n x w, resP (cS_now hA.n6 hA.n8), G_up hG (by omega) (by omega), fun w1 h1 => ?_⟩
  have h := cQ_now (l := l) (g := g) rfl h1 hA (x := x)
  rw [h1.self] at h
  exact h
theorem st_ahead (hI : INV b w) (hb : b ≤ 40000) {s x k : Int32} : STEP l g b w S_ahead Q_ahead [.int s, .int x, .int k] := by
  obtain ⟨-, hW⟩ := hI
  obtain ⟨n, hA, hs⟩ := hW.n1
  have hz := hW.2.2.1
  obtain ⟨t, h120, ht⟩ := hW.2.2.2.1
  have hG : GOOD b w (aheadC n s x k w).2 := by
    unfold aheadC
    repeat' split
    all_goals first | exact G_same hW | exact G_fcl hW _
  refine ⟨aheadC n s x k w, resT (cS_ahead hA.n6 hA.n8), G_up hG (by omega) (by omega), fun w1 h1 => ?_⟩
  have h := cQ_ahead (l := l) (g := g) rfl h1 hA (s := s) (x := x) (k := k) (by omega)
  rw [h1.self] at h
  exact h
theorem st_later (hI : INV b w) (hb : b ≤ 40000) {x k : Int32} : STEP l g b w S_later Q_later [.int x, .int k] := by
  obtain ⟨-, hW⟩ := hI
  obtain ⟨n, hA, hs⟩ := hW.n1
  have hz := hW.2.2.1
  obtain ⟨t, h120, ht⟩ := hW.2.2.2.1
  have hG : GOOD b w (laterC n x k w).2 := by
    unfold laterC
    repeat' split
    all_goals first | exact G_same hW | exact G_fcl hW _
  refine ⟨laterC n x k w, resT (cS_later hA.n6 hA.n8), G_up hG (by omega) (by omega), fun w1 h1 => ?_⟩
  have h := cQ_later (l := l) (g := g) rfl h1 hA (x := x) (k := k) (by omega)
  rw [h1.self] at h
  exact h
theorem st_when (hI : INV b w) (hb : b ≤ 40000) {s v : Int32} : STEP l g b w S_when Q_when [.int s, .int v] := by
  obtain ⟨-, hW⟩ := hI
  obtain ⟨n, hA, hs⟩ := hW.n1
  have hz := hW.2.2.1
  obtain ⟨t, h120, ht⟩ := hW.2.2.2.1
  have hG : GOOD b w (whenC n s v w).2 := by
    unfold whenC orN
    repeat' split
    all_goals first | exact G_same hW | exact G_fcl hW _
  refine ⟨whenC n s v w, resT (cS_when hA.n6 hA.n8), G_up hG (by omega) (by omega), fun w1 h1 => ?_⟩
  have h := cQ_when (l := l) (g := g) rfl h1 hA (s := s) (v := v) (by omega)
  rw [h1.self] at h
  exact h
theorem st_home (hI : INV b w) (hb : b ≤ 40000)  : STEP l g b w S_home Q_home [] := by
  obtain ⟨-, hW⟩ := hI
  obtain ⟨n, hA, hs⟩ := hW.n1
  have hz := hW.2.2.1
  obtain ⟨t, h120, ht⟩ := hW.2.2.2.1
  have hG : GOOD b w (homeC n w).2 := by
    unfold homeC orN
    repeat' split
    all_goals first | exact G_same hW | exact G_fcl hW _
  refine ⟨homeC n w, resT (cS_home hA.n6 hA.n8), G_up hG (by omega) (by omega), fun w1 h1 => ?_⟩
  have h := cQ_home (l := l) (g := g) rfl h1 hA (by omega)
  rw [h1.self] at h
  exact h
theorem st_panic (hI : INV b w) (hb : b ≤ 40000) {s v : Int32} : STEP l g b w S_panic Q_panic [.int s, .int v] := by
  obtain ⟨-, hW⟩ := hI
  obtain ⟨n, hA, hs⟩ := hW.n1
  have hz := hW.2.2.1
  obtain ⟨t, h120, ht⟩ := hW.2.2.2.1
  have hG : GOOD b w (panicC n s v w).2 := by
    unfold panicC orN
    repeat' split
    all_goals first | exact G_same hW | exact G_fcl hW _
  refine ⟨panicC n s v w, resT (cS_panic hA.n6 hA.n8), G_up hG (by omega) (by omega), fun w1 h1 => ?_⟩
  have h := cQ_panic (l := l) (g := g) rfl h1 hA (s := s) (v := v) (by omega)
  rw [h1.self] at h
  exact h
theorem st_standFor (hI : INV b w) (hb : b ≤ 40000) {k : Int32} : STEP l g b w S_standFor Q_standFor [.int k] := by
  obtain ⟨-, hW⟩ := hI
  obtain ⟨n, hA, hs⟩ := hW.n1
  have hz := hW.2.2.1
  obtain ⟨t, h120, ht⟩ := hW.2.2.2.1
  have hG : GOOD b w (standC n k w).2 := by
    unfold standC
    repeat' split
    all_goals first | exact G_same hW | exact G_fcl hW _
  refine ⟨standC n k w, resT (cS_standFor hA.n6 hA.n8), G_up hG (by omega) (by omega), fun w1 h1 => ?_⟩
  have h := cQ_standFor (l := l) (g := g) rfl h1 hA (k := k) (by omega)
  rw [h1.self] at h
  exact h
theorem st_foldFor (hI : INV b w) (hb : b ≤ 40000) {k : Int32} : STEP l g b w S_foldFor Q_foldFor [.int k] := by
  obtain ⟨-, hW⟩ := hI
  obtain ⟨n, hA, hs⟩ := hW.n1
  have hz := hW.2.2.1
  obtain ⟨t, h120, ht⟩ := hW.2.2.2.1
  have hG : GOOD b w (foldC n k w).2 := by
    unfold foldC
    repeat' split
    all_goals first | exact G_same hW | exact G_fcl hW _
  refine ⟨foldC n k w, resT (cS_foldFor hA.n6 hA.n8), G_up hG (by omega) (by omega), fun w1 h1 => ?_⟩
  have h := cQ_foldFor (l := l) (g := g) rfl h1 hA (k := k) (by omega)
  rw [h1.self] at h
  exact h
theorem st_kindFor (hI : INV b w) (hb : b ≤ 40000) {s k : Int32} : STEP l g b w S_kindFor Q_kindFor [.int s, .int k] := by
  obtain ⟨-, hW⟩ := hI
  obtain ⟨n, hA, hs⟩ := hW.n1
  have hz := hW.2.2.1
  obtain ⟨t, h120, ht⟩ := hW.2.2.2.1
  have hG : GOOD b w (kindC n s k w).2 := by
    unfold kindC
    repeat' split
    all_goals first | exact G_same hW | exact G_fcl hW _
  refine ⟨kindC n s k w, resT (cS_kindFor hA.n6 hA.n8), G_up hG (by omega) (by omega), fun w1 h1 => ?_⟩
  have h := cQ_kindFor (l := l) (g := g) rfl h1 hA (s := s) (k := k) (by omega)
  rw [h1.self] at h
  exact h
theorem st_paceFor (hI : INV b w) (hb : b ≤ 40000) {v k : Int32} : STEP l g b w S_paceFor Q_paceFor [.int v, .int k] := by
  obtain ⟨-, hW⟩ := hI
  obtain ⟨n, hA, hs⟩ := hW.n1
  have hz := hW.2.2.1
  obtain ⟨t, h120, ht⟩ := hW.2.2.2.1
  have hG : GOOD b w (paceC n v k w).2 := by
    unfold paceC orN
    repeat' split
    all_goals first | exact G_same hW | exact G_fcl hW _
  refine ⟨paceC n v k w, resT (cS_paceFor hA.n6 hA.n8), G_up hG (by omega) (by omega), fun w1 h1 => ?_⟩
  have h := cQ_paceFor (l := l) (g := g) rfl h1 hA (v := v) (k := k) (by omega)
  rw [h1.self] at h
  exact h
theorem st_tether (hI : INV b w) (hb : b ≤ 40000) {k : Int32} : STEP l g b w S_tether Q_tether [.int k] := by
  obtain ⟨-, hW⟩ := hI
  obtain ⟨n, hA, hs⟩ := hW.n1
  have hz := hW.2.2.1
  obtain ⟨t, h120, ht⟩ := hW.2.2.2.1
  have hG : GOOD b w (tethC n k w).2 := by
    unfold tethC
    repeat' split
    all_goals first | exact G_same hW | exact G_fcl hW _
  refine ⟨tethC n k w, resT (cS_tether hA.n6 hA.n8), G_up hG (by omega) (by omega), fun w1 h1 => ?_⟩
  have h := cQ_tether (l := l) (g := g) rfl h1 hA (k := k) (by omega)
  rw [h1.self] at h
  exact h
theorem st_fits (hI : INV b w) (hb : b ≤ 40000) {s h : Int32} : STEP l g b w S_fits Q_fits [.int s, .int h] := by
  obtain ⟨-, hW⟩ := hI
  obtain ⟨n, hA, hs⟩ := hW.n1
  have hz := hW.2.2.1
  obtain ⟨t, h120, ht⟩ := hW.2.2.2.1
  have hG : GOOD b w (fitsC n s h w).2 := by
    unfold fitsC
    repeat' split
    all_goals first | exact G_same hW | exact G_fcl hW _
  refine ⟨fitsC n s h w, resT (cS_fits hA.n6 hA.n8 hz), G_up hG (by omega) (by omega), fun w1 h1 => ?_⟩
  have h := cQ_fits (l := l) (g := g) rfl h1 hA (s := s) (h := h) (by omega) hz
  rw [h1.self] at h
  exact h
theorem st_kinds (hI : INV b w) (hb : b ≤ 40000) {s h : Int32} : STEP l g b w S_kinds Q_kinds [.int s, .int h] := by
  obtain ⟨-, hW⟩ := hI
  obtain ⟨n, hA, hs⟩ := hW.n1
  have hz := hW.2.2.1
  obtain ⟨t, h120, ht⟩ := hW.2.2.2.1
  have hG : GOOD b w (kindsC n s h w).2 := by
    unfold kindsC
    repeat' split
    all_goals first | exact G_same hW | exact G_fcl hW _
  refine ⟨kindsC n s h w, resT (cS_kinds hA.n6 hA.n8 hz), G_up hG (by omega) (by omega), fun w1 h1 => ?_⟩
  have h := cQ_kinds (l := l) (g := g) rfl h1 hA (s := s) (h := h) (by omega) hz
  rw [h1.self] at h
  exact h
theorem st_nights (hI : INV b w) (hb : b ≤ 40000) {k : Int32} : STEP l g b w S_nights Q_nights [.int k] := by
  obtain ⟨-, hW⟩ := hI
  obtain ⟨n, hA, hs⟩ := hW.n1
  have hz := hW.2.2.1
  obtain ⟨t, h120, ht⟩ := hW.2.2.2.1
  refine ⟨nightsC n k w, resP (cS_nights hA.n6 hA.n8), gd_nights hW hA hs (by omega), fun w1 h1 => ?_⟩
  have h := cQ_nights (l := l) (g := g) rfl h1 hA (k := k) (by omega)
  rw [h1.self] at h
  exact h
theorem st_seed (hI : INV b w) (hb : b ≤ 40000) {v : Int32} : STEP l g b w S_seed Q_seed [.int v] := by
  obtain ⟨-, hW⟩ := hI
  obtain ⟨n, hA, hs⟩ := hW.n1
  have hz := hW.2.2.1
  obtain ⟨t, h120, ht⟩ := hW.2.2.2.1
  refine ⟨seedC v w, resP (cS_seed), G_up (gd_seed hW) (by omega) (by omega), fun w1 h1 => ?_⟩
  exact cQ_seed h1
theorem st_feed (hI : INV b w) (hb : b ≤ 40000) {b2 k : Int32} : STEP l g b w S_feed Q_feed [.int b2, .int k] := by
  obtain ⟨-, hW⟩ := hI
  obtain ⟨n, hA, hs⟩ := hW.n1
  have hz := hW.2.2.1
  obtain ⟨t, h120, ht⟩ := hW.2.2.2.1
  refine ⟨feedC b2 k w, resP (cS_feed ht h120), G_up (gd_feed hW) (by omega) (by omega), fun w1 h1 => ?_⟩
  exact cQ_feed h1 ht h120
theorem st_wipe (hI : INV b w) (hb : b ≤ 40000)  : STEP l g b w S_wipe Q_wipe [] := by
  obtain ⟨-, hW⟩ := hI
  obtain ⟨n, hA, hs⟩ := hW.n1
  have hz := hW.2.2.1
  obtain ⟨t, h120, ht⟩ := hW.2.2.2.1
  refine ⟨wipeC w, resP (cS_wipe), G_up (gd_wipe hW) (by omega) (by omega), fun w1 h1 => ?_⟩
  exact cQ_wipe h1
theorem st_text (hI : INV b w) (hb : b ≤ 40000)  : STEP l g b w S_text Q_text [] := by
  obtain ⟨-, hW⟩ := hI
  obtain ⟨n, hA, hs⟩ := hW.n1
  have hz := hW.2.2.1
  obtain ⟨t, h120, ht⟩ := hW.2.2.2.1
  refine ⟨textC w, cS_text ht h120 hA.n6 hA.n8, G_up (gd_text hW hA hs (by omega)) (by omega) (by omega), fun w1 h1 => ?_⟩
  exact cQ_text rfl h1 hA ht h120 hW.2.2.2.2
theorem st_hold (hI : INV b w) (hb : b ≤ 40000) {s h : Int32} : STEP l g b w S_hold Q_hold [.int s, .int h] := by
  obtain ⟨-, hW⟩ := hI
  obtain ⟨n, hA, hs⟩ := hW.n1
  have hz := hW.2.2.1
  obtain ⟨t, h120, ht⟩ := hW.2.2.2.1
  refine ⟨holdC s h w, resP (cS_hold hA.n6 hA.n8), G_up (gd_hold hW hA hs) (by omega) (by omega), fun w1 h1 => ?_⟩
  have h := cQ_hold (l := l) (g := g) rfl h1 hA (s := s) (h := h)
  rw [h1.self] at h
  exact h
theorem st_as (hI : INV b w) (hb : b ≤ 40000) {s k : Int32} : STEP l g b w S_as Q_as [.int s, .int k] := by
  obtain ⟨-, hW⟩ := hI
  obtain ⟨n, hA, hs⟩ := hW.n1
  have hz := hW.2.2.1
  obtain ⟨t, h120, ht⟩ := hW.2.2.2.1
  have hG : GOOD b w (asC n s k w).2 := by
    unfold asC
    repeat' split
    all_goals first | exact G_same hW | exact G_fcl hW _
  refine ⟨asC n s k w, resP (cS_as hA.n6 hA.n8), G_up hG (by omega) (by omega), fun w1 h1 => ?_⟩
  have h := cQ_as (l := l) (g := g) rfl h1 hA (s := s) (k := k) hs
  rw [h1.self] at h
  exact h
theorem st_sheet (hI : INV b w) (hb : b ≤ 40000) {s b2 n2 : Int32} : STEP l g b w S_sheet Q_sheet [.int s, .int b2, .int n2] := by
  obtain ⟨-, hW⟩ := hI
  obtain ⟨n, hA, hs⟩ := hW.n1
  have hz := hW.2.2.1
  obtain ⟨t, h120, ht⟩ := hW.2.2.2.1
  refine ⟨sheetC s b2 n2 w, resP (cS_sheet), G_up (gd_sheet hW) (by omega) (by omega), fun w1 h1 => ?_⟩
  exact cQ_sheet h1
theorem st_write (hI : INV b w) (hb : b ≤ 40000) {s i v : Int32} : STEP l g b w S_write Q_write [.int s, .int i, .int v] := by
  obtain ⟨-, hW⟩ := hI
  obtain ⟨n, hA, hs⟩ := hW.n1
  have hz := hW.2.2.1
  obtain ⟨t, h120, ht⟩ := hW.2.2.2.1
  refine ⟨writeC s i v w, resP (cS_write hz), G_up (gd_write hW) (by omega) (by omega), fun w1 h1 => ?_⟩
  exact cQ_write h1 hz
theorem st_copy (hI : INV b w) (hb : b ≤ 40000) {s f t2 d n2 : Int32} : STEP l g b w S_copy Q_copy [.int s, .int f, .int t2, .int d, .int n2] := by
  obtain ⟨-, hW⟩ := hI
  obtain ⟨n, hA, hs⟩ := hW.n1
  have hz := hW.2.2.1
  obtain ⟨t, h120, ht⟩ := hW.2.2.2.1
  refine ⟨copyC s f t2 d n2 w, resP (cS_copy hz), G_up (gd_copy hW) (by omega) (by omega), fun w1 h1 => ?_⟩
  exact cQ_copy h1 hz
theorem st_load (hI : INV b w) (hb : b ≤ 40000) {s : Int32} : STEP l g b w S_load Q_load [.int s] := by
  obtain ⟨-, hW⟩ := hI
  obtain ⟨n, hA, hs⟩ := hW.n1
  have hz := hW.2.2.1
  obtain ⟨t, h120, ht⟩ := hW.2.2.2.1
  refine ⟨loadC n s w, resP (cS_load hA.n6 hA.n8 hz), G_up (gd_load hW hA hs (by omega)) (by omega) (by omega), fun w1 h1 => ?_⟩
  have h := cQ_load (l := l) (g := g) rfl h1 hA (s := s) hz
  rw [h1.self] at h
  exact h
theorem st_judge (hI : INV b w) (hb : b ≤ 40000) {s : Int32} : STEP l g b w S_judge Q_judge [.int s] := by
  obtain ⟨-, hW⟩ := hI
  obtain ⟨n, hA, hs⟩ := hW.n1
  have hz := hW.2.2.1
  obtain ⟨t, h120, ht⟩ := hW.2.2.2.1
  have hG : GOOD b w (judgeC n s w).2 := by
    unfold judgeC
    repeat' split
    all_goals first | exact G_same hW | exact G_fcl hW _
  refine ⟨judgeC n s w, resP (cS_judge hA.n6 hA.n8 hz), G_up hG (by omega) (by omega), fun w1 h1 => ?_⟩
  have h := cQ_judge (l := l) (g := g) rfl h1 hA (s := s) hz
  rw [h1.self] at h
  exact h
theorem st_image (hI : INV b w) (hb : b ≤ 40000)  : STEP l g b w S_image Q_image [] := by
  obtain ⟨-, hW⟩ := hI
  obtain ⟨n, hA, hs⟩ := hW.n1
  have hz := hW.2.2.1
  obtain ⟨t, h120, ht⟩ := hW.2.2.2.1
  refine ⟨imageC w, resP (cS_image), G_up (gd_image hW) (by omega) (by omega), fun w1 h1 => ?_⟩
  exact cQ_image h1
theorem st_undo (hI : INV b w) (hb : b ≤ 40000)  : STEP l g b w S_undo Q_undo [] := by
  obtain ⟨-, hW⟩ := hI
  obtain ⟨n, hA, hs⟩ := hW.n1
  have hz := hW.2.2.1
  obtain ⟨t, h120, ht⟩ := hW.2.2.2.1
  refine ⟨undoC w, resP (cS_undo), G_up (gd_undo hW) (by omega) (by omega), fun w1 h1 => ?_⟩
  exact cQ_undo h1
theorem st_tear (hI : INV b w) (hb : b ≤ 40000)  : STEP l g b w S_tear Q_tear [] := by
  obtain ⟨-, hW⟩ := hI
  obtain ⟨n, hA, hs⟩ := hW.n1
  have hz := hW.2.2.1
  obtain ⟨t, h120, ht⟩ := hW.2.2.2.1
  refine ⟨tearC w, resP (cS_tear), G_up (gd_tear hW) (by omega) (by omega), fun w1 h1 => ?_⟩
  exact cQ_tear h1
theorem st_count (hI : INV b w) (hb : b ≤ 40000) {x : Int32} : STEP l g b w S_count Q_count [.int x] := by
  obtain ⟨-, hW⟩ := hI
  obtain ⟨n, hA, hs⟩ := hW.n1
  have hz := hW.2.2.1
  obtain ⟨t, h120, ht⟩ := hW.2.2.2.1
  have hG : GOOD b w (countC n x w).2 := by
    unfold countC
    repeat' split
    all_goals first | exact G_same hW | exact G_fcl hW _
  refine ⟨countC n x w, resP (cS_count hA.n6 hA.n8), G_up hG (by omega) (by omega), fun w1 h1 => ?_⟩
  have h := cQ_count (l := l) (g := g) rfl h1 hA (x := x) hs
  rw [h1.self] at h
  exact h
theorem st_status (hI : INV b w) (hb : b ≤ 40000) {x : Int32} : STEP l g b w S_status Q_status [.int x] := by
  obtain ⟨-, hW⟩ := hI
  obtain ⟨n, hA, hs⟩ := hW.n1
  have hz := hW.2.2.1
  obtain ⟨t, h120, ht⟩ := hW.2.2.2.1
  have hG : GOOD b w (statusC x w).2 := by
    unfold statusC
    repeat' split
    all_goals first | exact G_same hW | exact G_fcl hW _
  refine ⟨statusC x w, resP (cS_status), G_up hG (by omega) (by omega), fun w1 h1 => ?_⟩
  exact cQ_status h1
end ST
