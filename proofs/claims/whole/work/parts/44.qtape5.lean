theorem ont_0 {f : Nat → Int32} {t m i n : Nat} {T : TT} {A : HA} {R : RR} (hn : A.1 6 = nI n) (h8 : n ≤ 8) (hR : itemR f t n T A = R) : ontoF f t (m + 1) i T A = if R.1 = 0 then (-1 - nI R.2.1.1, R.2) else if R.2.1.2.2 = 0 then (nI i, R.2) else if R.2.1.2.2 = 3 then ontoF f t m (i + 1) (nextF f t R.2.1.2.1) R.2.2 else (-1 - nI R.2.1.1, R.2) := by
  rw [ontoF, hn, nI_clamp (by omega), hR]
/-- what the class's text answers and leaves, by its reader's end -/
def tfin (S : Wd) (r : RR) : Int32 × Wd := (r.1, if r.1 < 0 then up S 21 1 0 else hput 1 r.2.2 (up S 21 1 0))
theorem neg_lt {p : Nat} (h : p ≤ 120) : (-1 : Int32) - nI p < 0 := by
  have h1 : (0 : Int32) ≤ nI p := nI_pos' (by omega)
  have h2 : nI p ≤ 120 := (nI_leI (b := 120) (by omega) (by decide)).mpr h
  generalize nI p = x at *
  grind
def TJ (f : Nat → Int32) (t b i : Nat) (T : TT) (A A0 : HA) (W : Wd) : Prop := VT f t T ∧ 2 * i ≤ T.1 ∧ apN W i A0 = A ∧ ∀ k, k ≤ i → ∃ nk, IVA nk b (apN W k A0)
def kW3 (W W' : Wd) : Prop := (∀ k, (k < 40 ∨ 43 < k) → k ≠ 33 → W' k = W k) ∧ W' 33 3 = W 33 3 ∧ W' 33 5 = W 33 5 ∧ W' 33 7 = W 33 7
theorem TX_fail {S w W' : Wd} {f : Nat → Int32} {T : TT} {r : RR} (hR : RM S w) (hk : kW3 w W') (hr : r.1 < 0) : IsQ (tfin S r) w (some (.int r.1)) (pw f 1 T (up W' 33 7 0)) := by
  have hc : ∀ k, k ≠ 33 → (k < 40 ∨ 43 < k) → pw f 1 T (up W' 33 7 0) k = up w 33 7 0 k := fun k h1 h2 => by
    rw [pw_o h1, up_other _ _ _ _ h1, up_other _ _ _ _ h1]; exact hk.1 k h2 h1
  refine ⟨rfl, ?_, fun k h => by rw [hc k (by omega) (by omega), up_other _ _ _ _ (by omega)]⟩
  show RM (if r.1 < 0 then _ else _) _
  rw [if_pos hr]
  refine (hR.tlen 0).cgW hc ?_ ?_ ?_
  · rw [pw_j (by decide), up_same, up_same]; exact (show upd (W' 33) 7 0 3 = W' 33 3 from rfl).trans hk.2.1
  · rw [pw_j (by decide), up_same, up_same]; exact (show upd (W' 33) 7 0 5 = W' 33 5 from rfl).trans hk.2.2.1
  · rw [pw_j (by decide), up_same, up_same]; rfl
theorem TX_ok {S w W' : Wd} {f : Nat → Int32} {T : TT} {r : RR} {i : Nat} (hR : RM S w) (hk : kW3 w W') (hi : i < 2 ^ 31) (hr : r.1 = nI i) : IsQ (tfin S r) w (some (.int (nI i))) (mput r.2.2 (pw f 0 T (up W' 33 7 0))) := by
  have hc : ∀ k, k ≠ 33 → (k < 40 ∨ 43 < k) → pw f 0 T (up W' 33 7 0) k = up w 33 7 0 k := fun k h1 h2 => by
    rw [pw_o h1, up_other _ _ _ _ h1, up_other _ _ _ _ h1]; exact hk.1 k h2 h1
  refine ⟨by rw [← hr]; rfl, ?_, fun k h => by rw [mput_o _ _ (by omega), hc k (by omega) (by omega), up_other _ _ _ _ (by omega)]⟩
  show RM (if r.1 < 0 then _ else _) _
  rw [if_neg (by rw [hr]; exact nI_pos hi)]
  refine RM.aput ((hR.tlen 0).cgW hc ?_ ?_ ?_) r.2.2
  · rw [pw_j (by decide), up_same, up_same]; exact (show upd (W' 33) 7 0 3 = W' 33 3 from rfl).trans hk.2.1
  · rw [pw_j (by decide), up_same, up_same]; exact (show upd (W' 33) 7 0 5 = W' 33 5 from rfl).trans hk.2.2.1
  · rw [pw_j (by decide), up_same, up_same]; rfl
theorem kW_tr {a b c : Wd} (h1 : kW3 a b) (h2 : kW b c) : kW3 a c := ⟨fun k x y => (h2.1 k x y).trans (h1.1 k x y), (h2.2 3 (by decide) (by decide)).trans h1.2.1, (h2.2 5 (by decide) (by decide)).trans h1.2.2.1, (h2.2 7 (by decide) (by decide)).trans h1.2.2.2⟩
theorem so_r {f : Nat → Int32} {t : Nat} {T : TT} (h : VT f t T) : T.2.2 = 0 ∨ T.2.2 = 1 ∨ T.2.2 = 2 ∨ T.2.2 = 3 ∨ T.2.2 = 4 ∨ T.2.2 = 5 := by rw [h.tk]; exact tk_cases
set_option maxRecDepth 4000 in
theorem lQ_apply {l : Launch} {g : GG} {V : Wd} {A0 : HA} {b i : Nat} (hi : V 33 18 = nI i) (hi2 : i ≤ 120) (hJ : ∀ k, k ≤ i → ∃ nk, IVA nk b (apN V k A0)) : ∀ (m : Nat) (k : Nat), (i - k < m) → (k ≤ i) → Go l g Q_text 111 [some (.ref (g.1 33)), some (.int (nI k))] [] (mput (apN V k A0) V) (Is (some (.int (nI i))) (mput (apN V i A0) V)) := by
  intro m
  induction m with
  | zero => intro k hm hk; omega
  | succ m ih =>
    intro k hm hk
    refine g_iload_n dQ_text_111 rfl ?_
    refine g_aload_n dQ_text_112 rfl ?_
    refine g_getI dQ_text_113 fQ_286 rfl rfl ?_
    refine g_top (y := nI i) (by rw [mput_o _ _ (by decide)]; exact hi) ?_
    refine g_icmp_ge dQ_text_116 rfl (fun h116 => ?_) (fun h116 => ?_)
    · rw [nI_leI (by omega) (by omega)] at h116
      obtain rfl : k = i := by omega
      refine g_aload_n dQ_text_130 rfl ?_
      refine g_getI dQ_text_131 fQ_286 rfl rfl ?_
      refine g_top (y := nI k) (by rw [mput_o _ _ (by decide)]; exact hi) ?_
      refine g_iret dQ_text_134 rfl rfl ?_
      exact ⟨rfl, rfl⟩
    · rw [nI_leI (by omega) (by omega)] at h116
      obtain ⟨n1, hn1⟩ := hJ k (by omega)
      obtain ⟨n2, hn2⟩ := hJ (k + 1) (by omega)
      refine g_aload_n dQ_text_119 rfl ?_
      refine g_iload_n dQ_text_120 rfl ?_
      refine gV1v dQ_text_121 kQ_text_330 rfl rfl (cQ_isToldSo hn1 (by omega) (fun h1 h2 h3 => ap_7 hn1 hn2 h1 h2 h3)) (Nat.le_of_ble_eq_true rfl) ?_
      refine g_iinc (v := nI (k + 1)) dQ_text_124 rfl (nI_succ k).symm (by decide) rfl rfl ?_
      dsimp only [List.set]
      refine g_goto dQ_text_127 rfl ?_
      exact ih (k + 1) (by omega) (by omega)

set_option maxRecDepth 4000 in
theorem lQ_endF {l : Launch} {g : GG} {S w W1 : Wd} {f : Nat → Int32} {t : Nat} {T : TT} {wr : Int32} {r : RR} (hR : RM S w) (hf : W1 38 = f) (ht : W1 33 7 = nI t) (h120 : t ≤ 120) (hb : ∀ i, i < t → 0 ≤ f i) (hV : VT f t T) (hk : kW3 w W1) (hwr : wr = 1 ∨ (wr = 0 ∧ ¬ soR T = 0)) (hr : r.1 = -1 - nI T.1) : Go l g Q_text 74 [some (.ref (g.1 33)), none] [] (pw f wr T W1) (IsQ (tfin S r) w) := by
  have hlt : r.1 < 0 := by rw [hr]; exact neg_lt (Nat.le_trans hV.ti.1 h120)
  rcases hwr with rfl | ⟨rfl, hso⟩
  · refine g_aload_n dQ_text_74 rfl ?_
    refine g_aload_n dQ_text_75 rfl ?_
    refine g_p10 dQ_text_76 fQ_265 ?_
    refine g_if_ne dQ_text_79 rfl (fun h79 => ?_) (fun h79 => ?_)
    · refine g_iconst (v := 0) dQ_text_86 (by decide) ?_
      refine gV1v dQ_text_87 kQ_text_282 rfl rfl (cQ_mustW hf ht h120 hb hV.en) (Nat.le_of_ble_eq_true rfl) ?_
      refine g_aload_n dQ_text_90 rfl ?_
      refine g_iconst (v := 0) dQ_text_91 (by decide) ?_
      refine g_pw (j := 7) dQ_text_92 fQ_250 rfl (by decide) rfl rfl ?_
      refine g_aload_n dQ_text_95 rfl ?_
      refine g_p12 dQ_text_96 fQ_275 ?_
      refine g_if_eq dQ_text_99 rfl (fun h99 => ?_) (fun h99 => ?_)
      · exact absurd h99 (by decide)
      · refine g_iconst (v := (-1)) dQ_text_102 (by decide) ?_
        refine g_aload_n dQ_text_103 rfl ?_
        refine g_p8 dQ_text_104 fQ_256 ?_
        refine g_isub dQ_text_107 ?_
        refine g_iret dQ_text_108 rfl rfl ?_
        rw [← hr]
        exact TX_fail hR hk hlt
    · refine g_iconst (v := 1) dQ_text_82 (by decide) ?_
      refine g_goto dQ_text_83 rfl ?_
      refine gV1v dQ_text_87 kQ_text_282 rfl rfl (cQ_mustW hf ht h120 hb hV.en) (Nat.le_of_ble_eq_true rfl) ?_
      refine g_aload_n dQ_text_90 rfl ?_
      refine g_iconst (v := 0) dQ_text_91 (by decide) ?_
      refine g_pw (j := 7) dQ_text_92 fQ_250 rfl (by decide) rfl rfl ?_
      refine g_aload_n dQ_text_95 rfl ?_
      refine g_p12 dQ_text_96 fQ_275 ?_
      refine g_if_eq dQ_text_99 rfl (fun h99 => ?_) (fun h99 => ?_)
      · exact absurd h99 (by decide)
      · refine g_iconst (v := (-1)) dQ_text_102 (by decide) ?_
        refine g_aload_n dQ_text_103 rfl ?_
        refine g_p8 dQ_text_104 fQ_256 ?_
        refine g_isub dQ_text_107 ?_
        refine g_iret dQ_text_108 rfl rfl ?_
        rw [← hr]
        exact TX_fail hR hk hlt
  · refine g_aload_n dQ_text_74 rfl ?_
    refine g_aload_n dQ_text_75 rfl ?_
    refine g_p10 dQ_text_76 fQ_265 ?_
    refine g_if_ne dQ_text_79 rfl (fun h79 => ?_) (fun h79 => ?_)
    · refine g_iconst (v := 0) dQ_text_86 (by decide) ?_
      refine gV1v dQ_text_87 kQ_text_282 rfl rfl (cQ_must hf ht h120 hb hV.en (c := False)) (Nat.le_of_ble_eq_true rfl) ?_
      rw [if_neg (fun zz => zz)]
      refine g_aload_n dQ_text_90 rfl ?_
      refine g_iconst (v := 0) dQ_text_91 (by decide) ?_
      refine g_pw (j := 7) dQ_text_92 fQ_250 rfl (by decide) rfl rfl ?_
      refine g_aload_n dQ_text_95 rfl ?_
      refine g_p12 dQ_text_96 fQ_275 ?_
      refine g_if_eq dQ_text_99 rfl (fun h99 => ?_) (fun h99 => ?_)
      · exact absurd h99 (by decide)
      · refine g_iconst (v := (-1)) dQ_text_102 (by decide) ?_
        refine g_aload_n dQ_text_103 rfl ?_
        refine g_p8 dQ_text_104 fQ_256 ?_
        refine g_isub dQ_text_107 ?_
        refine g_iret dQ_text_108 rfl rfl ?_
        rw [← hr]
        exact TX_fail hR hk hlt
    · exact absurd h79 hso

set_option maxRecDepth 4000 in
theorem lQ_endT {l : Launch} {g : GG} {S w W1 : Wd} {f : Nat → Int32} {t b i : Nat} {T : TT} {A0 : HA} {r : RR} (hA : hget S 1 = A0) (hR : RM S w) (hf : W1 38 = f) (ht : W1 33 7 = nI t) (h120 : t ≤ 120) (hb : ∀ i, i < t → 0 ≤ f i) (hV : VT f t T) (hk : kW3 w W1) (hso : soR T = 0) (hi : W1 33 18 = nI i) (hi2 : i ≤ 120) (hJ : ∀ k, k ≤ i → ∃ nk, IVA nk b (apN W1 k A0)) (hr : r.1 = nI i) (hr2 : r.2.2 = apN W1 i A0) : Go l g Q_text 74 [some (.ref (g.1 33)), none] [] (pw f 0 T W1) (IsQ (tfin S r) w) := by
  refine g_aload_n dQ_text_74 rfl ?_
  refine g_aload_n dQ_text_75 rfl ?_
  refine g_p10 dQ_text_76 fQ_265 ?_
  refine g_if_ne dQ_text_79 rfl (fun h79 => ?_) (fun h79 => ?_)
  · exact absurd hso h79
  · refine g_iconst (v := 1) dQ_text_82 (by decide) ?_
    refine g_goto dQ_text_83 rfl ?_
    refine gV1v dQ_text_87 kQ_text_282 rfl rfl (cQ_must hf ht h120 hb hV.en (c := True)) (Nat.le_of_ble_eq_true rfl) ?_
    rw [if_pos trivial]
    refine g_aload_n dQ_text_90 rfl ?_
    refine g_iconst (v := 0) dQ_text_91 (by decide) ?_
    refine g_pw (j := 7) dQ_text_92 fQ_250 rfl (by decide) rfl rfl ?_
    refine g_aload_n dQ_text_95 rfl ?_
    refine g_p12 dQ_text_96 fQ_275 ?_
    refine g_if_eq dQ_text_99 rfl (fun h99 => ?_) (fun h99 => ?_)
    · refine g_iconst (v := 0) dQ_text_109 (by decide) ?_
      refine g_istore_n dQ_text_110 (by decide) rfl rfl ?_
      dsimp only [List.set]
      have hV0 : ∀ k, k ≠ 33 → pw f 0 (nextF f t (enR T)) (up W1 33 7 0) k = W1 k := fun k h => by rw [pw_o h, up_other _ _ _ _ h]
      have hag : ∀ k, apN (pw f 0 (nextF f t (enR T)) (up W1 33 7 0)) k A0 = apN W1 k A0 := fun k => apN_cg k (fun q _ => by rw [hV0 40 (by decide), hV0 41 (by decide), hV0 42 (by decide), hV0 43 (by decide)]; exact ⟨rfl, rfl, rfl, rfl⟩)
      have h34 : mput A0 (pw f 0 (nextF f t (enR T)) (up W1 33 7 0)) = pw f 0 (nextF f t (enR T)) (up W1 33 7 0) := by
        unfold mput
        rw [upR_id]
        rw [hV0 34 (by decide), hk.1 34 (by decide) (by decide)]
        have e := hR.put hA
        rw [← mput_34, e]
      refine g_w h34.symm ?_
      refine g_mono (fun rr w2 hh => ?_) (lQ_apply (V := pw f 0 (nextF f t (enR T)) (up W1 33 7 0)) (A0 := A0) (b := b) (i := i) (by rw [pw_j (by decide), up_same]; exact (show upd (W1 33) 7 0 18 = W1 33 18 from rfl).trans hi) hi2 (fun k hk2 => by rw [hag]; exact hJ k hk2) (i + 1) 0 (by omega) (by omega))
      obtain ⟨rfl, rfl⟩ := hh
      rw [hag, ← hr2]
      exact TX_ok hR hk (by omega) hr
    · exact absurd rfl h99

set_option maxRecDepth 4000 in
theorem lQ_items {l : Launch} {g : GG} {S w : Wd} {f : Nat → Int32} {t b : Nat} {A0 : HA} (hA : hget S 1 = A0) (hR : RM S w) (h120 : t ≤ 120) (hb : ∀ i, i < t → 0 ≤ f i) : ∀ (m i n : Nat) (T : TT) (A : HA) (W w1 : Wd) (r0 : Option Value), m + i = 119 → TJ f t b i T A A0 W → IVA n b A → W 38 = f → W 33 7 = nI t → W 33 18 = nI i → kW3 w W → RQ f i W (itemR f t n T A) A r0 w1 → Go l g Q_text 33 [some (.ref (g.1 33)), none] [] w1 (IsQ (tfin S (ontoF f t (m + 1) (i + 1) T A)) w) := by
  intro m
  induction m with
  | zero =>
    intro i n T A W w1 r0 hm hT _ _ _ _ _ _
    have h1 := hT.1.ti.1
    have h2 := hT.2.1
    omega
  | succ m ih =>
    intro i n T A W w1 r0 hm hT hI hf ht hi hk hq
    obtain ⟨_, W', rfl, hk2, hs⟩ := hq
    obtain ⟨hok, hlt⟩ := item_ok hT.1 hI
    rw [ont_0 hI.n6 hI.n8 rfl]
    generalize itemR f t n T A = R at *
    have hf' : W' 38 = f := (hk2.1 38 (by decide) (by decide)).trans hf
    have ht' : W' 33 7 = nI t := (hk2.2 7 (by decide) (by decide)).trans ht
    have hkk := kW_tr hk hk2
    have h2i := hT.2.1
    have hRt := hok.1.ti.1
    by_cases h0 : R.1 = 0
    · rw [if_pos h0, if_pos h0]
      refine g_aload_n dQ_text_33 rfl ?_
      refine g_p12 dQ_text_34 fQ_275 ?_
      refine g_if_ne dQ_text_37 rfl (fun h37 => ?_) (fun h37 => ?_)
      · exact lQ_endF hR hf' ht' h120 hb hok.1 hkk (Or.inl rfl) rfl
      · exact absurd h37 (by decide)
    · rw [if_neg h0, if_neg h0]
      obtain ⟨n', h18, h19, h6, h8', hsm, hap⟩ := hs h0
      obtain ⟨n2, hI2⟩ := hok.2.2 h0
      have en2 : n' = n2 := by
        have e := hI2.n6
        rw [h6, nI_eq (by omega) (by have := hI2.n8; omega)] at e
        exact e
      subst en2
      have hlt2 := hlt h0
      have hj1 : apN W' (i + 1) A0 = R.2.2 := by
        show apF _ _ _ _ (apN W' i A0) = _
        rw [apN_cg i hsm, hT.2.2.1]; exact hap
      have hj2 : ∀ k, k ≤ i + 1 → ∃ nk, IVA nk b (apN W' k A0) := fun k hk3 => by
        by_cases e : k = i + 1
        · subst e; rw [hj1]; exact ⟨_, hI2⟩
        · rw [apN_cg k (fun q hq => hsm q (by omega))]; exact hT.2.2.2 k (by omega)
      refine g_aload_n dQ_text_33 rfl ?_
      refine g_p12 dQ_text_34 fQ_275 ?_
      refine g_if_ne dQ_text_37 rfl (fun h37 => ?_) (fun h37 => ?_)
      · exact absurd rfl h37
      · refine g_aload_n dQ_text_40 rfl ?_
        refine g_p10 dQ_text_41 fQ_265 ?_
        refine g_iconst (v := 3) dQ_text_44 (by decide) ?_
        refine g_icmp_ne dQ_text_45 rfl (fun h45 => ?_) (fun h45 => ?_)
        · rw [so_3] at h45
          have hN3 : ¬ R.2.1.2.2 = 3 := fun zz => h45 (Or.inl zz)
          by_cases hz : R.2.1.2.2 = 0
          · rw [if_pos hz]
            exact lQ_endT hA hR hf' ht' h120 hb hok.1 hkk (so_0.mpr hz) h18 (by omega) hj2 rfl hj1.symm
          · rw [if_neg hz, if_neg hN3]
            exact lQ_endF hR hf' ht' h120 hb hok.1 hkk (Or.inr ⟨rfl, fun zz => hz (so_0.mp zz)⟩) rfl
        · rw [so_3] at h45
          have hsg := hok.1.sg h45
          refine g_aload_n dQ_text_48 rfl ?_
          refine g_getR2 (k2 := 38) dQ_text_49 fQ_22 rfl rfl (by decide) rfl ?_
          refine g_aload_n dQ_text_52 rfl ?_
          refine g_p8 dQ_text_53 fQ_256 ?_
          refine g_pY (k := 38) (i := R.2.1.1) dQ_text_56 rfl (by decide) (by omega) ?_
          refine g_top (y := f R.2.1.1) (by rw [hf']) ?_
          refine g_bipush (v := 59) dQ_text_57 (by decide) ?_
          refine g_icmp_ne dQ_text_59 rfl (fun h59 => ?_) (fun h59 => ?_)
          · have hN3 : ¬ R.2.1.2.2 = 3 := fun zz => h59 (hsg.2.mp zz)
            by_cases hz : R.2.1.2.2 = 0
            · rw [if_pos hz]
              exact lQ_endT hA hR hf' ht' h120 hb hok.1 hkk (so_0.mpr hz) h18 (by omega) hj2 rfl hj1.symm
            · rw [if_neg hz, if_neg hN3]
              exact lQ_endF hR hf' ht' h120 hb hok.1 hkk (Or.inr ⟨rfl, fun zz => hz (so_0.mp zz)⟩) rfl
          · have h3 := hsg.2.mpr h59
            refine g_aload_n dQ_text_62 rfl ?_
            refine g_iconst (v := 1) dQ_text_63 (by decide) ?_
            refine gV1v dQ_text_64 kQ_text_282 rfl rfl (cQ_must hf' ht' h120 hb hok.1.en (c := True)) (Nat.le_of_ble_eq_true rfl) ?_
            rw [if_pos trivial, en_1 (by rw [h3]; decide)]
            refine g_aload_n dQ_text_67 rfl ?_
            refine gV0q dQ_text_68 kQ_text_327 rfl rfl (cQ_readItem (T := nextF f t R.2.1.2.1) hf' ht' h120 hb hok.1.next h19 h8' h18 hI2.n6 (fun zz => by have := tkF_lt (f := f) (by rw [← hok.1.next.tk]; exact zz); omega)) (Nat.le_of_ble_eq_true rfl) (fun r1 w1 q1 => ?_)
            have hr1 := q1.1
            subst hr1
            dsimp only [Option.toList, List.nil_append]
            refine g_goto dQ_text_71 rfl ?_
            rw [if_neg (by rw [h3]; decide), if_pos h3]
            have hnx := nx_mono hok.1 (by rw [h3]; decide)
            exact ih (i + 1) _ (nextF f t R.2.1.2.1) R.2.2 W' w1 none (by omega) ⟨hok.1.next, by omega, hj1, hj2⟩ hI2 hf' ht' h18 hkk q1

set_option maxRecDepth 4000 in
theorem lQ_text {l : Launch} {g : GG} {S w : Wd} {A0 : HA} {n b t : Nat} (hA : hget S 1 = A0) (hR : RM S w) (hI : IVA n b A0) (ht : S 21 1 = nI t) (h120 : t ≤ 120) (hb : ∀ i, i < 120 → 0 ≤ S 22 i) (h38 : w 38 = S 22) : Go l g Q_text 0 [some (.ref (g.1 33)), none] [] w (IsQ (textC S) w) := by
  have h8 := hI.n8
  have hb2 : ∀ i, i < t → 0 ≤ w 38 i := fun i hi => by rw [hR.tb i (by omega)]; exact hb i (by omega)
  have ht2 : w 33 7 = nI t := hR.tl.trans ht
  have h1 : w 34 1 = nI n := by rw [hR.row 1 (by decide), hA]; exact hI.n6
  refine g_w (q4_self w).symm ?_
  refine g_aload_n dQ_text_0 rfl ?_
  refine g_iconst (v := 0) dQ_text_1 (by decide) ?_
  refine g_top (y := nI 0) rfl ?_
  refine g_qs9 dQ_text_2 fQ_253 ?_
  refine g_aload_n dQ_text_5 rfl ?_
  refine g_iconst (v := 0) dQ_text_6 (by decide) ?_
  refine g_qw (j := 12) dQ_text_7 fQ_275 rfl (by decide) rfl rfl ?_
  refine g_aload_n dQ_text_10 rfl ?_
  refine g_iconst (v := 0) dQ_text_11 (by decide) ?_
  refine g_top (y := nI 0) rfl ?_
  refine g_qw (j := 18) dQ_text_12 fQ_286 rfl (by decide) rfl rfl ?_
  refine g_aload_n dQ_text_15 rfl ?_
  refine g_aload_n dQ_text_16 rfl ?_
  refine g_getR2 (k2 := 34) dQ_text_17 fQ_9 rfl rfl (by decide) rfl ?_
  refine g_iconst (v := 1) dQ_text_20 (by decide) ?_
  refine g_ialdN (i := 1) dQ_text_21 (N := 58) rfl (by decide) (by decide) ?_
  refine g_top (y := nI n) (by rw [q4_o (by decide), up_other _ _ _ _ (by decide), up_other _ _ _ _ (by decide)]; exact h1) ?_
  refine g_qw (j := 19) dQ_text_22 fQ_299 rfl (by decide) rfl rfl ?_
  refine g_aload_n dQ_text_25 rfl ?_
  refine gV0v dQ_text_26 kQ_text_279 rfl rfl (cQ_token (W := (up (up (up w 33 12 0) 33 18 (nI 0)) 33 19 (nI n))) (e := 0) (t := t) (by rw [up_same, up_same, up_same]; exact ht2) h120 (fun i hi => by rw [up_other _ _ _ _ (by decide), up_other _ _ _ _ (by decide), up_other _ _ _ _ (by decide)]; exact hb2 i hi) (Nat.zero_le _)) (Nat.le_of_ble_eq_true rfl) ?_
  have e38 : (up (up (up w 33 12 0) 33 18 (nI 0)) 33 19 (nI n)) 38 = w 38 := by rw [up_other _ _ _ _ (by decide), up_other _ _ _ _ (by decide), up_other _ _ _ _ (by decide)]
  rw [e38]
  refine g_w (w1 := pw (w 38) 0 (nextF (w 38) t 0) (up (up (up w 33 12 0) 33 18 (nI 0)) 33 19 (nI n))) (by unfold pw; rw [up_id2 (up (up (up w 33 12 0) 33 18 (nI 0)) 33 19 (nI n)) 33 12 (by rw [up_same, up_same, up_same]; rfl)]) ?_
  have hkw : kW3 w (up (up (up w 33 12 0) 33 18 (nI 0)) 33 19 (nI n)) := ⟨fun k h1 h2 => by rw [up_other _ _ _ _ h2, up_other _ _ _ _ h2, up_other _ _ _ _ h2], by rw [up_same, up_same, up_same]; rfl, by rw [up_same, up_same, up_same]; rfl, by rw [up_same, up_same, up_same]; rfl⟩
  have hV : VT (w 38) t (nextF (w 38) t 0) := ⟨0, Nat.zero_le _, rfl⟩
  have hW18 : (up (up (up w 33 12 0) 33 18 (nI 0)) 33 19 (nI n)) 33 18 = nI 0 := by rw [up_same, up_same, up_same]; rfl
  have hW19 : (up (up (up w 33 12 0) 33 18 (nI 0)) 33 19 (nI n)) 33 19 = nI n := by rw [up_same, up_same, up_same]; rfl
  have hW7 : (up (up (up w 33 12 0) 33 18 (nI 0)) 33 19 (nI n)) 33 7 = nI t := by rw [up_same, up_same, up_same]; exact ht2
  have etx : textC S = tfin S (ontoF (w 38) t 120 1 (nextF (w 38) t 0) A0) := by
    have e1 : (S 21 1).toNatClampNeg = t := by rw [ht, nI_clamp (by omega)]
    unfold textC tfin textR
    rw [e1, hA, h38]
  rw [etx]
  refine g_aload_n dQ_text_29 rfl ?_
  refine gV0q dQ_text_30 kQ_text_327 rfl rfl (cQ_readItem e38 hW7 h120 hb2 hV hW19 h8 hW18 hI.n6 (fun zz => by omega)) (Nat.le_of_ble_eq_true rfl) (fun r1 w1 q1 => ?_)
  have hr1 := q1.1
  subst hr1
  dsimp only [Option.toList, List.nil_append]
  exact lQ_items hA hR h120 hb2 119 0 n _ A0 _ w1 none (by omega) ⟨hV, by omega, rfl, fun k hk => by rw [show k = 0 by omega]; exact ⟨n, hI⟩⟩ hI e38 hW7 hW18 hkw q1
theorem cQ_text {l : Launch} {g : GG} {S w : Wd} {A0 : HA} {n b t : Nat} (hA : hget S 1 = A0) (hR : RM S w) (hI : IVA n b A0) (ht : S 21 1 = nI t) (h120 : t ≤ 120) (hb : ∀ i, i < 120 → 0 ≤ S 22 i) : Res l g Q_text [.ref (g.1 33)] w (IsQ (textC S) w) := by
  refine Res.of (by decide) (by simp [Value.category]) (Nat.le_of_ble_eq_true rfl) rfl ?_
  show Go l g Q_text 0 [some (.ref (g.1 33)), none] [] w _
  have hw : ∀ k, k ≠ 38 → upR w 38 (S 22) k = w k := fun k hk => upR_other _ _ _ hk
  refine g_agree (w1 := upR w 38 (S 22)) (fun k j hv => ?_) ?_
  · by_cases hk : k = 38
    · subst hk
      rw [upR_same]
      exact (hR.tb j (vis_arr rfl hv)).symm
    · rw [hw k hk]
  · refine g_mono (fun r w2 hh => ⟨hh.1, hh.2.1, fun k hk => (hh.2.2 k hk).trans (hw k (by omega))⟩) (lQ_text hA ?_ hI ht h120 hb (upR_same _ _ _))
    refine RM.mk (fun i hi => ?_) ?_ (fun hk i hi => ?_) ?_ ?_ (fun i hi => ?_) (fun q hq => ?_) ?_ (fun q hq => ?_)
    · rw [hw 34 (by decide)]; exact hR.row i hi
    · rw [hw 33 (by decide)]; exact hR.kf
    · rw [hw 35 (by decide)]; exact hR.kr hk i hi
    · rw [hw 33 (by decide)]; exact hR.te
    · rw [hw 33 (by decide)]; exact hR.tl
    · rw [upR_same]
    · rw [hw 37 (by decide)]; exact hR.fq q hq
    · rw [hw 37 (by decide)]; exact hR.f0
    · rw [hw 44 (by decide), hw 45 (by decide), hw 46 (by decide)]; exact hR.sh q hq
