theorem up_cm {W : Wd} {k j j2 : Nat} {u v : Int32} (h : j ≠ j2) : up (up W k j u) k j2 v = up (up W k j2 v) k j u := by
  funext i
  by_cases hi : i = k
  · subst hi
    rw [up_same, up_same, up_same, up_same]
    funext q
    unfold upd
    by_cases h1 : q = j2
    · rw [if_pos h1, if_neg (by omega), if_pos h1]
    · rw [if_neg h1]
      by_cases h2 : q = j
      · rw [if_pos h2, if_pos h2]
      · rw [if_neg h2, if_neg h2, if_neg h1]
  · rw [up_other _ _ _ _ hi, up_other _ _ _ _ hi, up_other _ _ _ _ hi, up_other _ _ _ _ hi]
theorem up_ck {W : Wd} {k k2 j j2 : Nat} {u v : Int32} (h : k ≠ k2) : up (up W k j u) k2 j2 v = up (up W k2 j2 v) k j u := by
  funext i
  by_cases hi : i = k
  · subst hi
    rw [up_other _ _ _ _ h, up_same, up_same, up_other _ _ _ _ h]
  · by_cases h2 : i = k2
    · subst h2
      rw [up_same, up_other _ _ _ _ hi, up_other _ _ _ _ hi, up_same]
    · rw [up_other _ _ _ _ h2, up_other _ _ _ _ hi, up_other _ _ _ _ hi, up_other _ _ _ _ h2]
def pw (f : Nat → Int32) (wr : Int32) (T : TT) (W : Wd) : Wd := tq f T (up W 33 12 wr)
section PR
variable {f : Nat → Int32} {wr : Int32} {T : TT} {W : Wd} {l : Launch} {g : GG} {M : MM} {pc n : Nat} {lv : List (Option Value)} {st : List Value} {Q : Option Value → Wd → Prop} {idx : Nat} {ty : FieldType} {fin : Bool}
theorem g_p8 (hd : Dc M pc (.getfield idx) 3 n) (hf : Fk M.1.cls idx 4 8 ty fin) (kk : Go l g M n lv (.int (nI T.1) :: st) (pw f wr T W) Q) : Go l g M pc lv (.ref (g.1 33) :: st) (pw f wr T W) Q := g_q8 hd hf kk
theorem g_p9 (hd : Dc M pc (.getfield idx) 3 n) (hf : Fk M.1.cls idx 4 9 ty fin) (kk : Go l g M n lv (.int (nI (enR T)) :: st) (pw f wr T W) Q) : Go l g M pc lv (.ref (g.1 33) :: st) (pw f wr T W) Q := g_q9 hd hf kk
theorem g_p10 (hd : Dc M pc (.getfield idx) 3 n) (hf : Fk M.1.cls idx 4 10 ty fin) (kk : Go l g M n lv (.int (soR T) :: st) (pw f wr T W) Q) : Go l g M pc lv (.ref (g.1 33) :: st) (pw f wr T W) Q := g_q10 hd hf kk
theorem g_p11 (hd : Dc M pc (.getfield idx) 3 n) (hf : Fk M.1.cls idx 4 11 ty fin) (kk : Go l g M n lv (.int (vaR f T) :: st) (pw f wr T W) Q) : Go l g M pc lv (.ref (g.1 33) :: st) (pw f wr T W) Q := g_q11 hd hf kk
theorem g_p12 (hd : Dc M pc (.getfield idx) 3 n) (hf : Fk M.1.cls idx 4 12 ty fin) (kk : Go l g M n lv (.int wr :: st) (pw f wr T W) Q) : Go l g M pc lv (.ref (g.1 33) :: st) (pw f wr T W) Q := g_qr (j := 12) hd hf rfl rfl (by rw [up_same]; exact kk)
theorem p_j {j : Nat} (h : (decide (8 ≤ j) && decide (j ≤ 12)) = false) : (decide (8 ≤ j) && decide (j ≤ 11)) = false ∧ j ≠ 12 := by
  have h2 : ¬ (8 ≤ j ∧ j ≤ 12) := by simpa using h
  have h3 : ¬ (8 ≤ j ∧ j ≤ 11) := by omega
  exact ⟨by simpa using h3, by omega⟩
theorem g_pr {j : Nat} (hd : Dc M pc (.getfield idx) 3 n) (hf : Fk M.1.cls idx 4 j ty fin) (hj : (fdef 4)[j]? = some 0) (hn : (decide (8 ≤ j) && decide (j ≤ 12)) = false) (kk : Go l g M n lv (.int (W 33 j) :: st) (pw f wr T W) Q) : Go l g M pc lv (.ref (g.1 33) :: st) (pw f wr T W) Q := g_qr hd hf hj (p_j hn).1 (by rw [up_same, show upd (W 33) 12 wr j = W 33 j from if_neg (p_j hn).2]; exact kk)
theorem g_ps12 {x : Int32} (hd : Dc M pc (.putfield idx) 3 n) (hf : Fk M.1.cls idx 4 12 .boolean false) (hna : narrow .boolean (.int x) = .int x) (hfi : fits .boolean (.int x) = true) (kk : Go l g M n lv st (pw f x T W) Q) : Go l g M pc lv (.int x :: .ref (g.1 33) :: st) (pw f wr T W) Q := g_qw (j := 12) hd hf rfl rfl hna hfi (by rw [up_up]; exact kk)
theorem g_pw {j : Nat} {x : Int32} (hd : Dc M pc (.putfield idx) 3 n) (hf : Fk M.1.cls idx 4 j ty false) (hj : (fdef 4)[j]? = some 0) (hn : (decide (8 ≤ j) && decide (j ≤ 12)) = false) (hna : narrow ty (.int x) = .int x) (hfi : fits ty (.int x) = true) (kk : Go l g M n lv st (pw f wr T (up W 33 j x)) Q) : Go l g M pc lv (.int x :: .ref (g.1 33) :: st) (pw f wr T W) Q := g_qw hd hf hj (p_j hn).1 hna hfi (by rw [up_cm (Ne.symm (p_j hn).2)]; exact kk)
theorem g_pY {k i : Nat} (hd : Dc M pc .iaload 1 n) (ha : arrN k = some 120) (hk : k ≠ 33) (hi : i < 120) (kk : Go l g M n lv (.int (W k i) :: st) (pw f wr T W) Q) : Go l g M pc lv (.int (nI i) :: .ref (g.1 k) :: st) (pw f wr T W) Q := g_qY hd ha hk hi (by rw [up_other _ _ _ _ hk]; exact kk)
theorem g_pi {k i : Nat} {x : Int32} (hd : Dc M pc .iastore 1 n) (ha : arrN k = some 120) (hk : k ≠ 33) (hi : i < 120) (kk : Go l g M n lv st (pw f wr T (up W k i x)) Q) : Go l g M pc lv (.int x :: .int (nI i) :: .ref (g.1 k) :: st) (pw f wr T W) Q := g_qi hd ha hk hi (by rw [up_ck (Ne.symm hk)]; exact kk)
end PR
theorem so_1 {T : TT} : soR T = 1 ↔ T.2.2 = 1 := by unfold soR; grind
theorem so_2 {T : TT} : soR T = 2 ↔ T.2.2 = 2 := by unfold soR; grind
theorem so_0 {T : TT} : soR T = 0 ↔ T.2.2 = 0 := by unfold soR; grind
theorem en_1 {T : TT} (h : T.2.2 ≠ 0) : enR T = T.2.1 := if_neg h
def VT (f : Nat → Int32) (t : Nat) (T : TT) : Prop := ∃ e, e ≤ t ∧ T = nextF f t e
theorem VT.ti {f : Nat → Int32} {t : Nat} {T : TT} (h : VT f t T) : TI t T := by obtain ⟨e, he, rfl⟩ := h; exact nextF_TI he
theorem VT.next {f : Nat → Int32} {t : Nat} {T : TT} (h : VT f t T) : VT f t (nextF f t T.2.1) := ⟨T.2.1, h.ti.2.1, rfl⟩
theorem VT.en {f : Nat → Int32} {t : Nat} {T : TT} (h : VT f t T) : enR T ≤ t := by
  unfold enR
  split
  · exact h.ti.1
  · exact h.ti.2.1
theorem rn_all {f : Nat → Int32} {t : Nat} {k : Int32} : ∀ m i j, i ≤ j → j < rnF f t k m i → tkF f t j = k
  | 0, i, j, h1, h2 => by unfold rnF at h2; omega
  | m + 1, i, j, h1, h2 => by
    unfold rnF at h2
    split at h2
    · by_cases e : j = i
      · subst e; assumption
      · exact rn_all m (i + 1) j (by omega) h2
    · omega
theorem VT.num {f : Nat → Int32} {t : Nat} {T : TT} (h : VT f t T) (h2 : T.2.2 = 2) : ∀ j, T.1 ≤ j → j < T.2.1 → 48 ≤ f j ∧ f j ≤ 57 := by
  obtain ⟨e, he, rfl⟩ := h
  intro j h1 h3
  have hk : tkF f t (skN f t e) = 2 := h2
  have h4 : j < beF f t e (skN f t e) (tkF f t (skN f t e)) := h3
  have h5 : tkF f t j = 2 := by
    unfold beF at h4
    rw [hk, if_neg (by decide), if_pos (Or.inr rfl)] at h4
    by_cases e2 : j = skN f t e
    · rw [e2]; exact hk
    · exact rn_all _ _ j (show skN f t e + 1 ≤ j by have : skN f t e ≤ j := h1; omega) h4
  have h6 := by_n.mpr h5
  rw [byA_lt (tkF_lt (by rw [h5]; decide))] at h6
  exact h6
theorem nu_num {v b : Int32} (hv : 0 ≤ v ∧ v ≤ 10000) (hb : 48 ≤ b ∧ b ≤ 57) : 0 ≤ mnI (v * 10 + b - 48) 10000 ∧ mnI (v * 10 + b - 48) 10000 ≤ 10000 := by unfold mnI; grind
theorem nu_in {f : Nat → Int32} {p : Nat} : ∀ m, (∀ j, p ≤ j → j < p + m → 48 ≤ f j ∧ f j ≤ 57) → 0 ≤ nuF f p m ∧ nuF f p m ≤ 10000
  | 0, _ => ⟨by show (0 : Int32) ≤ 0; decide, by show (0 : Int32) ≤ 10000; decide⟩
  | m + 1, h => nu_num (nu_in m (fun j h1 h2 => h j h1 (by omega))) (h (p + m) (by omega) (by omega))
theorem VT.nu {f : Nat → Int32} {t : Nat} {T : TT} (h : VT f t T) (h2 : T.2.2 = 2) : 0 ≤ nuF f T.1 (T.2.1 - T.1) ∧ nuF f T.1 (T.2.1 - T.1) ≤ 10000 := by
  have h3 := h.ti.2.2 (by rw [h2]; decide)
  exact nu_in _ (fun j h1 h4 => h.num h2 j h1 (by omega))
theorem VT.va {f : Nat → Int32} {t : Nat} {T : TT} (h : VT f t T) : 0 ≤ vaR f T := by
  unfold vaR
  split
  · rename_i h2; exact (h.nu h2).1
  · exact Int32.le_refl _
theorem ne_m1 {x : Int32} (h : 0 ≤ x) : ¬ x = -1 := fun e => absurd (e ▸ h) (by decide)
theorem nw_eq {f : Nat → Int32} {t : Nat} {T : TT} {W : Wd} {mx : Int32} (h : VT f t T) : (if T.2.2 = 2 ∧ vaR f T ≤ mx then pw f 0 (nextF f t (enR T)) W else pw f 1 T W) = pw f (if (tnF f t T mx).1 = -1 then 1 else 0) (tnF f t T mx).2 W := by
  by_cases h2 : T.2.2 = 2
  · have e1 : vaR f T = nuF f T.1 (T.2.1 - T.1) := if_pos h2
    rw [e1, en_1 (by rw [h2]; decide)]
    by_cases h3 : nuF f T.1 (T.2.1 - T.1) ≤ mx
    · have e9 : tnF f t T mx = (nuF f T.1 (T.2.1 - T.1), nextF f t T.2.1) := if_pos ⟨h2, h3⟩
      rw [e9, if_pos ⟨h2, h3⟩, if_neg (ne_m1 (h.nu h2).1)]
    · have e9 : tnF f t T mx = (-1, T) := if_neg (fun z => h3 z.2)
      rw [e9, if_neg (fun z => h3 z.2), if_pos rfl]
  · have e9 : tnF f t T mx = (-1, T) := if_neg (fun z => h2 z.1)
    rw [e9, if_neg (fun z => h2 z.1), if_pos rfl]
def mtF (f : Nat → Int32) (t : Nat) (wr : Int32) (T : TT) (x : Nat) (mx wo : Int32) : Int32 × Int32 × TT := if wr = 1 then (wo, 1, T) else if wdP f T x then (vaR f (nextF f t T.2.1), if (tnF f t (nextF f t T.2.1) mx).1 = -1 then 1 else 0, (tnF f t (nextF f t T.2.1) mx).2) else (wo, 0, T)
theorem mt_y {f : Nat → Int32} {t : Nat} {T : TT} {x : Nat} {mx wo : Int32} (h : wdP f T x) : mtF f t 0 T x mx wo = (vaR f (nextF f t T.2.1), if (tnF f t (nextF f t T.2.1) mx).1 = -1 then 1 else 0, (tnF f t (nextF f t T.2.1) mx).2) := (if_neg (show ¬ (0 : Int32) = 1 by decide)).trans (if_pos h)
theorem mt_n {f : Nat → Int32} {t : Nat} {T : TT} {x : Nat} {mx wo : Int32} (h : ¬ wdP f T x) : mtF f t 0 T x mx wo = (wo, 0, T) := (if_neg (show ¬ (0 : Int32) = 1 by decide)).trans (if_neg h)
def adI (i : Nat) (a b c d : Int32) (W : Wd) : Wd := up (up (up (up (up W 40 i a) 41 i b) 42 i c) 43 i d) 33 18 (nI (i + 1))
theorem cQ_tokP {l : Launch} {g : GG} {f : Nat → Int32} {W : Wd} {T : TT} {t : Nat} (hf : W 38 = f) (ht : W 33 7 = nI t) (h120 : t ≤ 120) (hb : ∀ i, i < t → 0 ≤ f i) {wr : Int32} (he : enR T ≤ t) : Res l g Q_token [.ref (g.1 33)] (pw f wr T W) (Is none (pw f wr (nextF f t (enR T)) W)) := by
  subst hf
  have h := cQ_token (l := l) (g := g) (W := up W 33 12 wr) (a := nI T.1) (c := soR T) (d := vaR (W 38) T) (t := t) (by rw [up_same]; exact ht) h120 (fun i hi => by rw [up_other _ _ _ _ (by decide)]; exact hb i hi) (e := enR T) he
  rw [up_other _ _ _ _ (by decide)] at h
  exact h

set_option maxRecDepth 4000 in
theorem lQ_isWord0 {l : Launch} {g : GG} {f : Nat → Int32} {W : Wd} {T : TT} {t : Nat} (hf : W 38 = f) (ht : W 33 7 = nI t) (h120 : t ≤ 120) (hb : ∀ i, i < t → 0 ≤ f i) {wr : Int32} {x : Nat} (hx : x < 14) {i : Nat} : Go l g Q_isWord 32 [some (.ref (g.1 33)), some (.ref (g.2.2.2.1 x)), some (.int 0), some (.int (nI i))] [] (pw f wr T W) (Is (some (.int 0)) (pw f wr T W)) := by
  refine g_iload_n dQ_isWord_32 rfl ?_
  refine g_aload_n dQ_isWord_33 rfl ?_
  refine gT0 dQ_isWord_34 kQ_isWord_268 hx rfl (cJS_length hx) (Nat.le_of_ble_eq_true rfl) ?_
  refine g_icmp_ge dQ_isWord_37 rfl (fun h37 => ?_) (fun h37 => ?_)
  · refine g_iload_n dQ_isWord_75 rfl ?_
    refine g_iret dQ_isWord_76 rfl (by first | rfl | exact bI_n) ?_
    exact ⟨rfl, rfl⟩
  · refine g_iload_n dQ_isWord_40 rfl ?_
    refine g_if_eq dQ_isWord_41 rfl (fun h41 => ?_) (fun h41 => ?_)
    · refine g_iload_n dQ_isWord_75 rfl ?_
      refine g_iret dQ_isWord_76 rfl (by first | rfl | exact bI_n) ?_
      exact ⟨rfl, rfl⟩
    · exact absurd h41 (by decide)

set_option maxRecDepth 4000 in
theorem lQ_isWord {l : Launch} {g : GG} {f : Nat → Int32} {W : Wd} {T : TT} {t : Nat} (hf : W 38 = f) (ht : W 33 7 = nI t) (h120 : t ≤ 120) (hb : ∀ i, i < t → 0 ≤ f i) {wr : Int32} {x : Nat} (hx : x < 14) (hk : T.2.2 = 1) (hl : T.2.1 - T.1 = stL x) (hT : TI t T) : ∀ (m : Nat) (i : Nat), (stL x - i < m) → (i ≤ stL x) → (∀ j, j < i → f (T.1 + j) = sC_ x j) → Go l g Q_isWord 32 [some (.ref (g.1 33)), some (.ref (g.2.2.2.1 x)), some (.int 1), some (.int (nI i))] [] (pw f wr T W) (Is (some (.int (bI (wdP f T x)))) (pw f wr T W)) := by
  intro m
  induction m with
  | zero => intro i hm hi hp; omega
  | succ m ih =>
    intro i hm hi hp
    have h8 := stL_lt x hx
    have hT1 := hT.1
    have hT2 := hT.2.1
    refine g_iload_n dQ_isWord_32 rfl ?_
    refine g_aload_n dQ_isWord_33 rfl ?_
    refine gT0 dQ_isWord_34 kQ_isWord_268 hx rfl (cJS_length hx) (Nat.le_of_ble_eq_true rfl) ?_
    refine g_icmp_ge dQ_isWord_37 rfl (fun h37 => ?_) (fun h37 => ?_)
    · rw [nI_leI (by omega) (by omega)] at h37
      refine g_iload_n dQ_isWord_75 rfl ?_
      refine g_iret dQ_isWord_76 rfl (by first | rfl | exact bI_n) ?_
      exact ⟨by rw [bI_t ⟨hk, hl, fun j hj => hp j (by omega)⟩], rfl⟩
    · rw [nI_leI (by omega) (by omega)] at h37
      refine g_iload_n dQ_isWord_40 rfl ?_
      refine g_if_eq dQ_isWord_41 rfl (fun h41 => ?_) (fun h41 => ?_)
      · exact absurd h41 (by decide)
      · refine g_aload_n dQ_isWord_44 rfl ?_
        refine g_getR2 (k2 := 38) dQ_isWord_45 fQ_22 rfl rfl (by decide) rfl ?_
        refine g_aload_n dQ_isWord_48 rfl ?_
        refine g_p8 dQ_isWord_49 fQ_256 ?_
        refine g_iload_n dQ_isWord_52 rfl ?_
        refine g_iadd dQ_isWord_53 ?_
        refine g_top (y := nI (T.1 + i)) (nI_add _ _) ?_
        refine g_pY (k := 38) (i := (T.1 + i)) dQ_isWord_54 rfl (by decide) (by omega) ?_
        refine g_top (y := f (T.1 + i)) (by rw [hf]) ?_
        refine g_aload_n dQ_isWord_55 rfl ?_
        refine g_iload_n dQ_isWord_56 rfl ?_
        refine gT1 dQ_isWord_57 kQ_isWord_271 hx rfl (cJS_charAt hx (by omega)) (Nat.le_of_ble_eq_true rfl) ?_
        refine g_icmp_ne dQ_isWord_60 rfl (fun h60 => ?_) (fun h60 => ?_)
        · refine g_iconst (v := 0) dQ_isWord_67 (by decide) ?_
          refine g_istore_n dQ_isWord_68 (by decide) rfl rfl ?_
          dsimp only [List.set]
          refine g_iinc (v := nI (i + 1)) dQ_isWord_69 rfl (nI_succ i).symm (by decide) rfl rfl ?_
          dsimp only [List.set]
          refine g_goto dQ_isWord_72 rfl ?_
          first
            | exact ih (i + 1) (by omega) (by omega) (lt_s hp (Classical.not_not.mp h60))
            | exact ih (i + 1) (by omega) (by omega) (lt_s hp h60)
            | exact g_mono (fun r w2 hh => by rw [bI_f (fun z => h60 (z.2.2 i (by omega)))]; exact hh) (lQ_isWord0 hf ht h120 hb hx)
        · refine g_iconst (v := 1) dQ_isWord_63 (by decide) ?_
          refine g_goto dQ_isWord_64 rfl ?_
          refine g_istore_n dQ_isWord_68 (by decide) rfl rfl ?_
          dsimp only [List.set]
          refine g_iinc (v := nI (i + 1)) dQ_isWord_69 rfl (nI_succ i).symm (by decide) rfl rfl ?_
          dsimp only [List.set]
          refine g_goto dQ_isWord_72 rfl ?_
          first
            | exact ih (i + 1) (by omega) (by omega) (lt_s hp (Classical.not_not.mp h60))
            | exact ih (i + 1) (by omega) (by omega) (lt_s hp h60)
            | exact g_mono (fun r w2 hh => by rw [bI_f (fun z => h60 (z.2.2 i (by omega)))]; exact hh) (lQ_isWord0 hf ht h120 hb hx)

set_option maxRecDepth 4000 in
theorem cQ_isWord {l : Launch} {g : GG} {f : Nat → Int32} {W : Wd} {T : TT} {t : Nat} (hf : W 38 = f) (ht : W 33 7 = nI t) (h120 : t ≤ 120) (hb : ∀ i, i < t → 0 ≤ f i) {wr : Int32} {x : Nat} (hx : x < 14) (hT : TI t T) : Res l g Q_isWord [.ref (g.1 33), .ref (g.2.2.2.1 x)] (pw f wr T W) (Is (some (.int (bI (wdP f T x)))) (pw f wr T W)) := by
  refine Res.of (by decide) (by simp [Value.category]) (Nat.le_of_ble_eq_true rfl) rfl ?_
  show Go l g Q_isWord 0 [some (.ref (g.1 33)), some (.ref (g.2.2.2.1 x)), none, none] [] (pw f wr T W) _
  refine g_aload_n dQ_isWord_0 rfl ?_
  refine g_p10 dQ_isWord_1 fQ_265 ?_
  refine g_iconst (v := 1) dQ_isWord_4 (by decide) ?_
  refine g_icmp_ne dQ_isWord_5 rfl (fun h5 => ?_) (fun h5 => ?_)
  · rw [so_1] at h5
    refine g_iconst (v := 0) dQ_isWord_28 (by decide) ?_
    refine g_istore_n dQ_isWord_29 (by decide) rfl rfl ?_
    dsimp only [List.set]
    refine g_iconst (v := 0) dQ_isWord_30 (by decide) ?_
    refine g_istore_n dQ_isWord_31 (by decide) rfl rfl ?_
    dsimp only [List.set]
    first
      | exact lQ_isWord hf ht h120 hb hx h5 h21 hT (stL x + 1) 0 (by omega) (by omega) (fun j hj => absurd hj (Nat.not_lt_zero j))
      | exact g_mono (fun r w2 hh => by rw [bI_f (fun z => h5 z.1)]; exact hh) (lQ_isWord0 (i := 0) hf ht h120 hb hx)
      | exact g_mono (fun r w2 hh => by rw [bI_f (fun z => h21 z.2.1)]; exact hh) (lQ_isWord0 (i := 0) hf ht h120 hb hx)
  · rw [so_1] at h5
    have hlt := hT.2.2 (by rw [h5]; decide)
    have h8 := stL_lt x hx
    have hT2 := hT.2.1
    refine g_aload_n dQ_isWord_8 rfl ?_
    refine g_p9 dQ_isWord_9 fQ_253 ?_
    refine g_aload_n dQ_isWord_12 rfl ?_
    refine g_p8 dQ_isWord_13 fQ_256 ?_
    refine g_isub dQ_isWord_16 ?_
    rw [en_1 (by rw [h5]; decide), pk_sub (by omega)]
    refine g_aload_n dQ_isWord_17 rfl ?_
    refine gT0 dQ_isWord_18 kQ_isWord_268 hx rfl (cJS_length hx) (Nat.le_of_ble_eq_true rfl) ?_
    refine g_icmp_ne dQ_isWord_21 rfl (fun h21 => ?_) (fun h21 => ?_)
    · rw [nI_eq (by omega) (by omega)] at h21
      refine g_iconst (v := 0) dQ_isWord_28 (by decide) ?_
      refine g_istore_n dQ_isWord_29 (by decide) rfl rfl ?_
      dsimp only [List.set]
      refine g_iconst (v := 0) dQ_isWord_30 (by decide) ?_
      refine g_istore_n dQ_isWord_31 (by decide) rfl rfl ?_
      dsimp only [List.set]
      first
        | exact lQ_isWord hf ht h120 hb hx h5 h21 hT (stL x + 1) 0 (by omega) (by omega) (fun j hj => absurd hj (Nat.not_lt_zero j))
        | exact g_mono (fun r w2 hh => by rw [bI_f (fun z => h5 z.1)]; exact hh) (lQ_isWord0 (i := 0) hf ht h120 hb hx)
        | exact g_mono (fun r w2 hh => by rw [bI_f (fun z => h21 z.2.1)]; exact hh) (lQ_isWord0 (i := 0) hf ht h120 hb hx)
    · rw [nI_eq (by omega) (by omega)] at h21
      refine g_iconst (v := 1) dQ_isWord_24 (by decide) ?_
      refine g_goto dQ_isWord_25 rfl ?_
      refine g_istore_n dQ_isWord_29 (by decide) rfl rfl ?_
      dsimp only [List.set]
      refine g_iconst (v := 0) dQ_isWord_30 (by decide) ?_
      refine g_istore_n dQ_isWord_31 (by decide) rfl rfl ?_
      dsimp only [List.set]
      first
        | exact lQ_isWord hf ht h120 hb hx h5 h21 hT (stL x + 1) 0 (by omega) (by omega) (fun j hj => absurd hj (Nat.not_lt_zero j))
        | exact g_mono (fun r w2 hh => by rw [bI_f (fun z => h5 z.1)]; exact hh) (lQ_isWord0 (i := 0) hf ht h120 hb hx)
        | exact g_mono (fun r w2 hh => by rw [bI_f (fun z => h21 z.2.1)]; exact hh) (lQ_isWord0 (i := 0) hf ht h120 hb hx)

set_option maxRecDepth 4000 in
theorem cQ_must {l : Launch} {g : GG} {f : Nat → Int32} {W : Wd} {T : TT} {t : Nat} (hf : W 38 = f) (ht : W 33 7 = nI t) (h120 : t ≤ 120) (hb : ∀ i, i < t → 0 ≤ f i) (he : enR T ≤ t) {c : Prop} [Decidable c] : Res l g Q_must [.ref (g.1 33), .int (bI c)] (pw f 0 T W) (Is none (if c then (pw f 0 (nextF f t (enR T)) W) else (pw f 1 T W))) := by
  refine Res.of (by decide) (by simp [Value.category]) (Nat.le_of_ble_eq_true rfl) rfl ?_
  show Go l g Q_must 0 [some (.ref (g.1 33)), some (.int (bI c))] [] (pw f 0 T W) _
  refine g_aload_n dQ_must_0 rfl ?_
  refine g_aload_n dQ_must_1 rfl ?_
  refine g_p12 dQ_must_2 fQ_275 ?_
  refine g_if_ne dQ_must_5 rfl (fun h5 => ?_) (fun h5 => ?_)
  · exact absurd rfl h5
  · refine g_iload_n dQ_must_8 rfl ?_
    refine g_if_ne dQ_must_9 rfl (fun h9 => ?_) (fun h9 => ?_)
    · rw [bI_0] at h9
      refine g_iconst (v := 0) dQ_must_16 (by decide) ?_
      refine g_ps12 dQ_must_17 fQ_275 rfl rfl ?_
      refine g_aload_n dQ_must_20 rfl ?_
      refine g_p12 dQ_must_21 fQ_275 ?_
      refine g_if_ne dQ_must_24 rfl (fun h24 => ?_) (fun h24 => ?_)
      · refine g_vret dQ_must_31 rfl ?_
        first
          | exact absurd rfl h24
          | exact absurd h24 (by decide)
          | exact ⟨rfl, by rw [if_neg h9]⟩
          | exact ⟨rfl, by rw [if_pos (Classical.not_not.mp h9)]⟩
      · refine g_aload_n dQ_must_27 rfl ?_
        refine gV0v dQ_must_28 kQ_must_279 rfl rfl (cQ_tokP hf ht h120 hb he) (Nat.le_of_ble_eq_true rfl) ?_
        refine g_vret dQ_must_31 rfl ?_
        first
          | exact absurd rfl h24
          | exact absurd h24 (by decide)
          | exact ⟨rfl, by rw [if_neg h9]⟩
          | exact ⟨rfl, by rw [if_pos (Classical.not_not.mp h9)]⟩
    · rw [bI_0] at h9
      refine g_iconst (v := 1) dQ_must_12 (by decide) ?_
      refine g_goto dQ_must_13 rfl ?_
      refine g_ps12 dQ_must_17 fQ_275 rfl rfl ?_
      refine g_aload_n dQ_must_20 rfl ?_
      refine g_p12 dQ_must_21 fQ_275 ?_
      refine g_if_ne dQ_must_24 rfl (fun h24 => ?_) (fun h24 => ?_)
      · refine g_vret dQ_must_31 rfl ?_
        first
          | exact absurd rfl h24
          | exact absurd h24 (by decide)
          | exact ⟨rfl, by rw [if_neg h9]⟩
          | exact ⟨rfl, by rw [if_pos (Classical.not_not.mp h9)]⟩
      · refine g_aload_n dQ_must_27 rfl ?_
        refine gV0v dQ_must_28 kQ_must_279 rfl rfl (cQ_tokP hf ht h120 hb he) (Nat.le_of_ble_eq_true rfl) ?_
        refine g_vret dQ_must_31 rfl ?_
        first
          | exact absurd rfl h24
          | exact absurd h24 (by decide)
          | exact ⟨rfl, by rw [if_neg h9]⟩
          | exact ⟨rfl, by rw [if_pos (Classical.not_not.mp h9)]⟩

set_option maxRecDepth 4000 in
theorem cQ_mustW {l : Launch} {g : GG} {f : Nat → Int32} {W : Wd} {T : TT} {t : Nat} (hf : W 38 = f) (ht : W 33 7 = nI t) (h120 : t ≤ 120) (hb : ∀ i, i < t → 0 ≤ f i) (he : enR T ≤ t) {x : Int32} : Res l g Q_must [.ref (g.1 33), .int x] (pw f 1 T W) (Is none (pw f 1 T W)) := by
  refine Res.of (by decide) (by simp [Value.category]) (Nat.le_of_ble_eq_true rfl) rfl ?_
  show Go l g Q_must 0 [some (.ref (g.1 33)), some (.int x)] [] (pw f 1 T W) _
  refine g_aload_n dQ_must_0 rfl ?_
  refine g_aload_n dQ_must_1 rfl ?_
  refine g_p12 dQ_must_2 fQ_275 ?_
  refine g_if_ne dQ_must_5 rfl (fun h5 => ?_) (fun h5 => ?_)
  · refine g_iconst (v := 1) dQ_must_12 (by decide) ?_
    refine g_goto dQ_must_13 rfl ?_
    refine g_ps12 dQ_must_17 fQ_275 rfl rfl ?_
    refine g_aload_n dQ_must_20 rfl ?_
    refine g_p12 dQ_must_21 fQ_275 ?_
    refine g_if_ne dQ_must_24 rfl (fun h24 => ?_) (fun h24 => ?_)
    · refine g_vret dQ_must_31 rfl ?_
      first
        | exact absurd h24 (by decide)
        | exact ⟨rfl, rfl⟩
    · refine g_aload_n dQ_must_27 rfl ?_
      refine gV0v dQ_must_28 kQ_must_279 rfl rfl (cQ_tokP hf ht h120 hb he) (Nat.le_of_ble_eq_true rfl) ?_
      refine g_vret dQ_must_31 rfl ?_
      first
        | exact absurd h24 (by decide)
        | exact ⟨rfl, rfl⟩
  · exact absurd h5 (by decide)

set_option maxRecDepth 4000 in
theorem cQ_number {l : Launch} {g : GG} {f : Nat → Int32} {W : Wd} {T : TT} {t : Nat} (hf : W 38 = f) (ht : W 33 7 = nI t) (h120 : t ≤ 120) (hb : ∀ i, i < t → 0 ≤ f i) (hV : VT f t T) {mx : Int32} : Res l g Q_number [.ref (g.1 33), .int 0, .int mx] (pw f 0 T W) (Is (some (.int (vaR f T))) (pw f (if (tnF f t T mx).1 = -1 then 1 else 0) (tnF f t T mx).2 W)) := by
  refine Res.of (by decide) (by simp [Value.category]) (Nat.le_of_ble_eq_true rfl) rfl ?_
  show Go l g Q_number 0 [some (.ref (g.1 33)), some (.int 0), some (.int mx), none] [] (pw f 0 T W) _
  refine g_aload_n dQ_number_0 rfl ?_
  refine g_p11 dQ_number_1 fQ_262 ?_
  refine g_istore_n dQ_number_4 (by decide) rfl rfl ?_
  dsimp only [List.set]
  refine g_aload_n dQ_number_5 rfl ?_
  refine g_aload_n dQ_number_6 rfl ?_
  refine g_p10 dQ_number_7 fQ_265 ?_
  refine g_iconst (v := 2) dQ_number_10 (by decide) ?_
  refine g_icmp_ne dQ_number_11 rfl (fun h11 => ?_) (fun h11 => ?_)
  · rw [so_2] at h11
    have e9 : (if T.2.2 = 2 ∧ vaR f T ≤ mx then pw f 0 (nextF f t (enR T)) W else pw f 1 T W) = pw f 1 T W := if_neg (fun zz => h11 zz.1)
    refine g_iconst (v := 0) dQ_number_27 (by decide) ?_
    refine gV1v dQ_number_28 kQ_number_282 rfl rfl (cQ_must hf ht h120 hb hV.en (c := False)) (Nat.le_of_ble_eq_true rfl) ?_
    first | rw [if_pos trivial] | rw [if_neg (fun zz => zz)]
    refine g_iload_n dQ_number_31 rfl ?_
    refine g_iret dQ_number_32 rfl rfl ?_
    exact ⟨rfl, by rw [← nw_eq hV, e9]⟩
  · rw [so_2] at h11
    refine g_iload_n dQ_number_14 rfl ?_
    refine g_iload_n dQ_number_15 rfl ?_
    refine g_iload_n dQ_number_16 rfl ?_
    refine gS3 dQ_number_17 kQ_number_79 cQ_within (Nat.le_of_ble_eq_true rfl) ?_
    refine g_if_eq dQ_number_20 rfl (fun h20 => ?_) (fun h20 => ?_)
    · have h20 := bI_0.mp h20
      have e9 : (if T.2.2 = 2 ∧ vaR f T ≤ mx then pw f 0 (nextF f t (enR T)) W else pw f 1 T W) = pw f 1 T W := if_neg (fun zz => h20 ⟨hV.va, zz.2⟩)
      refine g_iconst (v := 0) dQ_number_27 (by decide) ?_
      refine gV1v dQ_number_28 kQ_number_282 rfl rfl (cQ_must hf ht h120 hb hV.en (c := False)) (Nat.le_of_ble_eq_true rfl) ?_
      first | rw [if_pos trivial] | rw [if_neg (fun zz => zz)]
      refine g_iload_n dQ_number_31 rfl ?_
      refine g_iret dQ_number_32 rfl rfl ?_
      exact ⟨rfl, by rw [← nw_eq hV, e9]⟩
    · have h20 := Classical.not_not.mp (fun z => h20 (bI_0.mpr z))
      have e9 : (if T.2.2 = 2 ∧ vaR f T ≤ mx then pw f 0 (nextF f t (enR T)) W else pw f 1 T W) = pw f 0 (nextF f t (enR T)) W := if_pos ⟨h11, h20.2⟩
      refine g_iconst (v := 1) dQ_number_23 (by decide) ?_
      refine g_goto dQ_number_24 rfl ?_
      refine gV1v dQ_number_28 kQ_number_282 rfl rfl (cQ_must hf ht h120 hb hV.en (c := True)) (Nat.le_of_ble_eq_true rfl) ?_
      first | rw [if_pos trivial] | rw [if_neg (fun zz => zz)]
      refine g_iload_n dQ_number_31 rfl ?_
      refine g_iret dQ_number_32 rfl rfl ?_
      exact ⟨rfl, by rw [← nw_eq hV, e9]⟩

set_option maxRecDepth 4000 in
theorem cQ_takesWord {l : Launch} {g : GG} {f : Nat → Int32} {W : Wd} {T : TT} {t : Nat} (hf : W 38 = f) (ht : W 33 7 = nI t) (h120 : t ≤ 120) (hb : ∀ i, i < t → 0 ≤ f i) {x : Nat} (hx : x < 14) (hV : VT f t T) : Res l g Q_takesWord [.ref (g.1 33), .ref (g.2.2.2.1 x)] (pw f 0 T W) (Is (some (.int (bI (wdP f T x)))) (pw f 0 (swF f t T x) W)) := by
  refine Res.of (by decide) (by simp [Value.category]) (Nat.le_of_ble_eq_true rfl) rfl ?_
  show Go l g Q_takesWord 0 [some (.ref (g.1 33)), some (.ref (g.2.2.2.1 x)), none] [] (pw f 0 T W) _
  refine g_aload_n dQ_takesWord_0 rfl ?_
  refine g_p12 dQ_takesWord_1 fQ_275 ?_
  refine g_if_ne dQ_takesWord_4 rfl (fun h4 => ?_) (fun h4 => ?_)
  · exact absurd rfl h4
  · refine g_aload_n dQ_takesWord_7 rfl ?_
    refine g_aload_n dQ_takesWord_8 rfl ?_
    refine gV1 dQ_takesWord_9 kQ_takesWord_289 rfl rfl (cQ_isWord hf ht h120 hb hx hV.ti) (Nat.le_of_ble_eq_true rfl) ?_
    refine g_if_eq dQ_takesWord_12 rfl (fun h12 => ?_) (fun h12 => ?_)
    · have h12 := bI_0.mp h12
      refine g_iconst (v := 0) dQ_takesWord_19 (by decide) ?_
      refine g_istore_n dQ_takesWord_20 (by decide) rfl rfl ?_
      dsimp only [List.set]
      refine g_iload_n dQ_takesWord_21 rfl ?_
      refine g_if_eq dQ_takesWord_22 rfl (fun h22 => ?_) (fun h22 => ?_)
      · refine g_iload_n dQ_takesWord_30 rfl ?_
        refine g_iret dQ_takesWord_31 rfl (by first | rfl | exact bI_n) ?_
        first
          | exact ⟨by rw [bI_t h12], by rw [swF_y h12, en_1 (by rw [h12.1]; decide)]⟩
          | exact ⟨by rw [bI_f h12], by rw [swF_n h12]⟩
      · exact absurd h22 (by decide)
    · have h12 := Classical.not_not.mp (fun z => h12 (bI_0.mpr z))
      refine g_iconst (v := 1) dQ_takesWord_15 (by decide) ?_
      refine g_goto dQ_takesWord_16 rfl ?_
      refine g_istore_n dQ_takesWord_20 (by decide) rfl rfl ?_
      dsimp only [List.set]
      refine g_iload_n dQ_takesWord_21 rfl ?_
      refine g_if_eq dQ_takesWord_22 rfl (fun h22 => ?_) (fun h22 => ?_)
      · exact absurd h22 (by decide)
      · refine g_aload_n dQ_takesWord_25 rfl ?_
        refine g_iconst (v := 1) dQ_takesWord_26 (by decide) ?_
        refine gV1v dQ_takesWord_27 kQ_takesWord_282 rfl rfl (cQ_must hf ht h120 hb hV.en (c := True)) (Nat.le_of_ble_eq_true rfl) ?_
        rw [if_pos trivial]
        refine g_iload_n dQ_takesWord_30 rfl ?_
        refine g_iret dQ_takesWord_31 rfl (by first | rfl | exact bI_n) ?_
        first
          | exact ⟨by rw [bI_t h12], by rw [swF_y h12, en_1 (by rw [h12.1]; decide)]⟩
          | exact ⟨by rw [bI_f h12], by rw [swF_n h12]⟩

set_option maxRecDepth 4000 in
theorem cQ_takesWordW {l : Launch} {g : GG} {f : Nat → Int32} {W : Wd} {T : TT} {t : Nat} (hf : W 38 = f) (ht : W 33 7 = nI t) (h120 : t ≤ 120) (hb : ∀ i, i < t → 0 ≤ f i) {x : Nat} (hx : x < 14) (hV : VT f t T) : Res l g Q_takesWord [.ref (g.1 33), .ref (g.2.2.2.1 x)] (pw f 1 T W) (Is (some (.int 0)) (pw f 1 T W)) := by
  refine Res.of (by decide) (by simp [Value.category]) (Nat.le_of_ble_eq_true rfl) rfl ?_
  show Go l g Q_takesWord 0 [some (.ref (g.1 33)), some (.ref (g.2.2.2.1 x)), none] [] (pw f 1 T W) _
  refine g_aload_n dQ_takesWord_0 rfl ?_
  refine g_p12 dQ_takesWord_1 fQ_275 ?_
  refine g_if_ne dQ_takesWord_4 rfl (fun h4 => ?_) (fun h4 => ?_)
  · refine g_iconst (v := 0) dQ_takesWord_19 (by decide) ?_
    refine g_istore_n dQ_takesWord_20 (by decide) rfl rfl ?_
    dsimp only [List.set]
    refine g_iload_n dQ_takesWord_21 rfl ?_
    refine g_if_eq dQ_takesWord_22 rfl (fun h22 => ?_) (fun h22 => ?_)
    · refine g_iload_n dQ_takesWord_30 rfl ?_
      refine g_iret dQ_takesWord_31 rfl (by first | rfl | exact bI_n) ?_
      exact ⟨rfl, rfl⟩
    · exact absurd h22 (by decide)
  · exact absurd h4 (by decide)

set_option maxRecDepth 4000 in
theorem cQ_mayTell0 {l : Launch} {g : GG} {f : Nat → Int32} {W : Wd} {T : TT} {t : Nat} (hf : W 38 = f) (ht : W 33 7 = nI t) (h120 : t ≤ 120) (hb : ∀ i, i < t → 0 ≤ f i) {x : Nat} (hx : x < 14) (hV : VT f t T) {mx wo : Int32} : Res l g Q_mayTell [.ref (g.1 33), .ref (g.2.2.2.1 x), .int mx, .int wo] (pw f 0 T W) (Is (some (.int (mtF f t 0 T x mx wo).1)) (pw f (mtF f t 0 T x mx wo).2.1 (mtF f t 0 T x mx wo).2.2 W)) := by
  refine Res.of (by decide) (by simp [Value.category]) (Nat.le_of_ble_eq_true rfl) rfl ?_
  show Go l g Q_mayTell 0 [some (.ref (g.1 33)), some (.ref (g.2.2.2.1 x)), some (.int mx), some (.int wo)] [] (pw f 0 T W) _
  refine g_aload_n dQ_mayTell_0 rfl ?_
  refine g_aload_n dQ_mayTell_1 rfl ?_
  refine gV1 dQ_mayTell_2 kQ_mayTell_293 rfl rfl (cQ_takesWord hf ht h120 hb hx hV) (Nat.le_of_ble_eq_true rfl) ?_
  refine g_if_eq dQ_mayTell_5 rfl (fun h5 => ?_) (fun h5 => ?_)
  · have h5 := bI_0.mp h5
    rw [swF_n h5]
    have e9 := mt_n (t := t) (mx := mx) (wo := wo) h5
    refine g_iload_n dQ_mayTell_17 rfl ?_
    refine g_iret dQ_mayTell_18 rfl rfl ?_
    exact ⟨by rw [e9], by rw [e9]⟩
  · have h5 := Classical.not_not.mp (fun z => h5 (bI_0.mpr z))
    rw [swF_y h5]
    have e9 := mt_y (t := t) (mx := mx) (wo := wo) h5
    refine g_aload_n dQ_mayTell_8 rfl ?_
    refine g_iconst (v := 0) dQ_mayTell_9 (by decide) ?_
    refine g_iload_n dQ_mayTell_10 rfl ?_
    refine gV2 dQ_mayTell_11 kQ_mayTell_296 rfl rfl (cQ_number hf ht h120 hb hV.next) (Nat.le_of_ble_eq_true rfl) ?_
    refine g_goto dQ_mayTell_14 rfl ?_
    refine g_iret dQ_mayTell_18 rfl rfl ?_
    exact ⟨by rw [e9], by rw [e9]⟩

set_option maxRecDepth 4000 in
theorem cQ_mayTell1 {l : Launch} {g : GG} {f : Nat → Int32} {W : Wd} {T : TT} {t : Nat} (hf : W 38 = f) (ht : W 33 7 = nI t) (h120 : t ≤ 120) (hb : ∀ i, i < t → 0 ≤ f i) {x : Nat} (hx : x < 14) (hV : VT f t T) {mx wo : Int32} : Res l g Q_mayTell [.ref (g.1 33), .ref (g.2.2.2.1 x), .int mx, .int wo] (pw f 1 T W) (Is (some (.int (mtF f t 1 T x mx wo).1)) (pw f (mtF f t 1 T x mx wo).2.1 (mtF f t 1 T x mx wo).2.2 W)) := by
  refine Res.of (by decide) (by simp [Value.category]) (Nat.le_of_ble_eq_true rfl) rfl ?_
  show Go l g Q_mayTell 0 [some (.ref (g.1 33)), some (.ref (g.2.2.2.1 x)), some (.int mx), some (.int wo)] [] (pw f 1 T W) _
  refine g_aload_n dQ_mayTell_0 rfl ?_
  refine g_aload_n dQ_mayTell_1 rfl ?_
  refine gV1 dQ_mayTell_2 kQ_mayTell_293 rfl rfl (cQ_takesWordW hf ht h120 hb hx hV) (Nat.le_of_ble_eq_true rfl) ?_
  refine g_if_eq dQ_mayTell_5 rfl (fun h5 => ?_) (fun h5 => ?_)
  · refine g_iload_n dQ_mayTell_17 rfl ?_
    refine g_iret dQ_mayTell_18 rfl rfl ?_
    exact ⟨rfl, rfl⟩
  · exact absurd rfl h5

theorem cQ_mayTell {l : Launch} {g : GG} {f : Nat → Int32} {W : Wd} {T : TT} {t : Nat} (hf : W 38 = f) (ht : W 33 7 = nI t) (h120 : t ≤ 120) (hb : ∀ i, i < t → 0 ≤ f i) {x : Nat} (hx : x < 14) (hV : VT f t T) {mx wo wr : Int32} (hwr : wr = 0 ∨ wr = 1) : Res l g Q_mayTell [.ref (g.1 33), .ref (g.2.2.2.1 x), .int mx, .int wo] (pw f wr T W) (Is (some (.int (mtF f t wr T x mx wo).1)) (pw f (mtF f t wr T x mx wo).2.1 (mtF f t wr T x mx wo).2.2 W)) := by
  rcases hwr with rfl | rfl
  · exact cQ_mayTell0 hf ht h120 hb hx hV
  · exact cQ_mayTell1 hf ht h120 hb hx hV

set_option maxRecDepth 4000 in
theorem cQ_addItem {l : Launch} {g : GG} {f : Nat → Int32} {wr : Int32} {T : TT} {W : Wd} {i : Nat} (hi : W 33 18 = nI i) (h120 : i < 120) {va vb vc vd : Int32} : Res l g Q_addItem [.ref (g.1 33), .int va, .int vb, .int vc, .int vd] (pw f wr T W) (Is none (pw f wr T (adI i va vb vc vd W))) := by
  refine Res.of (by decide) (by simp [Value.category]) (Nat.le_of_ble_eq_true rfl) rfl ?_
  show Go l g Q_addItem 0 [some (.ref (g.1 33)), some (.int va), some (.int vb), some (.int vc), some (.int vd)] [] (pw f wr T W) _
  refine g_aload_n dQ_addItem_0 rfl ?_
  refine g_getR2 (k2 := 40) dQ_addItem_1 fQ_45 rfl rfl (by decide) rfl ?_
  refine g_aload_n dQ_addItem_4 rfl ?_
  refine g_pr (j := 18) dQ_addItem_5 fQ_286 rfl (by decide) ?_
  refine g_top (y := nI i) (by first | exact hi | (rw [up_other _ _ _ _ (by decide)]; exact hi) | (rw [up_other _ _ _ _ (by decide), up_other _ _ _ _ (by decide)]; exact hi) | (rw [up_other _ _ _ _ (by decide), up_other _ _ _ _ (by decide), up_other _ _ _ _ (by decide)]; exact hi) | (rw [up_other _ _ _ _ (by decide), up_other _ _ _ _ (by decide), up_other _ _ _ _ (by decide), up_other _ _ _ _ (by decide)]; exact hi)) ?_
  refine g_iload_n dQ_addItem_8 rfl ?_
  refine g_pi (k := 40) (i := i) dQ_addItem_9 rfl (by decide) h120 ?_
  refine g_aload_n dQ_addItem_10 rfl ?_
  refine g_getR2 (k2 := 41) dQ_addItem_11 fQ_48 rfl rfl (by decide) rfl ?_
  refine g_aload_n dQ_addItem_14 rfl ?_
  refine g_pr (j := 18) dQ_addItem_15 fQ_286 rfl (by decide) ?_
  refine g_top (y := nI i) (by first | exact hi | (rw [up_other _ _ _ _ (by decide)]; exact hi) | (rw [up_other _ _ _ _ (by decide), up_other _ _ _ _ (by decide)]; exact hi) | (rw [up_other _ _ _ _ (by decide), up_other _ _ _ _ (by decide), up_other _ _ _ _ (by decide)]; exact hi) | (rw [up_other _ _ _ _ (by decide), up_other _ _ _ _ (by decide), up_other _ _ _ _ (by decide), up_other _ _ _ _ (by decide)]; exact hi)) ?_
  refine g_iload_n dQ_addItem_18 rfl ?_
  refine g_pi (k := 41) (i := i) dQ_addItem_19 rfl (by decide) h120 ?_
  refine g_aload_n dQ_addItem_20 rfl ?_
  refine g_getR2 (k2 := 42) dQ_addItem_21 fQ_51 rfl rfl (by decide) rfl ?_
  refine g_aload_n dQ_addItem_24 rfl ?_
  refine g_pr (j := 18) dQ_addItem_25 fQ_286 rfl (by decide) ?_
  refine g_top (y := nI i) (by first | exact hi | (rw [up_other _ _ _ _ (by decide)]; exact hi) | (rw [up_other _ _ _ _ (by decide), up_other _ _ _ _ (by decide)]; exact hi) | (rw [up_other _ _ _ _ (by decide), up_other _ _ _ _ (by decide), up_other _ _ _ _ (by decide)]; exact hi) | (rw [up_other _ _ _ _ (by decide), up_other _ _ _ _ (by decide), up_other _ _ _ _ (by decide), up_other _ _ _ _ (by decide)]; exact hi)) ?_
  refine g_iload_n dQ_addItem_28 rfl ?_
  refine g_pi (k := 42) (i := i) dQ_addItem_29 rfl (by decide) h120 ?_
  refine g_aload_n dQ_addItem_30 rfl ?_
  refine g_getR2 (k2 := 43) dQ_addItem_31 fQ_54 rfl rfl (by decide) rfl ?_
  refine g_aload_n dQ_addItem_34 rfl ?_
  refine g_pr (j := 18) dQ_addItem_35 fQ_286 rfl (by decide) ?_
  refine g_top (y := nI i) (by first | exact hi | (rw [up_other _ _ _ _ (by decide)]; exact hi) | (rw [up_other _ _ _ _ (by decide), up_other _ _ _ _ (by decide)]; exact hi) | (rw [up_other _ _ _ _ (by decide), up_other _ _ _ _ (by decide), up_other _ _ _ _ (by decide)]; exact hi) | (rw [up_other _ _ _ _ (by decide), up_other _ _ _ _ (by decide), up_other _ _ _ _ (by decide), up_other _ _ _ _ (by decide)]; exact hi)) ?_
  refine g_iload dQ_addItem_38 rfl ?_
  refine g_pi (k := 43) (i := i) dQ_addItem_40 rfl (by decide) h120 ?_
  refine g_aload_n dQ_addItem_41 rfl ?_
  refine g_dup dQ_addItem_42 rfl ?_
  refine g_pr (j := 18) dQ_addItem_43 fQ_286 rfl (by decide) ?_
  refine g_top (y := nI i) (by first | exact hi | (rw [up_other _ _ _ _ (by decide)]; exact hi) | (rw [up_other _ _ _ _ (by decide), up_other _ _ _ _ (by decide)]; exact hi) | (rw [up_other _ _ _ _ (by decide), up_other _ _ _ _ (by decide), up_other _ _ _ _ (by decide)]; exact hi) | (rw [up_other _ _ _ _ (by decide), up_other _ _ _ _ (by decide), up_other _ _ _ _ (by decide), up_other _ _ _ _ (by decide)]; exact hi)) ?_
  refine g_iconst (v := 1) dQ_addItem_46 (by decide) ?_
  refine g_iadd dQ_addItem_47 ?_
  refine g_top (y := nI (i + 1)) (nI_succ i).symm ?_
  refine g_pw (j := 18) dQ_addItem_48 fQ_286 rfl (by decide) rfl rfl ?_
  refine g_vret dQ_addItem_51 rfl ?_
  exact ⟨rfl, rfl⟩
