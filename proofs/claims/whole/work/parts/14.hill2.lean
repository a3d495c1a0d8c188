theorem sS_t {A : HA} {j : Nat} {v : Int32} : (sS A j v).2 = A.2 := rfl
theorem hcpK {h h2 : Nat} {w : Wd} {A : HA} (hne : h2 + 6 ≤ h ∨ h + 6 ≤ h2) : upR (hput h A w) (h + 1) (va_cpy (hput h A w (h2 + 1)) (hput h A w (h + 1)) 0 0 8) = hput h (A.1, va_cpy (w (h2 + 1)) A.2.1 0 0 8, A.2.2) w := by
  rw [hput_out A w (by omega : h2 + 1 < h ∨ h + 6 ≤ h2 + 1), hput_K]
  funext k
  simp only [upR, hput]
  repeat' split
  all_goals first | rfl | omega | simp_all
theorem hcpC {h h2 : Nat} {w : Wd} {A : HA} (hne : h2 + 6 ≤ h ∨ h + 6 ≤ h2) : upR (hput h A w) (h + 2) (va_cpy (hput h A w (h2 + 2)) (hput h A w (h + 2)) 0 0 8) = hput h (A.1, A.2.1, va_cpy (w (h2 + 2)) A.2.2.1 0 0 8, A.2.2.2) w := by
  rw [hput_out A w (by omega : h2 + 2 < h ∨ h + 6 ≤ h2 + 2), hput_C]
  funext k
  simp only [upR, hput]
  repeat' split
  all_goals first | rfl | omega | simp_all
theorem hcpF {h h2 : Nat} {w : Wd} {A : HA} (hne : h2 + 6 ≤ h ∨ h + 6 ≤ h2) : upR (hput h A w) (h + 3) (va_cpy (hput h A w (h2 + 3)) (hput h A w (h + 3)) 0 0 8) = hput h (A.1, A.2.1, A.2.2.1, va_cpy (w (h2 + 3)) A.2.2.2.1 0 0 8, A.2.2.2.2) w := by
  rw [hput_out A w (by omega : h2 + 3 < h ∨ h + 6 ≤ h2 + 3), hput_F]
  funext k
  simp only [upR, hput]
  repeat' split
  all_goals first | rfl | omega | simp_all
theorem hcpL {h h2 : Nat} {w : Wd} {A : HA} (hne : h2 + 6 ≤ h ∨ h + 6 ≤ h2) : upR (hput h A w) (h + 4) (va_cpy (hput h A w (h2 + 4)) (hput h A w (h + 4)) 0 0 8) = hput h (A.1, A.2.1, A.2.2.1, A.2.2.2.1, va_cpy (w (h2 + 4)) A.2.2.2.2.1 0 0 8, A.2.2.2.2.2) w := by
  rw [hput_out A w (by omega : h2 + 4 < h ∨ h + 6 ≤ h2 + 4), hput_L]
  funext k
  simp only [upR, hput]
  repeat' split
  all_goals first | rfl | omega | simp_all
theorem hcpO {h h2 : Nat} {w : Wd} {A : HA} (hne : h2 + 6 ≤ h ∨ h + 6 ≤ h2) : upR (hput h A w) (h + 5) (va_cpy (hput h A w (h2 + 5)) (hput h A w (h + 5)) 0 0 8) = hput h (A.1, A.2.1, A.2.2.1, A.2.2.2.1, A.2.2.2.2.1, va_cpy (w (h2 + 5)) A.2.2.2.2.2 0 0 8) w := by
  rw [hput_out A w (by omega : h2 + 5 < h ∨ h + 6 ≤ h2 + 5), hput_O]
  funext k
  simp only [upR, hput]
  repeat' split
  all_goals first | rfl | omega | simp_all
theorem vis_arr {k j N : Nat} (ha : arrN k = some N) (hv : vis k j) : j < N := by
  rcases hv with ⟨ci, h1, h2⟩ | ⟨N2, h1, h2⟩
  · have := obj_arr k (objC_lt h1) (by show (objC k).isSome = true; rw [h1]; rfl)
    have h3 : arrN k = none := this
    rw [ha] at h3; cases h3
  · rw [ha] at h1; cases h1; exact h2
theorem vis_hill {h j : Nat} (hh : isH h) (hv : vis h j) : j < 7 := by
  rcases hv with ⟨ci, h1, h2⟩ | ⟨N2, h1, h2⟩
  · rw [hh.o] at h1; cases h1
    have hj : j < 12 := (List.getElem?_eq_some_iff.mp h2).1
    have : ∀ j, j < 12 → (fdef 1)[j]? = some 0 → j < 7 := by decide
    exact this j hj h2
  · have := obj_arr h (objC_lt hh.o) (by show (objC h).isSome = true; rw [hh.o]; rfl)
    have h3 : arrN h = none := this
    rw [h1] at h3; cases h3
theorem hbec {h h2 : Nat} {w : Wd} (hh : isH h) {A : HA} {k j : Nat} (hv : vis k j) : hput h (hget w h2) w k j = hput h ((sS (sS (sS (sS (sS (sS (sS A 0 (w h2 0)) 1 (w h2 1)) 2 (w h2 2)) 3 (w h2 3)) 4 (w h2 4)) 5 (w h2 5)) 6 (w h2 6)).1, va_cpy (w (h2 + 1)) A.2.1 0 0 8, va_cpy (w (h2 + 2)) A.2.2.1 0 0 8, va_cpy (w (h2 + 3)) A.2.2.2.1 0 0 8, va_cpy (w (h2 + 4)) A.2.2.2.2.1 0 0 8, va_cpy (w (h2 + 5)) A.2.2.2.2.2 0 0 8) w k j := by
  by_cases h0 : k = h
  · subst h0
    have hj := vis_hill hh hv
    rw [hput_S, hput_S]
    have : j = 0 ∨ j = 1 ∨ j = 2 ∨ j = 3 ∨ j = 4 ∨ j = 5 ∨ j = 6 := by omega
    rcases this with rfl | rfl | rfl | rfl | rfl | rfl | rfl <;> rfl
  · have cp : ∀ (f f2 : Nat → Int32), j < 8 → f j = va_cpy f f2 0 0 8 j := fun f f2 hj => by rw [pk_cpy_in (Nat.zero_le _) (by omega)]; simp
    by_cases h1 : k = h + 1
    · subst h1; rw [hput_K, hput_K]; exact cp _ _ (vis_arr (hh.a (by decide) (by decide)) hv)
    · by_cases h2 : k = h + 2
      · subst h2; rw [hput_C, hput_C]; exact cp _ _ (vis_arr (hh.a (by decide) (by decide)) hv)
      · by_cases h3 : k = h + 3
        · subst h3; rw [hput_F, hput_F]; exact cp _ _ (vis_arr (hh.a (by decide) (by decide)) hv)
        · by_cases h4 : k = h + 4
          · subst h4; rw [hput_L, hput_L]; exact cp _ _ (vis_arr (hh.a (by decide) (by decide)) hv)
          · by_cases h5 : k = h + 5
            · subst h5; rw [hput_O, hput_O]; exact cp _ _ (vis_arr (hh.a (by decide) (by decide)) hv)
            · rw [hput_out _ _ (by omega), hput_out _ _ (by omega)]
def traitF (A : HA) (n j : Nat) (x : Int32) : Int32 := if x = 0 then A.2.1 j else if x = 1 then A.2.2.1 j else if x = 2 then A.2.2.2.1 j else if x = 3 then A.2.2.2.2.1 j else if x = 4 then A.2.2.2.2.2 j else if x = 5 then dist (A.2.2.1 j) (A.1 0) else if x = 6 then straysF A n j else if x = 7 then fearsK (A.2.1 j) else if x = 8 then calmsK (A.2.1 j) else lightK (A.2.1 j)
set_option maxRecDepth 4000 in
theorem lH_nearest {l : Launch} {g : GG} {h : Nat} {w : Wd} {A : HA} (hh : isH h) {n : Nat} (hn : A.1 6 = nI n) (h8 : n ≤ 8)  : ∀ (m : Nat) (i : Nat), n - i < m → i ≤ n → Go l g H_nearestToWolf 7 [some (.ref (g.1 h)), some (.int (neF A.2.2.1 (A.1 2) (A.1 3) i).1), some (.int (neF A.2.2.1 (A.1 2) (A.1 3) i).2), some (.int (nI i))] [] (hput h A w) (Is (some (.int ((neF A.2.2.1 (A.1 2) (A.1 3) n).1))) (hput h A w)) := by
  intro m
  induction m with
  | zero => intro i hm hi; omega
  | succ m ih =>
    intro i hm hi
    refine g_iload_n dH_nearestToWolf_7 rfl ?_
    refine g_aload_n dH_nearestToWolf_8 rfl ?_
    refine g_hI dH_nearestToWolf_9 fH_30 hh rfl ?_
    refine g_icmp_ge dH_nearestToWolf_12 rfl (fun h12 => ?_) (fun h12 => ?_)
    · rw [hn, nI_leI (by omega) (by omega)] at h12
      refine g_iload_n dH_nearestToWolf_62 rfl ?_
      refine g_iret dH_nearestToWolf_63 rfl rfl ?_
      exact ⟨by rw [show i = n by omega], rfl⟩
    · rw [hn, nI_leI (by omega) (by omega)] at h12
      refine g_iload_n dH_nearestToWolf_15 rfl ?_
      refine g_aload_n dH_nearestToWolf_16 rfl ?_
      refine g_hI dH_nearestToWolf_17 fH_18 hh rfl ?_
      refine g_icmp_eq dH_nearestToWolf_20 rfl (fun h20 => ?_) (fun h20 => ?_)
      · rw [show neF A.2.2.1 (A.1 2) (A.1 3) i = neF A.2.2.1 (A.1 2) (A.1 3) (i + 1) from (if_neg (fun z => z.1 h20)).symm]
        refine g_iinc (v := nI (i + 1)) dH_nearestToWolf_56 rfl (nI_succ i).symm (by decide) rfl rfl ?_
        dsimp only [List.set]
        refine g_goto dH_nearestToWolf_59 rfl ?_
        exact ih (i + 1) (by omega) (by omega)
      · refine g_aload_n dH_nearestToWolf_23 rfl ?_
        refine g_getR2 (k2 := h + 2) dH_nearestToWolf_24 fH_37 hh.o rfl (by decide) rfl ?_
        refine g_iload_n dH_nearestToWolf_27 rfl ?_
        refine g_ldC dH_nearestToWolf_28 hh (by omega) ?_
        refine g_aload_n dH_nearestToWolf_29 rfl ?_
        refine g_hI dH_nearestToWolf_30 fH_21 hh rfl ?_
        refine gN2 dH_nearestToWolf_33 kH_nearestToWolf_79 cS_distance (Nat.le_of_ble_eq_true rfl) ?_
        refine g_iload_n dH_nearestToWolf_36 rfl ?_
        refine g_icmp_ge dH_nearestToWolf_37 rfl (fun h37 => ?_) (fun h37 => ?_)
        · rw [show neF A.2.2.1 (A.1 2) (A.1 3) i = neF A.2.2.1 (A.1 2) (A.1 3) (i + 1) from (if_neg (fun z => absurd z.2 (Int32.not_lt.mpr h37))).symm]
          refine g_iinc (v := nI (i + 1)) dH_nearestToWolf_56 rfl (nI_succ i).symm (by decide) rfl rfl ?_
          dsimp only [List.set]
          refine g_goto dH_nearestToWolf_59 rfl ?_
          exact ih (i + 1) (by omega) (by omega)
        · refine g_aload_n dH_nearestToWolf_40 rfl ?_
          refine g_getR2 (k2 := h + 2) dH_nearestToWolf_41 fH_37 hh.o rfl (by decide) rfl ?_
          refine g_iload_n dH_nearestToWolf_44 rfl ?_
          refine g_ldC dH_nearestToWolf_45 hh (by omega) ?_
          refine g_aload_n dH_nearestToWolf_46 rfl ?_
          refine g_hI dH_nearestToWolf_47 fH_21 hh rfl ?_
          refine gN2 dH_nearestToWolf_50 kH_nearestToWolf_79 cS_distance (Nat.le_of_ble_eq_true rfl) ?_
          refine g_istore_n dH_nearestToWolf_53 (by decide) rfl rfl ?_
          dsimp only [List.set]
          refine g_iload_n dH_nearestToWolf_54 rfl ?_
          refine g_istore_n dH_nearestToWolf_55 (by decide) rfl rfl ?_
          dsimp only [List.set]
          have e9 : neF A.2.2.1 (A.1 2) (A.1 3) (i + 1) = (nI i, dist (A.2.2.1 i) (A.1 3)) := if_pos ⟨h20, Int32.not_le.mp h37⟩
          refine g_lv (lv1 := [some (.ref (g.1 h)), some (.int (neF A.2.2.1 (A.1 2) (A.1 3) (i + 1)).1), some (.int (neF A.2.2.1 (A.1 2) (A.1 3) (i + 1)).2), some (.int (nI i))]) (by rw [e9]) ?_
          refine g_iinc (v := nI (i + 1)) dH_nearestToWolf_56 rfl (nI_succ i).symm (by decide) rfl rfl ?_
          dsimp only [List.set]
          refine g_goto dH_nearestToWolf_59 rfl ?_
          exact ih (i + 1) (by omega) (by omega)

set_option maxRecDepth 4000 in
theorem cH_nearestToWolf {l : Launch} {g : GG} {h : Nat} {w : Wd} {A : HA} (hh : isH h) {n : Nat} (hn : A.1 6 = nI n) (h8 : n ≤ 8)  : Res l g H_nearestToWolf [.ref (g.1 h)] (hput h A w) (Is (some (.int ((neF A.2.2.1 (A.1 2) (A.1 3) n).1))) (hput h A w)) := by
  refine Res.of (by decide) (by simp [Value.category]) (Nat.le_of_ble_eq_true rfl) rfl ?_
  show Go l g H_nearestToWolf 0 [some (.ref (g.1 h)), none, none, none] [] (hput h A w) _
  refine g_iconst (v := (-1)) dH_nearestToWolf_0 (by decide) ?_
  refine g_istore_n dH_nearestToWolf_1 (by decide) rfl rfl ?_
  dsimp only [List.set]
  refine g_bipush (v := 16) dH_nearestToWolf_2 (by decide) ?_
  refine g_istore_n dH_nearestToWolf_4 (by decide) rfl rfl ?_
  dsimp only [List.set]
  refine g_iconst (v := 0) dH_nearestToWolf_5 (by decide) ?_
  refine g_istore_n dH_nearestToWolf_6 (by decide) rfl rfl ?_
  dsimp only [List.set]
  exact lH_nearest hh hn h8 (n + 1) 0 (by omega) (by omega)

set_option maxRecDepth 4000 in
theorem lH_strayAll {l : Launch} {g : GG} {h : Nat} {w : Wd} {A : HA} (hh : isH h) {n : Nat} (hn : A.1 6 = nI n) (h8 : n ≤ 8) {t : Int32} : ∀ (m : Nat) (i : Nat), n - i < m → i ≤ n → Go l g H_strayAll 2 [some (.ref (g.1 h)), some (.int t), some (.int (nI i))] [] (hput h (stF t n i A) w) (Is none (hput h (stF t n n A) w)) := by
  intro m
  induction m with
  | zero => intro i hm hi; omega
  | succ m ih =>
    intro i hm hi
    refine g_iload_n dH_strayAll_2 rfl ?_
    refine g_aload_n dH_strayAll_3 rfl ?_
    refine g_hI dH_strayAll_4 fH_30 hh rfl ?_
    refine g_icmp_ge dH_strayAll_7 rfl (fun h7 => ?_) (fun h7 => ?_)
    · rw [stF_S, hn, nI_leI (by omega) (by omega)] at h7
      refine g_vret dH_strayAll_53 rfl ?_
      exact ⟨rfl, by rw [show i = n by omega]⟩
    · rw [stF_S, hn, nI_leI (by omega) (by omega)] at h7
      refine g_iload_n dH_strayAll_10 rfl ?_
      refine g_aload_n dH_strayAll_11 rfl ?_
      refine g_hI dH_strayAll_12 fH_18 hh rfl ?_
      refine g_icmp_eq dH_strayAll_15 rfl (fun h15 => ?_) (fun h15 => ?_)
      · refine g_iinc (v := nI (i + 1)) dH_strayAll_47 rfl (nI_succ i).symm (by decide) rfl rfl ?_
        dsimp only [List.set]
        refine g_goto dH_strayAll_50 rfl ?_
        refine g_w (w1 := hput h (stF t n (i + 1) A) w) (by
            show hput h _ w = hput h (stS t n i (stF t n i A)) w
            unfold stS
            split <;> first | with_reducible rfl | (exfalso; grind [bitI])) (ih (i + 1) (by omega) (by omega))
      · refine g_iload_n dH_strayAll_18 rfl ?_
        refine g_iconst (v := 1) dH_strayAll_19 (by decide) ?_
        refine g_iload_n dH_strayAll_20 rfl ?_
        refine g_ishl dH_strayAll_21 ?_
        refine g_iand dH_strayAll_22 ?_
        refine g_if_ne dH_strayAll_23 rfl (fun h23 => ?_) (fun h23 => ?_)
        · refine g_iinc (v := nI (i + 1)) dH_strayAll_47 rfl (nI_succ i).symm (by decide) rfl rfl ?_
          dsimp only [List.set]
          refine g_goto dH_strayAll_50 rfl ?_
          refine g_w (w1 := hput h (stF t n (i + 1) A) w) (by
              show hput h _ w = hput h (stS t n i (stF t n i A)) w
              unfold stS
              split <;> first | with_reducible rfl | (exfalso; grind [bitI])) (ih (i + 1) (by omega) (by omega))
        · refine g_aload_n dH_strayAll_26 rfl ?_
          refine g_getR2 (k2 := h + 2) dH_strayAll_27 fH_37 hh.o rfl (by decide) rfl ?_
          refine g_iload_n dH_strayAll_30 rfl ?_
          refine g_aload_n dH_strayAll_31 rfl ?_
          refine g_aload_n dH_strayAll_32 rfl ?_
          refine g_getR2 (k2 := h + 2) dH_strayAll_33 fH_37 hh.o rfl (by decide) rfl ?_
          refine g_iload_n dH_strayAll_36 rfl ?_
          refine g_ldC dH_strayAll_37 hh (by omega) ?_
          refine g_aload_n dH_strayAll_38 rfl ?_
          refine g_iload_n dH_strayAll_39 rfl ?_
          refine gV1 dH_strayAll_40 kH_strayAll_67 hh.o rfl (cH_strays hh (n := n) (by rw [stF_S]; exact hn) h8 (by omega)) (Nat.le_of_ble_eq_true rfl) ?_
          refine gV2 dH_strayAll_43 kH_strayAll_121 hh.o rfl (cH_strayedFrom hh) (Nat.le_of_ble_eq_true rfl) ?_
          refine g_stC dH_strayAll_46 hh (by omega) ?_
          refine g_iinc (v := nI (i + 1)) dH_strayAll_47 rfl (nI_succ i).symm (by decide) rfl rfl ?_
          dsimp only [List.set]
          refine g_goto dH_strayAll_50 rfl ?_
          refine g_w (w1 := hput h (stF t n (i + 1) A) w) (by
              show hput h _ w = hput h (stS t n i (stF t n i A)) w
              unfold stS
              split <;> first | with_reducible rfl | (exfalso; grind [bitI])) (ih (i + 1) (by omega) (by omega))

set_option maxRecDepth 4000 in
theorem cH_strayAll {l : Launch} {g : GG} {h : Nat} {w : Wd} {A : HA} (hh : isH h) {n : Nat} (hn : A.1 6 = nI n) (h8 : n ≤ 8) {t : Int32} : Res l g H_strayAll [.ref (g.1 h), .int t] (hput h A w) (Is (none) (hput h (stF t n n A) w)) := by
  refine Res.of (by decide) (by simp [Value.category]) (Nat.le_of_ble_eq_true rfl) rfl ?_
  show Go l g H_strayAll 0 [some (.ref (g.1 h)), some (.int t), none] [] (hput h A w) _
  refine g_iconst (v := 0) dH_strayAll_0 (by decide) ?_
  refine g_istore_n dH_strayAll_1 (by decide) rfl rfl ?_
  dsimp only [List.set]
  exact lH_strayAll hh hn h8 (n + 1) 0 (by omega) (by omega)

set_option maxRecDepth 4000 in
theorem lH_frighten {l : Launch} {g : GG} {h : Nat} {w : Wd} {A : HA} (hh : isH h) {n : Nat} (hn : A.1 6 = nI n) (h8 : n ≤ 8)  : ∀ (m : Nat) (i : Nat), n - i < m → i ≤ n → Go l g H_frighten 2 [some (.ref (g.1 h)), some (.int (nI i))] [] (hput h (frF i A) w) (Is none (hput h (frF n A) w)) := by
  intro m
  induction m with
  | zero => intro i hm hi; omega
  | succ m ih =>
    intro i hm hi
    refine g_iload_n dH_frighten_2 rfl ?_
    refine g_aload_n dH_frighten_3 rfl ?_
    refine g_hI dH_frighten_4 fH_30 hh rfl ?_
    refine g_icmp_ge dH_frighten_7 rfl (fun h7 => ?_) (fun h7 => ?_)
    · rw [frF_S, hn, nI_leI (by omega) (by omega)] at h7
      refine g_vret dH_frighten_68 rfl ?_
      exact ⟨rfl, by rw [show i = n by omega]⟩
    · rw [frF_S, hn, nI_leI (by omega) (by omega)] at h7
      refine g_iload_n dH_frighten_10 rfl ?_
      refine g_aload_n dH_frighten_11 rfl ?_
      refine g_hI dH_frighten_12 fH_18 hh rfl ?_
      refine g_icmp_eq dH_frighten_15 rfl (fun h15 => ?_) (fun h15 => ?_)
      · refine g_iinc (v := nI (i + 1)) dH_frighten_62 rfl (nI_succ i).symm (by decide) rfl rfl ?_
        dsimp only [List.set]
        refine g_goto dH_frighten_65 rfl ?_
        refine g_w (w1 := hput h (frF (i + 1) A) w) (by
            show hput h _ w = hput h (frS i (frF i A)) w
            unfold frS
            split <;> first | with_reducible rfl | (exfalso; grind [bitI])) (ih (i + 1) (by omega) (by omega))
      · refine g_aload_n dH_frighten_18 rfl ?_
        refine g_getR2 (k2 := h + 2) dH_frighten_19 fH_37 hh.o rfl (by decide) rfl ?_
        refine g_iload_n dH_frighten_22 rfl ?_
        refine g_ldC dH_frighten_23 hh (by omega) ?_
        refine g_aload_n dH_frighten_24 rfl ?_
        refine g_hI dH_frighten_25 fH_21 hh rfl ?_
        refine gN2 dH_frighten_28 kH_frighten_79 cS_distance (Nat.le_of_ble_eq_true rfl) ?_
        refine g_iconst (v := 2) dH_frighten_31 (by decide) ?_
        refine g_icmp_gt dH_frighten_32 rfl (fun h32 => ?_) (fun h32 => ?_)
        · refine g_iinc (v := nI (i + 1)) dH_frighten_62 rfl (nI_succ i).symm (by decide) rfl rfl ?_
          dsimp only [List.set]
          refine g_goto dH_frighten_65 rfl ?_
          refine g_w (w1 := hput h (frF (i + 1) A) w) (by
              show hput h _ w = hput h (frS i (frF i A)) w
              unfold frS
              split <;> first | with_reducible rfl | (exfalso; grind [bitI])) (ih (i + 1) (by omega) (by omega))
        · refine g_aload_n dH_frighten_35 rfl ?_
          refine g_getR2 (k2 := h + 3) dH_frighten_36 fH_40 hh.o rfl (by decide) rfl ?_
          refine g_iload_n dH_frighten_39 rfl ?_
          refine g_aload_n dH_frighten_40 rfl ?_
          refine g_getR2 (k2 := h + 3) dH_frighten_41 fH_40 hh.o rfl (by decide) rfl ?_
          refine g_iload_n dH_frighten_44 rfl ?_
          refine g_ldF dH_frighten_45 hh (by omega) ?_
          refine g_aload_n dH_frighten_46 rfl ?_
          refine g_getR2 (k2 := h + 1) dH_frighten_47 fH_33 hh.o rfl (by decide) rfl ?_
          refine g_iload_n dH_frighten_50 rfl ?_
          refine g_ldK dH_frighten_51 hh (by omega) ?_
          refine gN1 dH_frighten_52 kH_frighten_70 cS_fearsOf (Nat.le_of_ble_eq_true rfl) ?_
          refine g_iadd dH_frighten_55 ?_
          refine g_bipush (v := 99) dH_frighten_56 (by decide) ?_
          refine g_min dH_frighten_58 lH_116 (by decide) (Nat.le_of_ble_eq_true rfl) ?_
          refine g_stF dH_frighten_61 hh (by omega) ?_
          refine g_iinc (v := nI (i + 1)) dH_frighten_62 rfl (nI_succ i).symm (by decide) rfl rfl ?_
          dsimp only [List.set]
          refine g_goto dH_frighten_65 rfl ?_
          refine g_w (w1 := hput h (frF (i + 1) A) w) (by
              show hput h _ w = hput h (frS i (frF i A)) w
              unfold frS
              split <;> first | with_reducible rfl | (exfalso; grind [bitI])) (ih (i + 1) (by omega) (by omega))

set_option maxRecDepth 4000 in
theorem cH_frighten {l : Launch} {g : GG} {h : Nat} {w : Wd} {A : HA} (hh : isH h) {n : Nat} (hn : A.1 6 = nI n) (h8 : n ≤ 8)  : Res l g H_frighten [.ref (g.1 h)] (hput h A w) (Is (none) (hput h (frF n A) w)) := by
  refine Res.of (by decide) (by simp [Value.category]) (Nat.le_of_ble_eq_true rfl) rfl ?_
  show Go l g H_frighten 0 [some (.ref (g.1 h)), none] [] (hput h A w) _
  refine g_iconst (v := 0) dH_frighten_0 (by decide) ?_
  refine g_istore_n dH_frighten_1 (by decide) rfl rfl ?_
  dsimp only [List.set]
  exact lH_frighten hh hn h8 (n + 1) 0 (by omega) (by omega)

set_option maxRecDepth 4000 in
theorem cH_prowl {l : Launch} {g : GG} {h : Nat} {w : Wd} {A : HA} (hh : isH h) {n : Nat} (hn : A.1 6 = nI n) (h8 : n ≤ 8)  : Res l g H_prowl [.ref (g.1 h)] (hput h A w) (Is (none) (hput h (prF n A) w)) := by
  refine Res.of (by decide) (by simp [Value.category]) (Nat.le_of_ble_eq_true rfl) rfl ?_
  show Go l g H_prowl 0 [some (.ref (g.1 h)), none] [] (hput h A w) _
  refine g_aload_n dH_prowl_0 rfl ?_
  refine g_hI dH_prowl_1 fH_21 hh rfl ?_
  refine g_iconst (v := (-1)) dH_prowl_4 (by decide) ?_
  refine g_icmp_eq dH_prowl_5 rfl (fun h5 => ?_) (fun h5 => ?_)
  · refine g_vret dH_prowl_23 rfl ?_
    exact ⟨rfl, by unfold prF; split <;> first | with_reducible rfl | (exfalso; grind [bitI])⟩
  · refine g_aload_n dH_prowl_8 rfl ?_
    refine g_hI dH_prowl_9 fH_21 hh rfl ?_
    refine g_aload_n dH_prowl_12 rfl ?_
    refine g_hI dH_prowl_13 fH_15 hh rfl ?_
    refine gN2 dH_prowl_16 kH_prowl_79 cS_distance (Nat.le_of_ble_eq_true rfl) ?_
    refine g_iconst (v := 1) dH_prowl_19 (by decide) ?_
    refine g_icmp_gt dH_prowl_20 rfl (fun h20 => ?_) (fun h20 => ?_)
    · refine g_aload_n dH_prowl_24 rfl ?_
      refine gV0 dH_prowl_25 kH_prowl_131 hh.o rfl (cH_nearestToWolf hh hn h8) (Nat.le_of_ble_eq_true rfl) ?_
      refine g_istore_n dH_prowl_28 (by decide) rfl rfl ?_
      dsimp only [List.set]
      refine g_iload_n dH_prowl_29 rfl ?_
      refine g_iconst (v := (-1)) dH_prowl_30 (by decide) ?_
      refine g_icmp_eq dH_prowl_31 rfl (fun h31 => ?_) (fun h31 => ?_)
      · refine g_aload_n dH_prowl_55 rfl ?_
        refine gV0v dH_prowl_56 kH_prowl_134 hh.o rfl (cH_frighten hh (n := n) hn h8) (Nat.le_of_ble_eq_true rfl) ?_
        refine g_vret dH_prowl_59 rfl ?_
        exact ⟨rfl, by first | rw [prF, if_neg (fun z => z.elim h5 (fun z => absurd z (Int32.not_le.mpr h20))), wmF, if_pos h31] | rw [prF, if_neg (fun z => z.elim h5 (fun z => absurd z (Int32.not_le.mpr h20))), wmF, if_neg h31, ec, nI_clamp (by omega)]⟩
      · obtain ⟨c, hc, ec⟩ := (neF_lt A.2.2.1 (A.1 2) (A.1 3) n).resolve_left h31
        refine g_aload_n dH_prowl_34 rfl ?_
        refine g_aload_n dH_prowl_35 rfl ?_
        refine g_hI dH_prowl_36 fH_21 hh rfl ?_
        refine g_aload_n dH_prowl_39 rfl ?_
        refine g_getR2 (k2 := h + 2) dH_prowl_40 fH_37 hh.o rfl (by decide) rfl ?_
        refine g_iload_n dH_prowl_43 rfl ?_
        refine g_top ec ?_
        refine g_ldC dH_prowl_44 hh (by omega) ?_
        refine g_aload_n dH_prowl_45 rfl ?_
        refine g_hI dH_prowl_46 fH_24 hh rfl ?_
        refine gN3 dH_prowl_49 kH_prowl_124 cS_towards (Nat.le_of_ble_eq_true rfl) ?_
        refine g_hP dH_prowl_52 fH_21 hh rfl ?_
        refine g_aload_n dH_prowl_55 rfl ?_
        refine gV0v dH_prowl_56 kH_prowl_134 hh.o rfl (cH_frighten hh (n := n) hn h8) (Nat.le_of_ble_eq_true rfl) ?_
        refine g_vret dH_prowl_59 rfl ?_
        exact ⟨rfl, by first | rw [prF, if_neg (fun z => z.elim h5 (fun z => absurd z (Int32.not_le.mpr h20))), wmF, if_pos h31] | rw [prF, if_neg (fun z => z.elim h5 (fun z => absurd z (Int32.not_le.mpr h20))), wmF, if_neg h31, ec, nI_clamp (by omega)]⟩
    · refine g_vret dH_prowl_23 rfl ?_
      exact ⟨rfl, by unfold prF; split <;> first | with_reducible rfl | (exfalso; grind [bitI])⟩

set_option maxRecDepth 4000 in
theorem cH_moveKeeper {l : Launch} {g : GG} {h : Nat} {w : Wd} {A : HA} (hh : isH h) {n : Nat} (hn : A.1 6 = nI n) (h8 : n ≤ 8) {v : Int32} : Res l g H_moveKeeper [.ref (g.1 h), .int v] (hput h A w) (Is (none) (hput h (mkF v A) w)) := by
  refine Res.of (by decide) (by simp [Value.category]) (Nat.le_of_ble_eq_true rfl) rfl ?_
  show Go l g H_moveKeeper 0 [some (.ref (g.1 h)), some (.int v)] [] (hput h A w) _
  refine g_aload_n dH_moveKeeper_0 rfl ?_
  refine g_iload_n dH_moveKeeper_1 rfl ?_
  refine g_hP dH_moveKeeper_2 fH_15 hh rfl ?_
  refine g_aload_n dH_moveKeeper_5 rfl ?_
  refine g_aload_n dH_moveKeeper_6 rfl ?_
  refine g_hI dH_moveKeeper_7 fH_18 hh rfl ?_
  refine gV1 dH_moveKeeper_10 kH_moveKeeper_59 hh.o rfl (cH_has hh) (Nat.le_of_ble_eq_true rfl) ?_
  refine g_if_eq dH_moveKeeper_13 rfl (fun h13 => ?_) (fun h13 => ?_)
  · rw [bI_0] at h13
    simp only [sS_n (show (2 : Nat) ≠ 1 by decide), sS_n (show (6 : Nat) ≠ 1 by decide)] at h13
    refine g_vret dH_moveKeeper_26 rfl ?_
    exact ⟨rfl, by first | rw [mkF, if_neg h13] | rw [mkF, if_pos h13, ec, nI_clamp (by omega)]⟩
  · rw [bI_0] at h13
    simp only [sS_n (show (2 : Nat) ≠ 1 by decide), sS_n (show (6 : Nat) ≠ 1 by decide)] at h13
    have h13 := Classical.not_not.mp h13
    obtain ⟨c, hc, ec⟩ := hasN h13.1 (show A.1 2 < nI n from hn ▸ h13.2) (by omega)
    refine g_aload_n dH_moveKeeper_16 rfl ?_
    refine g_getR2 (k2 := h + 2) dH_moveKeeper_17 fH_37 hh.o rfl (by decide) rfl ?_
    refine g_aload_n dH_moveKeeper_20 rfl ?_
    refine g_hI dH_moveKeeper_21 fH_18 hh rfl ?_
    refine g_top (y := nI c) ((sS_n (by decide)).trans ec) ?_
    refine g_iload_n dH_moveKeeper_24 rfl ?_
    refine g_stC dH_moveKeeper_25 hh (by omega) ?_
    refine g_vret dH_moveKeeper_26 rfl ?_
    exact ⟨rfl, by first | rw [mkF, if_neg h13] | rw [mkF, if_pos h13, ec, nI_clamp (by omega)]⟩

set_option maxRecDepth 4000 in
theorem cH_carryHome {l : Launch} {g : GG} {h : Nat} {w : Wd} {A : HA} (hh : isH h) {n : Nat} (hn : A.1 6 = nI n) (h8 : n ≤ 8) (hc : 0 ≤ A.1 2 ∧ A.1 2 < A.1 6) : Res l g H_carryHome [.ref (g.1 h)] (hput h A w) (Is (none) (hput h (caF A) w)) := by
  obtain ⟨c, hcn, ec⟩ := hasN hc.1 (show A.1 2 < nI n from hn ▸ hc.2) (by omega)
  refine Res.of (by decide) (by simp [Value.category]) (Nat.le_of_ble_eq_true rfl) rfl ?_
  show Go l g H_carryHome 0 [some (.ref (g.1 h)), none] [] (hput h A w) _
  refine g_aload_n dH_carryHome_0 rfl ?_
  refine g_hI dH_carryHome_1 fH_18 hh rfl ?_
  refine g_top (y := nI c) ec ?_
  refine g_istore_n dH_carryHome_4 (by decide) rfl rfl ?_
  dsimp only [List.set]
  refine g_aload_n dH_carryHome_5 rfl ?_
  refine g_aload_n dH_carryHome_6 rfl ?_
  refine g_hI dH_carryHome_7 fH_15 hh rfl ?_
  refine g_aload_n dH_carryHome_10 rfl ?_
  refine g_hI dH_carryHome_11 fH_9 hh rfl ?_
  refine g_aload_n dH_carryHome_14 rfl ?_
  refine g_getR2 (k2 := h + 1) dH_carryHome_15 fH_33 hh.o rfl (by decide) rfl ?_
  refine g_iload_n dH_carryHome_18 rfl ?_
  refine g_ldK dH_carryHome_19 hh (by omega) ?_
  refine gN1 dH_carryHome_20 kH_carryHome_76 cS_lightOf (Nat.le_of_ble_eq_true rfl) ?_
  refine gN3 dH_carryHome_23 kH_carryHome_124 cS_towards (Nat.le_of_ble_eq_true rfl) ?_
  refine gV1v dH_carryHome_26 kH_carryHome_143 hh.o rfl (cH_moveKeeper hh hn h8) (Nat.le_of_ble_eq_true rfl) ?_
  refine g_w (w1 := hput h (ca1 A) w) (by rw [ca1, ec, nI_clamp (by omega)]) ?_
  refine g_aload_n dH_carryHome_29 rfl ?_
  refine g_hI dH_carryHome_30 fH_15 hh rfl ?_
  refine g_aload_n dH_carryHome_33 rfl ?_
  refine g_hI dH_carryHome_34 fH_9 hh rfl ?_
  refine g_icmp_ne dH_carryHome_37 rfl (fun h37 => ?_) (fun h37 => ?_)
  · refine g_vret dH_carryHome_72 rfl ?_
    exact ⟨rfl, by first | rw [caF, ec, nI_clamp (by omega), ca2, if_neg h37] | rw [caF, ec, nI_clamp (by omega), ca2, if_pos h37]⟩
  · refine g_aload_n dH_carryHome_40 rfl ?_
    refine g_getR2 (k2 := h + 5) dH_carryHome_41 fH_46 hh.o rfl (by decide) rfl ?_
    refine g_iload_n dH_carryHome_44 rfl ?_
    refine g_aload_n dH_carryHome_45 rfl ?_
    refine g_getR2 (k2 := h + 5) dH_carryHome_46 fH_46 hh.o rfl (by decide) rfl ?_
    refine g_iload_n dH_carryHome_49 rfl ?_
    refine g_ldO dH_carryHome_50 hh (by omega) ?_
    refine g_iconst (v := 1) dH_carryHome_51 (by decide) ?_
    refine g_iadd dH_carryHome_52 ?_
    refine g_sipush (v := 9999) dH_carryHome_53 (by decide) ?_
    refine g_min dH_carryHome_56 lH_116 (by decide) (Nat.le_of_ble_eq_true rfl) ?_
    refine g_stO dH_carryHome_59 hh (by omega) ?_
    refine g_aload_n dH_carryHome_60 rfl ?_
    refine g_getR2 (k2 := h + 3) dH_carryHome_61 fH_40 hh.o rfl (by decide) rfl ?_
    refine g_iload_n dH_carryHome_64 rfl ?_
    refine g_iconst (v := 0) dH_carryHome_65 (by decide) ?_
    refine g_stF dH_carryHome_66 hh (by omega) ?_
    refine g_aload_n dH_carryHome_67 rfl ?_
    refine g_iconst (v := (-1)) dH_carryHome_68 (by decide) ?_
    refine g_hP dH_carryHome_69 fH_18 hh rfl ?_
    refine g_vret dH_carryHome_72 rfl ?_
    exact ⟨rfl, by first | rw [caF, ec, nI_clamp (by omega), ca2, if_neg h37] | rw [caF, ec, nI_clamp (by omega), ca2, if_pos h37]⟩

set_option maxRecDepth 4000 in
theorem cH_seek {l : Launch} {g : GG} {h : Nat} {w : Wd} {A : HA} (hh : isH h) {n : Nat} (hn : A.1 6 = nI n) (h8 : n ≤ 8)  : Res l g H_seek [.ref (g.1 h)] (hput h A w) (Is (none) (hput h (seF n A) w)) := by
  refine Res.of (by decide) (by simp [Value.category]) (Nat.le_of_ble_eq_true rfl) rfl ?_
  show Go l g H_seek 0 [some (.ref (g.1 h)), none] [] (hput h A w) _
  refine g_aload_n dH_seek_0 rfl ?_
  refine gV0 dH_seek_1 kH_seek_146 hh.o rfl (cH_sought hh hn h8) (Nat.le_of_ble_eq_true rfl) ?_
  refine g_istore_n dH_seek_4 (by decide) rfl rfl ?_
  dsimp only [List.set]
  refine g_iload_n dH_seek_5 rfl ?_
  refine g_iconst (v := (-1)) dH_seek_6 (by decide) ?_
  refine g_icmp_ne dH_seek_7 rfl (fun h7 => ?_) (fun h7 => ?_)
  · obtain ⟨c, hc, ec⟩ := (soF_lt A.2.2.1 (A.1 0) n).resolve_left h7
    refine g_aload_n dH_seek_27 rfl ?_
    refine g_aload_n dH_seek_28 rfl ?_
    refine g_hI dH_seek_29 fH_15 hh rfl ?_
    refine g_aload_n dH_seek_32 rfl ?_
    refine g_getR2 (k2 := h + 2) dH_seek_33 fH_37 hh.o rfl (by decide) rfl ?_
    refine g_iload_n dH_seek_36 rfl ?_
    refine g_top ec ?_
    refine g_ldC dH_seek_37 hh (by omega) ?_
    refine g_iconst (v := 2) dH_seek_38 (by decide) ?_
    refine gN3 dH_seek_39 kH_seek_124 cS_towards (Nat.le_of_ble_eq_true rfl) ?_
    refine g_hP dH_seek_42 fH_15 hh rfl ?_
    refine g_aload_n dH_seek_45 rfl ?_
    refine g_hI dH_seek_46 fH_15 hh rfl ?_
    refine g_aload_n dH_seek_49 rfl ?_
    refine g_getR2 (k2 := h + 2) dH_seek_50 fH_37 hh.o rfl (by decide) rfl ?_
    refine g_iload_n dH_seek_53 rfl ?_
    refine g_top ec ?_
    refine g_ldC dH_seek_54 hh (by omega) ?_
    refine g_icmp_ne dH_seek_55 rfl (fun h55 => ?_) (fun h55 => ?_)
    · simp only [sS_s, sS_t] at h55
      refine g_vret dH_seek_63 rfl ?_
      exact ⟨rfl, by first | rw [seF, if_neg h7, ec, nI_clamp (by omega), if_pos h55] | rw [seF, if_neg h7, ec, nI_clamp (by omega), if_neg h55]⟩
    · simp only [sS_s, sS_t] at h55
      refine g_aload_n dH_seek_58 rfl ?_
      refine g_iload_n dH_seek_59 rfl ?_
      refine g_hP dH_seek_60 fH_18 hh rfl ?_
      refine g_vret dH_seek_63 rfl ?_
      exact ⟨rfl, by first | rw [seF, if_neg h7, ec, nI_clamp (by omega), if_pos h55] | rw [seF, if_neg h7, ec, nI_clamp (by omega), if_neg h55]⟩
  · refine g_aload_n dH_seek_10 rfl ?_
    refine g_aload_n dH_seek_11 rfl ?_
    refine g_hI dH_seek_12 fH_15 hh rfl ?_
    refine g_aload_n dH_seek_15 rfl ?_
    refine g_hI dH_seek_16 fH_9 hh rfl ?_
    refine g_iconst (v := 2) dH_seek_19 (by decide) ?_
    refine gN3 dH_seek_20 kH_seek_124 cS_towards (Nat.le_of_ble_eq_true rfl) ?_
    refine g_hP dH_seek_23 fH_15 hh rfl ?_
    refine g_vret dH_seek_26 rfl ?_
    exact ⟨rfl, by rw [seF, if_pos h7]⟩

set_option maxRecDepth 4000 in
theorem cH_tend {l : Launch} {g : GG} {h : Nat} {w : Wd} {A : HA} (hh : isH h) {n : Nat} (hn : A.1 6 = nI n) (h8 : n ≤ 8)  : Res l g H_tend [.ref (g.1 h)] (hput h A w) (Is (none) (hput h (teF n A) w)) := by
  refine Res.of (by decide) (by simp [Value.category]) (Nat.le_of_ble_eq_true rfl) rfl ?_
  show Go l g H_tend 0 [some (.ref (g.1 h))] [] (hput h A w) _
  refine g_aload_n dH_tend_0 rfl ?_
  refine g_aload_n dH_tend_1 rfl ?_
  refine g_hI dH_tend_2 fH_18 hh rfl ?_
  refine gV1 dH_tend_5 kH_tend_59 hh.o rfl (cH_has hh) (Nat.le_of_ble_eq_true rfl) ?_
  refine g_if_eq dH_tend_8 rfl (fun h8_ => ?_) (fun h8_ => ?_)
  · rw [bI_0] at h8_
    refine g_aload_n dH_tend_18 rfl ?_
    refine gV0v dH_tend_19 kH_tend_140 hh.o rfl (cH_seek hh hn h8) (Nat.le_of_ble_eq_true rfl) ?_
    refine g_vret dH_tend_22 rfl ?_
    exact ⟨rfl, by first | rw [teF, if_neg h8_] | rw [teF, if_pos h8_]⟩
  · rw [bI_0] at h8_
    have h8_ := Classical.not_not.mp h8_
    refine g_aload_n dH_tend_11 rfl ?_
    refine gV0v dH_tend_12 kH_tend_137 hh.o rfl (cH_carryHome hh hn h8 h8_) (Nat.le_of_ble_eq_true rfl) ?_
    refine g_goto dH_tend_15 rfl ?_
    refine g_vret dH_tend_22 rfl ?_
    exact ⟨rfl, by first | rw [teF, if_neg h8_] | rw [teF, if_pos h8_]⟩

set_option maxRecDepth 4000 in
theorem lH_settle {l : Launch} {g : GG} {h : Nat} {w : Wd} {A : HA} (hh : isH h) {n : Nat} (hn : A.1 6 = nI n) (h8 : n ≤ 8)  : ∀ (m : Nat) (i : Nat), n - i < m → i ≤ n → Go l g H_settle 2 [some (.ref (g.1 h)), some (.int (nI i))] [] (hput h (ttF i A) w) (Is none (hput h (ttF n A) w)) := by
  intro m
  induction m with
  | zero => intro i hm hi; omega
  | succ m ih =>
    intro i hm hi
    refine g_iload_n dH_settle_2 rfl ?_
    refine g_aload_n dH_settle_3 rfl ?_
    refine g_hI dH_settle_4 fH_30 hh rfl ?_
    refine g_icmp_ge dH_settle_7 rfl (fun h7 => ?_) (fun h7 => ?_)
    · rw [ttF_S, hn, nI_leI (by omega) (by omega)] at h7
      refine g_vret dH_settle_79 rfl ?_
      exact ⟨rfl, by rw [show i = n by omega]⟩
    · rw [ttF_S, hn, nI_leI (by omega) (by omega)] at h7
      refine g_aload_n dH_settle_10 rfl ?_
      refine g_getR2 (k2 := h + 4) dH_settle_11 fH_43 hh.o rfl (by decide) rfl ?_
      refine g_iload_n dH_settle_14 rfl ?_
      refine g_aload_n dH_settle_15 rfl ?_
      refine g_getR2 (k2 := h + 2) dH_settle_16 fH_37 hh.o rfl (by decide) rfl ?_
      refine g_iload_n dH_settle_19 rfl ?_
      refine g_ldC dH_settle_20 hh (by omega) ?_
      refine g_aload_n dH_settle_21 rfl ?_
      refine g_hI dH_settle_22 fH_9 hh rfl ?_
      refine g_icmp_ne dH_settle_25 rfl (fun h25 => ?_) (fun h25 => ?_)
      · refine g_aload_n dH_settle_32 rfl ?_
        refine g_getR2 (k2 := h + 4) dH_settle_33 fH_43 hh.o rfl (by decide) rfl ?_
        refine g_iload_n dH_settle_36 rfl ?_
        refine g_ldL dH_settle_37 hh (by omega) ?_
        refine g_iconst (v := 1) dH_settle_38 (by decide) ?_
        refine g_iadd dH_settle_39 ?_
        refine g_sipush (v := 9999) dH_settle_40 (by decide) ?_
        refine g_min dH_settle_43 lH_116 (by decide) (Nat.le_of_ble_eq_true rfl) ?_
        refine g_stL dH_settle_46 hh (by omega) ?_
        refine g_aload_n dH_settle_47 rfl ?_
        refine g_getR2 (k2 := h + 3) dH_settle_48 fH_40 hh.o rfl (by decide) rfl ?_
        refine g_iload_n dH_settle_51 rfl ?_
        refine g_aload_n dH_settle_52 rfl ?_
        refine g_getR2 (k2 := h + 3) dH_settle_53 fH_40 hh.o rfl (by decide) rfl ?_
        refine g_iload_n dH_settle_56 rfl ?_
        refine g_ldF dH_settle_57 hh (by omega) ?_
        refine g_aload_n dH_settle_58 rfl ?_
        refine g_getR2 (k2 := h + 1) dH_settle_59 fH_33 hh.o rfl (by decide) rfl ?_
        refine g_iload_n dH_settle_62 rfl ?_
        refine g_ldK dH_settle_63 hh (by omega) ?_
        refine gN1 dH_settle_64 kH_settle_73 cS_calmsOf (Nat.le_of_ble_eq_true rfl) ?_
        refine g_isub dH_settle_67 ?_
        refine g_iconst (v := 0) dH_settle_68 (by decide) ?_
        refine g_max dH_settle_69 lH_128 (by decide) (Nat.le_of_ble_eq_true rfl) ?_
        refine g_stF dH_settle_72 hh (by omega) ?_
        refine g_iinc (v := nI (i + 1)) dH_settle_73 rfl (nI_succ i).symm (by decide) rfl rfl ?_
        dsimp only [List.set]
        refine g_goto dH_settle_76 rfl ?_
        refine g_w (w1 := hput h (ttF (i + 1) A) w) (by
            show hput h _ w = hput h (seS i (ttF i A)) w
            first | (rw [seS, if_pos h25]; rfl) | (rw [seS, if_neg h25]; rfl)) (ih (i + 1) (by omega) (by omega))
      · refine g_iconst (v := 0) dH_settle_28 (by decide) ?_
        refine g_goto dH_settle_29 rfl ?_
        refine g_stL dH_settle_46 hh (by omega) ?_
        refine g_aload_n dH_settle_47 rfl ?_
        refine g_getR2 (k2 := h + 3) dH_settle_48 fH_40 hh.o rfl (by decide) rfl ?_
        refine g_iload_n dH_settle_51 rfl ?_
        refine g_aload_n dH_settle_52 rfl ?_
        refine g_getR2 (k2 := h + 3) dH_settle_53 fH_40 hh.o rfl (by decide) rfl ?_
        refine g_iload_n dH_settle_56 rfl ?_
        refine g_ldF dH_settle_57 hh (by omega) ?_
        refine g_aload_n dH_settle_58 rfl ?_
        refine g_getR2 (k2 := h + 1) dH_settle_59 fH_33 hh.o rfl (by decide) rfl ?_
        refine g_iload_n dH_settle_62 rfl ?_
        refine g_ldK dH_settle_63 hh (by omega) ?_
        refine gN1 dH_settle_64 kH_settle_73 cS_calmsOf (Nat.le_of_ble_eq_true rfl) ?_
        refine g_isub dH_settle_67 ?_
        refine g_iconst (v := 0) dH_settle_68 (by decide) ?_
        refine g_max dH_settle_69 lH_128 (by decide) (Nat.le_of_ble_eq_true rfl) ?_
        refine g_stF dH_settle_72 hh (by omega) ?_
        refine g_iinc (v := nI (i + 1)) dH_settle_73 rfl (nI_succ i).symm (by decide) rfl rfl ?_
        dsimp only [List.set]
        refine g_goto dH_settle_76 rfl ?_
        refine g_w (w1 := hput h (ttF (i + 1) A) w) (by
            show hput h _ w = hput h (seS i (ttF i A)) w
            first | (rw [seS, if_pos h25]; rfl) | (rw [seS, if_neg h25]; rfl)) (ih (i + 1) (by omega) (by omega))

set_option maxRecDepth 4000 in
theorem cH_settle {l : Launch} {g : GG} {h : Nat} {w : Wd} {A : HA} (hh : isH h) {n : Nat} (hn : A.1 6 = nI n) (h8 : n ≤ 8)  : Res l g H_settle [.ref (g.1 h)] (hput h A w) (Is (none) (hput h (ttF n A) w)) := by
  refine Res.of (by decide) (by simp [Value.category]) (Nat.le_of_ble_eq_true rfl) rfl ?_
  show Go l g H_settle 0 [some (.ref (g.1 h)), none] [] (hput h A w) _
  refine g_iconst (v := 0) dH_settle_0 (by decide) ?_
  refine g_istore_n dH_settle_1 (by decide) rfl rfl ?_
  dsimp only [List.set]
  exact lH_settle hh hn h8 (n + 1) 0 (by omega) (by omega)

set_option maxRecDepth 4000 in
theorem cH_passHour {l : Launch} {g : GG} {h : Nat} {w : Wd} {A : HA} (hh : isH h) {n : Nat} (hn : A.1 6 = nI n) (h8 : n ≤ 8) {t : Int32} : Res l g H_passHour [.ref (g.1 h), .int t] (hput h A w) (Is (none) (hput h (hourF t n A) w)) := by
  refine Res.of (by decide) (by simp [Value.category]) (Nat.le_of_ble_eq_true rfl) rfl ?_
  show Go l g H_passHour 0 [some (.ref (g.1 h)), some (.int t)] [] (hput h A w) _
  refine g_aload_n dH_passHour_0 rfl ?_
  refine g_iload_n dH_passHour_1 rfl ?_
  refine gV1v dH_passHour_2 kH_passHour_103 hh.o rfl (cH_strayAll hh hn h8) (Nat.le_of_ble_eq_true rfl) ?_
  refine g_aload_n dH_passHour_5 rfl ?_
  refine gV0v dH_passHour_6 kH_passHour_106 hh.o rfl (cH_prowl hh (n := n) (by rw [stF_S]; exact hn) h8) (Nat.le_of_ble_eq_true rfl) ?_
  refine g_aload_n dH_passHour_9 rfl ?_
  refine gV0v dH_passHour_10 kH_passHour_109 hh.o rfl (cH_tend hh (n := n) (by rw [prF_6, stF_S]; exact hn) h8) (Nat.le_of_ble_eq_true rfl) ?_
  refine g_aload_n dH_passHour_13 rfl ?_
  refine gV0v dH_passHour_14 kH_passHour_112 hh.o rfl (cH_settle hh (n := n) (by rw [teF_6, prF_6, stF_S]; exact hn) h8) (Nat.le_of_ble_eq_true rfl) ?_
  refine g_aload_n dH_passHour_17 rfl ?_
  refine g_aload_n dH_passHour_18 rfl ?_
  refine g_hI dH_passHour_19 fH_27 hh rfl ?_
  refine g_iconst (v := 1) dH_passHour_22 (by decide) ?_
  refine g_iadd dH_passHour_23 ?_
  refine g_ldc dH_passHour_24 fH_115 ?_
  refine g_min dH_passHour_26 lH_116 (by decide) (Nat.le_of_ble_eq_true rfl) ?_
  refine g_hP dH_passHour_29 fH_27 hh rfl ?_
  refine g_vret dH_passHour_32 rfl ?_
  exact ⟨rfl, rfl⟩

set_option maxRecDepth 4000 in
theorem lH_passHours {l : Launch} {g : GG} {h : Nat} {w : Wd} {A : HA} (hh : isH h) {n : Nat} (hn : A.1 6 = nI n) (h8 : n ≤ 8) {k : Nat} (hk : k < 2 ^ 31) : ∀ (m : Nat) (i : Nat), k - i < m → i ≤ k → Go l g H_passHours 2 [some (.ref (g.1 h)), some (.int (nI k)), some (.int (nI i))] [] (hput h (hoursF 0 n i A) w) (Is none (hput h (hoursF 0 n k A) w)) := by
  intro m
  induction m with
  | zero => intro i hm hi; omega
  | succ m ih =>
    intro i hm hi
    refine g_iload_n dH_passHours_2 rfl ?_
    refine g_iload_n dH_passHours_3 rfl ?_
    refine g_icmp_ge dH_passHours_4 rfl (fun h4 => ?_) (fun h4 => ?_)
    · rw [nI_leI (by omega) (by omega)] at h4
      refine g_vret dH_passHours_18 rfl ?_
      exact ⟨rfl, by rw [show i = k by omega]⟩
    · rw [nI_leI (by omega) (by omega)] at h4
      refine g_aload_n dH_passHours_7 rfl ?_
      refine g_iconst (v := 0) dH_passHours_8 (by decide) ?_
      refine gV1v dH_passHours_9 kH_passHours_99 hh.o rfl (cH_passHour hh (n := n) (by rw [hoursF_6]; exact hn) h8) (Nat.le_of_ble_eq_true rfl) ?_
      refine g_iinc (v := nI (i + 1)) dH_passHours_12 rfl (nI_succ i).symm (by decide) rfl rfl ?_
      dsimp only [List.set]
      refine g_goto dH_passHours_15 rfl ?_
      exact ih (i + 1) (by omega) (by omega)

set_option maxRecDepth 4000 in
theorem cH_passHours {l : Launch} {g : GG} {h : Nat} {w : Wd} {A : HA} (hh : isH h) {n : Nat} (hn : A.1 6 = nI n) (h8 : n ≤ 8) {k : Nat} (hk : k < 2 ^ 31) : Res l g H_passHours [.ref (g.1 h), .int (nI k)] (hput h A w) (Is (none) (hput h (hoursF 0 n k A) w)) := by
  refine Res.of (by decide) (by simp [Value.category]) (Nat.le_of_ble_eq_true rfl) rfl ?_
  show Go l g H_passHours 0 [some (.ref (g.1 h)), some (.int (nI k)), none] [] (hput h A w) _
  refine g_iconst (v := 0) dH_passHours_0 (by decide) ?_
  refine g_istore_n dH_passHours_1 (by decide) rfl rfl ?_
  dsimp only [List.set]
  exact lH_passHours hh hn h8 hk (k + 1) 0 (by omega) (by omega)

set_option maxRecDepth 4000 in
theorem cH_trait {l : Launch} {g : GG} {h : Nat} {w : Wd} {A : HA} (hh : isH h) {n : Nat} (hn : A.1 6 = nI n) (h8 : n ≤ 8) {j : Nat} (hj : j < 8) {x : Int32} : Res l g H_trait [.ref (g.1 h), .int (nI j), .int x] (hput h A w) (Is (some (.int (traitF A n j x))) (hput h A w)) := by
  refine Res.of (by decide) (by simp [Value.category]) (Nat.le_of_ble_eq_true rfl) rfl ?_
  show Go l g H_trait 0 [some (.ref (g.1 h)), some (.int (nI j)), some (.int x)] [] (hput h A w) _
  refine g_iload_n dH_trait_0 rfl ?_
  refine g_split (0) (fun z0 => ?_) (fun z0 => ?_)
  · refine g_tabIn dH_trait_1 (by decide) (by decide) rfl rfl ?_
    refine g_aload_n dH_trait_52 rfl ?_
    refine g_getR2 (k2 := h + 1) dH_trait_53 fH_33 hh.o rfl (by decide) rfl ?_
    refine g_iload_n dH_trait_56 rfl ?_
    refine g_ldK dH_trait_57 hh (by omega) ?_
    refine g_iret dH_trait_58 rfl rfl ?_
    exact ⟨by simp_all [traitF], rfl⟩
  refine g_split (1) (fun z1 => ?_) (fun z1 => ?_)
  · refine g_tabIn dH_trait_1 (by decide) (by decide) rfl rfl ?_
    refine g_aload_n dH_trait_59 rfl ?_
    refine g_getR2 (k2 := h + 2) dH_trait_60 fH_37 hh.o rfl (by decide) rfl ?_
    refine g_iload_n dH_trait_63 rfl ?_
    refine g_ldC dH_trait_64 hh (by omega) ?_
    refine g_iret dH_trait_65 rfl rfl ?_
    exact ⟨by simp_all [traitF], rfl⟩
  refine g_split (2) (fun z2 => ?_) (fun z2 => ?_)
  · refine g_tabIn dH_trait_1 (by decide) (by decide) rfl rfl ?_
    refine g_aload_n dH_trait_66 rfl ?_
    refine g_getR2 (k2 := h + 3) dH_trait_67 fH_40 hh.o rfl (by decide) rfl ?_
    refine g_iload_n dH_trait_70 rfl ?_
    refine g_ldF dH_trait_71 hh (by omega) ?_
    refine g_iret dH_trait_72 rfl rfl ?_
    exact ⟨by simp_all [traitF], rfl⟩
  refine g_split (3) (fun z3 => ?_) (fun z3 => ?_)
  · refine g_tabIn dH_trait_1 (by decide) (by decide) rfl rfl ?_
    refine g_aload_n dH_trait_73 rfl ?_
    refine g_getR2 (k2 := h + 4) dH_trait_74 fH_43 hh.o rfl (by decide) rfl ?_
    refine g_iload_n dH_trait_77 rfl ?_
    refine g_ldL dH_trait_78 hh (by omega) ?_
    refine g_iret dH_trait_79 rfl rfl ?_
    exact ⟨by simp_all [traitF], rfl⟩
  refine g_split (4) (fun z4 => ?_) (fun z4 => ?_)
  · refine g_tabIn dH_trait_1 (by decide) (by decide) rfl rfl ?_
    refine g_aload_n dH_trait_80 rfl ?_
    refine g_getR2 (k2 := h + 5) dH_trait_81 fH_46 hh.o rfl (by decide) rfl ?_
    refine g_iload_n dH_trait_84 rfl ?_
    refine g_ldO dH_trait_85 hh (by omega) ?_
    refine g_iret dH_trait_86 rfl rfl ?_
    exact ⟨by simp_all [traitF], rfl⟩
  refine g_split (5) (fun z5 => ?_) (fun z5 => ?_)
  · refine g_tabIn dH_trait_1 (by decide) (by decide) rfl rfl ?_
    refine g_aload_n dH_trait_87 rfl ?_
    refine g_iload_n dH_trait_88 rfl ?_
    refine gV1 dH_trait_89 kH_trait_63 hh.o rfl (cH_farA hh hj) (Nat.le_of_ble_eq_true rfl) ?_
    refine g_iret dH_trait_92 rfl rfl ?_
    exact ⟨by simp_all [traitF], rfl⟩
  refine g_split (6) (fun z6 => ?_) (fun z6 => ?_)
  · refine g_tabIn dH_trait_1 (by decide) (by decide) rfl rfl ?_
    refine g_aload_n dH_trait_93 rfl ?_
    refine g_iload_n dH_trait_94 rfl ?_
    refine gV1 dH_trait_95 kH_trait_67 hh.o rfl (cH_strays hh hn h8 hj) (Nat.le_of_ble_eq_true rfl) ?_
    refine g_iret dH_trait_98 rfl rfl ?_
    exact ⟨by simp_all [traitF], rfl⟩
  refine g_split (7) (fun z7 => ?_) (fun z7 => ?_)
  · refine g_tabIn dH_trait_1 (by decide) (by decide) rfl rfl ?_
    refine g_aload_n dH_trait_99 rfl ?_
    refine g_getR2 (k2 := h + 1) dH_trait_100 fH_33 hh.o rfl (by decide) rfl ?_
    refine g_iload_n dH_trait_103 rfl ?_
    refine g_ldK dH_trait_104 hh (by omega) ?_
    refine gN1 dH_trait_105 kH_trait_70 cS_fearsOf (Nat.le_of_ble_eq_true rfl) ?_
    refine g_iret dH_trait_108 rfl rfl ?_
    exact ⟨by simp_all [traitF], rfl⟩
  refine g_split (8) (fun z8 => ?_) (fun z8 => ?_)
  · refine g_tabIn dH_trait_1 (by decide) (by decide) rfl rfl ?_
    refine g_aload_n dH_trait_109 rfl ?_
    refine g_getR2 (k2 := h + 1) dH_trait_110 fH_33 hh.o rfl (by decide) rfl ?_
    refine g_iload_n dH_trait_113 rfl ?_
    refine g_ldK dH_trait_114 hh (by omega) ?_
    refine gN1 dH_trait_115 kH_trait_73 cS_calmsOf (Nat.le_of_ble_eq_true rfl) ?_
    refine g_iret dH_trait_118 rfl rfl ?_
    exact ⟨by simp_all [traitF], rfl⟩
  refine g_tabOut dH_trait_1 (by have q0 := lv_neT z0 (a := 0) rfl; have q1 := lv_neT z1 (a := 1) rfl; have q2 := lv_neT z2 (a := 2) rfl; have q3 := lv_neT z3 (a := 3) rfl; have q4 := lv_neT z4 (a := 4) rfl; have q5 := lv_neT z5 (a := 5) rfl; have q6 := lv_neT z6 (a := 6) rfl; have q7 := lv_neT z7 (a := 7) rfl; have q8 := lv_neT z8 (a := 8) rfl; omega) rfl ?_
  refine g_aload_n dH_trait_119 rfl ?_
  refine g_getR2 (k2 := h + 1) dH_trait_120 fH_33 hh.o rfl (by decide) rfl ?_
  refine g_iload_n dH_trait_123 rfl ?_
  refine g_ldK dH_trait_124 hh (by omega) ?_
  refine gN1 dH_trait_125 kH_trait_76 cS_lightOf (Nat.le_of_ble_eq_true rfl) ?_
  refine g_iret dH_trait_128 rfl rfl ?_
  exact ⟨by simp_all [traitF], rfl⟩

set_option maxRecDepth 4000 in
theorem cH_add {l : Launch} {g : GG} {h : Nat} {w : Wd} {A : HA} (hh : isH h) {n : Nat} (hn : A.1 6 = nI n) (h8 : n ≤ 8) {k c : Int32} : Res l g H_add [.ref (g.1 h), .int k, .int c] (hput h A w) (Is (some (.int (if n = 8 then -1 else nI n))) (hput h (if n = 8 then A else addF n k c A) w)) := by
  refine Res.of (by decide) (by simp [Value.category]) (Nat.le_of_ble_eq_true rfl) rfl ?_
  show Go l g H_add 0 [some (.ref (g.1 h)), some (.int k), some (.int c), none] [] (hput h A w) _
  refine g_aload_n dH_add_0 rfl ?_
  refine gV0 dH_add_1 kH_add_55 hh.o rfl (cH_isFull hh) (Nat.le_of_ble_eq_true rfl) ?_
  refine g_if_eq dH_add_4 rfl (fun h4 => ?_) (fun h4 => ?_)
  · rw [bI_0, hn, show (8 : Int32) = nI 8 from rfl, nI_leI (by omega) (by omega)] at h4
    refine g_aload_n dH_add_9 rfl ?_
    refine g_hI dH_add_10 fH_30 hh rfl ?_
    refine g_top hn ?_
    refine g_istore_n dH_add_13 (by decide) rfl rfl ?_
    dsimp only [List.set]
    refine g_aload_n dH_add_14 rfl ?_
    refine g_getR2 (k2 := h + 1) dH_add_15 fH_33 hh.o rfl (by decide) rfl ?_
    refine g_iload_n dH_add_18 rfl ?_
    refine g_iload_n dH_add_19 rfl ?_
    refine g_stK dH_add_20 hh (by omega) ?_
    refine g_aload_n dH_add_21 rfl ?_
    refine g_getR2 (k2 := h + 2) dH_add_22 fH_37 hh.o rfl (by decide) rfl ?_
    refine g_iload_n dH_add_25 rfl ?_
    refine g_iload_n dH_add_26 rfl ?_
    refine g_stC dH_add_27 hh (by omega) ?_
    refine g_aload_n dH_add_28 rfl ?_
    refine g_getR2 (k2 := h + 3) dH_add_29 fH_40 hh.o rfl (by decide) rfl ?_
    refine g_iload_n dH_add_32 rfl ?_
    refine g_iconst (v := 0) dH_add_33 (by decide) ?_
    refine g_stF dH_add_34 hh (by omega) ?_
    refine g_aload_n dH_add_35 rfl ?_
    refine g_getR2 (k2 := h + 4) dH_add_36 fH_43 hh.o rfl (by decide) rfl ?_
    refine g_iload_n dH_add_39 rfl ?_
    refine g_iconst (v := 0) dH_add_40 (by decide) ?_
    refine g_stL dH_add_41 hh (by omega) ?_
    refine g_aload_n dH_add_42 rfl ?_
    refine g_getR2 (k2 := h + 5) dH_add_43 fH_46 hh.o rfl (by decide) rfl ?_
    refine g_iload_n dH_add_46 rfl ?_
    refine g_iconst (v := 0) dH_add_47 (by decide) ?_
    refine g_stO dH_add_48 hh (by omega) ?_
    refine g_aload_n dH_add_49 rfl ?_
    refine g_iload_n dH_add_50 rfl ?_
    refine g_iconst (v := 1) dH_add_51 (by decide) ?_
    refine g_iadd dH_add_52 ?_
    refine g_hP dH_add_53 fH_30 hh rfl ?_
    refine g_iload_n dH_add_56 rfl ?_
    refine g_iret dH_add_57 rfl rfl ?_
    exact ⟨by rw [if_neg (by omega)], by rw [if_neg (by omega), addF, nI_succ]⟩
  · rw [bI_0, hn, show (8 : Int32) = nI 8 from rfl, nI_leI (by omega) (by omega)] at h4
    refine g_iconst (v := (-1)) dH_add_7 (by decide) ?_
    refine g_iret dH_add_8 rfl rfl ?_
    exact ⟨by rw [if_pos (by omega)], by rw [if_pos (by omega)]⟩

set_option maxRecDepth 4000 in
theorem cH_become {l : Launch} {g : GG} {h h2 : Nat} {w : Wd} (hh : isH h) (hh2 : isH h2) (hne : h2 + 6 ≤ h ∨ h + 6 ≤ h2) : Res l g H_become [.ref (g.1 h), .ref (g.1 h2)] w (Is none (hput h (hget w h2) w)) := by
  refine Res.of (by decide) (by simp [Value.category]) (Nat.le_of_ble_eq_true rfl) rfl ?_
  show Go l g H_become 0 [some (.ref (g.1 h)), some (.ref (g.1 h2))] [] w _
  refine g_w (hput_hget h w).symm ?_
  refine g_aload_n dH_become_0 rfl ?_
  refine g_aload_n dH_become_1 rfl ?_
  refine g_getI dH_become_2 fH_9 hh2.o rfl ?_
  rw [hput_out _ w (by omega)]
  refine g_hP dH_become_5 fH_9 hh rfl ?_
  refine g_aload_n dH_become_8 rfl ?_
  refine g_aload_n dH_become_9 rfl ?_
  refine g_getI dH_become_10 fH_15 hh2.o rfl ?_
  rw [hput_out _ w (by omega)]
  refine g_hP dH_become_13 fH_15 hh rfl ?_
  refine g_aload_n dH_become_16 rfl ?_
  refine g_aload_n dH_become_17 rfl ?_
  refine g_getI dH_become_18 fH_18 hh2.o rfl ?_
  rw [hput_out _ w (by omega)]
  refine g_hP dH_become_21 fH_18 hh rfl ?_
  refine g_aload_n dH_become_24 rfl ?_
  refine g_aload_n dH_become_25 rfl ?_
  refine g_getI dH_become_26 fH_21 hh2.o rfl ?_
  rw [hput_out _ w (by omega)]
  refine g_hP dH_become_29 fH_21 hh rfl ?_
  refine g_aload_n dH_become_32 rfl ?_
  refine g_aload_n dH_become_33 rfl ?_
  refine g_getI dH_become_34 fH_24 hh2.o rfl ?_
  rw [hput_out _ w (by omega)]
  refine g_hP dH_become_37 fH_24 hh rfl ?_
  refine g_aload_n dH_become_40 rfl ?_
  refine g_aload_n dH_become_41 rfl ?_
  refine g_getI dH_become_42 fH_27 hh2.o rfl ?_
  rw [hput_out _ w (by omega)]
  refine g_hP dH_become_45 fH_27 hh rfl ?_
  refine g_aload_n dH_become_48 rfl ?_
  refine g_aload_n dH_become_49 rfl ?_
  refine g_getI dH_become_50 fH_30 hh2.o rfl ?_
  rw [hput_out _ w (by omega)]
  refine g_hP dH_become_53 fH_30 hh rfl ?_
  refine g_aload_n dH_become_56 rfl ?_
  refine g_getR2 (k2 := (h2 + 1)) dH_become_57 fH_33 hh2.o rfl (by decide) rfl ?_
  refine g_iconst (v := 0) dH_become_60 (by decide) ?_
  refine g_aload_n dH_become_61 rfl ?_
  refine g_getR2 (k2 := h + 1) dH_become_62 fH_33 hh.o rfl (by decide) rfl ?_
  refine g_iconst (v := 0) dH_become_65 (by decide) ?_
  refine g_bipush (v := 8) dH_become_66 (by decide) ?_
  refine g_acopy (sp := 0) (dp := 0) (len := 8) (k0 := h2 + 1) (k1 := h + 1) dH_become_68 lH_49 ac_nat ac_st ini_sys (hh2.a (by decide) (by decide)) (hh.a (by decide) (by decide)) (by decide) (by decide) (by decide) (by decide) (by decide) (Nat.le_of_ble_eq_true rfl) ?_
  refine g_w (hcpK hne) ?_
  refine g_aload_n dH_become_71 rfl ?_
  refine g_getR2 (k2 := (h2 + 2)) dH_become_72 fH_37 hh2.o rfl (by decide) rfl ?_
  refine g_iconst (v := 0) dH_become_75 (by decide) ?_
  refine g_aload_n dH_become_76 rfl ?_
  refine g_getR2 (k2 := h + 2) dH_become_77 fH_37 hh.o rfl (by decide) rfl ?_
  refine g_iconst (v := 0) dH_become_80 (by decide) ?_
  refine g_bipush (v := 8) dH_become_81 (by decide) ?_
  refine g_acopy (sp := 0) (dp := 0) (len := 8) (k0 := h2 + 2) (k1 := h + 2) dH_become_83 lH_49 ac_nat ac_st ini_sys (hh2.a (by decide) (by decide)) (hh.a (by decide) (by decide)) (by decide) (by decide) (by decide) (by decide) (by decide) (Nat.le_of_ble_eq_true rfl) ?_
  refine g_w (hcpC hne) ?_
  refine g_aload_n dH_become_86 rfl ?_
  refine g_getR2 (k2 := (h2 + 3)) dH_become_87 fH_40 hh2.o rfl (by decide) rfl ?_
  refine g_iconst (v := 0) dH_become_90 (by decide) ?_
  refine g_aload_n dH_become_91 rfl ?_
  refine g_getR2 (k2 := h + 3) dH_become_92 fH_40 hh.o rfl (by decide) rfl ?_
  refine g_iconst (v := 0) dH_become_95 (by decide) ?_
  refine g_bipush (v := 8) dH_become_96 (by decide) ?_
  refine g_acopy (sp := 0) (dp := 0) (len := 8) (k0 := h2 + 3) (k1 := h + 3) dH_become_98 lH_49 ac_nat ac_st ini_sys (hh2.a (by decide) (by decide)) (hh.a (by decide) (by decide)) (by decide) (by decide) (by decide) (by decide) (by decide) (Nat.le_of_ble_eq_true rfl) ?_
  refine g_w (hcpF hne) ?_
  refine g_aload_n dH_become_101 rfl ?_
  refine g_getR2 (k2 := (h2 + 4)) dH_become_102 fH_43 hh2.o rfl (by decide) rfl ?_
  refine g_iconst (v := 0) dH_become_105 (by decide) ?_
  refine g_aload_n dH_become_106 rfl ?_
  refine g_getR2 (k2 := h + 4) dH_become_107 fH_43 hh.o rfl (by decide) rfl ?_
  refine g_iconst (v := 0) dH_become_110 (by decide) ?_
  refine g_bipush (v := 8) dH_become_111 (by decide) ?_
  refine g_acopy (sp := 0) (dp := 0) (len := 8) (k0 := h2 + 4) (k1 := h + 4) dH_become_113 lH_49 ac_nat ac_st ini_sys (hh2.a (by decide) (by decide)) (hh.a (by decide) (by decide)) (by decide) (by decide) (by decide) (by decide) (by decide) (Nat.le_of_ble_eq_true rfl) ?_
  refine g_w (hcpL hne) ?_
  refine g_aload_n dH_become_116 rfl ?_
  refine g_getR2 (k2 := (h2 + 5)) dH_become_117 fH_46 hh2.o rfl (by decide) rfl ?_
  refine g_iconst (v := 0) dH_become_120 (by decide) ?_
  refine g_aload_n dH_become_121 rfl ?_
  refine g_getR2 (k2 := h + 5) dH_become_122 fH_46 hh.o rfl (by decide) rfl ?_
  refine g_iconst (v := 0) dH_become_125 (by decide) ?_
  refine g_bipush (v := 8) dH_become_126 (by decide) ?_
  refine g_acopy (sp := 0) (dp := 0) (len := 8) (k0 := h2 + 5) (k1 := h + 5) dH_become_128 lH_49 ac_nat ac_st ini_sys (hh2.a (by decide) (by decide)) (hh.a (by decide) (by decide)) (by decide) (by decide) (by decide) (by decide) (by decide) (Nat.le_of_ble_eq_true rfl) ?_
  refine g_w (hcpO hne) ?_
  refine g_agree (w1 := hput h (hget w h2) w) (fun k j hv => hbec hh hv) ?_
  refine g_vret dH_become_131 rfl ?_
  exact ⟨rfl, rfl⟩
