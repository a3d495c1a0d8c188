/-! what holds of a world between two calls, and that every call keeps it -/
def IVW (b : Nat) (S : Wd) : Prop := (∃ n, IVA n b (hget S 1) ∧ spOK n (S 19)) ∧ (S 0 3 ≠ 0 → ∃ n, IVA n b (hget S 13) ∧ spOK n (S 20)) ∧ (∀ q, q < 4 → ∃ z, z ≤ 40 ∧ S (24 + 2 * q) 1 = nI z) ∧ (∃ t, t ≤ 120 ∧ S 21 1 = nI t) ∧ (∀ i, i < 120 → 0 ≤ S 22 i)
theorem spOK.mono {n n' : Nat} {f : Nat → Int32} (h : spOK n f) (hn : n ≤ n') : spOK n' f := fun i hi => (h i hi).elim Or.inl (fun ⟨c, hc, e⟩ => Or.inr ⟨c, by omega, e⟩)
theorem IVW.up {b b2 : Nat} {S : Wd} (h : IVW b S) (hb : b ≤ b2) (h2 : b2 < 2 ^ 31) : IVW b2 S := by
  obtain ⟨⟨n, h1, h1'⟩, hk, hz, ht, hb'⟩ := h
  exact ⟨⟨n, h1.up hb h2, h1'⟩, fun e => by obtain ⟨n2, h3, h4⟩ := hk e; exact ⟨n2, h3.up hb h2, h4⟩, hz, ht, hb'⟩
def GOOD (b : Nat) (S : Wd) (p : Wd) : Prop := IVW b p ∧ ∀ k, 33 ≤ k → p k = S k
section GD
variable {b b2 : Nat} {S : Wd}
theorem G_up {p : Wd} (h : GOOD b S p) (hb : b ≤ b2) (h2 : b2 < 2 ^ 31) : GOOD b2 S p := ⟨h.1.up hb h2, h.2⟩
theorem G_same (h : IVW b S) : GOOD b S S := ⟨h, fun _ _ => rfl⟩
theorem G_fcl (h : IVW b S) (q : Nat) : GOOD b S (fcl q S) := by
  have hg : ∀ a, a ≤ 13 → hget (fcl q S) a = hget S a := fun a ha => by
    unfold hget
    rw [fcl_o S (by omega), fcl_o S (by omega), fcl_o S (by omega), fcl_o S (by omega), fcl_o S (by omega), fcl_o S (by omega)]
  refine ⟨⟨?_, fun e => ?_, fun q2 hq => ?_, ?_, fun i hi => ?_⟩, fun k hk => fcl_o S (by omega)⟩
  · rw [hg 1 (by decide), fcl_o S (by decide)]; exact h.1
  · rw [fcl_o S (by decide)] at e
    rw [hg 13 (by decide), fcl_o S (by decide)]; exact h.2.1 e
  · rw [fcl_o S (by omega)]; exact h.2.2.1 q2 hq
  · rw [fcl_o S (by decide)]; exact h.2.2.2.1
  · rw [fcl_o S (by decide)]; exact h.2.2.2.2 i hi
theorem G_hput (h : IVW b S) (hb : b ≤ b2) (h2 : b2 < 2 ^ 31) {n' : Nat} {A : HA} (hA : IVA n' b2 A) (hs : spOK n' (S 19)) : GOOD b2 S (hput 1 A S) := by
  have o : ∀ k, k = 0 ∨ 7 ≤ k → hput 1 A S k = S k := fun k hk => hput_out A S (by omega)
  have h3 := h.up hb h2
  refine ⟨⟨⟨n', by rw [hget_hput]; exact hA, by rw [o 19 (by decide)]; exact hs⟩, fun e => ?_, fun q2 hq => ?_, ?_, fun i hi => ?_⟩, fun k hk => o k (by omega)⟩
  · rw [o 0 (by decide)] at e
    rw [hget_out _ _ (by decide), o 20 (by decide)]; exact h3.2.1 e
  · rw [o _ (by omega)]; exact h3.2.2.1 q2 hq
  · rw [o 21 (by decide)]; exact h3.2.2.2.1
  · rw [o 22 (by decide)]; exact h3.2.2.2.2 i hi
theorem G_up1 (h : IVW b S) {k j : Nat} {v : Int32} (hk : k ≠ 22) (hk2 : k < 33) (h1 : k = 0 ∨ 19 ≤ k) (h03 : k = 0 → j ≠ 3 ∨ v = 0) (h19 : k ≠ 19) (h20 : k ≠ 20) (h24 : ∀ q, q < 4 → k ≠ 24 + 2 * q) (h21 : k = 21 → j = 1 → ∃ t, t ≤ 120 ∧ v = nI t) : GOOD b S (up S k j v) := by
  have o : ∀ i, i ≠ k → up S k j v i = S i := fun i hi => up_other _ _ _ _ hi
  refine ⟨⟨?_, fun e => ?_, fun q2 hq => ?_, ?_, fun i hi => ?_⟩, fun i hi => o i (by omega)⟩
  · rw [hget_u (by omega), o 19 (by omega)]; exact h.1
  · rw [hget_u (by omega), o 20 (by omega)]
    refine h.2.1 (fun e2 => e ?_)
    by_cases hz : k = 0
    · subst hz
      rw [up_same]
      unfold upd
      split
      · rename_i hj
        exact (h03 rfl).resolve_left (fun hh => hh hj.symm)
      · exact e2
    · rw [o 0 (by omega)]; exact e2
  · rw [o _ (fun hh => h24 q2 hq hh.symm)]; exact h.2.2.1 q2 hq
  · by_cases hz : k = 21
    · subst hz
      rw [up_same]
      by_cases hj : j = 1
      · subst hj
        obtain ⟨t, ht, e⟩ := h21 rfl rfl
        exact ⟨t, ht, (if_pos rfl).trans e⟩
      · obtain ⟨t, ht, e⟩ := h.2.2.2.1
        exact ⟨t, ht, (if_neg (fun hh => hj hh.symm)).trans e⟩
    · rw [o 21 (by omega)]; exact h.2.2.2.1
  · rw [o 22 (by omega)]; exact h.2.2.2.2 i hi
theorem G_tr {p q : Wd} (h1 : GOOD b S p) (h2 : GOOD b2 p q) : GOOD b2 S q := ⟨h2.1, fun k hk => (h2.2 k hk).trans (h1.2 k hk)⟩
theorem IVW.n1 (h : IVW b S) : ∃ n, IVA n b (hget S 1) ∧ spOK n (S 19) := h.1
variable {n : Nat}
theorem gd_set (h : IVW b S) (hI : IVA n b (hget S 1)) (hs : spOK n (S 19)) (h2 : b < 2 ^ 31) {x v : Int32} : GOOD b S (setC x v S).2 := by
  unfold setC
  split
  · rename_i hc
    refine G_hput h (Nat.le_refl _) h2 (n' := n) ?_ hs
    unfold setA
    rcases hc with ⟨h1, hv⟩ | ⟨h1, hv⟩ | ⟨h1, hv⟩
    · rcases h1 with h1 | h1
      · rw [if_pos h1]; exact hI.s0 hv
      · rw [if_neg (by rw [h1]; decide), if_pos h1]; exact mk_IV hI hv
    · rw [if_neg (by rw [h1]; decide), if_neg (by rw [h1]; decide), if_pos h1]
      exact hI.s3 (hv.elim in15 (fun e => by rw [e]; decide))
    · rw [if_neg (by rw [h1]; decide), if_neg (by rw [h1]; decide), if_neg (by rw [h1]; decide)]; exact hI.s4 hv
  · exact G_fcl h 0
theorem gd_sheep (h : IVW b S) (hI : IVA n b (hget S 1)) (hs : spOK n (S 19)) (h2 : b < 2 ^ 31) {k c : Int32} : GOOD b S (sheepC n k c S).2 := by
  unfold sheepC
  split
  · rename_i hc
    split
    · exact G_fcl h 1
    · have h8 := hI.n8
      exact G_hput h (Nat.le_refl _) h2 (hI.add (by omega) hc.1 hc.2) (hs.mono (by omega))
  · exact G_fcl h 0
theorem gd_change (h : IVW b S) (hI : IVA n b (hget S 1)) (hs : spOK n (S 19)) (h2 : b < 2 ^ 31) {s x v : Int32} : GOOD b S (changeC n s x v S).2 := by
  unfold changeC
  split
  · rename_i hc
    split
    · exact G_fcl h 4
    · refine G_hput h (Nat.le_refl _) h2 (n' := n) ?_ hs
      unfold chA
      rcases hc.2 with ⟨h1, hv⟩ | ⟨h1, hv⟩ | ⟨h1, hv⟩ | ⟨h1, hv⟩
      · rw [if_pos h1]; exact hI.K hv
      · rw [if_neg (by rw [h1]; decide), if_pos h1]; exact hI.C hv
      · rw [if_neg (by rw [h1]; decide), if_neg (by rw [h1]; decide), if_pos h1]; exact hI.F hv
      · rcases h1 with h1 | h1
        · rw [if_neg (by rw [h1]; decide), if_neg (by rw [h1]; decide), if_neg (by rw [h1]; decide), if_pos h1]; exact hI.L hv
        · rw [if_neg (by rw [h1]; decide), if_neg (by rw [h1]; decide), if_neg (by rw [h1]; decide), if_neg (by rw [h1]; decide)]; exact hI.O hv
  · exact G_fcl h 0
theorem gd_drop (h : IVW b S) (hI : IVA n b (hget S 1)) (hs : spOK n (S 19)) (h2 : b < 2 ^ 31) : GOOD b S (dropC S).2 := by
  unfold dropC
  split
  · exact G_fcl h 3
  · exact G_hput h (Nat.le_refl _) h2 (hI.s2 (Or.inl rfl)) hs
theorem gd_go (h : IVW b S) (hI : IVA n b (hget S 1)) (hs : spOK n (S 19)) (h2 : b + 60 ≤ 99999) {k : Int32} : GOOD (b + 60) S (goC n k S).2 := by
  unfold goC
  split
  · rename_i hk
    split
    · obtain ⟨i, hi, e⟩ := nI_of2 (x := k) (M := 60) (n := 60) rfl (Int32.not_lt.mpr (Int32.le_trans (by decide) hk.1)) hk.2
      rw [e, nI_clamp (by omega)]
      exact G_hput h (by omega) (by omega) ((hours_IV hI i (by omega)).up (by omega) (by omega)) hs
    · exact G_up (G_fcl h 4) (by omega) (by omega)
  · exact G_up (G_fcl h 0) (by omega) (by omega)
theorem gd_nights (h : IVW b S) (hI : IVA n b (hget S 1)) (hs : spOK n (S 19)) (h2 : b + 60 ≤ 99999) {k : Int32} : GOOD (b + 60) S (nightsC n k S).2 := by
  unfold nightsC
  split
  · rename_i hk
    split
    · obtain ⟨i, hi, e⟩ := nI_of2 (x := k) (M := 20) (n := 20) rfl (Int32.not_lt.mpr (Int32.le_trans (by decide) hk.1)) hk.2
      rw [e, nI_clamp (by omega)]
      have h1 := G_hput h (b2 := b + 60) (by omega) (by omega) ((nights_IV hI (S 0 6) i (by omega)).up (by omega) (by omega)) hs
      exact G_tr h1 (G_up1 h1.1 (by decide) (by decide) (by decide) (fun _ => Or.inl (by decide)) (by decide) (by decide) (fun q hq => by omega) (fun hh => absurd hh (by decide)))
    · exact G_up (G_fcl h 4) (by omega) (by omega)
  · exact G_up (G_fcl h 0) (by omega) (by omega)
theorem gd_seed (h : IVW b S) {v : Int32} : GOOD b S (seedC v S).2 := G_up1 h (by decide) (by decide) (by decide) (fun _ => Or.inl (by decide)) (by decide) (by decide) (fun q hq => by omega) (fun hh => absurd hh (by decide))
theorem gd_wipe (h : IVW b S) : GOOD b S (wipeC S).2 := G_up1 h (by decide) (by decide) (by decide) (fun _ => Or.inr rfl) (by decide) (by decide) (fun q hq => by omega) (fun _ _ => ⟨0, by omega, rfl⟩)
theorem gd_tear (h : IVW b S) : GOOD b S (tearC S).2 := G_up1 h (by decide) (by decide) (by decide) (fun _ => Or.inr rfl) (by decide) (by decide) (fun q hq => by omega) (fun hh => absurd hh (by decide))
theorem gd_write (h : IVW b S) {s i v : Int32} : GOOD b S (writeC s i v S).2 := by
  unfold writeC
  split
  · rename_i hs
    split
    · exact G_fcl h 5
    · split
      · obtain ⟨q, hq, e⟩ := sh_q hs
        rw [e, nI_clamp (by omega)]
        exact G_up1 h (by omega) (by omega) (by omega) (fun hh => by omega) (by omega) (by omega) (fun q2 hq2 => by omega) (fun hh => by omega)
      · exact G_fcl h 0
  · exact G_fcl h 0
theorem G_upR (h : IVW b S) {q : Nat} (hq : q < 4) {f : Nat → Int32} : GOOD b S (upR S (24 + 2 * q + 1) f) := by
  have o : ∀ i, i ≠ 24 + 2 * q + 1 → upR S (24 + 2 * q + 1) f i = S i := fun i hi => upR_other _ _ _ hi
  have hg : ∀ a, a ≤ 13 → hget (upR S (24 + 2 * q + 1) f) a = hget S a := fun a ha => by
    unfold hget
    rw [o _ (by omega), o _ (by omega), o _ (by omega), o _ (by omega), o _ (by omega), o _ (by omega)]
  refine ⟨⟨?_, fun e => ?_, fun q2 hq => ?_, ?_, fun i hi => ?_⟩, fun i hi => o i (by omega)⟩
  · rw [hg 1 (by decide), o 19 (by omega)]; exact h.1
  · rw [o 0 (by omega)] at e
    rw [hg 13 (by decide), o 20 (by omega)]; exact h.2.1 e
  · rw [o _ (by omega)]; exact h.2.2.1 q2 hq
  · rw [o 21 (by omega)]; exact h.2.2.2.1
  · rw [o 22 (by omega)]; exact h.2.2.2.2 i hi
theorem gd_copy (h : IVW b S) {s f t d n : Int32} : GOOD b S (copyC s f t d n S).2 := by
  unfold copyC
  split
  · rename_i hs
    split
    · exact G_fcl h 5
    · split
      · split
        · obtain ⟨q, hq, e⟩ := sh_q hs.2
          rw [e, nI_clamp (by omega)]
          exact G_upR h hq
        · exact G_fcl h 0
      · exact G_fcl h 2
  · exact G_fcl h 0
theorem gd_sheet (h : IVW b S) {s bb n : Int32} : GOOD b S (sheetC s bb n S).2 := by
  unfold sheetC
  split
  · rename_i hs
    split
    · exact G_fcl h 6
    · rename_i hn
      split
      · rename_i hn2
        obtain ⟨q, hq, e⟩ := sh_q hs.1
        rw [e, nI_clamp (by omega)]
        have oS : ∀ k, k ≠ 24 + 2 * q → k ≠ 24 + 2 * q + 1 → shW q bb n S k = S k := fun k hk hk2 => by unfold shW; rw [upR_other _ _ _ hk2, up_other _ _ _ _ hk, up_other _ _ _ _ hk]
        have hg : ∀ a, a ≤ 13 → hget (shW q bb n S) a = hget S a := fun a ha => by
          unfold hget
          rw [oS _ (by omega) (by omega), oS _ (by omega) (by omega), oS _ (by omega) (by omega), oS _ (by omega) (by omega), oS _ (by omega) (by omega), oS _ (by omega) (by omega)]
        refine ⟨⟨?_, fun e => ?_, fun q2 hq2 => ?_, ?_, fun i hi => ?_⟩, fun i hi => oS i (by omega) (by omega)⟩
        · show ∃ n2, IVA n2 b (hget (shW q bb n S) 1) ∧ spOK n2 (shW q bb n S 19)
          rw [hg 1 (by decide), oS 19 (by omega) (by omega)]; exact h.1
        · have e : shW q bb n S 0 3 ≠ 0 := e
          rw [oS 0 (by omega) (by omega)] at e
          show ∃ n2, IVA n2 b (hget (shW q bb n S) 13) ∧ spOK n2 (shW q bb n S 20)
          rw [hg 13 (by decide), oS 20 (by omega) (by omega)]; exact h.2.1 e
        · show ∃ z, z ≤ 40 ∧ shW q bb n S (24 + 2 * q2) 1 = nI z
          by_cases e2 : q2 = q
          · subst e2
            have e3 : shW q2 bb n S (24 + 2 * q2) 1 = if bb = 0 then 0 else n := by
              unfold shW
              rw [upR_other _ _ _ (by omega), up_same, up_same]; exact if_pos rfl
            rw [e3]
            split
            · exact ⟨0, by omega, rfl⟩
            · exact nI_of2 (x := n) (M := 40) (n := 40) rfl hn hn2
          · rw [oS _ (by omega) (by omega)]; exact h.2.2.1 q2 hq2
        · show ∃ t, t ≤ 120 ∧ shW q bb n S 21 1 = nI t
          rw [oS 21 (by omega) (by omega)]; exact h.2.2.2.1
        · show 0 ≤ shW q bb n S 22 i
          rw [oS 22 (by omega) (by omega)]; exact h.2.2.2.2 i hi
      · exact G_fcl h 0
  · exact G_fcl h 0
theorem load_IV {f : Nat → Int32} {z n b : Nat} : ∀ m i A, IVA n b A → IVA n b (loadF f z n m i A).2
  | 0, _, _, h => h
  | m + 1, i, A, h => by
    unfold loadF
    split
    · rename_i hc
      exact load_IV m (i + 1) _ (h.F hc.2.2)
    · exact h
theorem gd_load (h : IVW b S) (hI : IVA n b (hget S 1)) (hs : spOK n (S 19)) (h2 : b < 2 ^ 31) {s : Int32} : GOOD b S (loadC n s S).2 := by
  unfold loadC
  split
  · split
    · exact G_fcl h 5
    · exact G_hput h (Nat.le_refl _) h2 (load_IV _ _ _ hI) hs
  · exact G_fcl h 0
theorem gd_hold (h : IVW b S) (hI : IVA n b (hget S 1)) (hs : spOK n (S 19)) {s v : Int32} : GOOD b S (holdC s v S).2 := by
  unfold holdC
  split
  · rename_i hc
    obtain ⟨i0, hi0, e⟩ := nI_of2 (x := s) (M := 9) (n := 9) rfl (Int32.not_lt.mpr hc.1.1) hc.1.2
    rw [e, nI_clamp (by omega)]
    have o : ∀ k, k ≠ 19 → up S 19 i0 v k = S k := fun k hk => up_other _ _ _ _ hk
    refine ⟨⟨⟨n, ?_, ?_⟩, fun e => ?_, fun q2 hq => ?_, ?_, fun i hi => ?_⟩, fun k hk => o k (by omega)⟩
    · show IVA n b (hget (up S 19 i0 v) 1)
      rw [hget_u (by decide)]; exact hI
    · show spOK n (up S 19 i0 v 19)
      rw [up_same]
      intro j hj
      unfold upd
      split
      · rcases hc.2 with e2 | e2
        · exact Or.inl e2
        · exact Or.inr (by
            have h6 : S 1 6 = nI n := hI.n6
            obtain ⟨c, hcn, e3⟩ := hasN e2.1 (show v < nI n from h6 ▸ e2.2) (by have := hI.n8; omega)
            exact ⟨c, hcn, e3⟩)
      · exact hs j hj
    · have e : up S 19 i0 v 0 3 ≠ 0 := e
      rw [o 0 (by decide)] at e
      show ∃ n2, IVA n2 b (hget (up S 19 i0 v) 13) ∧ spOK n2 (up S 19 i0 v 20)
      rw [hget_u (by decide), o 20 (by decide)]; exact h.2.1 e
    · show ∃ z, z ≤ 40 ∧ up S 19 i0 v (24 + 2 * q2) 1 = nI z
      rw [o _ (by omega)]; exact h.2.2.1 q2 hq
    · show ∃ t, t ≤ 120 ∧ up S 19 i0 v 21 1 = nI t
      rw [o 21 (by decide)]; exact h.2.2.2.1
    · show 0 ≤ up S 19 i0 v 22 i
      rw [o 22 (by decide)]; exact h.2.2.2.2 i hi
  · exact G_fcl h 0
theorem gd_image (h : IVW b S) : GOOD b S (imageC S).2 := by
  show GOOD b S (imW S)
  have oS : ∀ k, k ≠ 0 → (k < 13 ∨ 19 ≤ k) → k ≠ 20 → (imW S) k = S k := fun k h0 h1 h2 => by
    unfold imW
    rw [up_other _ _ _ _ h0, up_other _ _ _ _ h0, upR_other _ _ _ h2, hput_out _ _ (by omega)]
  have o13 : hget (imW S) 13 = hget S 1 := by
    unfold imW
    rw [hget_u (by decide), hget_u (by decide)]
    have : hget (upR (hput 13 (hget S 1) S) 20 (S 19)) 13 = hget (hput 13 (hget S 1) S) 13 := by
      unfold hget
      rw [upR_other _ _ _ (by decide), upR_other _ _ _ (by decide), upR_other _ _ _ (by decide), upR_other _ _ _ (by decide), upR_other _ _ _ (by decide), upR_other _ _ _ (by decide)]
    rw [this, hget_hput]
  have o1 : hget (imW S) 1 = hget S 1 := by
    unfold hget
    rw [oS 1 (by decide) (by decide) (by decide), oS 2 (by decide) (by decide) (by decide), oS 3 (by decide) (by decide) (by decide), oS 4 (by decide) (by decide) (by decide), oS 5 (by decide) (by decide) (by decide), oS 6 (by decide) (by decide) (by decide)]
  have s20 : (imW S) 20 = S 19 := by
    unfold imW
    rw [up_other _ _ _ _ (by decide), up_other _ _ _ _ (by decide), upR_same]
  refine ⟨⟨?_, fun _ => ?_, fun q2 hq => ?_, ?_, fun i hi => ?_⟩, fun k hk => oS k (by omega) (by omega) (by omega)⟩
  · rw [o1, oS 19 (by decide) (by decide) (by decide)]; exact h.1
  · rw [o13, s20]; exact h.1
  · rw [oS _ (by omega) (by omega) (by omega)]; exact h.2.2.1 q2 hq
  · rw [oS 21 (by decide) (by decide) (by decide)]; exact h.2.2.2.1
  · rw [oS 22 (by decide) (by decide) (by decide)]; exact h.2.2.2.2 i hi
theorem gd_undo (h : IVW b S) : GOOD b S (undoC S).2 := by
  unfold undoC
  split
  · exact G_fcl h 3
  · rename_i hk3
    show GOOD b S (up (upR (hput 1 (hget S 13) S) 19 (S 20)) 0 6 (S 0 7))
    generalize eS : up (upR (hput 1 (hget S 13) S) 19 (S 20)) 0 6 (S 0 7) = S2
    have oS : ∀ k, k ≠ 0 → 7 ≤ k → k ≠ 19 → S2 k = S k := fun k h0 h1 h2 => by
      rw [← eS, up_other _ _ _ _ h0, upR_other _ _ _ h2, hput_out _ _ (by omega)]
    have o1 : hget S2 1 = hget S 13 := by
      rw [← eS, hget_u (by decide)]
      have : hget (upR (hput 1 (hget S 13) S) 19 (S 20)) 1 = hget (hput 1 (hget S 13) S) 1 := by
        unfold hget
        rw [upR_other _ _ _ (by decide), upR_other _ _ _ (by decide), upR_other _ _ _ (by decide), upR_other _ _ _ (by decide), upR_other _ _ _ (by decide), upR_other _ _ _ (by decide)]
      rw [this, hget_hput]
    have o13 : hget S2 13 = hget S 13 := by
      unfold hget
      rw [oS 13 (by decide) (by decide) (by decide), oS 14 (by decide) (by decide) (by decide), oS 15 (by decide) (by decide) (by decide), oS 16 (by decide) (by decide) (by decide), oS 17 (by decide) (by decide) (by decide), oS 18 (by decide) (by decide) (by decide)]
    have s19 : S2 19 = S 20 := by rw [← eS, up_other _ _ _ _ (by decide), upR_same]
    refine ⟨⟨?_, fun _ => ?_, fun q2 hq => ?_, ?_, fun i hi => ?_⟩, fun k hk => oS k (by omega) (by omega) (by omega)⟩
    · rw [o1, s19]; exact h.2.1 hk3
    · rw [o13, oS 20 (by decide) (by decide) (by decide)]; exact h.2.1 hk3
    · rw [oS _ (by omega) (by omega) (by omega)]; exact h.2.2.1 q2 hq
    · rw [oS 21 (by decide) (by decide) (by decide)]; exact h.2.2.2.1
    · rw [oS 22 (by decide) (by decide) (by decide)]; exact h.2.2.2.2 i hi
theorem by_pos (x : Int32) {m : Nat} (hm : m < 4) : 0 ≤ byF x m := by
  have h : byF x m = nI ((byF x m).toBitVec.toNat) := by
    apply Int32.toBitVec_inj.mp
    simp [nI]
  have hl : (byF x m).toBitVec.toNat < 256 := by
    unfold byF
    rw [Int32.toBitVec_and, BitVec.toNat_and]
    exact Nat.lt_of_le_of_lt Nat.and_le_right (by decide)
  rw [h]
  exact nI_pos' (by omega)
theorem fd_IV (x : Int32) : ∀ (m t : Nat) (S : Wd), m ≤ 4 → IVW b S → S 21 1 = nI t → t + m ≤ 120 → GOOD b S (fdW x m t S)
  | 0, _, _, _, h, _, _ => G_same h
  | m + 1, t, S, hm, h, ht, hr => by
    have h1 : GOOD b S (fd1 (byF x m) t S) := by
      unfold fd1
      have o : ∀ k, k ≠ 21 → k ≠ 22 → up (up S 22 t (byF x m)) 21 1 (nI (t + 1)) k = S k := fun k h1 h2 => by rw [up_other _ _ _ _ h1, up_other _ _ _ _ h2]
      refine ⟨⟨?_, fun e => ?_, fun q2 hq => ?_, ?_, fun i hi => ?_⟩, fun k hk => o k (by omega) (by omega)⟩
      · rw [hget_u (by decide), hget_u (by decide), o 19 (by decide) (by decide)]; exact h.1
      · rw [o 0 (by decide) (by decide)] at e
        rw [hget_u (by decide), hget_u (by decide), o 20 (by decide) (by decide)]; exact h.2.1 e
      · rw [o _ (by omega) (by omega)]; exact h.2.2.1 q2 hq
      · exact ⟨t + 1, by omega, by rw [up_same]; exact if_pos rfl⟩
      · rw [up_other _ _ _ _ (by decide), up_same]
        unfold upd
        split
        · exact by_pos x (by omega)
        · exact h.2.2.2.2 i hi
    exact G_tr h1 (fd_IV x m (t + 1) _ (by omega) h1.1 (fd1_21 _ _ _) (by omega))
theorem gd_feed (h : IVW b S) {x k : Int32} : GOOD b S (feedC x k S).2 := by
  unfold feedC
  split
  · rename_i hk
    split
    · rename_i h120
      obtain ⟨i, hi, e⟩ := nI_of2 (x := k) (M := 4) (n := 4) rfl (Int32.not_lt.mpr (Int32.le_trans (by decide) hk.1)) hk.2
      obtain ⟨t, ht, et⟩ := h.2.2.2.1
      rw [e, et] at h120
      rw [e, et, nI_clamp (by omega), nI_clamp (by omega)]
      exact fd_IV x i t S hi h et ((tpRoom ht hi).mp h120)
    · exact G_fcl h 1
  · exact G_fcl h 0
end GD
