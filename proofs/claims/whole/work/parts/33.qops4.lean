theorem bc_step : ∀ x, x < 256 → x ≠ 0 → nI x &&& (nI x - 1) = nI (x &&& (x - 1)) ∧ (x &&& (x - 1)) < x ∧ bcI (nI x) = 1 + bcI (nI (x &&& (x - 1))) := by decide +kernel
theorem bc_small : ∀ x, x < 256 → 0 ≤ bcI (nI x) ∧ bcI (nI x) ≤ 8 := by decide +kernel
theorem bc_inj {a c : Int32} : c + 1 + (a) = c + (1 + a) := by grind
def teD (P : Nat → Prop) [DecidablePred P] (N : Nat) : Nat → Int32
  | 0 => -1
  | m + 1 => if P (N - 1 - m) ∧ (teD P N m < 0 ∨ bcI (nI (N - 1 - m)) ≤ bcI (teD P N m)) then nI (N - 1 - m) else teD P N m
theorem teD_step {P : Nat → Prop} [DecidablePred P] {N sz : Nat} (h : sz < N) : teD P N (N - sz) = if P sz ∧ (teD P N (N - (sz + 1)) < 0 ∨ bcI (nI sz) ≤ bcI (teD P N (N - (sz + 1)))) then nI sz else teD P N (N - (sz + 1)) := by
  rw [show N - sz = (N - (sz + 1)) + 1 by omega, teD, show N - 1 - (N - (sz + 1)) = sz by omega]
def bst (P : Nat → Prop) (lo hi sz : Nat) : Prop := lo ≤ sz ∧ sz < hi ∧ P sz ∧ ∀ t, lo ≤ t → t < hi → P t → (bcI (nI sz) < bcI (nI t) ∨ (bcI (nI sz) = bcI (nI t) ∧ sz ≤ t))
theorem bst_uni {P : Nat → Prop} {lo hi a b : Nat} (ha : bst P lo hi a) (hb : bst P lo hi b) : a = b := by
  rcases ha.2.2.2 b hb.1 hb.2.1 hb.2.2.1 with h | ⟨h, h2⟩
  · rcases hb.2.2.2 a ha.1 ha.2.1 ha.2.2.1 with h3 | ⟨h3, h4⟩
    · exact absurd h3 (Int32.not_lt.mpr (Int32.le_of_lt h))
    · rw [h3] at h; exact (Int32.lt_irrefl h).elim
  · rcases hb.2.2.2 a ha.1 ha.2.1 ha.2.2.1 with h3 | ⟨h3, h4⟩
    · rw [h] at h3; exact (Int32.lt_irrefl h3).elim
    · omega
theorem teD_is {P : Nat → Prop} [DecidablePred P] {N : Nat} (hN : N ≤ 256) : ∀ m, m ≤ N → (teD P N m = -1 ∧ ∀ t, N - m ≤ t → t < N → ¬ P t) ∨ ∃ sz, bst P (N - m) N sz ∧ teD P N m = nI sz
  | 0, _ => Or.inl ⟨rfl, fun t h1 h2 => by omega⟩
  | m + 1, hm => by
    have ih := teD_is (P := P) hN m (by omega)
    have es : N - (m + 1) = N - 1 - m := by omega
    unfold teD
    rw [es]
    generalize hs : N - 1 - m = sz
    by_cases hp : P sz
    · rcases ih with ⟨e, hn⟩ | ⟨t, ht, e⟩
      · rw [e, if_pos ⟨hp, Or.inl (by decide)⟩]
        refine Or.inr ⟨sz, ⟨Nat.le_refl _, by omega, hp, fun t h1 h2 h3 => ?_⟩, rfl⟩
        by_cases et : t = sz
        · subst et; exact Or.inr ⟨rfl, Nat.le_refl _⟩
        · exact absurd h3 (hn t (by omega) h2)
      · have ht2 := ht.2.1
        by_cases hb : bcI (nI sz) ≤ bcI (nI t)
        · rw [e, if_pos ⟨hp, Or.inr hb⟩]
          refine Or.inr ⟨sz, ⟨Nat.le_refl _, by omega, hp, fun u h1 h2 h3 => ?_⟩, rfl⟩
          by_cases eu : u = sz
          · subst eu; exact Or.inr ⟨rfl, Nat.le_refl _⟩
          · have hle : bcI (nI t) ≤ bcI (nI u) := by
              rcases ht.2.2.2 u (by omega) h2 h3 with h | h
              · exact Int32.le_of_lt h
              · rw [h.1]; exact Int32.le_refl _
            by_cases h4 : bcI (nI sz) = bcI (nI u)
            · exact Or.inr ⟨h4, h1⟩
            · exact Or.inl (Int32.lt_of_le_of_ne (Int32.le_trans hb hle) h4)
        · have hnn : ¬ (P sz ∧ (nI t < 0 ∨ bcI (nI sz) ≤ bcI (nI t))) := fun z => z.2.elim (fun z => nI_pos (by omega) z) hb
          rw [e, if_neg hnn]
          refine Or.inr ⟨t, ⟨by have := ht.1; omega, ht2, ht.2.2.1, fun u h1 h2 h3 => ?_⟩, rfl⟩
          by_cases eu : u = sz
          · subst eu; exact Or.inl (Int32.not_le.mp hb)
          · exact ht.2.2.2 u (by omega) h2 h3
    · rw [if_neg (fun z => hp z.1)]
      rcases ih with ⟨e, hn⟩ | ⟨t, ht, e⟩
      · refine Or.inl ⟨e, fun u h1 h2 => ?_⟩
        by_cases eu : u = sz
        · subst eu; exact hp
        · exact hn u (by omega) h2
      · refine Or.inr ⟨t, ⟨by have := ht.1; omega, ht.2.1, ht.2.2.1, fun u h1 h2 h3 => ?_⟩, e⟩
        by_cases eu : u = sz
        · subst eu; exact absurd h3 hp
        · exact ht.2.2.2 u (by omega) h2 h3
theorem tea_is {P : Nat → Prop} [DecidablePred P] : ∀ m, m ≤ 256 → (teaF P m = (0, 9) ∧ ∀ t, t < m → ¬ P t) ∨ ∃ sz, bst P 0 m sz ∧ teaF P m = (nI sz, bcI (nI sz))
  | 0, _ => Or.inl ⟨rfl, fun t h1 => by omega⟩
  | m + 1, hm => by
    have ih := tea_is (P := P) m (by omega)
    unfold teaF
    by_cases hp : P m
    · rcases ih with ⟨e, hn⟩ | ⟨t, ht, e⟩
      · rw [e, if_pos ⟨Int32.lt_of_le_of_lt (bc_small m (by omega)).2 (by decide), hp⟩]
        refine Or.inr ⟨m, ⟨by omega, by omega, hp, fun t h1 h2 h3 => ?_⟩, rfl⟩
        by_cases et : t = m
        · subst et; exact Or.inr ⟨rfl, Nat.le_refl _⟩
        · exact absurd h3 (hn t (by omega))
      · by_cases hb : bcI (nI m) < bcI (nI t)
        · rw [e, if_pos ⟨hb, hp⟩]
          refine Or.inr ⟨m, ⟨by omega, by omega, hp, fun u h1 h2 h3 => ?_⟩, rfl⟩
          by_cases eu : u = m
          · subst eu; exact Or.inr ⟨rfl, Nat.le_refl _⟩
          · refine Or.inl ?_
            rcases ht.2.2.2 u h1 (by omega) h3 with h | h
            · exact Int32.lt_trans hb h
            · rw [← h.1]; exact hb
        · have hnn : ¬ (bcI (nI m) < bcI (nI t) ∧ P m) := fun z => hb z.1
          rw [e, if_neg hnn]
          refine Or.inr ⟨t, ⟨by omega, by have := ht.2.1; omega, ht.2.2.1, fun u h1 h2 h3 => ?_⟩, rfl⟩
          by_cases eu : u = m
          · subst eu
            by_cases h4 : bcI (nI t) = bcI (nI u)
            · exact Or.inr ⟨h4, by have := ht.2.1; omega⟩
            · exact Or.inl (Int32.lt_of_le_of_ne (Int32.not_lt.mp hb) h4)
          · exact ht.2.2.2 u h1 (by omega) h3
    · rw [if_neg (fun z => hp z.2)]
      rcases ih with ⟨e, hn⟩ | ⟨t, ht, e⟩
      · refine Or.inl ⟨e, fun u h1 => ?_⟩
        by_cases eu : u = m
        · subst eu; exact hp
        · exact hn u (by omega)
      · refine Or.inr ⟨t, ⟨by omega, by have := ht.2.1; omega, ht.2.2.1, fun u h1 h2 h3 => ?_⟩, e⟩
        by_cases eu : u = m
        · subst eu; exact absurd h3 hp
        · exact ht.2.2.2 u h1 (by omega) h3
theorem te_fin {P : Nat → Prop} [DecidablePred P] {N : Nat} (hN : N ≤ 256) : (teD P N N = -1 ∧ ¬ (teaF P N).2 ≤ 8) ∨ ∃ sz, sz < N ∧ teD P N N = nI sz ∧ (teaF P N).1 = nI sz ∧ (teaF P N).2 ≤ 8 := by
  have h1 := teD_is (P := P) hN N (Nat.le_refl _)
  have h2 := tea_is (P := P) N hN
  rw [Nat.sub_self] at h1
  rcases h1 with ⟨e, hn⟩ | ⟨a, ha, e⟩
  · rcases h2 with ⟨e2, _⟩ | ⟨b, hb, _⟩
    · exact Or.inl ⟨e, by rw [e2]; decide⟩
    · exact absurd hb.2.2.1 (hn b (by omega) hb.2.1)
  · rcases h2 with ⟨_, hn⟩ | ⟨b, hb, e2⟩
    · exact absurd ha.2.2.1 (hn a ha.2.1)
    · have eab := bst_uni ha hb
      subst eab
      exact Or.inr ⟨a, ha.2.1, e, by rw [e2], by rw [e2]; exact (bc_small a (by have := ha.2.1; omega)).2⟩
theorem up_te (A : HA) (R : Nat → Int32) (w : Wd) (v : Int32) : up (mput A (ax R w)) 33 5 v = mput A (ax R (up w 33 5 v)) := by
  funext k
  by_cases h : k = 33
  · subst h; rw [up_same, mput_o _ _ (by decide), mput_o _ _ (by decide)]
    show upd (upR w 36 R 33) 5 v = upR (up w 33 5 v) 36 R 33
    rw [upR_other _ _ _ (by decide), upR_other _ _ _ (by decide), up_same]
  · rw [up_other _ _ _ _ h]
    by_cases h2 : k = 34
    · subst h2; rw [mput_34, mput_34]; rfl
    · rw [mput_o _ _ h2, mput_o _ _ h2]
      show upR w 36 R k = upR (up w 33 5 v) 36 R k
      unfold upR
      split
      · rfl
      · exact (up_other _ _ _ _ h).symm
theorem up_id2 (w : Wd) (k j : Nat) {v : Int32} (h : w k j = v) : up w k j v = w := by subst h; exact up_id w k j
set_option maxRecDepth 4000 in
theorem lQ_bits {l : Launch} {g : GG} {w : Wd} {s : Int32} : ∀ (m : Nat) (xz : Nat) (cz : Int32), (xz < m) → (xz < 256) → Go l g Q_bits 4 [some (.int s), some (.int cz), some (.int (nI xz))] [] w (Is (some (.int (cz + bcI (nI xz)))) w) := by
  intro m
  induction m with
  | zero => intro xz cz hm hx; omega
  | succ m ih =>
    intro xz cz hm hx
    have e0 : nI xz = 0 ↔ xz = 0 := nI_eq (b := 0) (by omega) (by decide)
    refine g_iload_n dQ_bits_4 rfl ?_
    refine g_if_eq dQ_bits_5 rfl (fun h5 => ?_) (fun h5 => ?_)
    · obtain rfl := e0.mp h5
      refine g_iload_n dQ_bits_20 rfl ?_
      refine g_iret dQ_bits_21 rfl rfl ?_
      exact ⟨by rw [show bcI (nI 0) = 0 by decide, Int32.add_zero], rfl⟩
    · have hst := bc_step xz hx (fun z => h5 (e0.mpr z))
      refine g_iinc dQ_bits_8 rfl rfl (by decide) rfl rfl ?_
      dsimp only [List.set]
      refine g_iload_n dQ_bits_11 rfl ?_
      refine g_iload_n dQ_bits_12 rfl ?_
      refine g_iconst (v := 1) dQ_bits_13 (by decide) ?_
      refine g_isub dQ_bits_14 ?_
      refine g_iand dQ_bits_15 ?_
      refine g_top hst.1 ?_
      refine g_istore_n dQ_bits_16 (by decide) rfl rfl ?_
      dsimp only [List.set]
      refine g_goto dQ_bits_17 rfl ?_
      refine g_mono (fun r w2 hh => ?_) (ih _ (cz + 1) (by omega) (by omega))
      rw [hst.2.2, ← bc_inj]
      exact hh

set_option maxRecDepth 4000 in
theorem cQ_bits {l : Launch} {g : GG} {w : Wd} {sz : Nat} (hs : sz < 256) : Res l g Q_bits [.int (nI sz)] w (Is (some (.int (bcI (nI sz)))) w) := by
  refine Res.of (by decide) (by simp [Value.category]) (Nat.le_of_ble_eq_true rfl) rfl ?_
  show Go l g Q_bits 0 [some (.int (nI sz)), none, none] [] w _
  refine g_iconst (v := 0) dQ_bits_0 (by decide) ?_
  refine g_istore_n dQ_bits_1 (by decide) rfl rfl ?_
  dsimp only [List.set]
  refine g_iload_n dQ_bits_2 rfl ?_
  refine g_istore_n dQ_bits_3 (by decide) rfl rfl ?_
  dsimp only [List.set]
  refine g_mono (fun r w2 hh => ?_) (lQ_bits 256 sz 0 hs hs)
  rw [Int32.zero_add] at hh
  exact hh

set_option maxRecDepth 4000 in
theorem cQ_areNear {l : Launch} {g : GG} {w : Wd} {A : HA} {n b : Nat} (hI : IVA n b A) (hw : w 33 5 = 0) {r0 : Nat → Int32} {t : Nat} (ht : t < 256) {k : Nat} (hb : b + k ≤ 99999) : Res l g Q_areNear [.ref (g.1 33), .int (nI t), .int (nI k)] (mput A (ax r0 w)) (IsA (bI (nearP n k A t)) A w) := by
  have h8 := hI.n8
  refine Res.of (by decide) (by simp [Value.category]) (Nat.le_of_ble_eq_true rfl) rfl ?_
  show Go l g Q_areNear 0 [some (.ref (g.1 33)), some (.int (nI t)), some (.int (nI k)), none] [] (mput A (ax r0 w)) _
  refine g_aload_n dQ_areNear_0 rfl ?_
  refine g_getR2 (k2 := 34) dQ_areNear_1 fQ_9 rfl rfl (by decide) rfl ?_
  refine g_aload_n dQ_areNear_4 rfl ?_
  refine g_getR2 (k2 := 36) dQ_areNear_5 fQ_16 rfl rfl (by decide) rfl ?_
  refine gS2v dQ_areNear_8 kQ_areNear_70 (cQ_copyRow (a := 34) (b := 36) rfl rfl (by decide)) (Nat.le_of_ble_eq_true rfl) ?_
  refine g_w copy_in ?_
  refine g_aload_n dQ_areNear_11 rfl ?_
  refine g_iload_n dQ_areNear_12 rfl ?_
  refine g_putI dQ_areNear_13 fQ_154 rfl rfl rfl rfl ?_
  rw [up_te]
  refine g_aload_n dQ_areNear_16 rfl ?_
  refine g_iload_n dQ_areNear_17 rfl ?_
  refine gV1v dQ_areNear_18 kQ_areNear_191 rfl rfl (eQ_hoursGoT hI hb ht (by show up w 33 5 (nI t) 33 5 = nI t; rw [up_same]; exact if_pos rfl)) (Nat.le_of_ble_eq_true rfl) ?_
  refine g_aload_n dQ_areNear_21 rfl ?_
  refine g_iconst (v := 0) dQ_areNear_22 (by decide) ?_
  refine g_putI dQ_areNear_23 fQ_154 rfl rfl rfl rfl ?_
  rw [up_te, up_up, up_id2 _ _ _ hw]
  refine g_aload_n dQ_areNear_26 rfl ?_
  refine gV0 dQ_areNear_27 kQ_areNear_197 rfl rfl (eQ_lostSet (hours_IV hI k hb)) (Nat.le_of_ble_eq_true rfl) ?_
  refine g_if_ne dQ_areNear_30 rfl (fun h30 => ?_) (fun h30 => ?_)
  · refine g_iconst (v := 0) dQ_areNear_37 (by decide) ?_
    refine g_istore_n dQ_areNear_38 (by decide) rfl rfl ?_
    dsimp only [List.set]
    refine g_aload_n dQ_areNear_39 rfl ?_
    refine g_getR2 (k2 := 36) dQ_areNear_40 fQ_16 rfl rfl (by decide) rfl ?_
    refine g_aload_n dQ_areNear_43 rfl ?_
    refine g_getR2 (k2 := 34) dQ_areNear_44 fQ_9 rfl rfl (by decide) rfl ?_
    refine gS2v dQ_areNear_47 kQ_areNear_70 (cQ_copyRow (a := 36) (b := 34) rfl rfl (by decide)) (Nat.le_of_ble_eq_true rfl) ?_
    refine g_w copy_out ?_
    refine g_iload_n dQ_areNear_50 rfl ?_
    refine g_iret dQ_areNear_51 rfl (by first | rfl | exact bI_n) ?_
    first
      | exact ⟨by rw [bI_t h30], _, rfl⟩
      | exact ⟨by rw [bI_f h30], _, rfl⟩
  · refine g_iconst (v := 1) dQ_areNear_33 (by decide) ?_
    refine g_goto dQ_areNear_34 rfl ?_
    refine g_istore_n dQ_areNear_38 (by decide) rfl rfl ?_
    dsimp only [List.set]
    refine g_aload_n dQ_areNear_39 rfl ?_
    refine g_getR2 (k2 := 36) dQ_areNear_40 fQ_16 rfl rfl (by decide) rfl ?_
    refine g_aload_n dQ_areNear_43 rfl ?_
    refine g_getR2 (k2 := 34) dQ_areNear_44 fQ_9 rfl rfl (by decide) rfl ?_
    refine gS2v dQ_areNear_47 kQ_areNear_70 (cQ_copyRow (a := 36) (b := 34) rfl rfl (by decide)) (Nat.le_of_ble_eq_true rfl) ?_
    refine g_w copy_out ?_
    refine g_iload_n dQ_areNear_50 rfl ?_
    refine g_iret dQ_areNear_51 rfl (by first | rfl | exact bI_n) ?_
    first
      | exact ⟨by rw [bI_t h30], _, rfl⟩
      | exact ⟨by rw [bI_f h30], _, rfl⟩

set_option maxRecDepth 4000 in
theorem lQ_tether {l : Launch} {g : GG} {S w : Wd} {A : HA} {n b : Nat} (hA : hget S 1 = A) (hR : RM S w) (hI : IVA n b A) {k : Nat} (hb : b + k ≤ 99999) : ∀ (m : Nat) (s : Nat) (r : Nat → Int32), (s < m) → (s ≤ 2 ^ n) → Go l g Q_tether 30 [some (.ref (g.1 33)), some (.int (nI k)), some (.int (teD (nearP n k A) (2 ^ n) (2 ^ n - s))), some (.int (nI s - 1))] [] (mput A (ax r w)) (IsQ (if (teaF (nearP n k A) (2 ^ n)).2 ≤ 8 then ((teaF (nearP n k A) (2 ^ n)).1, S) else fnd 3 S) w) := by
  intro m
  induction m with
  | zero => intro s r hm hs; omega
  | succ m ih =>
    intro s r hm hs
    have h8 := hI.n8
    have h256 := pow8 h8
    refine g_iload_n dQ_tether_30 rfl ?_
    refine g_if_lt dQ_tether_31 rfl (fun h31 => ?_) (fun h31 => ?_)
    · obtain rfl : s = 0 := by
        rcases s with _ | sz
        · rfl
        · rw [nI_succ, Int32.add_sub_cancel] at h31; exact absurd h31 (nI_pos (by omega))
      refine g_aload_n dQ_tether_70 rfl ?_
      refine g_iload_n dQ_tether_71 rfl ?_
      refine gV1 dQ_tether_72 kQ_tether_142 rfl rfl cQ_orNone (Nat.le_of_ble_eq_true rfl) ?_
      rw [Nat.sub_zero]
      rcases te_fin (P := nearP n k A) h256 with ⟨ec, hc⟩ | ⟨c, hc, ec, ec2, ec3⟩
      · rw [ec, if_pos (by decide), if_pos (by decide), if_neg hc]
        refine g_iret dQ_tether_75 rfl rfl ?_
        exact IsQ_F36 (q := 3) hA hR (by decide) rfl
      rw [ec, if_neg (nI_pos (by omega)), if_neg (nI_pos (by omega)), if_pos ec3]
      refine g_iret dQ_tether_75 rfl rfl ?_
      exact IsQ_R36 hA hR (by rw [ec2])
    · obtain ⟨sz, rfl⟩ : ∃ sz, s = sz + 1 := by
        rcases s with _ | sz
        · exact absurd (by decide) h31
        · exact ⟨sz, rfl⟩
      refine g_lv (lv1 := [some (.ref (g.1 33)), some (.int (nI k)), some (.int (teD (nearP n k A) (2 ^ n) (2 ^ n - (sz + 1)))), some (.int (nI sz))]) (by rw [nI_succ sz, Int32.add_sub_cancel]) ?_
      refine g_aload_n dQ_tether_34 rfl ?_
      refine g_iload_n dQ_tether_35 rfl ?_
      refine g_iload_n dQ_tether_36 rfl ?_
      refine gV2q dQ_tether_37 kQ_tether_225 rfl rfl (cQ_areNear hI hR.te (t := sz) (by omega) hb) (Nat.le_of_ble_eq_true rfl) (fun r1 w1 q1 => ?_)
      obtain ⟨rfl, r2, rfl⟩ := q1
      dsimp only [Option.toList, List.cons_append, List.nil_append]
      refine g_if_eq dQ_tether_40 rfl (fun h40 => ?_) (fun h40 => ?_)
      · have h40 := bI_0.mp h40
        refine g_iload_n dQ_tether_62 rfl ?_
        refine g_istore_n dQ_tether_63 (by decide) rfl rfl ?_
        dsimp only [List.set]
        refine g_iinc (v := nI sz - 1) dQ_tether_64 rfl (by rw [Int32.sub_eq_add_neg]; rfl) (by decide) rfl rfl ?_
        dsimp only [List.set]
        refine g_goto dQ_tether_67 rfl ?_
        refine g_lv (lv1 := [some (.ref (g.1 33)), some (.int (nI k)), some (.int (teD (nearP n k A) (2 ^ n) (2 ^ n - sz))), some (.int (nI sz - 1))]) (by rw [teD_step (sz := sz) (by omega)]; grind) ?_
        exact ih sz _ (by omega) (by omega)
      · have h40 := Classical.not_not.mp (fun z => h40 (bI_0.mpr z))
        refine g_iload_n dQ_tether_43 rfl ?_
        refine g_if_lt dQ_tether_44 rfl (fun h44 => ?_) (fun h44 => ?_)
        · refine g_iload_n dQ_tether_58 rfl ?_
          refine g_goto dQ_tether_59 rfl ?_
          refine g_istore_n dQ_tether_63 (by decide) rfl rfl ?_
          dsimp only [List.set]
          refine g_iinc (v := nI sz - 1) dQ_tether_64 rfl (by rw [Int32.sub_eq_add_neg]; rfl) (by decide) rfl rfl ?_
          dsimp only [List.set]
          refine g_goto dQ_tether_67 rfl ?_
          refine g_lv (lv1 := [some (.ref (g.1 33)), some (.int (nI k)), some (.int (teD (nearP n k A) (2 ^ n) (2 ^ n - sz))), some (.int (nI sz - 1))]) (by rw [teD_step (sz := sz) (by omega)]; grind) ?_
          exact ih sz _ (by omega) (by omega)
        · obtain ⟨tz2, htz, etz⟩ := (teD_is (P := nearP n k A) h256 (2 ^ n - (sz + 1)) (by omega)).resolve_left (fun z => absurd (by rw [z.1]; decide) h44)
          have htz2 := htz.2.1
          refine g_iload_n dQ_tether_47 rfl ?_
          refine gS1 dQ_tether_48 kQ_tether_228 (cQ_bits (sz := sz) (by omega)) (Nat.le_of_ble_eq_true rfl) ?_
          refine g_iload_n dQ_tether_51 rfl ?_
          refine g_top etz ?_
          refine gS1 dQ_tether_52 kQ_tether_228 (cQ_bits (sz := tz2) (by omega)) (Nat.le_of_ble_eq_true rfl) ?_
          refine g_icmp_gt dQ_tether_55 rfl (fun h55 => ?_) (fun h55 => ?_)
          · refine g_iload_n dQ_tether_62 rfl ?_
            refine g_istore_n dQ_tether_63 (by decide) rfl rfl ?_
            dsimp only [List.set]
            refine g_iinc (v := nI sz - 1) dQ_tether_64 rfl (by rw [Int32.sub_eq_add_neg]; rfl) (by decide) rfl rfl ?_
            dsimp only [List.set]
            refine g_goto dQ_tether_67 rfl ?_
            refine g_lv (lv1 := [some (.ref (g.1 33)), some (.int (nI k)), some (.int (teD (nearP n k A) (2 ^ n) (2 ^ n - sz))), some (.int (nI sz - 1))]) (by rw [teD_step (sz := sz) (by omega)]; grind) ?_
            exact ih sz _ (by omega) (by omega)
          · refine g_iload_n dQ_tether_58 rfl ?_
            refine g_goto dQ_tether_59 rfl ?_
            refine g_istore_n dQ_tether_63 (by decide) rfl rfl ?_
            dsimp only [List.set]
            refine g_iinc (v := nI sz - 1) dQ_tether_64 rfl (by rw [Int32.sub_eq_add_neg]; rfl) (by decide) rfl rfl ?_
            dsimp only [List.set]
            refine g_goto dQ_tether_67 rfl ?_
            refine g_lv (lv1 := [some (.ref (g.1 33)), some (.int (nI k)), some (.int (teD (nearP n k A) (2 ^ n) (2 ^ n - sz))), some (.int (nI sz - 1))]) (by rw [teD_step (sz := sz) (by omega)]; grind) ?_
            exact ih sz _ (by omega) (by omega)

set_option maxRecDepth 4000 in
theorem cQ_tether {l : Launch} {g : GG} {S w : Wd} {A : HA} {n b : Nat} (hA : hget S 1 = A) (hR : RM S w) (hI : IVA n b A) {k : Int32} (hb : b + 20 ≤ 99999) : Res l g Q_tether [.ref (g.1 33), .int k] (mput A w) (IsQ (tethC n k S) w) := by
  have h8 := hI.n8
  refine Res.of (by decide) (by simp [Value.category]) (Nat.le_of_ble_eq_true rfl) rfl ?_
  show Go l g Q_tether 0 [some (.ref (g.1 33)), some (.int k), none, none] [] (mput A w) _
  refine g_iload_n dQ_tether_0 rfl ?_
  refine g_iconst (v := 0) dQ_tether_1 (by decide) ?_
  refine g_bipush (v := 20) dQ_tether_2 (by decide) ?_
  refine gS3 dQ_tether_4 kQ_tether_79 cQ_within (Nat.le_of_ble_eq_true rfl) ?_
  refine g_if_ne dQ_tether_7 rfl (fun h7 => ?_) (fun h7 => ?_)
  · have h7 := Classical.not_not.mp (fun z => h7 (bI_0.mpr z))
    have h7b := h7
    obtain ⟨kz, hkz, ekz⟩ := nI_of2 (x := k) (M := 20) (n := 20) rfl (Int32.not_lt.mpr h7.1) h7.2
    subst ekz
    refine g_iconst (v := (-1)) dQ_tether_17 (by decide) ?_
    refine g_istore_n dQ_tether_18 (by decide) rfl rfl ?_
    dsimp only [List.set]
    refine g_iconst (v := 1) dQ_tether_19 (by decide) ?_
    refine g_aload_n dQ_tether_20 rfl ?_
    refine g_getR2 (k2 := 34) dQ_tether_21 fQ_9 rfl rfl (by decide) rfl ?_
    refine g_iconst (v := 1) dQ_tether_24 (by decide) ?_
    refine g_mS (j := 6) (i := 1) dQ_tether_25 rfl (by decide) (by decide) ?_
    refine g_ishl dQ_tether_26 ?_
    refine g_iconst (v := 1) dQ_tether_27 (by decide) ?_
    refine g_isub dQ_tether_28 ?_
    refine g_top (y := nI (2 ^ n) - 1) (by rw [hI.n6, shl_pow n h8]) ?_
    refine g_istore_n dQ_tether_29 (by decide) rfl rfl ?_
    dsimp only [List.set]
    refine g_w (w1 := mput A (ax (w 36) w)) (by rw [ax_self]) ?_
    refine g_lv (lv1 := [some (.ref (g.1 33)), some (.int (nI kz)), some (.int (teD (nearP n kz A) (2 ^ n) (2 ^ n - 2 ^ n))), some (.int (nI (2 ^ n) - 1))]) (by rw [Nat.sub_self]; rfl) ?_
    refine g_mono (fun r w2 hh => ?_) (lQ_tether hA hR hI (k := kz) (by omega) (2 ^ n + 1) (2 ^ n) (w 36) (by omega) (Nat.le_refl _))
    rw [show tethC n (nI kz) S = (if (teaF (nearP n kz A) (2 ^ n)).2 ≤ 8 then ((teaF (nearP n kz A) (2 ^ n)).1, S) else fnd 3 S) by simp only [tethC, hA, gA1 hA, gA2 hA, gA3 hA, gA4 hA, gA5 hA, gA6 hA]; rw [if_pos h7b, nI_clamp (by omega)]]
    exact hh
  · have h7 := bI_0.mp h7
    refine g_aload_n dQ_tether_10 rfl ?_
    refine g_ldc dQ_tether_11 fQ_69 ?_
    refine gV1 dQ_tether_13 kQ_tether_75 rfl rfl (cQ_finding (q := 0) (by decide)) (Nat.le_of_ble_eq_true rfl) ?_
    refine g_iret dQ_tether_16 rfl rfl ?_
    exact IsQ_F hA hR (by decide) (by rw [tethC, if_neg h7])
