theorem RM.zz {S w : Wd} (h : RM S w) (v : Int32) : RM (up S 0 6 v) (up w 34 2 v) := by
  generalize eS : up S 0 6 v = S2
  generalize eW : up w 34 2 v = w2
  have oS : ∀ k, k ≠ 0 → S2 k = S k := fun k hk => by rw [← eS]; exact up_other _ _ _ _ hk
  have oW : ∀ k, k ≠ 34 → w2 k = w k := fun k hk => by rw [← eW]; exact up_other _ _ _ _ hk
  have h1 : hget S2 1 = hget S 1 := by unfold hget; rw [oS 1 (by decide), oS 2 (by decide), oS 3 (by decide), oS 4 (by decide), oS 5 (by decide), oS 6 (by decide)]
  have h13 : hget S2 13 = hget S 13 := by unfold hget; rw [oS 13 (by decide), oS 14 (by decide), oS 15 (by decide), oS 16 (by decide), oS 17 (by decide), oS 18 (by decide)]
  have s07 : S2 0 7 = S 0 7 := by rw [← eS, up_same]; rfl
  have s03 : S2 0 3 = S 0 3 := by rw [← eS, up_same]; rfl
  have s19 : S2 19 = S 19 := oS 19 (by decide)
  have s20 : S2 20 = S 20 := oS 20 (by decide)
  have s21 : S2 21 1 = S 21 1 := by rw [oS 21 (by decide)]
  have s22 : S2 22 = S 22 := oS 22 (by decide)
  have s32 : S2 32 = S 32 := oS 32 (by decide)
  have A : ∀ q, q < 4 → S2 (24 + 2 * q) = S (24 + 2 * q) := fun q hq => oS _ (by omega)
  have B : ∀ q, q < 4 → S2 (24 + 2 * q + 1) = S (24 + 2 * q + 1) := fun q hq => oS _ (by omega)
  have W35 : w2 35 = w 35 := oW 35 (by decide)
  have W33_3 : w2 33 3 = w 33 3 := by rw [oW 33 (by decide)]
  have W33_5 : w2 33 5 = w 33 5 := by rw [oW 33 (by decide)]
  have W33_7 : w2 33 7 = w 33 7 := by rw [oW 33 (by decide)]
  have W38 : w2 38 = w 38 := oW 38 (by decide)
  have W37 : w2 37 = w 37 := oW 37 (by decide)
  have W44 : w2 44 = w 44 := oW 44 (by decide)
  have W45 : w2 45 = w 45 := oW 45 (by decide)
  have W46 : w2 46 = w 46 := oW 46 (by decide)
  refine RM.mk (fun i hi => ?_) ?_ (fun hk i hi => ?_) ?_ ?_ (fun i hi => ?_) (fun q hq => ?_) ?_ (fun q hq => ?_)
  · rw [h1, s19, ← eW, up_same, show S2 0 6 = v by rw [← eS, up_same]; rfl]
    by_cases h2 : i = 2 ∨ (8 ≤ i ∧ i < 18) ∨ 58 ≤ i
    · rw [mrow_r _ _ h2]
      unfold upd mz
      by_cases e2 : i = 2
      · rw [if_pos e2, if_pos e2]
      · rw [if_neg e2, if_neg e2, h.row i hi, mrow_r _ _ h2]
        unfold mz
        rw [if_neg e2]
    · unfold upd
      rw [if_neg (by omega), h.row i hi]
      exact mrow_in h2 _
  · rw [W33_3, s03]; exact h.kf
  · rw [s03] at hk; rw [W35, h13, s07, s20]; exact h.kr hk i hi
  · rw [W33_5]; exact h.te
  · rw [W33_7, s21]; exact h.tl
  · rw [W38, s22]; exact h.tb i hi
  · rw [W37, s32]; exact h.fq q hq
  · rw [W37, s32]; exact h.f0
  · rw [W44, W45, W46, A q hq, B q hq]; exact h.sh q hq
theorem RM.tlen {S w : Wd} (h : RM S w) (v : Int32) : RM (up S 21 1 v) (up w 33 7 v) := by
  generalize eS : up S 21 1 v = S2
  generalize eW : up w 33 7 v = w2
  have oS : ∀ k, k ≠ 21 → S2 k = S k := fun k hk => by rw [← eS]; exact up_other _ _ _ _ hk
  have oW : ∀ k, k ≠ 33 → w2 k = w k := fun k hk => by rw [← eW]; exact up_other _ _ _ _ hk
  have h1 : hget S2 1 = hget S 1 := by unfold hget; rw [oS 1 (by decide), oS 2 (by decide), oS 3 (by decide), oS 4 (by decide), oS 5 (by decide), oS 6 (by decide)]
  have h13 : hget S2 13 = hget S 13 := by unfold hget; rw [oS 13 (by decide), oS 14 (by decide), oS 15 (by decide), oS 16 (by decide), oS 17 (by decide), oS 18 (by decide)]
  have s06 : S2 0 6 = S 0 6 := by rw [oS 0 (by decide)]
  have s07 : S2 0 7 = S 0 7 := by rw [oS 0 (by decide)]
  have s03 : S2 0 3 = S 0 3 := by rw [oS 0 (by decide)]
  have s19 : S2 19 = S 19 := oS 19 (by decide)
  have s20 : S2 20 = S 20 := oS 20 (by decide)
  have s22 : S2 22 = S 22 := oS 22 (by decide)
  have s32 : S2 32 = S 32 := oS 32 (by decide)
  have A : ∀ q, q < 4 → S2 (24 + 2 * q) = S (24 + 2 * q) := fun q hq => oS _ (by omega)
  have B : ∀ q, q < 4 → S2 (24 + 2 * q + 1) = S (24 + 2 * q + 1) := fun q hq => oS _ (by omega)
  have W34 : w2 34 = w 34 := oW 34 (by decide)
  have W35 : w2 35 = w 35 := oW 35 (by decide)
  have W33_3 : w2 33 3 = w 33 3 := by rw [← eW, up_same]; rfl
  have W33_5 : w2 33 5 = w 33 5 := by rw [← eW, up_same]; rfl
  have W38 : w2 38 = w 38 := oW 38 (by decide)
  have W37 : w2 37 = w 37 := oW 37 (by decide)
  have W44 : w2 44 = w 44 := oW 44 (by decide)
  have W45 : w2 45 = w 45 := oW 45 (by decide)
  have W46 : w2 46 = w 46 := oW 46 (by decide)
  refine RM.mk (fun i hi => ?_) ?_ (fun hk i hi => ?_) ?_ ?_ (fun i hi => ?_) (fun q hq => ?_) ?_ (fun q hq => ?_)
  · rw [W34, h1, s06, s19]; exact h.row i hi
  · rw [W33_3, s03]; exact h.kf
  · rw [s03] at hk; rw [W35, h13, s07, s20]; exact h.kr hk i hi
  · rw [W33_5]; exact h.te
  · rw [← eW, ← eS, up_same, up_same]; rfl
  · rw [W38, s22]; exact h.tb i hi
  · rw [W37, s32]; exact h.fq q hq
  · rw [W37, s32]; exact h.f0
  · rw [W44, W45, W46, A q hq, B q hq]; exact h.sh q hq
theorem RM.tby {S w : Wd} (h : RM S w) (t : Nat) (v : Int32) : RM (up S 22 t v) (up w 38 t v) := by
  generalize eS : up S 22 t v = S2
  generalize eW : up w 38 t v = w2
  have oS : ∀ k, k ≠ 22 → S2 k = S k := fun k hk => by rw [← eS]; exact up_other _ _ _ _ hk
  have oW : ∀ k, k ≠ 38 → w2 k = w k := fun k hk => by rw [← eW]; exact up_other _ _ _ _ hk
  have h1 : hget S2 1 = hget S 1 := by unfold hget; rw [oS 1 (by decide), oS 2 (by decide), oS 3 (by decide), oS 4 (by decide), oS 5 (by decide), oS 6 (by decide)]
  have h13 : hget S2 13 = hget S 13 := by unfold hget; rw [oS 13 (by decide), oS 14 (by decide), oS 15 (by decide), oS 16 (by decide), oS 17 (by decide), oS 18 (by decide)]
  have s06 : S2 0 6 = S 0 6 := by rw [oS 0 (by decide)]
  have s07 : S2 0 7 = S 0 7 := by rw [oS 0 (by decide)]
  have s03 : S2 0 3 = S 0 3 := by rw [oS 0 (by decide)]
  have s19 : S2 19 = S 19 := oS 19 (by decide)
  have s20 : S2 20 = S 20 := oS 20 (by decide)
  have s21 : S2 21 1 = S 21 1 := by rw [oS 21 (by decide)]
  have s32 : S2 32 = S 32 := oS 32 (by decide)
  have A : ∀ q, q < 4 → S2 (24 + 2 * q) = S (24 + 2 * q) := fun q hq => oS _ (by omega)
  have B : ∀ q, q < 4 → S2 (24 + 2 * q + 1) = S (24 + 2 * q + 1) := fun q hq => oS _ (by omega)
  have W34 : w2 34 = w 34 := oW 34 (by decide)
  have W35 : w2 35 = w 35 := oW 35 (by decide)
  have W33_3 : w2 33 3 = w 33 3 := by rw [oW 33 (by decide)]
  have W33_5 : w2 33 5 = w 33 5 := by rw [oW 33 (by decide)]
  have W33_7 : w2 33 7 = w 33 7 := by rw [oW 33 (by decide)]
  have W37 : w2 37 = w 37 := oW 37 (by decide)
  have W44 : w2 44 = w 44 := oW 44 (by decide)
  have W45 : w2 45 = w 45 := oW 45 (by decide)
  have W46 : w2 46 = w 46 := oW 46 (by decide)
  refine RM.mk (fun i hi => ?_) ?_ (fun hk i hi => ?_) ?_ ?_ (fun i hi => ?_) (fun q hq => ?_) ?_ (fun q hq => ?_)
  · rw [W34, h1, s06, s19]; exact h.row i hi
  · rw [W33_3, s03]; exact h.kf
  · rw [s03] at hk; rw [W35, h13, s07, s20]; exact h.kr hk i hi
  · rw [W33_5]; exact h.te
  · rw [W33_7, s21]; exact h.tl
  · rw [← eW, ← eS, up_same, up_same]
    unfold upd
    split
    · rfl
    · exact h.tb i hi
  · rw [W37, s32]; exact h.fq q hq
  · rw [W37, s32]; exact h.f0
  · rw [W44, W45, W46, A q hq, B q hq]; exact h.sh q hq
theorem RM.spot {S w : Wd} (h : RM S w) {t : Nat} (ht : t < 10) (v : Int32) : RM (up S 19 t v) (up w 34 (8 + t) v) := by
  generalize eS : up S 19 t v = S2
  generalize eW : up w 34 (8 + t) v = w2
  have oS : ∀ k, k ≠ 19 → S2 k = S k := fun k hk => by rw [← eS]; exact up_other _ _ _ _ hk
  have oW : ∀ k, k ≠ 34 → w2 k = w k := fun k hk => by rw [← eW]; exact up_other _ _ _ _ hk
  have h1 : hget S2 1 = hget S 1 := by unfold hget; rw [oS 1 (by decide), oS 2 (by decide), oS 3 (by decide), oS 4 (by decide), oS 5 (by decide), oS 6 (by decide)]
  have h13 : hget S2 13 = hget S 13 := by unfold hget; rw [oS 13 (by decide), oS 14 (by decide), oS 15 (by decide), oS 16 (by decide), oS 17 (by decide), oS 18 (by decide)]
  have s06 : S2 0 6 = S 0 6 := by rw [oS 0 (by decide)]
  have s07 : S2 0 7 = S 0 7 := by rw [oS 0 (by decide)]
  have s03 : S2 0 3 = S 0 3 := by rw [oS 0 (by decide)]
  have s20 : S2 20 = S 20 := oS 20 (by decide)
  have s21 : S2 21 1 = S 21 1 := by rw [oS 21 (by decide)]
  have s22 : S2 22 = S 22 := oS 22 (by decide)
  have s32 : S2 32 = S 32 := oS 32 (by decide)
  have A : ∀ q, q < 4 → S2 (24 + 2 * q) = S (24 + 2 * q) := fun q hq => oS _ (by omega)
  have B : ∀ q, q < 4 → S2 (24 + 2 * q + 1) = S (24 + 2 * q + 1) := fun q hq => oS _ (by omega)
  have W35 : w2 35 = w 35 := oW 35 (by decide)
  have W33_3 : w2 33 3 = w 33 3 := by rw [oW 33 (by decide)]
  have W33_5 : w2 33 5 = w 33 5 := by rw [oW 33 (by decide)]
  have W33_7 : w2 33 7 = w 33 7 := by rw [oW 33 (by decide)]
  have W38 : w2 38 = w 38 := oW 38 (by decide)
  have W37 : w2 37 = w 37 := oW 37 (by decide)
  have W44 : w2 44 = w 44 := oW 44 (by decide)
  have W45 : w2 45 = w 45 := oW 45 (by decide)
  have W46 : w2 46 = w 46 := oW 46 (by decide)
  refine RM.mk (fun i hi => ?_) ?_ (fun hk i hi => ?_) ?_ ?_ (fun i hi => ?_) (fun q hq => ?_) ?_ (fun q hq => ?_)
  · rw [h1, s06, ← eW, up_same, show S2 19 = upd (S 19) t v by rw [← eS, up_same]]
    by_cases h2 : i = 2 ∨ (8 ≤ i ∧ i < 18) ∨ 58 ≤ i
    · rw [mrow_r _ _ h2]
      unfold upd mz
      by_cases e2 : i = 2
      · rw [if_neg (by omega), if_pos e2, h.row i hi, mrow_r _ _ h2]
        unfold mz
        rw [if_pos e2]
      · rw [if_neg e2]
        show (if i = 8 + t then v else w 34 i) = if i - 8 = t then v else S 19 (i - 8)
        by_cases e3 : i = 8 + t
        · rw [if_pos e3, if_pos (by omega)]
        · rw [if_neg e3, if_neg (by omega), h.row i hi, mrow_r _ _ h2]
          unfold mz
          rw [if_neg e2]
    · unfold upd
      rw [if_neg (by omega), h.row i hi]
      exact mrow_in h2 _
  · rw [W33_3, s03]; exact h.kf
  · rw [s03] at hk; rw [W35, h13, s07, s20]; exact h.kr hk i hi
  · rw [W33_5]; exact h.te
  · rw [W33_7, s21]; exact h.tl
  · rw [W38, s22]; exact h.tb i hi
  · rw [W37, s32]; exact h.fq q hq
  · rw [W37, s32]; exact h.f0
  · rw [W44, W45, W46, A q hq, B q hq]; exact h.sh q hq
theorem RM.tear {S w : Wd} (h : RM S w)  : RM (up S 0 3 0) (up w 33 3 0) := by
  generalize eS : up S 0 3 0 = S2
  generalize eW : up w 33 3 0 = w2
  have oS : ∀ k, k ≠ 0 → S2 k = S k := fun k hk => by rw [← eS]; exact up_other _ _ _ _ hk
  have oW : ∀ k, k ≠ 33 → w2 k = w k := fun k hk => by rw [← eW]; exact up_other _ _ _ _ hk
  have h1 : hget S2 1 = hget S 1 := by unfold hget; rw [oS 1 (by decide), oS 2 (by decide), oS 3 (by decide), oS 4 (by decide), oS 5 (by decide), oS 6 (by decide)]
  have h13 : hget S2 13 = hget S 13 := by unfold hget; rw [oS 13 (by decide), oS 14 (by decide), oS 15 (by decide), oS 16 (by decide), oS 17 (by decide), oS 18 (by decide)]
  have s06 : S2 0 6 = S 0 6 := by rw [← eS, up_same]; rfl
  have s07 : S2 0 7 = S 0 7 := by rw [← eS, up_same]; rfl
  have s19 : S2 19 = S 19 := oS 19 (by decide)
  have s20 : S2 20 = S 20 := oS 20 (by decide)
  have s21 : S2 21 1 = S 21 1 := by rw [oS 21 (by decide)]
  have s22 : S2 22 = S 22 := oS 22 (by decide)
  have s32 : S2 32 = S 32 := oS 32 (by decide)
  have A : ∀ q, q < 4 → S2 (24 + 2 * q) = S (24 + 2 * q) := fun q hq => oS _ (by omega)
  have B : ∀ q, q < 4 → S2 (24 + 2 * q + 1) = S (24 + 2 * q + 1) := fun q hq => oS _ (by omega)
  have W34 : w2 34 = w 34 := oW 34 (by decide)
  have W35 : w2 35 = w 35 := oW 35 (by decide)
  have W33_5 : w2 33 5 = w 33 5 := by rw [← eW, up_same]; rfl
  have W33_7 : w2 33 7 = w 33 7 := by rw [← eW, up_same]; rfl
  have W38 : w2 38 = w 38 := oW 38 (by decide)
  have W37 : w2 37 = w 37 := oW 37 (by decide)
  have W44 : w2 44 = w 44 := oW 44 (by decide)
  have W45 : w2 45 = w 45 := oW 45 (by decide)
  have W46 : w2 46 = w 46 := oW 46 (by decide)
  refine RM.mk (fun i hi => ?_) ?_ (fun hk i hi => ?_) ?_ ?_ (fun i hi => ?_) (fun q hq => ?_) ?_ (fun q hq => ?_)
  · rw [W34, h1, s06, s19]; exact h.row i hi
  · rw [← eW, ← eS, up_same, up_same]; rfl
  · exact absurd (show S2 0 3 = 0 by rw [← eS, up_same]; rfl) hk
  · rw [W33_5]; exact h.te
  · rw [W33_7, s21]; exact h.tl
  · rw [W38, s22]; exact h.tb i hi
  · rw [W37, s32]; exact h.fq q hq
  · rw [W37, s32]; exact h.f0
  · rw [W44, W45, W46, A q hq, B q hq]; exact h.sh q hq
theorem RM.num {S w : Wd} (h : RM S w) {q0 : Nat} (hq0 : q0 < 4) {t : Nat} (ht : t < 40) (v : Int32) : RM (up S (24 + 2 * q0 + 1) t v) (up w 46 (40 * q0 + t) v) := by
  generalize eS : up S (24 + 2 * q0 + 1) t v = S2
  generalize eW : up w 46 (40 * q0 + t) v = w2
  have oS : ∀ k, k ≠ 24 + 2 * q0 + 1 → S2 k = S k := fun k hk => by rw [← eS]; exact up_other _ _ _ _ hk
  have oW : ∀ k, k ≠ 46 → w2 k = w k := fun k hk => by rw [← eW]; exact up_other _ _ _ _ hk
  have h1 : hget S2 1 = hget S 1 := by unfold hget; rw [oS 1 (by omega), oS 2 (by omega), oS 3 (by omega), oS 4 (by omega), oS 5 (by omega), oS 6 (by omega)]
  have h13 : hget S2 13 = hget S 13 := by unfold hget; rw [oS 13 (by omega), oS 14 (by omega), oS 15 (by omega), oS 16 (by omega), oS 17 (by omega), oS 18 (by omega)]
  have s06 : S2 0 6 = S 0 6 := by rw [oS 0 (by omega)]
  have s07 : S2 0 7 = S 0 7 := by rw [oS 0 (by omega)]
  have s03 : S2 0 3 = S 0 3 := by rw [oS 0 (by omega)]
  have s19 : S2 19 = S 19 := oS 19 (by omega)
  have s20 : S2 20 = S 20 := oS 20 (by omega)
  have s21 : S2 21 1 = S 21 1 := by rw [oS 21 (by omega)]
  have s22 : S2 22 = S 22 := oS 22 (by omega)
  have s32 : S2 32 = S 32 := oS 32 (by omega)
  have A : ∀ q, q < 4 → S2 (24 + 2 * q) = S (24 + 2 * q) := fun q hq => oS _ (by omega)
  have W34 : w2 34 = w 34 := oW 34 (by omega)
  have W35 : w2 35 = w 35 := oW 35 (by omega)
  have W33_3 : w2 33 3 = w 33 3 := by rw [oW 33 (by omega)]
  have W33_5 : w2 33 5 = w 33 5 := by rw [oW 33 (by omega)]
  have W33_7 : w2 33 7 = w 33 7 := by rw [oW 33 (by omega)]
  have W38 : w2 38 = w 38 := oW 38 (by omega)
  have W37 : w2 37 = w 37 := oW 37 (by omega)
  have W44 : w2 44 = w 44 := oW 44 (by omega)
  have W45 : w2 45 = w 45 := oW 45 (by omega)
  refine RM.mk (fun i hi => ?_) ?_ (fun hk i hi => ?_) ?_ ?_ (fun i hi => ?_) (fun q hq => ?_) ?_ (fun q hq => ?_)
  · rw [W34, h1, s06, s19]; exact h.row i hi
  · rw [W33_3, s03]; exact h.kf
  · rw [s03] at hk; rw [W35, h13, s07, s20]; exact h.kr hk i hi
  · rw [W33_5]; exact h.te
  · rw [W33_7, s21]; exact h.tl
  · rw [W38, s22]; exact h.tb i hi
  · rw [W37, s32]; exact h.fq q hq
  · rw [W37, s32]; exact h.f0
  · rw [W44, W45, A q hq]
    refine ⟨(h.sh q hq).1, (h.sh q hq).2.1, fun i hi => ?_⟩
    rw [← eW, up_same]
    by_cases e : q = q0
    · subst e
      rw [← eS, up_same]
      unfold upd
      by_cases e2 : i = t
      · rw [if_pos (by omega), if_pos e2]
      · rw [if_neg (by omega), if_neg e2]; exact (h.sh q hq).2.2 i hi
    · unfold upd
      rw [if_neg (by omega), oS _ (by omega)]; exact (h.sh q hq).2.2 i hi
theorem hget_u {S : Wd} {k j : Nat} {v : Int32} {a : Nat} (h : k < a ∨ a + 6 ≤ k) : hget (up S k j v) a = hget S a := by
  unfold hget
  rw [up_other _ _ _ _ (by omega), up_other _ _ _ _ (by omega), up_other _ _ _ _ (by omega), up_other _ _ _ _ (by omega), up_other _ _ _ _ (by omega), up_other _ _ _ _ (by omega)]
theorem rem_in (z : Int32) {d : Nat} (h0 : 0 < d) (hd : d < 100) : 0 ≤ drawV z - drawV z / nI d * nI d ∧ drawV z - drawV z / nI d * nI d ≤ nI (d - 1) := by
  have h : ¬ drawV z < 0 := by
    have e := pk_ushr (drawZ z) 8 8 (by decide)
    have hl : (drawV z).toBitVec.toNat < 2 ^ 24 := by
      show ((drawZ z).toUInt32 >>> ((8 : Int32).toUInt32 &&& Int32.toUInt32 31)).toInt32.toBitVec.toNat < _
      rw [e]
      have := (drawZ z).toBitVec.isLt
      omega
    rw [Int32.lt_iff_toInt_lt]
    show ¬ (drawV z).toBitVec.toInt < 0
    rw [BitVec.toInt_eq_toNat_of_lt (by omega)]
    omega
  obtain ⟨c, hc, e⟩ := nI_of h
  rw [e, pk_rem hc h0 (by omega)]
  have := Nat.mod_lt c h0
  exact ⟨nI_pos' (by omega), (nI_leI (by omega) (by omega)).mpr (by omega)⟩
theorem nights_IV {n b : Nat} {A : HA} (hI : IVA n b A) (z : Int32) : ∀ i, b + i ≤ 99999 → IVA n (b + i) (nightsF n i (z, A)).2
  | 0, _ => hI
  | i + 1, hi => by
    have h := nights_IV hI z i (by omega)
    exact hour_IV (b := b + i) ((h.s3 (in15 (rem_in _ (d := 16) (by decide) (by decide)))).s4 (rem_in _ (d := 6) (by decide) (by decide))) (by omega)
theorem up_hp {a k j : Nat} {v : Int32} {B : HA} {S : Wd} (hk : k < a ∨ a + 6 ≤ k) : up (hput a B S) k j v = hput a B (up S k j v) := by
  funext i
  by_cases h : i = k
  · subst h; rw [up_same, hput_out _ _ (by omega), hput_out _ _ (by omega), up_same]
  · rw [up_other _ _ _ _ h]; exact hput_cg B (up_other _ _ _ _ h).symm
theorem go_num2 {x : Int32} {b i : Nat} (hb : b + i ≤ 99999) (h : 0 ≤ x ∧ x ≤ nI b) : x + nI i ≤ 99999 ∧ x ≤ 99999 - nI i := by
  obtain ⟨c, hc, rfl⟩ := nI_of (Int32.not_lt.mpr h.1)
  have h1 := (nI_leI hc (by omega)).mp h.2
  rw [nI_add, show (99999 : Int32) = nI 99999 from rfl, pk_sub (by omega), nI_leI (by omega) (by omega), nI_leI (by omega) (by omega)]
  omega
theorem st_num {x : Int32} (h1 : -1 ≤ x) (h2 : x ≤ 6) : ∃ c, c < 8 ∧ x + 1 = nI c := by
  obtain ⟨c, hc, e⟩ := nI_of2 (x := x + 1) (M := 7) (n := 7) rfl (by grind) (by grind)
  exact ⟨c, by omega, e⟩
theorem st_val {S w : Wd} (hR : RM S w) {x : Int32} {c : Nat} (e : x + 1 = nI c) (hc : c < 8) : (if x < 0 then sumF (S 32) 7 else S 32 x.toNatClampNeg) = w 37 c := by
  rcases c with _ | c
  · have : x = -1 := by have e2 : x + 1 = 0 := e; grind
    rw [if_pos (by rw [this]; decide)]; exact hR.f0.symm
  · have : x = nI c := by rw [nI_succ] at e; grind
    rw [this, if_neg (nI_pos (by omega)), nI_clamp (by omega)]; exact (hR.fq c (by omega)).symm
set_option maxRecDepth 4000 in
theorem cQ_drawn {l : Launch} {g : GG} {w : Wd} {A : HA} {zz : Int32} (hz : w 34 2 = zz) : Res l g Q_drawn [.ref (g.1 33)] (mput A w) (Is (some (.int (drawV zz))) (mput A (up w 34 2 (drawZ zz)))) := by
  refine Res.of (by decide) (by simp [Value.category]) (Nat.le_of_ble_eq_true rfl) rfl ?_
  show Go l g Q_drawn 0 [some (.ref (g.1 33))] [] (mput A w) _
  refine g_aload_n dQ_drawn_0 rfl ?_
  refine g_getR2 (k2 := 34) dQ_drawn_1 fQ_9 rfl rfl (by decide) rfl ?_
  refine g_iconst (v := 2) dQ_drawn_4 (by decide) ?_
  refine g_aload_n dQ_drawn_5 rfl ?_
  refine g_getR2 (k2 := 34) dQ_drawn_6 fQ_9 rfl rfl (by decide) rfl ?_
  refine g_iconst (v := 2) dQ_drawn_9 (by decide) ?_
  refine g_ialdN (i := 2) dQ_drawn_10 rfl (by decide) (by decide) ?_
  refine g_top (y := zz) (by rw [mput_z]; exact hz) ?_
  refine g_ldc dQ_drawn_11 fQ_246 ?_
  refine g_imul dQ_drawn_13 ?_
  refine g_sipush (v := 12345) dQ_drawn_14 (by decide) ?_
  refine g_iadd dQ_drawn_17 ?_
  refine g_iastN (i := 2) dQ_drawn_18 rfl (by decide) (by decide) ?_
  rw [up_mz]
  refine g_aload_n dQ_drawn_19 rfl ?_
  refine g_getR2 (k2 := 34) dQ_drawn_20 fQ_9 rfl rfl (by decide) rfl ?_
  refine g_iconst (v := 2) dQ_drawn_23 (by decide) ?_
  refine g_ialdN (i := 2) dQ_drawn_24 rfl (by decide) (by decide) ?_
  refine g_top (y := drawZ zz) (by rw [mput_z, up_same]; rfl) ?_
  refine g_bipush (v := 8) dQ_drawn_25 (by decide) ?_
  refine g_iushr dQ_drawn_27 ?_
  refine g_iret dQ_drawn_28 rfl rfl ?_
  exact ⟨rfl, rfl⟩

set_option maxRecDepth 4000 in
theorem lQ_nights {l : Launch} {g : GG} {S w : Wd} {A : HA} {n b : Nat} (hA : hget S 1 = A) (hR : RM S w) (hI : IVA n b A) {k : Nat} (hb : b + k ≤ 99999) : ∀ (m : Nat) (i : Nat), (k - i < m) → (i ≤ k) → Go l g Q_nights 39 [some (.ref (g.1 33)), some (.int (nI k)), some (.int (nI i))] [] (mput (nightsF n i (S 0 6, A)).2 (up w 34 2 (nightsF n i (S 0 6, A)).1)) (IsQ (sumF (nightsF n k (S 0 6, A)).2.2.2.2.1 n, up (hput 1 (nightsF n k (S 0 6, A)).2 S) 0 6 (nightsF n k (S 0 6, A)).1) w) := by
  intro m
  induction m with
  | zero => intro i hm hi; omega
  | succ m ih =>
    intro i hm hi
    have hN := nights_IV hI (S 0 6) i (by omega)
    have z2 : ∀ v, up w 34 2 v 34 2 = v := fun v => by rw [up_same]; rfl
    refine g_iload_n dQ_nights_39 rfl ?_
    refine g_iload_n dQ_nights_40 rfl ?_
    refine g_icmp_ge dQ_nights_41 rfl (fun h41 => ?_) (fun h41 => ?_)
    · rw [nI_leI (by omega) (by omega)] at h41
      obtain rfl : i = k := by omega
      refine g_aload_n dQ_nights_81 rfl ?_
      refine g_iconst (v := 2) dQ_nights_82 (by decide) ?_
      refine gV1 dQ_nights_83 kQ_nights_194 rfl rfl (cQ_sumOf hN.n6 hI.n8 (f := 2) (by decide)) (Nat.le_of_ble_eq_true rfl) ?_
      refine g_iret dQ_nights_86 rfl rfl ?_
      refine IsQ_W (fun k hk => by rw [mput_o _ _ (by omega), up_other _ _ _ _ (by omega)]) ?_ rfl
      have hq := (hR.zz (nightsF n i (S 0 6, A)).1).aput (nightsF n i (S 0 6, A)).2
      rw [show hput 1 (nightsF n i (S 0 6, A)).2 (up S 0 6 (nightsF n i (S 0 6, A)).1) = up (hput 1 (nightsF n i (S 0 6, A)).2 S) 0 6 (nightsF n i (S 0 6, A)).1 from (up_hp (by decide)).symm] at hq
      exact hq
    · rw [nI_leI (by omega) (by omega)] at h41
      refine g_aload_n dQ_nights_44 rfl ?_
      refine g_getR2 (k2 := 34) dQ_nights_45 fQ_9 rfl rfl (by decide) rfl ?_
      refine g_iconst (v := 5) dQ_nights_48 (by decide) ?_
      refine g_aload_n dQ_nights_49 rfl ?_
      refine gV0 dQ_nights_50 kQ_nights_247 rfl rfl (cQ_drawn (z2 _)) (Nat.le_of_ble_eq_true rfl) ?_
      rw [up_up]
      refine g_bipush (v := 16) dQ_nights_53 (by decide) ?_
      refine g_irem dQ_nights_55 (by decide) ?_
      refine g_mP (j := 3) (i := 5) dQ_nights_56 rfl (by decide) (by decide) ?_
      refine g_aload_n dQ_nights_57 rfl ?_
      refine g_getR2 (k2 := 34) dQ_nights_58 fQ_9 rfl rfl (by decide) rfl ?_
      refine g_bipush (v := 6) dQ_nights_61 (by decide) ?_
      refine g_aload_n dQ_nights_63 rfl ?_
      refine gV0 dQ_nights_64 kQ_nights_247 rfl rfl (cQ_drawn (z2 _)) (Nat.le_of_ble_eq_true rfl) ?_
      rw [up_up]
      refine g_bipush (v := 6) dQ_nights_67 (by decide) ?_
      refine g_irem dQ_nights_69 (by decide) ?_
      refine g_mP (j := 4) (i := 6) dQ_nights_70 rfl (by decide) (by decide) ?_
      refine g_aload_n dQ_nights_71 rfl ?_
      refine gV0v dQ_nights_72 kQ_nights_187 rfl rfl (eQ_hour (b := b + i) ((hN.s3 (in15 (rem_in _ (d := 16) (by decide) (by decide)))).s4 (rem_in _ (d := 6) (by decide) (by decide))) (by omega) (by rw [up_other _ _ _ _ (by decide)]; exact hR.te)) (Nat.le_of_ble_eq_true rfl) ?_
      refine g_iinc (v := nI (i + 1)) dQ_nights_75 rfl (nI_succ i).symm (by decide) rfl rfl ?_
      dsimp only [List.set]
      refine g_goto dQ_nights_78 rfl ?_
      exact ih (i + 1) (by omega) (by omega)

set_option maxRecDepth 4000 in
theorem cQ_nights {l : Launch} {g : GG} {S w : Wd} {A : HA} {n b : Nat} (hA : hget S 1 = A) (hR : RM S w) (hI : IVA n b A) {k : Int32} (hb : b + 20 ≤ 99999) : Res l g Q_nights [.ref (g.1 33), .int k] (mput A w) (IsQ (nightsC n k S) w) := by
  have h8 := hI.n8
  refine Res.of (by decide) (by simp [Value.category]) (Nat.le_of_ble_eq_true rfl) rfl ?_
  show Go l g Q_nights 0 [some (.ref (g.1 33)), some (.int k), none] [] (mput A w) _
  refine g_iload_n dQ_nights_0 rfl ?_
  refine g_iconst (v := 1) dQ_nights_1 (by decide) ?_
  refine g_bipush (v := 20) dQ_nights_2 (by decide) ?_
  refine gS3 dQ_nights_4 kQ_nights_79 cQ_within (Nat.le_of_ble_eq_true rfl) ?_
  refine g_if_ne dQ_nights_7 rfl (fun h7 => ?_) (fun h7 => ?_)
  · have h7 := Classical.not_not.mp (fun z => h7 (bI_0.mpr z))
    have h7b := h7
    obtain ⟨iz, hiz, eiz⟩ := nI_of2 (x := k) (M := 20) (n := 20) rfl (Int32.not_lt.mpr (Int32.le_trans (by decide) h7.1)) h7.2
    subst eiz
    refine g_aload_n dQ_nights_17 rfl ?_
    refine g_getR2 (k2 := 34) dQ_nights_18 fQ_9 rfl rfl (by decide) rfl ?_
    refine g_iconst (v := 0) dQ_nights_21 (by decide) ?_
    refine g_mS (j := 5) (i := 0) dQ_nights_22 rfl (by decide) (by decide) ?_
    refine g_iload_n dQ_nights_23 rfl ?_
    refine g_iadd dQ_nights_24 ?_
    refine g_ldc dQ_nights_25 fQ_190 ?_
    refine g_icmp_le dQ_nights_27 rfl (fun h27 => ?_) (fun h27 => ?_)
    · have hle := go_num2 (b := b) (i := iz) (by omega) hI.ho
      refine g_iconst (v := 0) dQ_nights_37 (by decide) ?_
      refine g_istore_n dQ_nights_38 (by decide) rfl rfl ?_
      dsimp only [List.set]
      refine g_w (w1 := mput (nightsF n 0 (S 0 6, A)).2 (up w 34 2 (nightsF n 0 (S 0 6, A)).1)) (by show mput A w = mput A (up w 34 2 (S 0 6)); rw [up_id2 _ _ _ hR.z]) ?_
      refine g_mono (fun r w2 hh => ?_) (lQ_nights hA hR hI (k := iz) (by omega) (iz + 1) 0 (by omega) (by omega))
      rw [show nightsC n (nI iz) S = (sumF (nightsF n iz (S 0 6, A)).2.2.2.2.1 n, up (hput 1 (nightsF n iz (S 0 6, A)).2 S) 0 6 (nightsF n iz (S 0 6, A)).1) by simp only [nightsC, hA, gA1 hA, gA2 hA, gA3 hA, gA4 hA, gA5 hA, gA6 hA]; rw [if_pos h7b, if_pos hle.2, nI_clamp (by omega)]]
      exact hh
    · have hle := go_num2 (b := b) (i := iz) (by omega) hI.ho
      exact absurd hle.1 h27
  · have h7 := bI_0.mp h7
    refine g_aload_n dQ_nights_10 rfl ?_
    refine g_ldc dQ_nights_11 fQ_69 ?_
    refine gV1 dQ_nights_13 kQ_nights_75 rfl rfl (cQ_finding (q := 0) (by decide)) (Nat.le_of_ble_eq_true rfl) ?_
    refine g_iret dQ_nights_16 rfl rfl ?_
    exact IsQ_F hA hR (by decide) (by rw [nightsC, if_neg h7])

set_option maxRecDepth 4000 in
theorem cQ_becomeZ {l : Launch} {g : GG} {w : Wd} {v : Int32} : Res l g Q_become [.ref (g.1 33), .int (nI 2), .int v] w (Is (some (.int (w 34 2))) (up w 34 2 v)) := by
  refine Res.of (by decide) (by simp [Value.category]) (Nat.le_of_ble_eq_true rfl) rfl ?_
  show Go l g Q_become 0 [some (.ref (g.1 33)), some (.int (nI 2)), some (.int v), none] [] w _
  refine g_aload_n dQ_become_0 rfl ?_
  refine g_getR2 (k2 := 34) dQ_become_1 fQ_9 rfl rfl (by decide) rfl ?_
  refine g_iload_n dQ_become_4 rfl ?_
  refine g_ialdN (i := 2) dQ_become_5 rfl (by decide) (by decide) ?_
  refine g_istore_n dQ_become_6 (by decide) rfl rfl ?_
  dsimp only [List.set]
  refine g_aload_n dQ_become_7 rfl ?_
  refine g_getR2 (k2 := 34) dQ_become_8 fQ_9 rfl rfl (by decide) rfl ?_
  refine g_iload_n dQ_become_11 rfl ?_
  refine g_iload_n dQ_become_12 rfl ?_
  refine g_iastN (i := 2) dQ_become_13 rfl (by decide) (by decide) ?_
  refine g_iload_n dQ_become_14 rfl ?_
  refine g_iret dQ_become_15 rfl rfl ?_
  exact ⟨rfl, rfl⟩

set_option maxRecDepth 4000 in
theorem cQ_seed {l : Launch} {g : GG} {S w : Wd} (hR : RM S w) {v : Int32} : Res l g Q_seed [.ref (g.1 33), .int v] w (IsQ (seedC v S) w) := by
  refine Res.of (by decide) (by simp [Value.category]) (Nat.le_of_ble_eq_true rfl) rfl ?_
  show Go l g Q_seed 0 [some (.ref (g.1 33)), some (.int v)] [] w _
  refine g_aload_n dQ_seed_0 rfl ?_
  refine g_iconst (v := 2) dQ_seed_1 (by decide) ?_
  refine g_iload_n dQ_seed_2 rfl ?_
  refine gV2 dQ_seed_3 kQ_seed_98 rfl rfl cQ_becomeZ (Nat.le_of_ble_eq_true rfl) ?_
  refine g_iret dQ_seed_6 rfl rfl ?_
  exact IsQ_W (fun k hk => up_other _ _ _ _ (by omega)) (hR.zz v) (by rw [seedC, hR.z])

set_option maxRecDepth 4000 in
theorem cQ_wipe {l : Launch} {g : GG} {S w : Wd} (hR : RM S w)  : Res l g Q_wipe [.ref (g.1 33)] w (IsQ (wipeC S) w) := by
  refine Res.of (by decide) (by simp [Value.category]) (Nat.le_of_ble_eq_true rfl) rfl ?_
  show Go l g Q_wipe 0 [some (.ref (g.1 33)), none] [] w _
  refine g_aload_n dQ_wipe_0 rfl ?_
  refine g_getI dQ_wipe_1 fQ_250 rfl rfl ?_
  refine g_istore_n dQ_wipe_4 (by decide) rfl rfl ?_
  dsimp only [List.set]
  refine g_aload_n dQ_wipe_5 rfl ?_
  refine g_iconst (v := 0) dQ_wipe_6 (by decide) ?_
  refine g_putI dQ_wipe_7 fQ_250 rfl rfl rfl rfl ?_
  refine g_iload_n dQ_wipe_10 rfl ?_
  refine g_iret dQ_wipe_11 rfl rfl ?_
  exact IsQ_W (fun k hk => up_other _ _ _ _ (by omega)) (hR.tlen 0) (by rw [wipeC, hR.tl])

set_option maxRecDepth 4000 in
theorem cQ_tear {l : Launch} {g : GG} {S w : Wd} (hR : RM S w)  : Res l g Q_tear [.ref (g.1 33)] w (IsQ (tearC S) w) := by
  refine Res.of (by decide) (by simp [Value.category]) (Nat.le_of_ble_eq_true rfl) rfl ?_
  show Go l g Q_tear 0 [some (.ref (g.1 33)), none] [] w _
  refine g_aload_n dQ_tear_0 rfl ?_
  refine g_getI dQ_tear_1 fQ_347 rfl rfl ?_
  refine g_if_eq dQ_tear_4 rfl (fun h4 => ?_) (fun h4 => ?_)
  · rw [hR.kf] at h4
    refine g_iconst (v := 0) dQ_tear_11 (by decide) ?_
    refine g_istore_n dQ_tear_12 (by decide) rfl rfl ?_
    dsimp only [List.set]
    refine g_aload_n dQ_tear_13 rfl ?_
    refine g_iconst (v := 0) dQ_tear_14 (by decide) ?_
    refine g_putI dQ_tear_15 fQ_347 rfl rfl rfl rfl ?_
    refine g_iload_n dQ_tear_18 rfl ?_
    refine g_iret dQ_tear_19 rfl rfl ?_
    exact IsQ_W (fun k hk => up_other _ _ _ _ (by omega)) hR.tear (by first | rw [tearC, if_pos h4] | rw [tearC, if_neg h4])
  · rw [hR.kf] at h4
    refine g_iconst (v := 1) dQ_tear_7 (by decide) ?_
    refine g_goto dQ_tear_8 rfl ?_
    refine g_istore_n dQ_tear_12 (by decide) rfl rfl ?_
    dsimp only [List.set]
    refine g_aload_n dQ_tear_13 rfl ?_
    refine g_iconst (v := 0) dQ_tear_14 (by decide) ?_
    refine g_putI dQ_tear_15 fQ_347 rfl rfl rfl rfl ?_
    refine g_iload_n dQ_tear_18 rfl ?_
    refine g_iret dQ_tear_19 rfl rfl ?_
    exact IsQ_W (fun k hk => up_other _ _ _ _ (by omega)) hR.tear (by first | rw [tearC, if_pos h4] | rw [tearC, if_neg h4])

set_option maxRecDepth 4000 in
theorem cQ_status {l : Launch} {g : GG} {S w : Wd} (hR : RM S w) {x : Int32} : Res l g Q_status [.ref (g.1 33), .int x] w (IsQ (statusC x S) w) := by
  refine Res.of (by decide) (by simp [Value.category]) (Nat.le_of_ble_eq_true rfl) rfl ?_
  show Go l g Q_status 0 [some (.ref (g.1 33)), some (.int x)] [] w _
  refine g_iload_n dQ_status_0 rfl ?_
  refine g_iconst (v := (-1)) dQ_status_1 (by decide) ?_
  refine g_bipush (v := 6) dQ_status_2 (by decide) ?_
  refine gS3 dQ_status_4 kQ_status_79 cQ_within (Nat.le_of_ble_eq_true rfl) ?_
  refine g_if_eq dQ_status_7 rfl (fun h7 => ?_) (fun h7 => ?_)
  · have h7 := bI_0.mp h7
    refine g_aload_n dQ_status_21 rfl ?_
    refine g_ldc dQ_status_22 fQ_69 ?_
    refine gV1 dQ_status_24 kQ_status_75 rfl rfl (cQ_finding (q := 0) (by decide)) (Nat.le_of_ble_eq_true rfl) ?_
    refine g_iret dQ_status_27 rfl rfl ?_
    first
      | exact IsQ_R0 hR (by rw [statusC, if_pos hx, st_val hR ec7 hc7])
      | exact IsQ_F0 hR (by decide) (by rw [statusC, if_neg h7])
  · have h7 := Classical.not_not.mp (fun z => h7 (bI_0.mpr z))
    have hx := h7
    obtain ⟨c7, hc7, ec7⟩ := st_num h7.1 h7.2
    refine g_aload_n dQ_status_10 rfl ?_
    refine g_getR2 (k2 := 37) dQ_status_11 fQ_19 rfl rfl (by decide) rfl ?_
    refine g_iload_n dQ_status_14 rfl ?_
    refine g_iconst (v := 1) dQ_status_15 (by decide) ?_
    refine g_iadd dQ_status_16 ?_
    refine g_top (y := nI c7) ec7 ?_
    refine g_ialdN (i := c7) dQ_status_17 rfl (by omega) (by decide) ?_
    refine g_goto dQ_status_18 rfl ?_
    refine g_iret dQ_status_27 rfl rfl ?_
    first
      | exact IsQ_R0 hR (by rw [statusC, if_pos hx, st_val hR ec7 hc7])
      | exact IsQ_F0 hR (by decide) (by rw [statusC, if_neg h7])
