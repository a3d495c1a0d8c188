/-! the reference's cells tell the class's state S -/
def mz (z : Int32) (sp : Nat → Int32) : Nat → Int32 := fun i => if i = 2 then z else sp (i - 8)
def RM (S w : Wd) : Prop :=
  (∀ i, i < 58 → w 34 i = mrow (hget S 1) (mz (S 0 6) (S 19)) i) ∧ w 33 3 = S 0 3 ∧
  (S 0 3 ≠ 0 → ∀ i, i < 58 → w 35 i = mrow (hget S 13) (mz (S 0 7) (S 20)) i) ∧
  w 33 5 = 0 ∧ w 33 7 = S 21 1 ∧ (∀ i, i < 120 → w 38 i = S 22 i) ∧
  (∀ q, q < 7 → w 37 (q + 1) = S 32 q) ∧ w 37 0 = sumF (S 32) 7 ∧
  (∀ q, q < 4 → w 44 q = S (24 + 2 * q) 0 ∧ w 45 q = S (24 + 2 * q) 1 ∧ ∀ i, i < 40 → w 46 (40 * q + i) = S (24 + 2 * q + 1) i)
section RMS
variable {S w : Wd}
theorem RM.row (h : RM S w) : ∀ i, i < 58 → w 34 i = mrow (hget S 1) (mz (S 0 6) (S 19)) i := h.1
theorem RM.kf (h : RM S w) : w 33 3 = S 0 3 := h.2.1
theorem RM.kr (h : RM S w) : S 0 3 ≠ 0 → ∀ i, i < 58 → w 35 i = mrow (hget S 13) (mz (S 0 7) (S 20)) i := h.2.2.1
theorem RM.te (h : RM S w) : w 33 5 = 0 := h.2.2.2.1
theorem RM.tl (h : RM S w) : w 33 7 = S 21 1 := h.2.2.2.2.1
theorem RM.tb (h : RM S w) : ∀ i, i < 120 → w 38 i = S 22 i := h.2.2.2.2.2.1
theorem RM.fq (h : RM S w) : ∀ q, q < 7 → w 37 (q + 1) = S 32 q := h.2.2.2.2.2.2.1
theorem RM.f0 (h : RM S w) : w 37 0 = sumF (S 32) 7 := h.2.2.2.2.2.2.2.1
theorem RM.sh (h : RM S w) : ∀ q, q < 4 → w 44 q = S (24 + 2 * q) 0 ∧ w 45 q = S (24 + 2 * q) 1 ∧ ∀ i, i < 40 → w 46 (40 * q + i) = S (24 + 2 * q + 1) i := h.2.2.2.2.2.2.2.2
theorem RM.mk {S w : Wd} (h1 : ∀ i, i < 58 → w 34 i = mrow (hget S 1) (mz (S 0 6) (S 19)) i) (h2 : w 33 3 = S 0 3) (h3 : S 0 3 ≠ 0 → ∀ i, i < 58 → w 35 i = mrow (hget S 13) (mz (S 0 7) (S 20)) i) (h4 : w 33 5 = 0) (h5 : w 33 7 = S 21 1) (h6 : ∀ i, i < 120 → w 38 i = S 22 i) (h7 : ∀ q, q < 7 → w 37 (q + 1) = S 32 q) (h8 : w 37 0 = sumF (S 32) 7) (h9 : ∀ q, q < 4 → w 44 q = S (24 + 2 * q) 0 ∧ w 45 q = S (24 + 2 * q) 1 ∧ ∀ i, i < 40 → w 46 (40 * q + i) = S (24 + 2 * q + 1) i) : RM S w := ⟨h1, h2, h3, h4, h5, h6, h7, h8, h9⟩
theorem mrow_in {A : HA} {r : Nat → Int32} {i : Nat} (h : ¬ (i = 2 ∨ (8 ≤ i ∧ i < 18) ∨ 58 ≤ i)) (r2 : Nat → Int32) : mrow A r i = mrow A r2 i := by
  rcases mcases i with ⟨j2, hj2, rfl⟩ | h2 | ⟨f, j2, hf, hj2, rfl⟩
  · rw [mrow_s _ _ hj2, mrow_s _ _ hj2]
  · exact absurd h2 h
  · rw [mrow_f _ _ hf hj2, mrow_f _ _ hf hj2]
theorem RM.self (h : RM S w) : mput (hget S 1) w = w := by
  funext k
  by_cases hk : k = 34
  · subst hk
    rw [mput_34]
    funext i
    by_cases hi : i = 2 ∨ (8 ≤ i ∧ i < 18) ∨ 58 ≤ i
    · exact mrow_r _ _ hi
    · rw [h.row i (by omega)]
      exact mrow_in hi _
  · exact mput_o _ _ hk
theorem RM.z (h : RM S w) : w 34 2 = S 0 6 := by rw [h.row 2 (by decide)]; rfl
theorem RM.sp (h : RM S w) {i : Nat} (hi : i < 10) : w 34 (8 + i) = S 19 i := by
  rw [h.row _ (by omega), mrow_r _ _ (Or.inr (Or.inl ⟨by omega, by omega⟩))]
  unfold mz
  rw [if_neg (by omega), show 8 + i - 8 = i by omega]
/-! what holds behind a call of the reference's -/
def IsQ (p : Int32 × Wd) (w : Wd) : Option Value → Wd → Prop := fun r w' => r = some (.int p.1) ∧ RM p.2 w' ∧ ∀ k, k < 33 → w' k = w k
theorem RM.aput (h : RM S w) (A : HA) : RM (hput 1 A S) (mput A w) := by
  have o : ∀ k, k ≠ 1 → k ≠ 2 → k ≠ 3 → k ≠ 4 → k ≠ 5 → k ≠ 6 → hput 1 A S k = S k := fun k h1 h2 h3 h4 h5 h6 => hput_out A S (by omega)
  refine RM.mk (fun i hi => ?_) ?_ (fun hk i hi => ?_) ?_ ?_ (fun i hi => ?_) (fun q hq => ?_) ?_ (fun q hq => ?_)
  · rw [mput_34, hget_hput, o 0 (by decide) (by decide) (by decide) (by decide) (by decide) (by decide), o 19 (by decide) (by decide) (by decide) (by decide) (by decide) (by decide)]
    by_cases h2 : i = 2 ∨ (8 ≤ i ∧ i < 18) ∨ 58 ≤ i
    · rw [mrow_r _ _ h2, mrow_r _ _ h2, h.row i hi, mrow_r _ _ h2]
    · exact mrow_in h2 _
  · rw [mput_o _ _ (by decide), o 0 (by decide) (by decide) (by decide) (by decide) (by decide) (by decide)]; exact h.kf
  · rw [o 0 (by decide) (by decide) (by decide) (by decide) (by decide) (by decide)] at hk
    rw [mput_o _ _ (by decide), hget_out _ _ (by decide), o 0 (by decide) (by decide) (by decide) (by decide) (by decide) (by decide), o 20 (by decide) (by decide) (by decide) (by decide) (by decide) (by decide)]
    exact h.kr hk i hi
  · rw [mput_o _ _ (by decide)]; exact h.te
  · rw [mput_o _ _ (by decide), o 21 (by decide) (by decide) (by decide) (by decide) (by decide) (by decide)]; exact h.tl
  · rw [mput_o _ _ (by decide), o 22 (by decide) (by decide) (by decide) (by decide) (by decide) (by decide)]; exact h.tb i hi
  · rw [mput_o _ _ (by decide), o 32 (by decide) (by decide) (by decide) (by decide) (by decide) (by decide)]; exact h.fq q hq
  · rw [mput_o _ _ (by decide), o 32 (by decide) (by decide) (by decide) (by decide) (by decide) (by decide)]; exact h.f0
  · rw [mput_o _ _ (by decide), mput_o _ _ (by decide), mput_o _ _ (by decide), hput_out A S (by omega), hput_out A S (by omega)]; exact h.sh q hq
theorem sum_up (f : Nat → Int32) {q : Nat} (hq : q < 7) : sumF (upd f q (f q + 1)) 7 = sumF f 7 + 1 := by
  have : q = 0 ∨ q = 1 ∨ q = 2 ∨ q = 3 ∨ q = 4 ∨ q = 5 ∨ q = 6 := by omega
  rcases this with rfl | rfl | rfl | rfl | rfl | rfl | rfl <;> simp only [sumF, upd] <;> simp <;> grind
theorem qf_o {q k : Nat} (w : Wd) (h : k ≠ 37) : qf q w k = w k := by
  unfold qf
  rw [up_other _ _ _ _ h, up_other _ _ _ _ h]
theorem qf_37 (q : Nat) (w : Wd) : qf q w 37 = upd (upd (w 37) (q + 1) (w 37 (q + 1) + 1)) 0 (w 37 0 + 1) := by
  unfold qf
  rw [up_same, up_same]
theorem fcl_o {q k : Nat} (w : Wd) (h : k ≠ 32) : fcl q w k = w k := up_other _ _ _ _ h
theorem RM.afnd (h : RM S w) {q : Nat} (hq : q < 7) : RM (fcl q S) (qf q w) := by
  have hg : ∀ a, a ≤ 13 → hget (fcl q S) a = hget S a := fun a ha => by
    unfold hget
    rw [fcl_o S (by omega), fcl_o S (by omega), fcl_o S (by omega), fcl_o S (by omega), fcl_o S (by omega), fcl_o S (by omega)]
  have h32 : fcl q S 32 = upd (S 32) q (S 32 q + 1) := up_same _ _ _ _
  refine RM.mk (fun i hi => ?_) ?_ (fun hk i hi => ?_) ?_ ?_ (fun i hi => ?_) (fun q2 hq2 => ?_) ?_ (fun q2 hq2 => ?_)
  · rw [qf_o w (by decide), hg 1 (by decide), fcl_o S (by decide), fcl_o S (by decide)]; exact h.row i hi
  · rw [qf_o w (by decide), fcl_o S (by decide)]; exact h.kf
  · rw [fcl_o S (by decide)] at hk
    rw [qf_o w (by decide), hg 13 (by decide), fcl_o S (by decide), fcl_o S (by decide)]; exact h.kr hk i hi
  · rw [qf_o w (by decide)]; exact h.te
  · rw [qf_o w (by decide), fcl_o S (by decide)]; exact h.tl
  · rw [qf_o w (by decide), fcl_o S (by decide)]; exact h.tb i hi
  · rw [qf_37, h32]
    by_cases e : q2 = q
    · subst e
      unfold upd
      rw [if_neg (by omega), if_pos rfl, if_pos rfl, h.fq q2 hq2]
    · unfold upd
      rw [if_neg (by omega), if_neg (by omega), if_neg e, h.fq q2 hq2]
  · rw [qf_37, h32, sum_up _ hq, ← h.f0]
    unfold upd
    rw [if_pos rfl]
  · rw [qf_o w (by decide), qf_o w (by decide), qf_o w (by decide), fcl_o S (by omega), fcl_o S (by omega)]; exact h.sh q2 hq2
variable {A : HA} {p : Int32 × Wd}
theorem RM.put (hR : RM S w) (hA : hget S 1 = A) : mput A w = w := by subst hA; exact hR.self
theorem IsQ_R (hA : hget S 1 = A) (hR : RM S w) {r : Int32} (h : p = (r, S)) : IsQ p w (some (.int r)) (mput A w) := by
  subst h; rw [hR.put hA]; exact ⟨rfl, hR, fun _ _ => rfl⟩
theorem IsQ_F (hA : hget S 1 = A) (hR : RM S w) {q : Nat} (hq : q < 7) (h : p = fnd q S) : IsQ p w (some (.int (-1000001 - nI q))) (qf q (mput A w)) := by
  subst h; rw [hR.put hA]; exact ⟨rfl, hR.afnd hq, fun k hk => qf_o w (by omega)⟩
theorem IsQ_A (hR : RM S w) {r : Int32} (h : p = (r, hput 1 A S)) : IsQ p w (some (.int r)) (mput A w) := by
  subst h; exact ⟨rfl, hR.aput A, fun k hk => mput_o _ _ (by omega)⟩
theorem IsQ_R0 (hR : RM S w) {r : Int32} (h : p = (r, S)) : IsQ p w (some (.int r)) w := by
  subst h; exact ⟨rfl, hR, fun _ _ => rfl⟩
theorem IsQ_F0 (hR : RM S w) {q : Nat} (hq : q < 7) (h : p = fnd q S) : IsQ p w (some (.int (-1000001 - nI q))) (qf q w) := by
  subst h; exact ⟨rfl, hR.afnd hq, fun k hk => qf_o w (by omega)⟩
theorem IsQ_W {w' : Wd} (hc : ∀ k, k < 33 → w' k = w k) {r : Int32} {S' : Wd} (hR : RM S' w') (h : p = (r, S')) : IsQ p w (some (.int r)) w' := by
  subst h; exact ⟨rfl, hR, hc⟩
end RMS
/-! the reference's reading of the hill, in the class's words -/
section EQ
variable {l : Launch} {g : GG} {w : Wd} {A : HA} {n b : Nat}
theorem lt_pred {s : Int32} {n : Nat} (h : n ≤ 8) : (s ≤ nI n - 1 ↔ s < nI n) := by
  have h1 : (0 : Int32) ≤ nI n := nI_pos' (by omega)
  have h2 : nI n ≤ 8 := (nI_leI (b := 8) (by omega) (by decide)).mpr h
  generalize nI n = x at *
  grind
theorem eQ_isSheep (hI : IVA n b A) {s : Int32} : Res l g Q_isSheep [.ref (g.1 33), .int s] (mput A w) (Is (some (.int (bI (0 ≤ s ∧ s < A.1 6)))) (mput A w)) := by
  have e : bI (0 ≤ s ∧ s < A.1 6) = bI (0 ≤ s ∧ s ≤ A.1 6 - 1) := by
    unfold bI
    rw [hI.n6]
    by_cases h : 0 ≤ s ∧ s < nI n
    · rw [if_pos h, if_pos ⟨h.1, (lt_pred hI.n8).mpr h.2⟩]
    · rw [if_neg h, if_neg (fun z => h ⟨z.1, (lt_pred hI.n8).mp z.2⟩)]
  rw [e]; exact cQ_isSheep
theorem eQ_far (hI : IVA n b A) {j : Nat} (hj : j < 8) : Res l g Q_far [.ref (g.1 33), .int (nI j)] (mput A w) (Is (some (.int (dist (A.2.2.1 j) (A.1 0)))) (mput A w)) := by
  rw [← abI_dist (in15 (hI.sh hj).2.1) (in15 hI.fo)]; exact cQ_far hj
theorem eQ_strays (hI : IVA n b A) {j : Nat} (hj : j < n) : Res l g Q_strays [.ref (g.1 33), .int (nI j)] (mput A w) (Is (some (.int (straysF A n j))) (mput A w)) := by
  have h8 := hI.n8
  rw [← strays_eq hj h8]; exact cQ_strays hI.n6 h8 (by omega)
theorem eQ_fears (hI : IVA n b A) {j : Nat} (hj : j < 8) : Res l g Q_fears [.ref (g.1 33), .int (nI j)] (mput A w) (Is (some (.int (fearsK (A.2.1 j)))) (mput A w)) := by
  rw [← fears_eq (hI.sh hj).1]; exact cQ_fears hj
theorem eQ_lostSet (hI : IVA n b A) : Res l g Q_lostSet [.ref (g.1 33)] (mput A w) (Is (some (.int (farF A.2.2.1 (A.1 0) n))) (mput A w)) := by
  rw [← ls_eq hI.fo n hI.cells]; exact cQ_lostSet hI.n6 hI.n8
theorem eQ_sought (hI : IVA n b A) : Res l g Q_sought [.ref (g.1 33)] (mput A w) (Is (some (.int (soF A.2.2.1 (A.1 0) n).1)) (mput A w)) := by
  rw [← so_eq hI.fo n hI.cells]; exact cQ_sought hI.n6 hI.n8
theorem eQ_mostAfraid (hI : IVA n b A) : Res l g Q_mostAfraid [.ref (g.1 33)] (mput A w) (Is (some (.int (maF A.2.2.2.1 n).1)) (mput A w)) := by
  rw [← ma_eq]; exact cQ_mostAfraid hI.n6 hI.n8
theorem eQ_keeperTo (hI : IVA n b A) {v : Int32} : Res l g Q_keeperTo [.ref (g.1 33), .int v] (mput A w) (Is (some (.int (A.1 1))) (mput (mkF v A) w)) := by
  rw [← mk_eq hI]; exact cQ_keeperTo hI.n6 hI.n8 hI.car
theorem eQ_keeperAt (hI : IVA n b A) {v : Int32} : Res l g Q_keeperAt [.ref (g.1 33), .int v] (mput A w) (Is none (mput (mkF v A) w)) := by
  rw [← mk_eq hI]; exact cQ_keeperAt hI.n6 hI.n8 hI.car
theorem eQ_hourT (hI : IVA n b A) (hb : b < 99999) {t : Nat} (ht : t < 256) (hw : w 33 5 = nI t) : Res l g Q_hour [.ref (g.1 33)] (mput A w) (Is none (mput (hourF (nI t) n A) w)) := by
  rw [← hour_eq ht hI hb, ← hw]; exact cQ_hour hI.n6 hI.n8 hI.car
theorem eQ_hour (hI : IVA n b A) (hb : b < 99999) (hw : w 33 5 = 0) : Res l g Q_hour [.ref (g.1 33)] (mput A w) (Is none (mput (hourF 0 n A) w)) := eQ_hourT (t := 0) hI hb (by decide) hw
theorem eQ_hoursGoT (hI : IVA n b A) {k : Nat} (hb : b + k ≤ 99999) {t : Nat} (ht : t < 256) (hw : w 33 5 = nI t) : Res l g Q_hoursGo [.ref (g.1 33), .int (nI k)] (mput A w) (Is none (mput (hoursF (nI t) n k A) w)) := by
  rw [← hours_eq ht hI k hb, ← hw]; exact cQ_hoursGo hI.n6 hI.n8 hI.car (by omega)
theorem eQ_hoursGo (hI : IVA n b A) {k : Nat} (hb : b + k ≤ 99999) (hw : w 33 5 = 0) : Res l g Q_hoursGo [.ref (g.1 33), .int (nI k)] (mput A w) (Is none (mput (hoursF 0 n k A) w)) := eQ_hoursGoT (t := 0) hI hb (by decide) hw
end EQ
