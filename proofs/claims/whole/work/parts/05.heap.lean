/-! fields, arrays, constants -/
def clsOk (ci : Nat) (C : String) (T : u_T) (N : Nat) (ty : Nat → FieldType) : Prop := cls[ci]? = some (C, T, N) ∧ (∀ w ∈ u_ws C T N, w ∈ LT) ∧ (∀ k, k < N → parseFieldDescriptor (T k).2.2.1 = some (ty k)) ∧ (∀ a, a < N → ∀ b, b < N → a ≠ b → (T a).2.1 ≠ (T b).2.1) ∧ (fdef ci).length = N
theorem ok0 : clsOk 0 R0 T0 11 ty0 := ⟨rfl, in0, ty0_ok, nm0, rfl⟩
theorem ok1 : clsOk 1 R1 T1 12 ty1 := ⟨rfl, in1, ty1_ok, nm1, rfl⟩
theorem ok2 : clsOk 2 R2 T2 3 ty2 := ⟨rfl, in2, ty2_ok, nm2, rfl⟩
theorem ok3 : clsOk 3 R3 T3 5 ty3 := ⟨rfl, in3, ty3_ok, nm3, rfl⟩
theorem ok4 : clsOk 4 R4 T4 24 ty4 := ⟨rfl, in4, ty4_ok, nm4, rfl⟩
/-- entry idx of own's pool is field j of class ci -/
def Fk (own : String) (idx ci j : Nat) (ty : FieldType) (fin : Bool) : Prop := ∃ C T N tyf, clsOk ci C T N tyf ∧ j < N ∧ Cond.fieldLink own idx (T j).1 (T j).2.1 (T j).2.2.1 ∈ LT ∧ tyf j = ty ∧ (T j).2.2.2 = fin
section HROWS
variable {l : Launch} {g : GG} {M : MM} {pc n : Nat} {lv : List (Option Value)} {st : List Value} {w : Wd} {Q : Option Value → Wd → Prop}
theorem g_getI {k ci j idx : Nat} {ty : FieldType} {fin : Bool} (hd : Dc M pc (.getfield idx) 3 n) (hf : Fk M.1.cls idx ci j ty fin) (ho : objC k = some ci) (hj : (fdef ci)[j]? = some 0) (kk : Go l g M n lv (.int (w k j) :: st) w Q) : Go l g M pc lv (.ref (g.1 k) :: st) w Q := by
  obtain ⟨hd, rfl⟩ := hd
  obtain ⟨C, T, N, tyf, ⟨c1, c2, c3, c4, c5⟩, hjN, hl, -, -⟩ := hf
  intro p e s m args below meth c H locs ls F hP hS hlv
  exact va_get (D := g.2.1) (cl := cls) (C := C) (T := T) (N := N) (ci := ci) (ref := (T j).1) (v := .int (w k j)) F.1 F.2.1 F.2.2.2.2.2.2.1 c2 F.2.2.2.2.2.1 F.2.2.2.2.2.2.2.1.1 hP k (by rw [wsW_at g w (objC_lt ho), cellOf_obj g w ho]) c1 j hjN (F.2.2.2.2.2.2.1 _ hl) (fun _ h => h) (by rw [fOf_get g w k ci hj]; rfl) hd (kk p e s m args below meth c H locs ls F hP hS hlv)
theorem g_getR {k ci j o idx : Nat} {ty : FieldType} {fin : Bool} (hd : Dc M pc (.getfield idx) 3 n) (hf : Fk M.1.cls idx ci j ty fin) (ho : objC k = some ci) (hj : (fdef ci)[j]? = some (o + 1)) (kk : Go l g M n lv (.ref (g.1 (k + (o + 1))) :: st) w Q) : Go l g M pc lv (.ref (g.1 k) :: st) w Q := by
  obtain ⟨hd, rfl⟩ := hd
  obtain ⟨C, T, N, tyf, ⟨c1, c2, c3, c4, c5⟩, hjN, hl, -, -⟩ := hf
  intro p e s m args below meth c H locs ls F hP hS hlv
  exact va_get (D := g.2.1) (cl := cls) (C := C) (T := T) (N := N) (ci := ci) (ref := (T j).1) (v := .ref (g.1 (k + (o + 1)))) F.1 F.2.1 F.2.2.2.2.2.2.1 c2 F.2.2.2.2.2.1 F.2.2.2.2.2.2.2.1.1 hP k (by rw [wsW_at g w (objC_lt ho), cellOf_obj g w ho]) c1 j hjN (F.2.2.2.2.2.2.1 _ hl) (fun _ h => h) (by rw [fOf_get g w k ci hj]; rfl) hd (kk p e s m args below meth c H locs ls F hP hS hlv)
theorem g_putI {k ci j idx : Nat} {ty : FieldType} {x : Int32} (hd : Dc M pc (.putfield idx) 3 n) (hf : Fk M.1.cls idx ci j ty false) (ho : objC k = some ci) (hj : (fdef ci)[j]? = some 0) (hn : narrow ty (.int x) = .int x) (hfit : fits ty (.int x) = true) (kk : Go l g M n lv st (up w k j x) Q) : Go l g M pc lv (.int x :: .ref (g.1 k) :: st) w Q := by
  obtain ⟨hd, rfl⟩ := hd
  obtain ⟨C, T, N, tyf, ⟨c1, c2, c3, c4, c5⟩, hjN, hl, hty, hfin⟩ := hf
  intro p e s m args below meth c H locs ls F hP hS hlv
  refine va_put (D := g.2.1) (cl := cls) (C := C) (T := T) (N := N) (ci := ci) (ref := (T j).1) (A := Ad g) F.1 F.2.1 F.2.2.2.2.2.2.1 c2 tyf c3 c4 F.2.2.2.2.2.1 F.2.2.2.2.2.2.2.1.1 hP (F.2.2.2.2.2.2.2.1.D w) hS k (by rw [wsW_at g w (objC_lt ho), cellOf_obj g w ho]) c1 j hjN (F.2.2.2.2.2.2.1 _ hl) (fun _ h => h) hfin (c3 j hjN) (by rw [hty]; exact hn) (by rw [hty]; exact hfit) (by rw [fOf_len, c5]; exact hjN) hd (fun H1 locs1 hP1 hD1 hS1 => ?_)
  rw [wsW_set (w1 := up w k j x) (objC_lt ho) (by rw [cellOf_obj g _ ho, fOf_set g w k ci x hj]) (fun k' hk' => up_other w k j x hk')] at hP1
  exact kk p e s m args below meth c H1 locs1 ls F hP1 hS1 hlv
theorem g_iald {k N : Nat} {i : Int32} (hd : Dc M pc .iaload 1 n) (ha : arrN k = some N) (hi : vp_in i N) (kk : Go l g M n lv (.int (w k i.toNatClampNeg) :: st) w Q) : Go l g M pc lv (.int i :: .ref (g.1 k) :: st) w Q := by
  obtain ⟨hd, rfl⟩ := hd
  intro p e s m args below meth c H locs ls F hP hS hlv
  exact va_iald F.1 F.2.1 F.2.2.2.2.2.2.2.1.1 hP k 0 (by rw [wsW_at g w (arrN_lt ha), cellOf_arr g w ha]) rfl hi hd (kk p e s m args below meth c H locs ls F hP hS hlv)
theorem g_iast {k N : Nat} {i x : Int32} (hd : Dc M pc .iastore 1 n) (ha : arrN k = some N) (hi : vp_in i N) (kk : Go l g M n lv st (up w k i.toNatClampNeg x) Q) : Go l g M pc lv (.int x :: .int i :: .ref (g.1 k) :: st) w Q := by
  obtain ⟨hd, rfl⟩ := hd
  intro p e s m args below meth c H locs ls F hP hS hlv
  refine va_iast F.1 F.2.1 F.2.2.2.2.2.2.2.1.1 hP (F.2.2.2.2.2.2.2.1.D w) hS k 0 (by rw [wsW_at g w (arrN_lt ha), cellOf_arr g w ha]) rfl hi hd (fun H1 locs1 hP1 hD1 hS1 => ?_)
  rw [wsW_set (w1 := up w k i.toNatClampNeg x) (arrN_lt ha) (by rw [cellOf_arr g _ ha, up_same]) (fun k' hk' => up_other w k _ x hk')] at hP1
  exact kk p e s m args below meth c H1 locs1 ls F hP1 hS1 hlv
theorem g_ialdN {k N i : Nat} (hd : Dc M pc .iaload 1 n) (ha : arrN k = some N) (hi : i < N) (hN : N < 2 ^ 31) (kk : Go l g M n lv (.int (w k i) :: st) w Q) : Go l g M pc lv (.int (nI i) :: .ref (g.1 k) :: st) w Q :=
  g_iald hd ha (vp_in_nI hi hN) (by rw [nI_clamp (by omega)]; exact kk)
theorem g_iastN {k N i : Nat} {x : Int32} (hd : Dc M pc .iastore 1 n) (ha : arrN k = some N) (hi : i < N) (hN : N < 2 ^ 31) (kk : Go l g M n lv st (up w k i x) Q) : Go l g M pc lv (.int x :: .int (nI i) :: .ref (g.1 k) :: st) w Q :=
  g_iast hd ha (vp_in_nI hi hN) (by rw [nI_clamp (by omega)]; exact kk)
theorem cellOf_23 (g : GG) (w : Wd) : cellOf g w 23 = .inl (g.2.2.1.2.1, 4, .inr (.inr (.inr (.inr (fun j => some (g.1 (24 + 2 * j))))))) := rfl
theorem cellOf_39 (g : GG) (w : Wd) : cellOf g w 39 = .inl (g.2.2.1.2.2, 7, .inr (.inr (.inr (.inr (fun j => some (g.2.2.2.1 j)))))) := rfl
theorem g_sheetN {i : Nat} (hd : Dc M pc .aaload 1 n) (hi : i < 4) (kk : Go l g M n lv (.ref (g.1 (24 + 2 * i)) :: st) w Q) : Go l g M pc lv (.int (nI i) :: .ref (g.1 23) :: st) w Q := by
  obtain ⟨hd, rfl⟩ := hd
  intro p e s m args below meth c H locs ls F hP hS hlv
  refine va_aldq F.1 F.2.1 F.2.2.2.2.2.2.2.1.1 hP 23 1 (by rw [wsW_at g w (by decide), cellOf_23]) rfl (vp_in_nI hi (by decide)) hd ?_
  rw [nI_clamp (by omega)]
  exact kk p e s m args below meth c H locs ls F hP hS hlv
theorem g_knameN {i : Nat} (hd : Dc M pc .aaload 1 n) (hi : i < 7) (kk : Go l g M n lv (.ref (g.2.2.2.1 i) :: st) w Q) : Go l g M pc lv (.int (nI i) :: .ref (g.1 39) :: st) w Q := by
  obtain ⟨hd, rfl⟩ := hd
  intro p e s m args below meth c H locs ls F hP hS hlv
  refine va_aldq F.1 F.2.1 F.2.2.2.2.2.2.2.1.1 hP 39 2 (by rw [wsW_at g w (by decide), cellOf_39]) rfl (vp_in_nI hi (by decide)) hd ?_
  rw [nI_clamp (by omega)]
  exact kk p e s m args below meth c H locs ls F hP hS hlv
theorem g_klen (hd : Dc M pc .arraylength 1 n) (kk : Go l g M n lv (.int 7 :: st) w Q) : Go l g M pc lv (.ref (g.1 39) :: st) w Q := by
  obtain ⟨hd, rfl⟩ := hd
  intro p e s m args below meth c H locs ls F hP hS hlv
  exact va_alen F.1 F.2.1 F.2.2.2.2.2.2.2.1.1 hP 39 2 (by rw [wsW_at g w (by decide), cellOf_39]) rfl rfl hd (kk p e s m args below meth c H locs ls F hP hS hlv)
theorem g_ldc {idx : Nat} {v : Int32} (hd : Dc M pc (.ldc idx) 2 n) (hk : Cond.constant M.1.cls idx v ∈ LT) (kk : Go l g M n lv (.int v :: st) w Q) : Go l g M pc lv st w Q := by
  obtain ⟨hd, rfl⟩ := hd
  exact fun p e s m args below meth c H locs ls F hP hS hlv => lv_ldc F.1 F.2.1 F.2.2.2.2.2.1 (F.2.2.2.2.2.2.1 _ hk) hd (kk p e s m args below meth c H locs ls F hP hS hlv)
theorem g_ldcw {idx : Nat} {v : Int32} (hd : Dc M pc (.ldc_w idx) 3 n) (hk : Cond.constant M.1.cls idx v ∈ LT) (kk : Go l g M n lv (.int v :: st) w Q) : Go l g M pc lv st w Q := by
  obtain ⟨hd, rfl⟩ := hd
  exact fun p e s m args below meth c H locs ls F hP hS hlv => lv_ldcw F.1 F.2.1 F.2.2.2.2.2.1 (F.2.2.2.2.2.2.1 _ hk) hd (kk p e s m args below meth c H locs ls F hP hS hlv)
theorem g_ldcS {idx i : Nat} (hd : Dc M pc (.ldc idx) 2 n) (hi : i < 14) (hk : SW M.1.cls idx i) (kk : Go l g M n lv (.ref (g.2.2.2.1 i) :: st) w Q) : Go l g M pc lv st w Q := by
  obtain ⟨hd, rfl⟩ := hd
  exact fun p e s m args below meth c H locs ls F hP hS hlv => va_ldcS F.1 F.2.1 F.2.2.2.2.2.1 (F.2.2.2.2.2.2.2.1.2.2.2 _ _ i hi hk) hd (kk p e s m args below meth c H locs ls F hP hS hlv)
/-! what isn't seen of a world may be changed -/
def vis (k j : Nat) : Prop := (∃ ci, objC k = some ci ∧ (fdef ci)[j]? = some 0) ∨ (∃ N, arrN k = some N ∧ j < N)
theorem Hv.agree {g : GG} {w w1 : Wd} {H : Heap} (h : Hv g w H) (ha : ∀ k j, vis k j → w1 k j = w k j) : Hv g w1 H := by
  intro k q hk
  obtain ⟨hk48, rfl⟩ := wsW_of hk
  have h0 := h k _ (wsW_at g w hk48)
  cases ho : objC k with
  | some ci =>
    rw [cellOf_obj g _ ho] at h0 ⊢
    have e : fOf g w1 k ci = fOf g w k ci := by
      apply List.ext_getElem?
      intro i
      by_cases hi : i < (fdef ci).length
      · have hget : (fdef ci)[i]? = some (fdef ci)[i] := List.getElem?_eq_getElem hi
        rw [fOf_get g _ k ci hget, fOf_get g _ k ci hget]
        by_cases h00 : (fdef ci)[i] = 0
        · rw [ha k i (Or.inl ⟨ci, ho, by rw [hget, h00]⟩)]
        · rw [if_neg h00, if_neg h00]
      · rw [List.getElem?_eq_none (by rw [fOf_len]; omega), List.getElem?_eq_none (by rw [fOf_len]; omega)]
    rw [e]
    exact h0
  | none =>
    cases hn : arrN k with
    | some N =>
      rw [cellOf_arr g _ hn] at h0 ⊢
      have h1 : H[g.1 k]? = some (vp_cell g.2.2.1.1 (N, .inl (w k))) := h0
      show H[g.1 k]? = some (vp_cell g.2.2.1.1 (N, .inl (w1 k)))
      rw [h1]
      congr 1
      rw [vp_cell_i, vp_cell_i]
      simp only [arrV]
      congr 1
      apply Array.ext
      · simp
      · intro i h1 h2
        simp at h1 ⊢
        rw [ha k i (Or.inr ⟨N, hn, h1⟩)]
    | none =>
      have e : cellOf g w1 k = cellOf g w k := by
        unfold cellOf
        rw [ho, hn]
      rw [e]
      exact h0
theorem g_agree {w1 : Wd} (ha : ∀ k j, vis k j → w1 k j = w k j) (kk : Go l g M pc lv st w1 Q) : Go l g M pc lv st w Q :=
  fun p e s m args below meth c H locs ls F hP hS hlv => kk p e s m args below meth c H locs ls F (hP.agree ha) hS hlv
end HROWS
