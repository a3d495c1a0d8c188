/-! entry and calls -/
theorem lg_len1 : ∀ (vs : List Value), (∀ v ∈ vs, v.category = 1) → (lg_sl vs).length = vs.length
  | [], _ => rfl
  | v :: vs, h => by
    have h1 : v.category = 1 := h v List.mem_cons_self
    have ih := lg_len1 vs (fun u hu => h u (List.mem_cons_of_mem _ hu))
    show ((if v.category = 2 then [Slot.val v, .second] else [.val v]) ++ lg_sl vs).length = _
    rw [if_neg (by omega)]
    simp [ih]
    try omega
theorem lv_args1 : ∀ (vs : List Value) (o i : Nat) (v : Value), (∀ v ∈ vs, v.category = 1) → vs[i]? = some v → (o + i, v) ∈ lv_args o vs
  | [], _, _, _, _, h => by simp at h
  | u :: vs, o, 0, v, _, h => by
    simp at h
    subst h
    exact List.mem_cons_self
  | u :: vs, o, i + 1, v, hc, h => by
    have h1 : u.category = 1 := hc u List.mem_cons_self
    have ih := lv_args1 vs (o + 1) i v (fun z hz => hc z (List.mem_cons_of_mem _ hz)) (by simpa using h)
    show (o + (i + 1), v) ∈ (o, u) :: lv_args (if u.category = 2 then o + 2 else o + 1) vs
    rw [if_neg (by omega)]
    refine List.mem_cons_of_mem _ ?_
    have e : o + (i + 1) = o + 1 + i := by omega
    rw [e]
    exact ih
theorem Res.of {l : Launch} {g : GG} {M : MM} {as : List Value} {w : Wd} {Q : Option Value → Wd → Prop} (hp : plainName M.1.cls = true) (hcat : ∀ v ∈ as, v.category = 1) (hlen : as.length ≤ M.2.2.1) {lv : List (Option Value)} (hlv : as.map some ++ List.replicate (M.2.2.1 - as.length) none = lv) (k : Go l g M 0 lv [] w Q) : Res l g M as w Q := by
  subst hlv
  refine Met.ofW (cc := M.2.1) (maxL := M.2.2.1) (ret := M.2.2.2.1) hp rfl ?_
  intro p e s m args below meth c s₁ B hml hv
  obtain ⟨rfl, hC, hH, hP⟩ := hv
  rw [lg_entry_eq]
  have hl := lv_entry as (n := M.2.2.1) (by rw [lg_len1 as hcat]; exact hlen)
  have hts := atoms_spec (ws := Cond.code M.1 M.2.1 M.2.2.1 M.2.2.2.1 :: LT) B.pre
  refine k p e s m _ below meth c s.heap [] _ ⟨B.exec, B.bytes, hml, B.returns, B.notSynchronized, findClass_of_methodNamed B.named, fun w hw => hts w (List.mem_cons_of_mem _ hw), hC, hH⟩ hP va_S.rf ⟨hl.1, hl.2.1, fun i v hi => ?_⟩
  have hi2 : as[i]? = some v := by
    by_cases hlt : i < as.length
    · rw [List.getElem?_append_left (by simpa using hlt), List.getElem?_map] at hi
      cases e : as[i]? with
      | none => rw [e] at hi; cases hi
      | some u => rw [e] at hi; simp at hi; rw [hi]
    · rw [List.getElem?_append_right (by simp; omega)] at hi
      have := List.mem_of_getElem? hi
      have := List.eq_of_mem_replicate this
      cases this
  have := hl.2.2 (i, v) (by have h2 := lv_args1 as 0 i v hcat hi2; rw [Nat.zero_add] at h2; exact h2)
  exact this
theorem good_cons {M' : MM} (h : Cond.code M'.1 M'.2.1 M'.2.2.1 M'.2.2.2.1 ∈ LT) : GoodIn LT (Cond.code M'.1 M'.2.1 M'.2.2.1 M'.2.2.2.1 :: LT) := fun w hw => (List.mem_cons.mp hw).elim (fun e => by rw [e]; exact LTgood _ h) (fun h2 => LTgood w h2)
section CROWS
variable {l : Launch} {g : GG} {M M' : MM} {pc n : Nat} {lv : List (Option Value)} {st rest as : List Value} {w : Wd} {Q Q' : Option Value → Wd → Prop}
theorem blind_of : FrameBlind (va_Pc as (fun U => Cx g U ∧ Hx g U U.heap ∧ Hv g w U.heap)) := fun a U gf mk h => ⟨h.1, Cx.same (s := U) rfl h.2.1, Hx.moved (u := U) (Vm.Alike.refl U.vm) h.2.2.1, h.2.2.2⟩
theorem pre_of {p : Program} {s : State} {m : MethodId} {args : Array Value} {meth : Method} {c : Code} {H : Heap} {locs : List Loc} (F : Fx g M p s m args meth c) (hP : Hv g w H) (hS : va_S (Ad g) s.heap H locs) : ∀ U : State, U.heap = H → s.WarmedH U.vm → va_Pc as (fun U => Cx g U ∧ Hx g U U.heap ∧ Hv g w U.heap) as.toArray U :=
  fun U hU hW => ⟨rfl, F.2.2.2.2.2.2.2.1.warm hW, by rw [hU]; exact (F.2.2.2.2.2.2.2.2.kept hS.2.1).moved hW.alike, by rw [hU]; exact hP⟩
theorem callGo (hrun : ∀ (p : Program) (e : Env) (s : State) (m : MethodId) (args : Array Value) (below : List Frame) (meth : Method) (c : Code) (H : Heap) (locs : List Loc) (ls : Array Slot), Fx g M p s m args meth c → Hv g w H → va_S (Ad g) s.heap H locs → lvh ls M.2.2.1 lv → va_Run p l e (rmM M) s m args below meth c H locs 0 0 0 0 (F0 m pc ls st) rest (Qq g Q' as.toArray) (Ad g))
    (k : ∀ r w', Q' r w' → Go l g M (pc + 3) lv (r.toList ++ rest) w' Q) : Go l g M pc lv st w Q := by
  intro p e s m args below meth c H locs ls F hP hS hlv T hT X
  obtain ⟨v, st₀, t, T', L, h0, X', hL, e1, e2, ⟨⟨r, w', hv, hq, hw'⟩, hz, hk⟩, stp⟩ := hrun p e s m args below meth c H locs ls F hP hS hlv T hT X
  cases hv
  rw [h0] at hz hk
  obtain ⟨t2, a1, b1⟩ := k v w' hq p e s m args below meth c T'.heap (locs ++ L) ls F (by rw [e1]; exact hw')
    ⟨Nat.le_trans hS.1 (by rw [e1]; exact hz), fun q h1 h2 => by rw [e1, hk q (Nat.lt_of_lt_of_le h1 hS.1) h2]; exact hS.2.1 q h1 h2, fun q hq => by
      rcases List.mem_append.mp hq with h | h
      · exact hS.2.2 q h
      · exact hL q h⟩ hlv T' rfl X'
  exact ⟨t2, stp t2 a1, b1⟩
/-- entry idx of M's pool is the static method M', with na arguments; its room is in M's -/
def CkS (M : MM) (idx : Nat) (M' : MM) (na : Nat) : Prop := Cond.methodLink M.1.cls idx M'.1 ∈ LT ∧ Cond.static M'.1 ∈ LT ∧ Cond.initialized M'.1.cls ∈ LT ∧ Cond.code M'.1 M'.2.1 M'.2.2.1 M'.2.2.2.1 ∈ LT ∧ (M'.1.cls ≠ "java/lang/invoke/MethodHandle" ∧ M'.1.cls ≠ "java/lang/invoke/VarHandle" ∧ (parseMethodDescriptor M'.1.desc).map (fun d => d.parameters.length) = some na) ∧ ((rmM M').frames + 1 ≤ (rmM M).frames ∧ 8 + (M'.2.2.1 + 11) + (rmM M').locals ≤ (rmM M).locals)
def CkN (M : MM) (idx : Nat) (M' : MM) (na : Nat) : Prop := (∃ host, Cond.methodLinkNest M.1.cls idx M'.1 host ∈ NW) ∧ Cond.static M'.1 ∈ LT ∧ Cond.initialized M'.1.cls ∈ LT ∧ Cond.code M'.1 M'.2.1 M'.2.2.1 M'.2.2.2.1 ∈ LT ∧ (M'.1.cls ≠ "java/lang/invoke/MethodHandle" ∧ M'.1.cls ≠ "java/lang/invoke/VarHandle" ∧ (parseMethodDescriptor M'.1.desc).map (fun d => d.parameters.length) = some na) ∧ ((rmM M').frames + 1 ≤ (rmM M).frames ∧ 8 + (M'.2.2.1 + 11) + (rmM M').locals ≤ (rmM M).locals)
def CkV (M : MM) (idx : Nat) (M' : MM) (na : Nat) : Prop := Cond.methodLink M.1.cls idx M'.1 ∈ LT ∧ Cond.instanceMethod M'.1 ∈ LT ∧ Cond.selects M'.1.cls M'.1 M'.1 ∈ LT ∧ Cond.initialized M'.1.cls ∈ LT ∧ Cond.code M'.1 M'.2.1 M'.2.2.1 M'.2.2.2.1 ∈ LT ∧ (M'.1.cls ≠ "java/lang/invoke/MethodHandle" ∧ M'.1.cls ≠ "java/lang/invoke/VarHandle" ∧ (parseMethodDescriptor M'.1.desc).map (fun d => d.parameters.length) = some na) ∧ ((rmM M').frames + 1 ≤ (rmM M).frames ∧ 8 + (M'.2.2.1 + 11) + (rmM M').locals ≤ (rmM M).locals)
theorem g_callS {idx : Nat} (hd : Dc M pc (.invokestatic idx) 3 n) (hk : CkS M idx M' as.length) (hr : Res l g M' as w Q') (hcat : (rest.map fun v => v.category).sum ≤ 8) (hst : st = as.reverse ++ rest) (k : ∀ r w', Q' r w' → Go l g M n lv (r.toList ++ rest) w' Q) : Go l g M pc lv st w Q := by
  obtain ⟨hd, rfl⟩ := hd
  obtain ⟨k1, k2, k3, k4, k5, k6⟩ := hk
  refine callGo (M := M) (as := as) (rest := rest) (Q' := Q') (fun p e s m args below meth c H locs ls F hP hS hlv => ?_) k
  exact va_runS (As := as) (rest := rest) (n := as.length) (bytes := M'.2.1) (maxL := M'.2.2.1) (ret := M'.2.2.2.1) ⟨F.1, F.2.1, F.2.2.1, F.2.2.2.2.2.1, F.2.2.2.2.2.2.1⟩ hr ⟨callB_of as.length F.2.2.2.2.2.2.1 (good_cons k4) rfl rfl rfl (F.2.2.2.2.2.2.1 _ k3) (F.2.2.2.2.2.2.1 _ k1) k5 k6, F.2.2.2.2.2.2.1 _ k2⟩ ⟨blind_of, pre_of F hP hS⟩ rfl rfl hlv.1 hst (lv_room hcat) hd ⟨Nat.le_refl _, Nat.le_refl _⟩
theorem g_callN {idx : Nat} (hd : Dc M pc (.invokestatic idx) 3 n) (hk : CkN M idx M' as.length) (hr : Res l g M' as w Q') (hcat : (rest.map fun v => v.category).sum ≤ 8) (hst : st = as.reverse ++ rest) (k : ∀ r w', Q' r w' → Go l g M n lv (r.toList ++ rest) w' Q) : Go l g M pc lv st w Q := by
  obtain ⟨hd, rfl⟩ := hd
  obtain ⟨⟨host, k1⟩, k2, k3, k4, k5, k6⟩ := hk
  refine callGo (M := M) (as := as) (rest := rest) (Q' := Q') (fun p e s m args below meth c H locs ls F hP hS hlv => ?_) k
  exact va_runSN (As := as) (rest := rest) (n := as.length) (bytes := M'.2.1) (maxL := M'.2.2.1) (ret := M'.2.2.2.1) ⟨F.1, F.2.1, F.2.2.1, F.2.2.2.2.2.1, F.2.2.2.2.2.2.1⟩ hr ⟨va_cnB as.length F.2.2.2.2.2.2.1 (good_cons k4) rfl rfl rfl (F.2.2.2.2.2.2.2.1.2.2.1 _ k1) (F.2.2.2.2.2.2.1 _ k3) k5 k6, F.2.2.2.2.2.2.1 _ k2, trivial⟩ ⟨blind_of, pre_of F hP hS⟩ rfl rfl hlv.1 hst (lv_room hcat) hd ⟨Nat.le_refl _, Nat.le_refl _⟩
/-- a call on an object of the world -/
theorem g_callV {idx b ci : Nat} (hd : Dc M pc (.invokevirtual idx) 3 n) (hk : CkV M idx M' as.length) (ho : objC b = some ci) (hc : (cls[ci]?).map (fun q => q.1) = some M'.1.cls) (hr : Res l g M' (.ref (g.1 b) :: as) w Q') (hcat : (rest.map fun v => v.category).sum ≤ 8) (hst : st = as.reverse ++ .ref (g.1 b) :: rest) (k : ∀ r w', Q' r w' → Go l g M n lv (r.toList ++ rest) w' Q) : Go l g M pc lv st w Q := by
  obtain ⟨hd, rfl⟩ := hd
  obtain ⟨k1, k2, k7, k3, k4, k5, k6⟩ := hk
  refine callGo (M := M) (as := .ref (g.1 b) :: as) (rest := rest) (Q' := Q') (fun p e s m args below meth c H locs ls F hP hS hlv => ?_) k
  have hrecv : ∃ cellB : Cell, H[g.1 b]? = some cellB ∧ cellB.vm.isStatics = false ∧ s.vm.findClass M'.1.cls = some cellB.cls := by
    cases hq : cls[ci]? with
    | none => rw [hq] at hc; cases hc
    | some q =>
      rw [hq] at hc
      have hc2 : q.1 = M'.1.cls := Option.some.inj hc
      obtain ⟨cell, h1, h2, h3⟩ := va_recv F.2.2.2.2.2.2.2.1.1 hP hq (by rw [wsW_at g w (objC_lt ho), cellOf_obj g w ho])
      exact ⟨cell, h1, h2, by rw [← hc2]; exact h3⟩
  exact va_runV (As := as) (rest := rest) (n := as.length) (b := g.1 b) (C := M'.1.cls) (bytes := M'.2.1) (maxL := M'.2.2.1) (ret := M'.2.2.2.1) ⟨F.1, F.2.1, F.2.2.1, F.2.2.2.2.2.1, F.2.2.2.2.2.2.1⟩ hr ⟨callB_of as.length F.2.2.2.2.2.2.1 (good_cons k4) rfl rfl rfl (F.2.2.2.2.2.2.1 _ k3) (F.2.2.2.2.2.2.1 _ k1) k5 k6, F.2.2.2.2.2.2.1 _ k2, F.2.2.2.2.2.2.1 _ k7⟩ ⟨blind_of, hrecv, pre_of F hP hS⟩ rfl rfl hlv.1 hst (lv_room hcat) hd ⟨Nat.le_refl _, Nat.le_refl _⟩
/-- a call on a String constant -/
theorem g_callT {idx i : Nat} (hd : Dc M pc (.invokevirtual idx) 3 n) (hk : CkV M idx M' as.length) (hi : i < 14) (hc : M'.1.cls = "java/lang/String") (hr : Res l g M' (.ref (g.2.2.2.1 i) :: as) w Q') (hcat : (rest.map fun v => v.category).sum ≤ 8) (hst : st = as.reverse ++ .ref (g.2.2.2.1 i) :: rest) (k : ∀ r w', Q' r w' → Go l g M n lv (r.toList ++ rest) w' Q) : Go l g M pc lv st w Q := by
  obtain ⟨hd, rfl⟩ := hd
  obtain ⟨k1, k2, k7, k3, k4, k5, k6⟩ := hk
  refine callGo (M := M) (as := .ref (g.2.2.2.1 i) :: as) (rest := rest) (Q' := Q') (fun p e s m args below meth c H locs ls F hP hS hlv => ?_) k
  have hrecv : ∃ cellB : Cell, H[g.2.2.2.1 i]? = some cellB ∧ cellB.vm.isStatics = false ∧ s.vm.findClass M'.1.cls = some cellB.cls := by
    obtain ⟨cell, h1, h2, h3, -⟩ := (F.2.2.2.2.2.2.2.2.1 i hi).1.kept hS.2.1
    exact ⟨cell, h1, h2, by rw [hc]; exact h3⟩
  exact va_runV (As := as) (rest := rest) (n := as.length) (b := g.2.2.2.1 i) (C := M'.1.cls) (bytes := M'.2.1) (maxL := M'.2.2.1) (ret := M'.2.2.2.1) ⟨F.1, F.2.1, F.2.2.1, F.2.2.2.2.2.1, F.2.2.2.2.2.2.1⟩ hr ⟨callB_of as.length F.2.2.2.2.2.2.1 (good_cons k4) rfl rfl rfl (F.2.2.2.2.2.2.1 _ k3) (F.2.2.2.2.2.2.1 _ k1) k5 k6, F.2.2.2.2.2.2.1 _ k2, F.2.2.2.2.2.2.1 _ k7⟩ ⟨blind_of, hrecv, pre_of F hP hS⟩ rfl rfl hlv.1 hst (lv_room hcat) hd ⟨Nat.le_refl _, Nat.le_refl _⟩
/-- System.arraycopy between int arrays of the world -/
theorem g_acopy {idx k0 k1 N0 N1 sp dp len : Nat} (hd : Dc M pc (.invokestatic idx) 3 n) (hl : Cond.methodLink M.1.cls idx arraycopyName ∈ LT) (hnat : Cond.native arraycopyName ∈ LT) (hst2 : Cond.static arraycopyName ∈ LT) (hini : Cond.initialized "java/lang/System" ∈ LT) (ha0 : arrN k0 = some N0) (ha1 : arrN k1 = some N1) (h0 : sp + len ≤ N0) (h1 : dp + len ≤ N1) (hN0 : N0 < 2 ^ 31) (hN1 : N1 < 2 ^ 31) (hfr : 1 ≤ (rmM M).frames) (hlo : (st.map fun v => v.category).sum + (nativeFrameWords "java/lang/System" "arraycopy" 5 + 11) ≤ (rmM M).locals)
    (kk : Go l g M n lv st (upR w k1 (va_cpy (w k0) (w k1) sp dp len)) Q) : Go l g M pc lv (.int (nI len) :: .int (nI dp) :: .ref (g.1 k1) :: .int (nI sp) :: .ref (g.1 k0) :: st) w Q := by
  obtain ⟨hd, rfl⟩ := hd
  intro p e s m args below meth c H locs ls F hP hS hlv
  have c1 : (nI sp).toNatClampNeg = sp := nI_clamp (by omega)
  have c2 : (nI dp).toNatClampNeg = dp := nI_clamp (by omega)
  have c3 : (nI len).toNatClampNeg = len := nI_clamp (by omega)
  refine va_copyi (ty := .int) F.1 F.2.1 (by rw [F.2.2.1]; exact hlv.1.symm) F.2.2.2.2.2.1 (F.2.2.2.2.2.2.1 _ hl) (F.2.2.2.2.2.2.1 _ hnat) (F.2.2.2.2.2.2.1 _ hst2) (F.2.2.2.2.2.2.1 _ hini) F.2.2.2.2.2.2.2.1.1 hP (F.2.2.2.2.2.2.2.1.D w) hS k0 k1 0 0 (by rw [wsW_at g w (arrN_lt ha0), cellOf_arr g w ha0]) (by rw [wsW_at g w (arrN_lt ha1), cellOf_arr g w ha1]) rfl rfl rfl (nI_pos (by omega)) (nI_pos (by omega)) (nI_pos (by omega)) (by rw [c1, c3]; exact h0) (by rw [c2, c3]; exact h1) (fun i _ => rfl) hfr hlo hd (fun H1 locs1 hP1 hD1 hS1 => ?_)
  rw [c1, c2, c3, wsW_set (w1 := upR w k1 (va_cpy (w k0) (w k1) sp dp len)) (arrN_lt ha1) (by rw [cellOf_arr g _ ha1, upR_same]) (fun k' hk' => upR_other w k1 _ hk')] at hP1
  exact kk p e s m args below meth c H1 locs1 ls F hP1 hS1 hlv
end CROWS
