theorem nd_of : ∀ {l : List Nat}, l.Nodup → va_nd l = true
  | [], _ => rfl
  | a :: l, h => by
    rw [List.nodup_cons] at h
    simp only [va_nd, Bool.and_eq_true, decide_eq_true_eq]
    exact ⟨h.1, nd_of h.2⟩
theorem last_C {wr : va_W} {x : Nat × va_E} : [wr.length].map (fun i => (wr ++ [x])[i]?) = [x].map some := by simp
theorem last_R {wr : va_W} {x : Nat × va_E} : (List.range wr.length).map (fun i => (wr ++ [x])[i]?) = wr.map some := by
  apply List.ext_getElem?
  intro i
  rw [List.getElem?_map, List.getElem?_map]
  by_cases h : i < wr.length
  · rw [List.getElem?_range h, Option.map_some, List.getElem?_append_left h, List.getElem?_eq_getElem h]
    rfl
  · rw [List.getElem?_eq_none (by rw [List.length_range]; omega), List.getElem?_eq_none (by omega)]
    rfl
theorem lvh_entry (as : List Value) (nL : Nat) (hcat : ∀ v ∈ as, v.category = 1) (hlen : as.length ≤ nL) : lvh ((lg_sl as ++ List.replicate (nL - (lg_sl as).length) Slot.unset).toArray) nL (as.map some ++ List.replicate (nL - as.length) none) := by
  have hl := lv_entry as (n := nL) (by rw [lg_len1 as hcat]; exact hlen)
  refine ⟨hl.1, hl.2.1, fun i v hi => ?_⟩
  have hi2 : as[i]? = some v := by
    by_cases hlt : i < as.length
    · rw [List.getElem?_append_left (by simpa using hlt), List.getElem?_map] at hi
      cases e : as[i]? with
      | none => rw [e] at hi; cases hi
      | some u => rw [e] at hi; simp at hi; rw [hi]
    · rw [List.getElem?_append_right (by simp; omega)] at hi
      have := List.mem_of_getElem? hi
      have := List.eq_of_mem_replicate this
      cases this
  have := hl.2.2 (i, v) (by have h2 := lv_args1 as 0 i v hcat hi2; rw [Nat.zero_add] at h2; exact h2)
  exact this
abbrev EE : Type := (Nat → Prop) → State → Heap → Prop
def Eok (E : EE) : Prop := ∀ (A : Nat → Prop) (U V : State), V.vm = U.vm → V.heap = U.heap → E A U U.heap → E A V V.heap
/-- the contract of a constructor without arguments: of its own cell, born with fs0, it makes the cells ew u, at addresses it chooses -/
def CRes (l : Launch) (M : MM) (mc ms : Nat) (D : va_G) (cI : ClassId) (ci : Nat) (fs0 : List Value) (E : EE) {U : Type} (ad : U → Nat) (ew : U → va_W) (et : U → List (ClassId × FieldType)) : Prop :=
  ∀ (h0 sz : Nat), Met l M.1 (Cond.code M.1 M.2.1 M.2.2.1 none :: LT) (rmC M mc ms) (va_Pc [.ref h0] (fun U => U.heap.size = sz ∧ va_P D cls [(h0, .inr (ci, fs0))] U.heap ∧ va_K D cls [(cI, .int)] U ∧ va_D (fun _ => True) [(h0, .inr (ci, fs0))] ∧ E (va_A [(h0, .inr (ci, fs0))] sz) U U.heap)) (va_Qv (fun u => ad u = h0) (fun u t => va_P D cls (ew u) t.heap ∧ va_K D cls (et u) t ∧ va_D (va_A [(h0, .inr (ci, fs0))] sz) (ew u)) (va_A [(h0, .inr (ci, fs0))] sz)) mc ms (va_A [(h0, .inr (ci, fs0))] sz)
def ZC (D : va_G) {U : Type} (ad : U → Nat) (ew : U → va_W) (et : U → List (ClassId × FieldType)) (h0 mc ms : Nat) (A : Nat → Prop) (below : List Frame) (args : Array Value) (s : State) : State → Prop := MQ below (va_Qv (fun u => ad u = h0) (fun u t => va_P D cls (ew u) t.heap ∧ va_K D cls (et u) t ∧ va_D A (ew u)) A) args s mc ms A
theorem CRes.of {l : Launch} {M : MM} {mc ms : Nat} {D : va_G} {cI : ClassId} {ci : Nat} {fs0 : List Value} {E : EE} {U : Type} {ad : U → Nat} {ew : U → va_W} {et : U → List (ClassId × FieldType)} (hp : plainName M.1.cls = true) (hnm : M.1.name = "<init>") (hlen : 1 ≤ M.2.2.1)
    (body : ∀ (p : Program) (e : Env) (s : State) (m : MethodId) (args : Array Value) (below : List Frame) (meth : Method) (c : Code) (h0 : Nat) (A : Nat → Prop), KX M p s m args c A → meth.name = "<init>" → meth.sig.returnType = none → meth.locks = false → va_K D cls [(cI, .int)] s → E A s s.heap → GoC l p e s m args below meth c (rmC M mc ms) M (ZC D ad ew et h0 mc ms A below args s) D A 0 0 0 (some (.ref h0) :: List.replicate (M.2.2.1 - 1) none) [] [(h0, .inr (ci, fs0))]) : CRes l M mc ms D cI ci fs0 E ad ew et := by
  intro h0 sz
  refine Met.ofW (cc := M.2.1) (maxL := M.2.2.1) (ret := none) hp rfl ?_
  intro p e s m args below meth c s₁ B hml hv
  obtain ⟨rfl, hsz, hP, hK, hD0, hE⟩ := hv
  have hts := atoms_spec (ws := Cond.code M.1 M.2.1 M.2.2.1 none :: LT) B.pre
  have hin : meth.name = "<init>" := ((name_of_methodNamed B.named B.method).1).trans hnm
  subst hsz
  have hD := hD0.self (sz := s.heap.size)
  rw [lg_entry_eq]
  refine body p e s m _ below meth c h0 (va_A [(h0, .inr (ci, fs0))] s.heap.size) ⟨B.exec, B.bytes, hml, findClass_of_methodNamed B.named, fun w hw => hts w (List.mem_cons_of_mem _ hw), fun q h => Or.inr h⟩ hin B.returns B.notSynchronized hK hE s.heap [] _ hP hD va_S.rf ?_
  exact lvh_entry [.ref h0] M.2.2.1 (fun v hv => by rcases List.mem_singleton.mp hv with rfl; rfl) hlen
section KCALLS
variable {l : Launch} {p : Program} {e : Env} {s : State} {m : MethodId} {args : Array Value} {below : List Frame} {meth : Method} {c : Code} {R : Room} {M : MM} {Z : State → Prop} {D : va_G} {A : Nat → Prop} {tys : List (ClassId × FieldType)} {ce sl pc n : Nat} {lv : List (Option Value)} {st : List Value} {ws : va_W}
theorem k_ret {U : Type} {ad : U → Nat} {ew : U → va_W} {et : U → List (ClassId × FieldType)} {h0 mc ms : Nat} (u : U) (X : KX M p s m args c A) (hd : Dc M pc .return_ 1 n) (hr : meth.sig.returnType = none) (hlk : meth.locks = false) (hu : ad u = h0) (hK : va_K D cls (et u) s) (hw : ws = ew u) (hce : ce ≤ mc) (hsl : sl ≤ ms) : GoC l p e s m args below meth c R M (ZC D ad ew et h0 mc ms A below args s) D A ce sl pc lv [] ws := by
  obtain ⟨hd, rfl⟩ := hd
  subst hw
  intro H locs ls hP hD hS hl
  refine W.widen (k := mc) (n := ms) hce hsl ?_
  exact W.vret X.1 X.2.1 hr (fun t ht hW => ⟨⟨u, rfl, hu, by rw [ht]; exact hP, va_K.moved hW.alike hK, hD⟩, hS.F ht⟩) hS.2.2 hd (hlocks := hlk)
theorem k_callC {U : Type} {ad : U → Nat} {ew : U → va_W} {et : U → List (ClassId × FieldType)} {q ci mc ms : Nat} {fs0 : List Value} (X : KX M p s m args c A) (hK : va_K D cls tys s) (hpc : pc + 3 = n)
    (hrun : ∀ (H : Heap) (locs : List Loc) (ls : Array Slot), va_P D cls (ws ++ [(q, .inr (ci, fs0))]) H → va_D A (ws ++ [(q, .inr (ci, fs0))]) → va_S A s.heap H locs → lvh ls M.2.2.1 lv → va_Run p l e R s m args below meth c H locs ce sl mc ms (F0 m pc ls (.ref q :: st)) st (va_Qv (fun u => ad u = q) (fun u t => va_P D cls (ew u) t.heap ∧ va_K D cls (et u) t ∧ va_D (va_A [(q, .inr (ci, fs0))] H.size) (ew u)) (va_A [(q, .inr (ci, fs0))] H.size) [Value.ref q].toArray) (va_A [(q, .inr (ci, fs0))] H.size))
    (k : ∀ u, ad u = q → va_K D cls (tys ++ et u) s → GoC l p e s m args below meth c R M Z D A (ce + mc) (sl + ms) n lv st (ws ++ ew u)) : GoC l p e s m args below meth c R M Z D A ce sl pc lv (.ref q :: st) (ws ++ [(q, .inr (ci, fs0))]) := by
  subst hpc
  intro H locs ls hP hD hS hl
  have hFc := va_free (wc := [(q, .inr (ci, fs0))]) hD hS X.2.2.2.2.2 [ws.length] last_C
  refine va_callv (hrun H locs ls hP hD hS hl) hS (fun q _ h => hFc q h) hFc (fun u t H1 locs1 ht hvm hw hB hz1 hk1 hS1 => ?_)
  obtain ⟨hP1, hK1, hD1⟩ := hB
  rw [ht] at hP1
  have hK2 := va_K.moved hvm.symm hK1
  obtain ⟨hP2, hD2⟩ := va_join (wr := ws) (w1 := ew u) hP hD [ws.length] (List.range ws.length) last_C last_R (nd_of List.nodup_range) (fun i hi h => by rw [List.mem_singleton] at h; rw [List.mem_range] at hi; omega) hk1 hFc hP1 hD1
  exact k u hw (hK.app hK2) H1 locs1 ls hP2 hD2 hS1 hl
/-- what the tables say of a constructor -/
def MkI (M' : MM) : Prop := Cond.instanceMethod M'.1 ∈ LT ∧ Cond.initialized M'.1.cls ∈ LT ∧ Cond.code M'.1 M'.2.1 M'.2.2.1 none ∈ LT ∧ (M'.1.cls ≠ "java/lang/invoke/MethodHandle" ∧ M'.1.cls ≠ "java/lang/invoke/VarHandle" ∧ (parseMethodDescriptor M'.1.desc).map (fun d => d.parameters.length) = some 0) ∧ M'.1.name = "<init>"
theorem good_consI {M' : MM} (h : Cond.code M'.1 M'.2.1 M'.2.2.1 none ∈ LT) : GoodIn LT (Cond.code M'.1 M'.2.1 M'.2.2.1 none :: LT) := fun w hw => (List.mem_cons.mp hw).elim (fun e => by rw [e]; exact LTgood _ h) (fun h2 => LTgood w h2)
theorem pre_C {cI : ClassId} {ci q : Nat} {fs0 : List Value} {E : EE} {H : Heap} (X : KX M p s m args c A) (hEb : Eok E) (hEs : ∀ U : State, U.heap = H → s.WarmedH U.vm → E (va_A [(q, .inr (ci, fs0))] H.size) U U.heap) (hK : va_K D cls ((cI, .int) :: tys) s) (hP : va_P D cls (ws ++ [(q, .inr (ci, fs0))]) H) : PreS s H (va_Pc [.ref q] (fun U => U.heap.size = H.size ∧ va_P D cls [(q, .inr (ci, fs0))] U.heap ∧ va_K D cls [(cI, .int)] U ∧ va_D (fun _ => True) [(q, .inr (ci, fs0))] ∧ E (va_A [(q, .inr (ci, fs0))] H.size) U U.heap)) [.ref q] := by
  refine ⟨fun a U g mk hq => ?_, fun U hU hW => ⟨rfl, by rw [hU], ?_, va_K.moved hW.alike (hK.sub [0] rfl), ?_, hEs U hU hW⟩⟩
  · obtain ⟨q0, q1, qP, qK, qD, qE⟩ := hq
    exact ⟨q0, q1, qP, va_K.moved (u := U) (U := U.calling g mk a) (Vm.Alike.refl U.vm) qK, qD, hEb _ U (U.calling g mk a) rfl rfl qE⟩
  · rw [hU]
    intro k x hx
    have hk : k < 1 := (List.getElem?_eq_some_iff.mp hx).1
    rw [show k = 0 by omega] at hx
    cases hx
    exact hP ws.length _ (by simp)
  · refine ⟨fun i j a b hi hj _ => ?_, fun _ _ _ => trivial⟩
    have h1 : i < 1 := (List.getElem?_eq_some_iff.mp hi).1
    have h2 : j < 1 := (List.getElem?_eq_some_iff.mp hj).1
    omega
theorem k_callI {M' : MM} {idx : Nat} {cI : ClassId} {E : EE} {U : Type} {ad : U → Nat} {ew : U → va_W} {et : U → List (ClassId × FieldType)} {q ci mc ms : Nat} {fs0 : List Value} (X : KX M p s m args c A) (hd : Dc M pc (.invokespecial idx) 3 n) (hk : Cond.methodLink M.1.cls idx M'.1 ∈ LT) (hm : MkI M') (hC : CRes l M' mc ms D cI ci fs0 E ad ew et) (hK : va_K D cls ((cI, .int) :: tys) s) (hEb : Eok E) (hEs : ∀ (H : Heap) (locs : List Loc), va_P D cls (ws ++ [(q, .inr (ci, fs0))]) H → va_S A s.heap H locs → (∀ x, va_A [(q, .inr (ci, fs0))] H.size x → A x) → ∀ U : State, U.heap = H → s.WarmedH U.vm → E (va_A [(q, .inr (ci, fs0))] H.size) U U.heap) (hR : M'.2.2.2.2.1 + 1 ≤ R.frames ∧ 8 + (M'.2.2.1 + 11) + M'.2.2.2.2.2 ≤ R.locals) (hf : ce + mc ≤ R.cells ∧ sl + ms ≤ R.slots) (hcat : (st.map fun v => v.category).sum ≤ 8)
    (k : ∀ u, ad u = q → va_K D cls ((cI, .int) :: tys ++ et u) s → GoC l p e s m args below meth c R M Z D A (ce + mc) (sl + ms) n lv st (ws ++ ew u)) : GoC l p e s m args below meth c R M Z D A ce sl pc lv (.ref q :: st) (ws ++ [(q, .inr (ci, fs0))]) := by
  obtain ⟨hd, hpc⟩ := hd
  obtain ⟨k1, k2, k3, k4, k5⟩ := hm
  refine k_callC X hK hpc (fun H locs ls hP hD hS hl => ?_) k
  have hFc := va_free (wc := [(q, .inr (ci, fs0))]) hD hS X.2.2.2.2.2 [ws.length] last_C
  exact va_runI (As := []) (rest := st) (n := 0) (bytes := M'.2.1) (maxL := M'.2.2.1) ⟨X.1, X.2.1, X.2.2.1, X.2.2.2.1, X.2.2.2.2.1⟩ (hC q H.size) ⟨callB_of 0 X.2.2.2.2.1 (good_consI k3) rfl rfl rfl (X.2.2.2.2.1 _ k2) (X.2.2.2.2.1 _ hk) k4 hR, k5, X.2.2.2.2.1 _ k1⟩ (pre_C X hEb (hEs H locs hP hS hFc) hK hP) rfl rfl hl.1 rfl (lv_room hcat) hd hf
theorem k_callN {M' : MM} {idx : Nat} {cI : ClassId} {E : EE} {U : Type} {ad : U → Nat} {ew : U → va_W} {et : U → List (ClassId × FieldType)} {q ci mc ms : Nat} {fs0 : List Value} (X : KX M p s m args c A) (hd : Dc M pc (.invokespecial idx) 3 n) (hk : ∃ host, va_Nw (.methodLinkNest M.1.cls idx M'.1 host) s) (hm : MkI M') (hC : CRes l M' mc ms D cI ci fs0 E ad ew et) (hK : va_K D cls ((cI, .int) :: tys) s) (hEb : Eok E) (hEs : ∀ (H : Heap) (locs : List Loc), va_P D cls (ws ++ [(q, .inr (ci, fs0))]) H → va_S A s.heap H locs → (∀ x, va_A [(q, .inr (ci, fs0))] H.size x → A x) → ∀ U : State, U.heap = H → s.WarmedH U.vm → E (va_A [(q, .inr (ci, fs0))] H.size) U U.heap) (hR : M'.2.2.2.2.1 + 1 ≤ R.frames ∧ 8 + (M'.2.2.1 + 11) + M'.2.2.2.2.2 ≤ R.locals) (hf : ce + mc ≤ R.cells ∧ sl + ms ≤ R.slots) (hcat : (st.map fun v => v.category).sum ≤ 8)
    (k : ∀ u, ad u = q → va_K D cls ((cI, .int) :: tys ++ et u) s → GoC l p e s m args below meth c R M Z D A (ce + mc) (sl + ms) n lv st (ws ++ ew u)) : GoC l p e s m args below meth c R M Z D A ce sl pc lv (.ref q :: st) (ws ++ [(q, .inr (ci, fs0))]) := by
  obtain ⟨hd, hpc⟩ := hd
  obtain ⟨k1, k2, k3, k4, k5⟩ := hm
  obtain ⟨host, hk⟩ := hk
  refine k_callC X hK hpc (fun H locs ls hP hD hS hl => ?_) k
  have hFc := va_free (wc := [(q, .inr (ci, fs0))]) hD hS X.2.2.2.2.2 [ws.length] last_C
  exact va_runIN (As := []) (rest := st) (n := 0) (bytes := M'.2.1) (maxL := M'.2.2.1) ⟨X.1, X.2.1, X.2.2.1, X.2.2.2.1, X.2.2.2.2.1⟩ (hC q H.size) ⟨va_cnB 0 X.2.2.2.2.1 (good_consI k3) rfl rfl rfl hk (X.2.2.2.2.1 _ k2) k4 hR, k5, X.2.2.2.2.1 _ k1⟩ (pre_C X hEb (hEs H locs hP hS hFc) hK hP) rfl rfl hl.1 rfl (lv_room hcat) hd hf
end KCALLS
