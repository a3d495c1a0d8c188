/-! frames that make cells: the judgement over a list of cells -/
def rmC (M : MM) (mc ms : Nat) : Room := { frames := M.2.2.2.2.1, cells := mc, slots := ms, locals := M.2.2.2.2.2 }
def KX (M : MM) (p : Program) (s : State) (m : MethodId) (args : Array Value) (c : Code) (A : Nat → Prop) : Prop := p.tables.exec = Jvm.exec ∧ c.code = M.2.1 ∧ c.maxLocals = M.2.2.1 ∧ s.vm.findClass M.1.cls = some m.cls ∧ (∀ w ∈ LT, w.before args s = true) ∧ (∀ q, s.heap.size ≤ q → A q)
def GoC (l : Launch) (p : Program) (e : Env) (s : State) (m : MethodId) (args : Array Value) (below : List Frame) (meth : Method) (c : Code) (R : Room) (M : MM) (Z : State → Prop) (D : va_G) (A : Nat → Prop) (ce sl : Nat) (pc : Nat) (lv : List (Option Value)) (st : List Value) (ws : va_W) : Prop := ∀ (H : Heap) (locs : List Loc) (ls : Array Slot), va_P D cls ws H → va_D A ws → va_S A s.heap H locs → lvh ls M.2.2.1 lv → W p l e R s m args below meth c H locs ce sl Z (F0 m pc ls st)
section KROWS
variable {l : Launch} {p : Program} {e : Env} {s : State} {m : MethodId} {args : Array Value} {below : List Frame} {meth : Method} {c : Code} {R : Room} {M : MM} {Z : State → Prop} {D : va_G} {A : Nat → Prop} {tys : List (ClassId × FieldType)} {ce sl pc n : Nat} {lv : List (Option Value)} {st : List Value} {ws : va_W}
theorem k_iconst {z : Int} {v : Int32} (X : KX M p s m args c A) (hd : Dc M pc (.iconst z) 1 n) (hv : Int32.ofInt z = v) (k : GoC l p e s m args below meth c R M Z D A ce sl n lv (.int v :: st) ws) : GoC l p e s m args below meth c R M Z D A ce sl pc lv st ws := by
  obtain ⟨hd, rfl⟩ := hd
  exact fun H locs ls hP hD hS hl => lv_iconst X.1 X.2.1 hd hv (k H locs ls hP hD hS hl)
theorem k_bipush {z : Int} {v : Int32} (X : KX M p s m args c A) (hd : Dc M pc (.bipush z) 2 n) (hv : (Int8.ofInt z).toInt32 = v) (k : GoC l p e s m args below meth c R M Z D A ce sl n lv (.int v :: st) ws) : GoC l p e s m args below meth c R M Z D A ce sl pc lv st ws := by
  obtain ⟨hd, rfl⟩ := hd
  exact fun H locs ls hP hD hS hl => lv_bipush X.1 X.2.1 hd hv (k H locs ls hP hD hS hl)
theorem k_sipush {z : Int} {v : Int32} (X : KX M p s m args c A) (hd : Dc M pc (.sipush z) 3 n) (hv : (Int16.ofInt z).toInt32 = v) (k : GoC l p e s m args below meth c R M Z D A ce sl n lv (.int v :: st) ws) : GoC l p e s m args below meth c R M Z D A ce sl pc lv st ws := by
  obtain ⟨hd, rfl⟩ := hd
  exact fun H locs ls hP hD hS hl => lv_sipush X.1 X.2.1 hd hv (k H locs ls hP hD hS hl)
theorem k_aload {z : Fin 4} {x : Nat} (X : KX M p s m args c A) (hd : Dc M pc (.aload_n z) 1 n) (hi : lv[(z : Nat)]? = some (some (.ref x))) (k : GoC l p e s m args below meth c R M Z D A ce sl n lv (.ref x :: st) ws) : GoC l p e s m args below meth c R M Z D A ce sl pc lv st ws := by
  obtain ⟨hd, rfl⟩ := hd
  exact fun H locs ls hP hD hS hl => lv_aload_n X.1 X.2.1 hd rfl (hl.2.2 _ _ hi) (k H locs ls hP hD hS hl)
theorem k_iload {z : Fin 4} {x : Int32} (X : KX M p s m args c A) (hd : Dc M pc (.iload_n z) 1 n) (hi : lv[(z : Nat)]? = some (some (.int x))) (k : GoC l p e s m args below meth c R M Z D A ce sl n lv (.int x :: st) ws) : GoC l p e s m args below meth c R M Z D A ce sl pc lv st ws := by
  obtain ⟨hd, rfl⟩ := hd
  exact fun H locs ls hP hD hS hl => lv_iload_n X.1 X.2.1 hd rfl (hl.2.2 _ _ hi) (k H locs ls hP hD hS hl)
theorem k_iadd {x y : Int32} (X : KX M p s m args c A) (hd : Dc M pc .iadd 1 n) (k : GoC l p e s m args below meth c R M Z D A ce sl n lv (.int (x + y) :: st) ws) : GoC l p e s m args below meth c R M Z D A ce sl pc lv (.int y :: .int x :: st) ws := by
  obtain ⟨hd, rfl⟩ := hd
  exact fun H locs ls hP hD hS hl => lv_iadd X.1 X.2.1 hd (k H locs ls hP hD hS hl)
theorem k_dup {a : Value} (X : KX M p s m args c A) (hd : Dc M pc .dup 1 n) (ha : a.category = 1) (k : GoC l p e s m args below meth c R M Z D A ce sl n lv (a :: a :: st) ws) : GoC l p e s m args below meth c R M Z D A ce sl pc lv (a :: st) ws := by
  obtain ⟨hd, rfl⟩ := hd
  exact fun H locs ls hP hD hS hl => lv_dup X.1 X.2.1 hd ha (k H locs ls hP hD hS hl)
theorem k_goto {off : Int} {tgt : Nat} (X : KX M p s m args c A) (hd : Dc M pc (.goto off) 3 n) (ht : (pc : Int) + off = (tgt : Int)) (k : GoC l p e s m args below meth c R M Z D A ce sl tgt lv st ws) : GoC l p e s m args below meth c R M Z D A ce sl pc lv st ws := by
  obtain ⟨hd, rfl⟩ := hd
  exact fun H locs ls hP hD hS hl => lv_goto X.1 X.2.1 hd ht (k H locs ls hP hD hS hl)
theorem k_geT {x y : Int32} {off : Int} {tgt : Nat} (X : KX M p s m args c A) (hd : Dc M pc (.if_icmp .ge off) 3 n) (ht : (pc : Int) + off = (tgt : Int)) (h : y ≤ x) (k : GoC l p e s m args below meth c R M Z D A ce sl tgt lv st ws) : GoC l p e s m args below meth c R M Z D A ce sl pc lv (.int y :: .int x :: st) ws := by
  obtain ⟨hd, rfl⟩ := hd
  exact fun H locs ls hP hD hS hl => lv_icmp_ge X.1 X.2.1 hd ht (fun _ => k H locs ls hP hD hS hl) (fun h2 => absurd h h2)
theorem k_geF {x y : Int32} {off : Int} {tgt : Nat} (X : KX M p s m args c A) (hd : Dc M pc (.if_icmp .ge off) 3 n) (ht : (pc : Int) + off = (tgt : Int)) (h : ¬ y ≤ x) (k : GoC l p e s m args below meth c R M Z D A ce sl n lv st ws) : GoC l p e s m args below meth c R M Z D A ce sl pc lv (.int y :: .int x :: st) ws := by
  obtain ⟨hd, rfl⟩ := hd
  exact fun H locs ls hP hD hS hl => lv_icmp_ge X.1 X.2.1 hd ht (fun h2 => absurd h2 h) (fun _ => k H locs ls hP hD hS hl)
theorem k_istore {z : Fin 4} {x : Int32} {lv2 : List (Option Value)} (X : KX M p s m args c A) (hd : Dc M pc (.istore_n z) 1 n) (hn : (z : Nat) < M.2.2.1) (hok : okst lv (z : Nat) = true) (he : (lv.set (z : Nat) (some (.int x))) = lv2) (k : GoC l p e s m args below meth c R M Z D A ce sl n lv2 st ws) : GoC l p e s m args below meth c R M Z D A ce sl pc lv (.int x :: st) ws := by
  obtain ⟨hd, rfl⟩ := hd
  subst he
  exact fun H locs ls hP hD hS hl => lv_istore_n X.1 X.2.1 hd rfl hl.has hn rfl (fun ls2 h2 => k H locs ls2 hP hD hS (lvh.st1 hok h2))
theorem k_astore {z : Fin 4} {x : Nat} {lv2 : List (Option Value)} (X : KX M p s m args c A) (hd : Dc M pc (.astore_n z) 1 n) (hn : (z : Nat) < M.2.2.1) (hok : okst lv (z : Nat) = true) (he : (lv.set (z : Nat) (some (.ref x))) = lv2) (k : GoC l p e s m args below meth c R M Z D A ce sl n lv2 st ws) : GoC l p e s m args below meth c R M Z D A ce sl pc lv (.ref x :: st) ws := by
  obtain ⟨hd, rfl⟩ := hd
  subst he
  exact fun H locs ls hP hD hS hl => lv_astore_n X.1 X.2.1 hd rfl hl.has hn rfl (fun ls2 h2 => k H locs ls2 hP hD hS (lvh.st1 hok h2))
theorem k_iinc {i : Nat} {z : Int} {x v : Int32} {lv2 : List (Option Value)} (X : KX M p s m args c A) (hd : Dc M pc (.iinc i z) 3 n) (hi : lv[i]? = some (some (.int x))) (hv : x + Int32.ofInt z = v) (hn : i < M.2.2.1) (hok : okst lv i = true) (he : lv.set i (some (.int v)) = lv2) (k : GoC l p e s m args below meth c R M Z D A ce sl n lv2 st ws) : GoC l p e s m args below meth c R M Z D A ce sl pc lv st ws := by
  obtain ⟨hd, rfl⟩ := hd
  subst he
  intro H locs ls hP hD hS hl
  obtain ⟨k0, hk0⟩ := List.getElem?_of_mem (mem_lvasc.mpr hi)
  exact lv_iinc X.1 X.2.1 hd hl.has hk0 hv hn rfl (fun ls2 h2 => k H locs ls2 hP hD hS (lvh.st1 hok h2))
theorem w_obj : Cond.instanceMethod Lib.objectInit ∈ LT := LTm 86 (by decide +kernel) rfl
theorem w_objC : Cond.code Lib.objectInit ⟨#[0xb1]⟩ 1 none ∈ LT := LTm 87 (by rfl) rfl
theorem w_arrI : Cond.arrayClass (newarray.typeOf .int) ∈ LT := LTm 149 (by decide +kernel) rfl
theorem k_obj {idx : Nat} {x : Nat} (X : KX M p s m args c A) (hd : Dc M pc (.invokespecial idx) 3 n) (hk : Cond.methodLink M.1.cls idx Lib.objectInit ∈ LT) (hR : 1 ≤ R.frames) (hR2 : 20 ≤ R.locals) (k : GoC l p e s m args below meth c R M Z D A ce sl n lv [] ws) : GoC l p e s m args below meth c R M Z D A ce sl pc lv [.ref x] ws := by
  obtain ⟨hd, rfl⟩ := hd
  intro H locs ls hP hD hS hl
  refine W.objInit X.1 X.2.1 X.2.2.2.1 (X.2.2.2.2.1 _ hk) (X.2.2.2.2.1 _ w_obj) (X.2.2.2.2.1 _ w_objC) rfl (by rw [X.2.2.1]; exact hl.1) rfl hd hR (Nat.le_trans (Nat.le_of_ble_eq_true rfl) hR2) ?_
  exact k H locs ls hP hD hS hl
theorem k_put {idx q0 a ci j : Nat} {ty : FieldType} {fin : Bool} {v : Value} {fs : List Value} (X : KX M p s m args c A) (hd : Dc M pc (.putfield idx) 3 n) (hf : Fk M.1.cls idx ci j ty fin) (hK : va_K D cls tys s) (hin : meth.name = "<init>") (hde : ∀ C T N, cls[ci]? = some (C, T, N) → (T j).1 = M.1.cls) (he : ws[q0]? = some (a, .inr (ci, fs))) (hl : j < fs.length) (hn : narrow ty v = v) (hfit : fits ty v = true) (k : GoC l p e s m args below meth c R M Z D A ce sl n lv st (ws.set q0 (a, .inr (ci, fs.set j v)))) : GoC l p e s m args below meth c R M Z D A ce sl pc lv (v :: .ref a :: st) ws := by
  obtain ⟨hd, rfl⟩ := hd
  obtain ⟨C, T, N, tyf, ⟨c1, c2, c3, c4, c5⟩, hjN, hlk, hty, hfin⟩ := hf
  intro H locs ls hP hD hS hlv
  cases fin with
  | false => exact va_put (D := D) (cl := cls) (C := C) (T := T) (N := N) (ci := ci) (ref := (T j).1) (A := A) X.1 X.2.1 X.2.2.2.2.1 c2 tyf c3 c4 X.2.2.2.1 hK hP hD hS q0 he c1 j hjN (X.2.2.2.2.1 _ hlk) (fun _ h => h) hfin (c3 j hjN) (by rw [hty]; exact hn) (by rw [hty]; exact hfit) hl hd (fun H1 locs1 hP1 hD1 hS1 => k H1 locs1 ls hP1 hD1 hS1 hlv)
  | true => exact va_putF (D := D) (cl := cls) (C := C) (T := T) (N := N) (ci := ci) (ref := (T j).1) (A := A) X.1 X.2.1 X.2.2.2.2.1 c2 tyf c3 c4 X.2.2.2.1 hK hP hD hS q0 he c1 j hjN (X.2.2.2.2.1 _ hlk) (fun _ h => h) hfin hin (hde _ _ _ c1) (c3 j hjN) (by rw [hty]; exact hn) (by rw [hty]; exact hfit) hl hd (fun H1 locs1 hP1 hD1 hS1 => k H1 locs1 ls hP1 hD1 hS1 hlv)
theorem k_get {idx q0 a ci j : Nat} {ty : FieldType} {fin : Bool} {v : Value} {fs : List Value} (X : KX M p s m args c A) (hd : Dc M pc (.getfield idx) 3 n) (hf : Fk M.1.cls idx ci j ty fin) (hK : va_K D cls tys s) (he : ws[q0]? = some (a, .inr (ci, fs))) (hv : fs[j]? = some v) (k : GoC l p e s m args below meth c R M Z D A ce sl n lv (v :: st) ws) : GoC l p e s m args below meth c R M Z D A ce sl pc lv (.ref a :: st) ws := by
  obtain ⟨hd, rfl⟩ := hd
  obtain ⟨C, T, N, tyf, ⟨c1, c2, c3, c4, c5⟩, hjN, hlk, -, -⟩ := hf
  intro H locs ls hP hD hS hlv
  exact va_get (D := D) (cl := cls) (C := C) (T := T) (N := N) (ci := ci) (ref := (T j).1) (v := v) X.1 X.2.1 X.2.2.2.2.1 c2 X.2.2.2.1 hK hP q0 he c1 j hjN (X.2.2.2.2.1 _ hlk) (fun _ h => h) hv hd (k H locs ls hP hD hS hlv)
theorem k_new {idx ci N : Nat} {C : String} {T : u_T} {tyf : Nat → FieldType} {fs : List Value} (X : KX M p s m args c A) (hd : Dc M pc (.new idx) 3 n) (hok : clsOk ci C T N tyf) (hw : Cond.classLink M.1.cls idx C ∈ LT ∧ Cond.instantiable C N ∈ LT ∧ Cond.initialized C ∈ LT) (hK : va_K D cls tys s) (hfs : ∀ j, j < N → defaultValue (tyf j) = vp_V fs j) (hce : ce + 1 ≤ R.cells) (hsl : sl + N ≤ R.slots) (k : ∀ q, GoC l p e s m args below meth c R M Z D A (ce + 1) (sl + N) n lv (.ref q :: st) (ws ++ [(q, .inr (ci, fs))])) : GoC l p e s m args below meth c R M Z D A ce sl pc lv st ws := by
  obtain ⟨hd, rfl⟩ := hd
  obtain ⟨c1, c2, c3, c4, c5⟩ := hok
  intro H locs ls hP hD hS hlv
  exact va_new (D := D) (cl := cls) (C := C) (T := T) (N := N) (ci := ci) (fs := fs) X.1 X.2.1 X.2.2.2.2.1 c2 tyf c3 X.2.2.2.1 (X.2.2.2.2.1 _ hw.1) (X.2.2.2.2.1 _ hw.2.1) (X.2.2.2.2.1 _ hw.2.2) hK hP hD hS X.2.2.2.2.2 c1 hfs hce hsl hd (fun q H1 hP1 hD1 hS1 => k q H1 locs ls hP1 hD1 hS1 hlv)
theorem k_newa {cI : ClassId} {x : Int32} {N : Nat} (X : KX M p s m args c A) (hd : Dc M pc (.newarray .int) 2 n) (hK : va_K D cls ((cI, .int) :: tys) s) (hx : x = nI N) (hN : N ≤ 200) (hce : ce + 1 ≤ R.cells) (hsl : sl + N ≤ R.slots) (k : ∀ q, GoC l p e s m args below meth c R M Z D A (ce + 1) (sl + N) n lv (.ref q :: st) (ws ++ [(q, .inl (cI, N, .inl (fun _ => 0)))])) : GoC l p e s m args below meth c R M Z D A ce sl pc lv (.int x :: st) ws := by
  obtain ⟨hd, rfl⟩ := hd
  subst hx
  intro H locs ls hP hD hS hlv
  refine va_newa (a0 := (N, .inl (fun _ => 0))) X.1 X.2.1 (X.2.2.2.2.1 _ w_arrI) rfl hK hP hD hS X.2.2.2.2.2 (fun _ => rfl) (fun h => absurd (nI_pos' (n := N) (by omega)) (Int32.not_le.mpr h)) (nI_clamp (by omega)) ?_ hce hsl hd (fun q cA H1 hK1 hP1 hD1 hS1 => ?_)
  · show N * 4 ≤ 536870912
    omega
  · have e1 : s.vm.findClass "[I" = some cI := va_nm_int (hK.2 0 _ rfl).2
    have e2 : s.vm.findClass "[I" = some cA := va_nm_int (hK1.2 (tys.length + 1) (cA, .int) (by simp; rfl)).2
    have e3 : cI = cA := Option.some.inj (e1.symm.trans e2)
    subst e3
    exact k q H1 locs ls hP1 hD1 hS1 hlv
theorem k_newq {C : String} {idx : Nat} {x : Int32} {N : Nat} (X : KX M p s m args c A) (hd : Dc M pc (.anewarray idx) 3 n) (hk : Cond.classLink M.1.cls idx C ∈ LT ∧ va_AO C s) (hK : va_K D cls tys s) (hx : x = nI N) (hN : N ≤ 200) (hce : ce + 1 ≤ R.cells) (hsl : sl + N ≤ R.slots) (k : ∀ q cA, va_K D cls (tys ++ [(cA, .object C)]) s → GoC l p e s m args below meth c R M Z D A (ce + 1) (sl + N) n lv (.ref q :: st) (ws ++ [(q, .inl (cA, N, .inr (.inr (.inr (.inr (fun _ => none))))))])) : GoC l p e s m args below meth c R M Z D A ce sl pc lv (.int x :: st) ws := by
  obtain ⟨hd, rfl⟩ := hd
  subst hx
  intro H locs ls hP hD hS hlv
  exact va_newq X.1 X.2.1 X.2.2.2.1 (X.2.2.2.2.1 _ hk.1) hk.2 hK hP hD hS X.2.2.2.2.2 (fun h => absurd (nI_pos' (n := N) (by omega)) (Int32.not_le.mpr h)) (nI_clamp (by omega)) (by omega) hce hsl hd (fun q cA H1 hK1 hP1 hD1 hS1 => k q cA hK1 H1 locs ls hP1 hD1 hS1 hlv)
theorem k_iast {cI : ClassId} {q0 a N j : Nat} {i x : Int32} {f : Nat → Int32} (X : KX M p s m args c A) (hd : Dc M pc .iastore 1 n) (hK : va_K D cls ((cI, .int) :: tys) s) (he : ws[q0]? = some (a, .inl (cI, N, .inl f))) (hi : i = nI j) (hj : j < N) (hN : N ≤ 200) (k : GoC l p e s m args below meth c R M Z D A ce sl n lv st (ws.set q0 (a, .inl (cI, N, .inl (upd f j x))))) : GoC l p e s m args below meth c R M Z D A ce sl pc lv (.int x :: .int i :: .ref a :: st) ws := by
  obtain ⟨hd, rfl⟩ := hd
  subst hi
  intro H locs ls hP hD hS hlv
  refine va_iast X.1 X.2.1 hK hP hD hS q0 0 he rfl (vp_in_nI hj (by omega)) hd (fun H1 locs1 hP1 hD1 hS1 => ?_)
  rw [nI_clamp (by omega)] at hP1 hD1
  exact k H1 locs1 ls hP1 hD1 hS1 hlv
theorem k_astq {q0 a N j qk v ci t0 : Nat} {cA : ClassId} {r : vw_C} {vs : List Value} {i : Int32} {f : Nat → Option Nat} (X : KX M p s m args c A) (hd : Dc M pc .aastore 1 n) (hK : va_K D cls tys s) (he : ws[q0]? = some (a, .inl (cA, N, .inr (.inr (.inr (.inr f)))))) (ht : tys[t0]? = some (cA, .object r.1)) (hv : ws[qk]? = some (v, .inr (ci, vs))) (hc : cls[ci]? = some r) (hi : i = nI j) (hj : j < N) (hN : N ≤ 200) (k : GoC l p e s m args below meth c R M Z D A ce sl n lv st (ws.set q0 (a, .inl (cA, N, .inr (.inr (.inr (.inr (va_up f j (some v))))))))) : GoC l p e s m args below meth c R M Z D A ce sl pc lv (.ref v :: .int i :: .ref a :: st) ws := by
  obtain ⟨hd, rfl⟩ := hd
  subst hi
  intro H locs ls hP hD hS hlv
  refine va_astq X.1 X.2.1 hK hP hD hS q0 t0 qk ci he ht hv hc (vp_in_nI hj (by omega)) hd (fun H1 locs1 hP1 hD1 hS1 => ?_)
  rw [nI_clamp (by omega)] at hP1 hD1
  exact k H1 locs1 ls hP1 hD1 hS1 hlv
theorem k_wsq {q0 a N : Nat} {cA : ClassId} {f : Nat → Option Nat} (f2 : Nat → Option Nat) (he : ws[q0]? = some (a, .inl (cA, N, .inr (.inr (.inr (.inr f)))))) (hf : ∀ j, j < N → f j = f2 j) (k : GoC l p e s m args below meth c R M Z D A ce sl pc lv st (ws.set q0 (a, .inl (cA, N, .inr (.inr (.inr (.inr f2))))))) : GoC l p e s m args below meth c R M Z D A ce sl pc lv st ws := by
  intro H locs ls hP hD hS hl
  refine k H locs ls ?_ (hD.set he) hS hl
  intro k9 x hx
  by_cases hk : k9 = q0
  · subst hk
    rw [List.getElem?_set_self (List.getElem?_eq_some_iff.mp he).1] at hx
    cases hx
    have h2 : H[a]? = some (vp_cell cA (N, .inr (.inr (.inr (.inr f))))) := hP _ _ he
    show H[a]? = some (vp_cell cA (N, .inr (.inr (.inr (.inr f2)))))
    have h3 : arrV cA N (fun j => va_rf (f j)) = arrV cA N (fun j => va_rf (f2 j)) := by
      unfold arrV
      congr 2
      funext j
      show va_rf (f j.val) = va_rf (f2 j.val)
      rw [hf j.val j.isLt]
    rw [h2, vp_cell_q, vp_cell_q, h3]
  · rw [List.getElem?_set_ne (Ne.symm hk)] at hx
    exact hP _ _ hx
theorem k_ws {ws2 : va_W} (h : ws = ws2) (k : GoC l p e s m args below meth c R M Z D A ce sl pc lv st ws2) : GoC l p e s m args below meth c R M Z D A ce sl pc lv st ws := by subst h; exact k
end KROWS
