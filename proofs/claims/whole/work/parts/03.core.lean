/-! THE WORLD: 48 cells at addresses g.1 0 .. g.1 47; what changes in them is Wd: cell, place -> int -/
abbrev Wd : Type := Nat → Nat → Int32
abbrev GG : Type := (Nat → Nat) × va_G × (ClassId × ClassId × ClassId) × (Nat → Nat) × (Nat → Nat)
def up (w : Wd) (k j : Nat) (v : Int32) : Wd := fun k' => if k' = k then upd (w k) j v else w k'
theorem up_same (w : Wd) (k j : Nat) (v : Int32) : up w k j v k = upd (w k) j v := if_pos rfl
theorem up_other (w : Wd) (k j : Nat) (v : Int32) {k' : Nat} (h : k' ≠ k) : up w k j v k' = w k' := if_neg h
def upR (w : Wd) (k : Nat) (f : Nat → Int32) : Wd := fun k' => if k' = k then f else w k'
theorem upR_same (w : Wd) (k : Nat) (f : Nat → Int32) : upR w k f k = f := if_pos rfl
theorem upR_other (w : Wd) (k : Nat) (f : Nat → Int32) {k' : Nat} (h : k' ≠ k) : upR w k f k' = w k' := if_neg h
def objC (k : Nat) : Option Nat := (objL[k]?).getD none
def arrN (k : Nat) : Option Nat := (arrL[k]?).getD none
theorem objC_lt {k ci : Nat} (h : objC k = some ci) : k < 48 := by
  unfold objC at h
  cases e : objL[k]? with
  | none => rw [e] at h; cases h
  | some x => exact (List.getElem?_eq_some_iff.mp e).1
theorem arrN_lt {k n : Nat} (h : arrN k = some n) : k < 48 := by
  unfold arrN at h
  cases e : arrL[k]? with
  | none => rw [e] at h; cases h
  | some x => exact (List.getElem?_eq_some_iff.mp e).1
theorem obj_arr : ∀ k, k < 48 → ((objL[k]?).getD none).isSome = true → ((arrL[k]?).getD none) = none := by decide +kernel
def fOf (g : GG) (w : Wd) (k ci : Nat) : List Value := (fdef ci).zipIdx.map (fun q => if q.1 = 0 then .int (w k q.2) else .ref (g.1 (k + q.1)))
def cellOf (g : GG) (w : Wd) (k : Nat) : va_E := match objC k with
  | some ci => .inr (ci, fOf g w k ci)
  | none => match arrN k with
    | some n => .inl (g.2.2.1.1, n, .inl (w k))
    | none => if k = 23 then .inl (g.2.2.1.2.1, 4, .inr (.inr (.inr (.inr (fun j => some (g.1 (24 + 2 * j)))))))
      else .inl (g.2.2.1.2.2, 7, .inr (.inr (.inr (.inr (fun j => some (g.2.2.2.1 j))))))
def wsW (g : GG) (w : Wd) : va_W := (List.range 48).map (fun k => (g.1 k, cellOf g w k))
def tysG (g : GG) : List (ClassId × FieldType) := [(g.2.2.1.1, .int), (g.2.2.1.2.1, .object "StraySheep$Sheet"), (g.2.2.1.2.2, .object "java/lang/String")]
def Hv (g : GG) (w : Wd) (H : Heap) : Prop := va_P g.2.1 cls (wsW g w) H
def Ad (g : GG) : Nat → Prop := fun q => ∃ k, k < 48 ∧ q = g.1 k
theorem wsW_at (g : GG) (w : Wd) {k : Nat} (h : k < 48) : (wsW g w)[k]? = some (g.1 k, cellOf g w k) := by
  unfold wsW
  rw [List.getElem?_map, List.getElem?_range h]
  rfl
theorem wsW_len (g : GG) (w : Wd) : (wsW g w).length = 48 := by simp [wsW]
theorem wsW_of {g : GG} {w : Wd} {k : Nat} {q : Nat × va_E} (h : (wsW g w)[k]? = some q) : k < 48 ∧ q = (g.1 k, cellOf g w k) := by
  have hk : k < 48 := by have := (List.getElem?_eq_some_iff.mp h).1; rw [wsW_len] at this; exact this
  rw [wsW_at g w hk] at h
  exact ⟨hk, (Option.some.inj h).symm⟩
theorem cellOf_obj (g : GG) (w : Wd) {k ci : Nat} (h : objC k = some ci) : cellOf g w k = .inr (ci, fOf g w k ci) := by
  unfold cellOf
  rw [h]
theorem cellOf_arr (g : GG) (w : Wd) {k n : Nat} (h : arrN k = some n) : cellOf g w k = .inl (g.2.2.1.1, n, .inl (w k)) := by
  have ho : objC k = none := by
    cases e : objC k with
    | none => rfl
    | some ci =>
      have := obj_arr k (objC_lt e) (by show (objC k).isSome = true; rw [e]; rfl)
      have h2 : arrN k = none := this
      rw [h] at h2; cases h2
  unfold cellOf
  rw [ho, h]
theorem cellOf_congr {g : GG} {w w1 : Wd} {k : Nat} (h : w1 k = w k) : cellOf g w1 k = cellOf g w k := by
  unfold cellOf fOf
  rw [h]
theorem wsW_set {g : GG} {w w1 : Wd} {k : Nat} {e : va_E} (hk : k < 48) (he : cellOf g w1 k = e) (ho : ∀ k', k' ≠ k → w1 k' = w k') : (wsW g w).set k (g.1 k, e) = wsW g w1 := by
  apply List.ext_getElem?
  intro i
  by_cases hi : i < 48
  · by_cases hik : i = k
    · subst hik
      rw [List.getElem?_set_self (by rw [wsW_len]; exact hk), wsW_at g w1 hk, he]
    · rw [List.getElem?_set_ne (Ne.symm hik), wsW_at g w hi, wsW_at g w1 hi, cellOf_congr (ho i hik)]
  · rw [List.getElem?_eq_none (by rw [List.length_set, wsW_len]; omega), List.getElem?_eq_none (by rw [wsW_len]; omega)]
theorem fOf_get (g : GG) (w : Wd) (k ci : Nat) {j o : Nat} (h : (fdef ci)[j]? = some o) : (fOf g w k ci)[j]? = some (if o = 0 then .int (w k j) else .ref (g.1 (k + o))) := by
  unfold fOf
  rw [List.getElem?_map, List.getElem?_zipIdx, h]
  simp
theorem fOf_len (g : GG) (w : Wd) (k ci : Nat) : (fOf g w k ci).length = (fdef ci).length := by simp [fOf]
theorem fOf_set (g : GG) (w : Wd) (k ci : Nat) {j : Nat} (v : Int32) (h : (fdef ci)[j]? = some 0) : fOf g (up w k j v) k ci = (fOf g w k ci).set j (.int v) := by
  have hj : j < (fdef ci).length := (List.getElem?_eq_some_iff.mp h).1
  apply List.ext_getElem?
  intro i
  by_cases hi : i < (fdef ci).length
  · have hget : (fdef ci)[i]? = some (fdef ci)[i] := List.getElem?_eq_getElem hi
    rw [fOf_get g _ k ci hget]
    by_cases hij : i = j
    · subst hij
      rw [List.getElem?_set_self (by rw [fOf_len]; exact hj)]
      have h0 : (fdef ci)[i] = 0 := by rw [h] at hget; exact (Option.some.inj hget).symm
      rw [h0, up_same]
      simp [upd]
    · rw [List.getElem?_set_ne (Ne.symm hij), fOf_get g w k ci hget, up_same]
      simp [upd, hij]
  · rw [List.getElem?_eq_none (by rw [fOf_len]; omega), List.getElem?_eq_none (by rw [List.length_set, fOf_len]; omega)]
/-! what holds of the machine all the while -/
def NW : List Cond := lw_tbl.filter (fun w => match w with | .methodLinkNest .. => true | _ => false)
def sTx : List String := ["sheep", "ram", "ewe", "lamb", "orphan", "wanderer", "leader", "fold", "keeper", "wolf", "at", "fear", "lost", "pace"]
def sBy : List (List Int32) := [[115, 104, 101, 101, 112], [114, 97, 109], [101, 119, 101], [108, 97, 109, 98], [111, 114, 112, 104, 97, 110], [119, 97, 110, 100, 101, 114, 101, 114], [108, 101, 97, 100, 101, 114], [102, 111, 108, 100], [107, 101, 101, 112, 101, 114], [119, 111, 108, 102], [97, 116], [102, 101, 97, 114], [108, 111, 115, 116], [112, 97, 99, 101]]
def SW (own : String) (k i : Nat) : Prop := Cond.stringRef own k (sTx.getD i "") ∈ lw_tbl
def Cx (g : GG) (U : State) : Prop := va_K g.2.1 cls (tysG g) U ∧ (∀ i j, i < 48 → j < 48 → g.1 i = g.1 j → i = j) ∧ (∀ w ∈ NW, va_Nw w U) ∧ (∀ own k i, i < 14 → SW own k i → vk_R own k (sTx.getD i "") (g.2.2.2.1 i) U)
def Hx (g : GG) (U : State) (H : Heap) : Prop := (∀ i : Nat, i < 14 → va_O "java/lang/String" (g.2.2.2.1 i) (Ad g) U H ∧ va_OF "java/lang/String" "coder" "B" (.int 0) (g.2.2.2.1 i) (Ad g) U H ∧ va_OF "java/lang/String" "value" "[B" (.ref (g.2.2.2.2 i)) (g.2.2.2.1 i) (Ad g) U H ∧ va_T .byte (g.2.2.2.2 i) (sBy.getD i []).length (fun j => .int ((sBy.getD i []).getD j 0)) (Ad g) U H) ∧ va_Z "java/lang/String" "COMPACT_STRINGS" "Z" (.int 1) (Ad g) U H ∧ va_Zq "jdk/internal/util/Preconditions" "SIOOBE_FORMATTER" "Ljava/util/function/BiFunction;" (Ad g) U H
theorem va_Zq.mv {C n d : String} {A : Nat → Prop} {u U : State} {H : Heap} (hvm : u.vm.Alike U.vm) (h : va_Zq C n d A u H) : va_Zq C n d A U H := h.elim (fun h => Or.inl (h.moved hvm)) (fun ⟨t, h⟩ => Or.inr ⟨t, h.moved hvm⟩)
theorem va_Zq.kp {C n d : String} {A : Nat → Prop} {U : State} {H H1 : Heap} (h : va_Zq C n d A U H) (hq : ∀ a : Nat, a < H.size → ¬ A a → H1[a]? = H[a]?) : va_Zq C n d A U H1 := h.elim (fun h => Or.inl (h.kept hq)) (fun ⟨t, h⟩ => Or.inr ⟨t, h.kept hq⟩)
theorem Hx.moved {g : GG} {u U : State} {H : Heap} (hvm : u.vm.Alike U.vm) (h : Hx g u H) : Hx g U H :=
  ⟨fun i hi => ⟨va_O.moved hvm (h.1 i hi).1, va_OF.moved hvm (h.1 i hi).2.1, va_OF.moved hvm (h.1 i hi).2.2.1, va_T.moved hvm (h.1 i hi).2.2.2⟩, h.2.1.moved hvm, h.2.2.mv hvm⟩
theorem Hx.kept {g : GG} {U : State} {H H1 : Heap} (h : Hx g U H) (hq : ∀ a : Nat, a < H.size → ¬ Ad g a → H1[a]? = H[a]?) : Hx g U H1 :=
  ⟨fun i hi => ⟨(h.1 i hi).1.kept hq, (h.1 i hi).2.1.kept hq, (h.1 i hi).2.2.1.kept hq, (h.1 i hi).2.2.2.kept hq⟩, h.2.1.kept hq, h.2.2.kp hq⟩
theorem NW_is {w : Cond} (h : w ∈ NW) : ∃ a i x b, w = .methodLinkNest a i x b := by
  have h1 := (List.mem_filter.mp h).2
  cases w <;> first | exact ⟨_, _, _, _, rfl⟩ | cases h1
theorem Cx.warm {g : GG} {s U : State} (hW : s.WarmedH U.vm) (h : Cx g s) : Cx g U :=
  ⟨va_K.moved hW.alike h.1, h.2.1, fun w hw => by
    obtain ⟨a, i, x, b, rfl⟩ := NW_is hw
    exact va_Nw.warmM hW (h.2.2.1 _ hw), fun own k i hi hs => vk_R.warm hW (h.2.2.2 own k i hi hs)⟩
theorem Cx.same {g : GG} {s U : State} (hvm : U.vm = s.vm) (h : Cx g s) : Cx g U :=
  ⟨va_K.moved (by rw [hvm]; exact Vm.Alike.refl _) h.1, h.2.1, fun w hw => by
    obtain ⟨a, i, x, b, rfl⟩ := NW_is hw
    exact va_Nw.same rfl hvm.symm (h.2.2.1 _ hw), fun own k i hi hs => vk_R.same hvm (h.2.2.2 own k i hi hs)⟩
theorem Cx.D {g : GG} {s : State} (h : Cx g s) (w : Wd) : va_D (Ad g) (wsW g w) := by
  refine ⟨fun i j p q hi hj hpq => ?_, fun k q hk => ?_⟩
  · obtain ⟨h1, rfl⟩ := wsW_of hi
    obtain ⟨h2, rfl⟩ := wsW_of hj
    exact h.2.1 i j h1 h2 hpq
  · obtain ⟨h1, rfl⟩ := wsW_of hk
    exact ⟨k, h1, rfl⟩
def Fx (g : GG) (M : MM) (p : Program) (s : State) (m : MethodId) (args : Array Value) (meth : Method) (c : Code) : Prop :=
  p.tables.exec = Jvm.exec ∧ c.code = M.2.1 ∧ c.maxLocals = M.2.2.1 ∧ meth.sig.returnType = M.2.2.2.1 ∧ meth.locks = false ∧ s.vm.findClass M.1.cls = some m.cls ∧ (∀ w ∈ LT, w.before args s = true) ∧ Cx g s ∧ Hx g s s.heap
/-! locals by their places -/
def lvh (ls : Array Slot) (nL : Nat) (lv : List (Option Value)) : Prop := ls.size = nL ∧ lv_wf ls ∧ ∀ (i : Nat) (v : Value), lv[i]? = some (some v) → ls[i]? = some (.val v)
def lvasc (lv : List (Option Value)) : List (Nat × Value) := lv.zipIdx.filterMap (fun q => q.1.map (fun v => (q.2, v)))
theorem mem_lvasc {lv : List (Option Value)} {i : Nat} {v : Value} : (i, v) ∈ lvasc lv ↔ lv[i]? = some (some v) := by
  unfold lvasc
  rw [List.mem_filterMap]
  constructor
  · rintro ⟨⟨o, k⟩, hm, he⟩
    have hm2 := List.mem_zipIdx_iff_getElem?.mp hm
    cases o with
    | none => cases he
    | some u =>
      simp at he
      obtain ⟨rfl, rfl⟩ := he
      exact hm2
  · intro h
    exact ⟨(some v, i), List.mem_zipIdx_iff_getElem?.mpr h, rfl⟩
theorem lvh.has {ls : Array Slot} {nL : Nat} {lv : List (Option Value)} (h : lvh ls nL lv) : lv_has ls nL (lvasc lv) := ⟨h.1, h.2.1, fun q hq => h.2.2 q.1 q.2 (mem_lvasc.mp hq)⟩
def okst (lv : List (Option Value)) (i : Nat) : Bool := match i with
  | 0 => true
  | k + 1 => match lv[k]? with
    | some (some u) => !(u.category == 2)
    | _ => true
theorem lvh.st1 {ls' : Array Slot} {nL : Nat} {lv : List (Option Value)} {i : Nat} {v : Value} (hok : okst lv i = true) (h : lv_has ls' nL ((i, v) :: (lvasc lv).filter (fun q => !(q.1 == i) && !(q.1 + 1 == i && q.2.category == 2)))) : lvh ls' nL (lv.set i (some v)) := by
  refine ⟨h.1, h.2.1, fun j u hj => ?_⟩
  by_cases hji : j = i
  · subst hji
    have hl : j < lv.length := by have := (List.getElem?_eq_some_iff.mp hj).1; rw [List.length_set] at this; exact this
    rw [List.getElem?_set_self hl] at hj
    cases hj
    exact h.2.2 (j, v) List.mem_cons_self
  · rw [List.getElem?_set_ne (Ne.symm hji)] at hj
    refine h.2.2 (j, u) (List.mem_cons_of_mem _ (List.mem_filter.mpr ⟨mem_lvasc.mpr hj, ?_⟩))
    have h1 : (j == i) = false := by simpa using hji
    by_cases h2 : j + 1 = i
    · subst h2
      simp only [okst, hj] at hok
      simp only [h1, Bool.not_false, Bool.true_and, beq_self_eq_true]
      exact hok
    · have h3 : (j + 1 == i) = false := by simpa using h2
      simp [h1, h3]
theorem lvh.st2 {ls' : Array Slot} {nL : Nat} {lv : List (Option Value)} {i : Nat} {v : Value} (hok : okst lv i = true) (h : lv_has ls' nL ((i, v) :: (lvasc lv).filter (fun q => !(q.1 == i) && (!(q.1 == i + 1) && !(q.1 + 1 == i && q.2.category == 2))))) : lvh ls' nL ((lv.set i (some v)).set (i + 1) none) := by
  refine ⟨h.1, h.2.1, fun j u hj => ?_⟩
  by_cases hj1 : j = i + 1
  · subst hj1
    have hl : i + 1 < (lv.set i (some v)).length := by have := (List.getElem?_eq_some_iff.mp hj).1; rw [List.length_set] at this; exact this
    rw [List.getElem?_set_self hl] at hj
    cases hj
  rw [List.getElem?_set_ne (Ne.symm hj1)] at hj
  by_cases hji : j = i
  · subst hji
    have hl : j < lv.length := by have := (List.getElem?_eq_some_iff.mp hj).1; rw [List.length_set] at this; exact this
    rw [List.getElem?_set_self hl] at hj
    cases hj
    exact h.2.2 (j, v) List.mem_cons_self
  · rw [List.getElem?_set_ne (Ne.symm hji)] at hj
    refine h.2.2 (j, u) (List.mem_cons_of_mem _ (List.mem_filter.mpr ⟨mem_lvasc.mpr hj, ?_⟩))
    have h1 : (j == i) = false := by simpa using hji
    have h0 : (j == i + 1) = false := by simpa using hj1
    by_cases h2 : j + 1 = i
    · subst h2
      simp only [okst, hj] at hok
      simp only [h1, h0, Bool.not_false, Bool.true_and, beq_self_eq_true]
      exact hok
    · have h3 : (j + 1 == i) = false := by simpa using h2
      simp [h1, h0, h3]
/-! THE JUDGEMENT: the body of M, at pc, with locals lv, stack st, world w, comes to its end with an answer and a world of Q -/
def Qq (g : GG) (Q : Option Value → Wd → Prop) : Array Value → State → Outcome → State → Prop := fun _ st oc t => (∃ (r : Option Value) (w' : Wd), oc = .returned r ∧ Q r w' ∧ Hv g w' t.heap) ∧ va_F (Ad g) st t
def rmM (M : MM) : Room := { frames := M.2.2.2.2.1, cells := 0, slots := 0, locals := M.2.2.2.2.2 }
def Go (l : Launch) (g : GG) (M : MM) (pc : Nat) (lv : List (Option Value)) (st : List Value) (w : Wd) (Q : Option Value → Wd → Prop) : Prop :=
  ∀ (p : Program) (e : Env) (s : State) (m : MethodId) (args : Array Value) (below : List Frame) (meth : Method) (c : Code) (H : Heap) (locs : List Loc) (ls : Array Slot),
    Fx g M p s m args meth c → Hv g w H → va_S (Ad g) s.heap H locs → lvh ls M.2.2.1 lv →
    W p l e (rmM M) s m args below meth c H locs 0 0 (MQ below (Qq g Q) args s 0 0 (Ad g)) (F0 m pc ls st)
def Res (l : Launch) (g : GG) (M : MM) (as : List Value) (w : Wd) (Q : Option Value → Wd → Prop) : Prop :=
  Met l M.1 (Cond.code M.1 M.2.1 M.2.2.1 M.2.2.2.1 :: LT) (rmM M) (va_Pc as (fun U => Cx g U ∧ Hx g U U.heap ∧ Hv g w U.heap)) (Qq g Q) 0 0 (Ad g)
def Is (r : Option Value) (w' : Wd) : Option Value → Wd → Prop := fun r1 w1 => r1 = r ∧ w1 = w'
