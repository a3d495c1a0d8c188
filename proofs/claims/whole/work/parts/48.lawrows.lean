/-! THE CLAIM OUT OF ONE WALK OF THE LAW'S BODY. Your part is whole_start (and what it stands on); all else here is the same for every law, but numbers. -/
def R_law : String := "StraySheepLaw"
def lw_P (b : Addr) (xs : List Int32) (args : Array Value) (s : State) : Prop := args = #[.ref b] ∧ s.IntsAt b xs ∧ xs.length ≤ 3072 ∧ (Jvm.Cond.and given_1 narrow_1).before args s = true
def lw_Q (_ : Array Value) (s : State) (o : Outcome) (t : State) : Prop := o = .returned (some (.int 1)) ∧ Framed s o t [] 48 1516
def lw_Z (below : List Frame) (a : Array Value) (s : State) : State → Prop := fun t => ∃ o, t.status = .running ∧ Ended t below o ∧ lw_Q a s o t
/-- the law's own end, with 1 on the stack, nothing written that was there before, its room as the claim has it -/
theorem lw_ret {p : Program} {l : Launch} {e : Env} {s : State} {m : MethodId} {below : List Frame} {meth : Method} {c : Code} {b : Nat} (hx : p.tables.exec = Jvm.exec) (hb : c.code = code) (hr : meth.sig.returnType = ret) (hlocks : meth.locks = false) {pc : Nat} {H : Heap} {ls : Array Slot} (hdg : decode code pc = .ok (.ireturn, 1)) : W p l e room_1 s m #[Value.ref b] below meth c H [] 48 1516 (lw_Z below #[Value.ref b] s) (F0 m pc ls [.int 1]) := by
  intro T hT X
  obtain ⟨fs, hret, hrun, hended, hW, hframe⟩ := X.leave (v := some (.int 1)) (hlocks := hlocks) (fun h => by rw [hr] at h; cases h)
  have hmeth' : T.vm.method? m = some meth := X.method'
  refine ⟨T.setFrames fs, ?_, .returned (some (.int 1)), hrun, hended, rfl, ⟨_, rfl⟩, hW, hframe⟩
  jvm_step X.here [X.here.top, hx, hb, hdg, hmeth', hr, ret, narrow_b1]
  (try refine ⟨rfl, ?_⟩); (try refine ⟨rfl, ?_⟩)
  first | (intro acts; rw [hret _ acts rfl rfl rfl]) | rw [hret _ _ rfl rfl rfl]
  exact Steps.refl _
/-- what holds at the law's entry: the machine, the code, the tables' words (any of lw_tbl by 'hts w (by decide +kernel)'), the script of L ints xs at the cell b, what the Statement gives of the start (any of its parts by flat_of_before) -/
def lw_At (p : Program) (s : State) (m : MethodId) (meth : Method) (c : Code) (b L : Nat) (xs : Nat → Int32) : Prop :=
  p.tables.exec = Jvm.exec ∧ c.code = code ∧ meth.sig.returnType = ret ∧ c.maxLocals = 4 ∧ s.vm.findClass R_law = some m.cls ∧ (∀ w ∈ lw_tbl, w.before #[Value.ref b] s = true) ∧ va_X b L xs s s.heap ∧ b < s.heap.size ∧ meth.locks = false ∧ (Jvm.Cond.and given_1 narrow_1).before #[Value.ref b] s = true
/-! the law's own frame: its judgement and its rows -/
def GoL (l : Launch) (p : Program) (e : Env) (s : State) (m : MethodId) (below : List Frame) (meth : Method) (c : Code) (g : GG) (b : Nat) (pc : Nat) (lv : List (Option Value)) (st : List Value) (w : Wd) : Prop := ∀ (H : Heap) (locs : List Loc) (ls : Array Slot), Hv g w H → va_S (fun q : Nat => s.heap.size ≤ q) s.heap H locs → lvh ls 4 lv → W p l e room_1 s m #[Value.ref b] below meth c H locs 48 1516 (lw_Z below #[Value.ref b] s) (F0 m pc ls st)
def LX (p : Program) (s : State) (m : MethodId) (meth : Method) (c : Code) (g : GG) (b L : Nat) (xs : Nat → Int32) : Prop := p.tables.exec = Jvm.exec ∧ c.code = code ∧ meth.sig.returnType = ret ∧ c.maxLocals = 4 ∧ s.vm.findClass "StraySheepLaw" = some m.cls ∧ (∀ w ∈ LT, w.before #[Value.ref b] s = true) ∧ va_X b L xs s s.heap ∧ b < s.heap.size ∧ meth.locks = false ∧ Cx g s ∧ Hx g s s.heap ∧ (∀ q, Ad g q → s.heap.size ≤ q)
section LROWS
variable {l : Launch} {p : Program} {e : Env} {s : State} {m : MethodId} {below : List Frame} {meth : Method} {c : Code} {g : GG} {b L : Nat} {xs : Nat → Int32} {pc n : Nat} {lv : List (Option Value)} {st : List Value} {w : Wd}
theorem l_iconst {z : Int} {v : Int32} (X : LX p s m meth c g b L xs) (hd : Dc L_law pc (.iconst z) 1 n) (hv : Int32.ofInt z = v) (k : GoL l p e s m below meth c g b n lv (.int v :: st) w) : GoL l p e s m below meth c g b pc lv st w := by
  obtain ⟨hd, rfl⟩ := hd
  exact fun H locs ls hP hS hl => lv_iconst X.1 X.2.1 hd hv (k H locs ls hP hS hl)
theorem l_bipush {z : Int} {v : Int32} (X : LX p s m meth c g b L xs) (hd : Dc L_law pc (.bipush z) 2 n) (hv : (Int8.ofInt z).toInt32 = v) (k : GoL l p e s m below meth c g b n lv (.int v :: st) w) : GoL l p e s m below meth c g b pc lv st w := by
  obtain ⟨hd, rfl⟩ := hd
  exact fun H locs ls hP hS hl => lv_bipush X.1 X.2.1 hd hv (k H locs ls hP hS hl)
theorem l_iload {z : Fin 4} {x : Int32} (X : LX p s m meth c g b L xs) (hd : Dc L_law pc (.iload_n z) 1 n) (hi : lv[(z : Nat)]? = some (some (.int x))) (k : GoL l p e s m below meth c g b n lv (.int x :: st) w) : GoL l p e s m below meth c g b pc lv st w := by
  obtain ⟨hd, rfl⟩ := hd
  exact fun H locs ls hP hS hl => lv_iload_n X.1 X.2.1 hd rfl (hl.2.2 _ _ hi) (k H locs ls hP hS hl)
theorem l_aload {z : Fin 4} {x : Nat} (X : LX p s m meth c g b L xs) (hd : Dc L_law pc (.aload_n z) 1 n) (hi : lv[(z : Nat)]? = some (some (.ref x))) (k : GoL l p e s m below meth c g b n lv (.ref x :: st) w) : GoL l p e s m below meth c g b pc lv st w := by
  obtain ⟨hd, rfl⟩ := hd
  exact fun H locs ls hP hS hl => lv_aload_n X.1 X.2.1 hd rfl (hl.2.2 _ _ hi) (k H locs ls hP hS hl)
theorem l_iadd {x y : Int32} (X : LX p s m meth c g b L xs) (hd : Dc L_law pc .iadd 1 n) (k : GoL l p e s m below meth c g b n lv (.int (x + y) :: st) w) : GoL l p e s m below meth c g b pc lv (.int y :: .int x :: st) w := by
  obtain ⟨hd, rfl⟩ := hd
  exact fun H locs ls hP hS hl => lv_iadd X.1 X.2.1 hd (k H locs ls hP hS hl)
theorem l_isub {x y : Int32} (X : LX p s m meth c g b L xs) (hd : Dc L_law pc .isub 1 n) (k : GoL l p e s m below meth c g b n lv (.int (x - y) :: st) w) : GoL l p e s m below meth c g b pc lv (.int y :: .int x :: st) w := by
  obtain ⟨hd, rfl⟩ := hd
  exact fun H locs ls hP hS hl => lv_isub X.1 X.2.1 hd (k H locs ls hP hS hl)
theorem l_iand {x y : Int32} (X : LX p s m meth c g b L xs) (hd : Dc L_law pc .iand 1 n) (k : GoL l p e s m below meth c g b n lv (.int (x &&& y) :: st) w) : GoL l p e s m below meth c g b pc lv (.int y :: .int x :: st) w := by
  obtain ⟨hd, rfl⟩ := hd
  exact fun H locs ls hP hS hl => lv_iand X.1 X.2.1 hd (k H locs ls hP hS hl)
theorem l_lcmp {x y : Int64} (X : LX p s m meth c g b L xs) (hd : Dc L_law pc .lcmp 1 n) (k : GoL l p e s m below meth c g b n lv (.int (lg_cmp x y) :: st) w) : GoL l p e s m below meth c g b pc lv (.long y :: .long x :: st) w := by
  obtain ⟨hd, rfl⟩ := hd
  exact fun H locs ls hP hS hl => W.lcmp X.1 X.2.1 hd (k H locs ls hP hS hl)
theorem l_goto {off : Int} {tgt : Nat} (X : LX p s m meth c g b L xs) (hd : Dc L_law pc (.goto off) 3 n) (ht : (pc : Int) + off = (tgt : Int)) (k : GoL l p e s m below meth c g b tgt lv st w) : GoL l p e s m below meth c g b pc lv st w := by
  obtain ⟨hd, rfl⟩ := hd
  exact fun H locs ls hP hS hl => lv_goto X.1 X.2.1 hd ht (k H locs ls hP hS hl)
theorem l_icmp_gt {x y : Int32} {off : Int} {tgt : Nat} (X : LX p s m meth c g b L xs) (hd : Dc L_law pc (.if_icmp .gt off) 3 n) (ht : (pc : Int) + off = (tgt : Int)) (kt : y < x → GoL l p e s m below meth c g b tgt lv st w) (kf : ¬ y < x → GoL l p e s m below meth c g b n lv st w) : GoL l p e s m below meth c g b pc lv (.int y :: .int x :: st) w := by
  obtain ⟨hd, rfl⟩ := hd
  exact fun H locs ls hP hS hl => lv_icmp_gt X.1 X.2.1 hd ht (fun h => kt h H locs ls hP hS hl) (fun h => kf h H locs ls hP hS hl)
theorem l_icmp_eq {x y : Int32} {off : Int} {tgt : Nat} (X : LX p s m meth c g b L xs) (hd : Dc L_law pc (.if_icmp .eq off) 3 n) (ht : (pc : Int) + off = (tgt : Int)) (kt : x = y → GoL l p e s m below meth c g b tgt lv st w) (kf : ¬ x = y → GoL l p e s m below meth c g b n lv st w) : GoL l p e s m below meth c g b pc lv (.int y :: .int x :: st) w := by
  obtain ⟨hd, rfl⟩ := hd
  exact fun H locs ls hP hS hl => lv_icmp_eq X.1 X.2.1 hd ht (fun h => kt h H locs ls hP hS hl) (fun h => kf h H locs ls hP hS hl)
theorem l_if_eq {x : Int32} {off : Int} {tgt : Nat} (X : LX p s m meth c g b L xs) (hd : Dc L_law pc (.ifCond .eq off) 3 n) (ht : (pc : Int) + off = (tgt : Int)) (kt : x = 0 → GoL l p e s m below meth c g b tgt lv st w) (kf : ¬ x = 0 → GoL l p e s m below meth c g b n lv st w) : GoL l p e s m below meth c g b pc lv (.int x :: st) w := by
  obtain ⟨hd, rfl⟩ := hd
  exact fun H locs ls hP hS hl => lv_if_eq X.1 X.2.1 hd ht (fun h => kt h H locs ls hP hS hl) (fun h => kf h H locs ls hP hS hl)
theorem l_iinc {i : Nat} {z : Int} {x v : Int32} {lv2 : List (Option Value)} (X : LX p s m meth c g b L xs) (hd : Dc L_law pc (.iinc i z) 3 n) (hi : lv[i]? = some (some (.int x))) (hv : x + Int32.ofInt z = v) (hn : i < 4) (hok : okst lv i = true) (he : lv.set i (some (.int v)) = lv2) (k : GoL l p e s m below meth c g b n lv2 st w) : GoL l p e s m below meth c g b pc lv st w := by
  obtain ⟨hd, rfl⟩ := hd
  subst he
  intro H locs ls hP hS hl
  obtain ⟨k0, hk0⟩ := List.getElem?_of_mem (mem_lvasc.mpr hi)
  exact lv_iinc X.1 X.2.1 hd hl.has hk0 hv hn rfl (fun ls2 h2 => k H locs ls2 hP hS (lvh.st1 hok h2))
theorem l_tabOut {dflt lo hi : Int} {offs : Array Int} {len : Nat} {x : Int32} {tgt : Nat} (X : LX p s m meth c g b L xs) (hd : Dc L_law pc (.tableswitch dflt lo hi offs) len n) (h : x.toInt < lo ∨ hi < x.toInt) (ht : (pc : Int) + dflt = (tgt : Int)) (k : GoL l p e s m below meth c g b tgt lv st w) : GoL l p e s m below meth c g b pc lv (.int x :: st) w := by
  obtain ⟨hd, rfl⟩ := hd
  exact fun H locs ls hP hS hl => lv_tableOut X.1 X.2.1 hd h ht (k H locs ls hP hS hl)
theorem l_tabIn {dflt lo hi : Int} {offs : Array Int} {len : Nat} {x : Int32} {off : Int} {tgt : Nat} (X : LX p s m meth c g b L xs) (hd : Dc L_law pc (.tableswitch dflt lo hi offs) len n) (h1 : ¬ x.toInt < lo) (h2 : ¬ hi < x.toInt) (ho : offs[(x.toInt - lo).toNat]? = some off) (ht : (pc : Int) + off = (tgt : Int)) (k : GoL l p e s m below meth c g b tgt lv st w) : GoL l p e s m below meth c g b pc lv (.int x :: st) w := by
  obtain ⟨hd, rfl⟩ := hd
  exact fun H locs ls hP hS hl => lv_tableIn X.1 X.2.1 hd h1 h2 ho ht (k H locs ls hP hS hl)
theorem l_split {x : Int32} (cc : Int32) (k1 : x = cc → GoL l p e s m below meth c g b pc lv (.int cc :: st) w) (k2 : ¬ x = cc → GoL l p e s m below meth c g b pc lv (.int x :: st) w) : GoL l p e s m below meth c g b pc lv (.int x :: st) w := by
  by_cases h : x = cc
  · subst h; exact k1 rfl
  · exact k2 h
theorem l_top {x y : Int32} (h : x = y) (k : GoL l p e s m below meth c g b pc lv (.int y :: st) w) : GoL l p e s m below meth c g b pc lv (.int x :: st) w := by subst h; exact k
theorem l_sld {j : Nat} (X : LX p s m meth c g b L xs) (hd : Dc L_law pc .iaload 1 n) (hL : L ≤ 3072) (hj : j < L) (k : GoL l p e s m below meth c g b n lv (.int (xs j) :: st) w) : GoL l p e s m below meth c g b pc lv (.int (nI j) :: .ref b :: st) w := by
  obtain ⟨hd, rfl⟩ := hd
  exact fun H locs ls hP hS hl => va_sld X.1 X.2.1 X.2.2.2.2.2.2.1 X.2.2.2.2.2.2.2.1 (Nat.not_le.mpr X.2.2.2.2.2.2.2.1) hS (vp_in_nI hj (by omega)) hd (by rw [nI_clamp (by omega)]; exact k H locs ls hP hS hl)
theorem l_slen (X : LX p s m meth c g b L xs) (hd : Dc L_law pc .arraylength 1 n) (k : GoL l p e s m below meth c g b n lv (.int (nI L) :: st) w) : GoL l p e s m below meth c g b pc lv (.ref b :: st) w := by
  obtain ⟨hd, rfl⟩ := hd
  exact fun H locs ls hP hS hl => va_slen X.1 X.2.1 X.2.2.2.2.2.2.1 X.2.2.2.2.2.2.2.1 (Nat.not_le.mpr X.2.2.2.2.2.2.2.1) hS hd (k H locs ls hP hS hl)
theorem l_arg {i z : Nat} {n1 n2 n3 n4 : Nat} (X : LX p s m meth c g b L xs) (hL : L ≤ 3072) (hlv : lv[(0 : Nat)]? = some (some (.ref b))) (hlv3 : lv[(3 : Nat)]? = some (some (.int (nI i)))) (h1 : Dc L_law pc (.aload_n 0) 1 n1) (h2 : Dc L_law n1 (.iload_n 3) 1 n2) (h3 : Dc L_law n2 (.iconst (z : Int)) 1 n3) (h4 : Dc L_law n3 .iadd 1 n4) (h5 : Dc L_law n4 .iaload 1 n) (hi : i + z < L) (k : GoL l p e s m below meth c g b n lv (.int (xs (i + z)) :: st) w) : GoL l p e s m below meth c g b pc lv st w := by
  refine l_aload X h1 hlv ?_
  refine l_iload X h2 hlv3 ?_
  refine l_iconst X h3 (v := nI z) rfl ?_
  refine l_iadd X h4 ?_
  refine l_top (y := nI (i + z)) (nI_add i z) ?_
  exact l_sld X h5 hL hi k
theorem l_callV {M' : MM} {as rest : List Value} {Q' : Option Value → Wd → Prop} {idx bq ci : Nat} (X : LX p s m meth c g b L xs) (hd : Dc L_law pc (.invokevirtual idx) 3 n) (hk : CkV L_law idx M' as.length) (ho : objC bq = some ci) (hc : (cls[ci]?).map (fun q => q.1) = some M'.1.cls) (hr : Res l g M' (.ref (g.1 bq) :: as) w Q') (hcat : (rest.map fun v => v.category).sum ≤ 8) (hst : st = as.reverse ++ .ref (g.1 bq) :: rest) (k : ∀ r w', Q' r w' → GoL l p e s m below meth c g b n lv (r.toList ++ rest) w') : GoL l p e s m below meth c g b pc lv st w := by
  obtain ⟨hd, rfl⟩ := hd
  obtain ⟨k1, k2, k7, k3, k4, k5, k6⟩ := hk
  intro H locs ls hP hS hlv T hT XX
  have hCx := X.2.2.2.2.2.2.2.2.2.1
  have hHx := X.2.2.2.2.2.2.2.2.2.2.1
  have hAd := X.2.2.2.2.2.2.2.2.2.2.2
  have hts := X.2.2.2.2.2.1
  have hrecv : ∃ cellB : Cell, H[g.1 bq]? = some cellB ∧ cellB.vm.isStatics = false ∧ s.vm.findClass M'.1.cls = some cellB.cls := by
    cases hq : cls[ci]? with
    | none => rw [hq] at hc; cases hc
    | some q =>
      rw [hq] at hc
      have hc2 : q.1 = M'.1.cls := Option.some.inj hc
      obtain ⟨cell, h1, h2, h3⟩ := va_recv hCx.1 hP hq (by rw [wsW_at g w (objC_lt ho), cellOf_obj g w ho])
      exact ⟨cell, h1, h2, by rw [← hc2]; exact h3⟩
  have hpre : ∀ U : State, U.heap = H → s.WarmedH U.vm → va_Pc (.ref (g.1 bq) :: as) (fun U => Cx g U ∧ Hx g U U.heap ∧ Hv g w U.heap) (Value.ref (g.1 bq) :: as).toArray U :=
    fun U hU hW => ⟨rfl, hCx.warm hW, by rw [hU]; exact (hHx.kept (fun a ha _ => hS.2.1 a ha (Nat.not_le.mpr ha))).moved hW.alike, by rw [hU]; exact hP⟩
  have hrun : va_Run p l e room_1 s m #[Value.ref b] below meth c H locs 48 1516 0 0 (F0 m pc ls st) rest (Qq g Q' (Value.ref (g.1 bq) :: as).toArray) (Ad g) :=
    va_runV (As := as) (rest := rest) (n := as.length) (b := g.1 bq) (C := M'.1.cls) (bytes := M'.2.1) (maxL := M'.2.2.1) (ret := M'.2.2.2.1) ⟨X.1, X.2.1, X.2.2.2.1, X.2.2.2.2.1, hts⟩ hr ⟨callB_of as.length hts (good_cons k4) rfl rfl rfl (hts _ k3) (hts _ k1) k5 k6, hts _ k2, hts _ k7⟩ ⟨blind_of, hrecv, hpre⟩ rfl rfl hlv.1 hst (lv_room hcat) hd ⟨Nat.le_refl _, Nat.le_refl _⟩
  obtain ⟨v, st₀, t, T', L2, h0, X', hL2, e1, e2, ⟨⟨r, w', hv, hq, hw'⟩, hz, hk⟩, stp⟩ := hrun T hT XX
  cases hv
  rw [h0] at hz hk
  obtain ⟨t2, a1, b1⟩ := k v w' hq T'.heap (locs ++ L2) ls (by rw [e1]; exact hw')
    ⟨Nat.le_trans hS.1 (by rw [e1]; exact hz), fun q h1 h2 => by
      rw [e1, hk q (Nat.lt_of_lt_of_le h1 hS.1) (fun hh => h2 (hAd q hh))]; exact hS.2.1 q h1 h2, fun q hq => by
      rcases List.mem_append.mp hq with h | h
      · exact hS.2.2 q h
      · exact hAd _ (hL2 q h)⟩ hlv T' rfl X'
  exact ⟨t2, stp t2 a1, b1⟩
theorem l_end (X : LX p s m meth c g b L xs) (h1 : Dc L_law pc (.iconst 1) 1 n) {n2 : Nat} (h2 : Dc L_law n .ireturn 1 n2) : GoL l p e s m below meth c g b pc lv [] w := by
  refine l_iconst X h1 (v := 1) rfl ?_
  obtain ⟨hd, rfl⟩ := h2
  intro H locs ls hP hS hl
  refine va_forget (fun q hq => hS.2.2 q hq) ?_
  exact lw_ret X.1 X.2.1 X.2.2.1 X.2.2.2.2.2.2.2.2.1 hd
end LROWS
section LSTEP
variable {l : Launch} {g : GG} {b : Nat} {w : Wd}
theorem st_odds (hI : INV b w) (hb : b ≤ 40000) {s k x : Int32} : ∃ p : Int64 × Wd, Res l g S_odds [.ref (g.1 0), .int s, .int k, .int x] w (fun r w' => r = some (.long p.1) ∧ ∃ B T, w' = hput 7 B (tw T p.2)) ∧ GOOD (b + 60) w p.2 ∧ ∀ w1, RM w w1 → Res l g Q_odds [.ref (g.1 33), .int s, .int k, .int x] w1 (IsQL p w1) := by
  obtain ⟨-, hW⟩ := hI
  obtain ⟨n, hA, hs⟩ := hW.n1
  have hG : GOOD b w (oddsC s k x w).2 := by
    unfold oddsC
    split
    · exact G_same hW
    · exact G_fcl hW _
  refine ⟨oddsC s k x w, Res.mono (fun r w' hh => ?_) (cS_odds hA.n6 hA.n8), G_up hG (by omega) (by omega), fun w1 h1 => ?_⟩
  · obtain ⟨rfl, rfl⟩ := hh
    obtain ⟨T, eT⟩ := tw_self (oddsC s k x w).2
    exact ⟨rfl, hget (oddsC s k x w).2 7, T, by rw [eT, hput_hget]⟩
  · have h := cQ_odds (l := l) (g := g) rfl h1 hA (s := s) (k := k) (x := x)
    rw [h1.self] at h
    exact h
end LSTEP
