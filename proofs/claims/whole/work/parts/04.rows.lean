/-! decoded instructions; what comes next -/
def Dc (M : MM) (pc : Nat) (i : Instr) (len n : Nat) : Prop := decode M.2.1 pc = .ok (i, len) ∧ pc + len = n
section ROWS
variable {l : Launch} {g : GG} {M : MM} {pc n : Nat} {lv : List (Option Value)} {st : List Value} {w : Wd} {Q : Option Value → Wd → Prop}
theorem g_iconst {z : Int} {v : Int32} (hd : Dc M pc (.iconst z) 1 n) (hv : Int32.ofInt z = v) (k : Go l g M n lv (.int v :: st) w Q) : Go l g M pc lv (st) w Q := by
  obtain ⟨hd, rfl⟩ := hd
  exact fun p e s m args below meth c H locs ls F hP hS hl => lv_iconst F.1 F.2.1 hd hv (k p e s m args below meth c H locs ls F hP hS hl)
theorem g_bipush {z : Int} {v : Int32} (hd : Dc M pc (.bipush z) 2 n) (hv : (Int8.ofInt z).toInt32 = v) (k : Go l g M n lv (.int v :: st) w Q) : Go l g M pc lv (st) w Q := by
  obtain ⟨hd, rfl⟩ := hd
  exact fun p e s m args below meth c H locs ls F hP hS hl => lv_bipush F.1 F.2.1 hd hv (k p e s m args below meth c H locs ls F hP hS hl)
theorem g_sipush {z : Int} {v : Int32} (hd : Dc M pc (.sipush z) 3 n) (hv : (Int16.ofInt z).toInt32 = v) (k : Go l g M n lv (.int v :: st) w Q) : Go l g M pc lv (st) w Q := by
  obtain ⟨hd, rfl⟩ := hd
  exact fun p e s m args below meth c H locs ls F hP hS hl => lv_sipush F.1 F.2.1 hd hv (k p e s m args below meth c H locs ls F hP hS hl)
theorem g_lconst {z : Fin 2} {v : Int64} (hd : Dc M pc (.lconst z) 1 n) (hv : Int64.ofNat (z : Nat) = v) (k : Go l g M n lv (.long v :: st) w Q) : Go l g M pc lv (st) w Q := by
  obtain ⟨hd, rfl⟩ := hd
  exact fun p e s m args below meth c H locs ls F hP hS hl => lv_lconst F.1 F.2.1 hd hv (k p e s m args below meth c H locs ls F hP hS hl)
theorem g_iload_n {z : Fin 4} {x : Int32} (hd : Dc M pc (.iload_n z) 1 n) (hi : lv[(z : Nat)]? = some (some (.int x))) (k : Go l g M n lv (.int x :: st) w Q) : Go l g M pc lv (st) w Q := by
  obtain ⟨hd, rfl⟩ := hd
  exact fun p e s m args below meth c H locs ls F hP hS hl => lv_iload_n F.1 F.2.1 hd rfl (hl.2.2 _ _ hi) (k p e s m args below meth c H locs ls F hP hS hl)
theorem g_iload {i : Nat} {x : Int32} (hd : Dc M pc (.iload i) 2 n) (hi : lv[i]? = some (some (.int x))) (k : Go l g M n lv (.int x :: st) w Q) : Go l g M pc lv (st) w Q := by
  obtain ⟨hd, rfl⟩ := hd
  exact fun p e s m args below meth c H locs ls F hP hS hl => lv_iload F.1 F.2.1 hd (hl.2.2 _ _ hi) (k p e s m args below meth c H locs ls F hP hS hl)
theorem g_lload_n {z : Fin 4} {x : Int64} (hd : Dc M pc (.lload_n z) 1 n) (hi : lv[(z : Nat)]? = some (some (.long x))) (k : Go l g M n lv (.long x :: st) w Q) : Go l g M pc lv (st) w Q := by
  obtain ⟨hd, rfl⟩ := hd
  exact fun p e s m args below meth c H locs ls F hP hS hl => lv_lload_n F.1 F.2.1 hd rfl (hl.2.2 _ _ hi) (k p e s m args below meth c H locs ls F hP hS hl)
theorem g_lload {i : Nat} {x : Int64} (hd : Dc M pc (.lload i) 2 n) (hi : lv[i]? = some (some (.long x))) (k : Go l g M n lv (.long x :: st) w Q) : Go l g M pc lv (st) w Q := by
  obtain ⟨hd, rfl⟩ := hd
  exact fun p e s m args below meth c H locs ls F hP hS hl => lv_lload F.1 F.2.1 hd (hl.2.2 _ _ hi) (k p e s m args below meth c H locs ls F hP hS hl)
theorem g_aload_n {z : Fin 4} {x : Nat} (hd : Dc M pc (.aload_n z) 1 n) (hi : lv[(z : Nat)]? = some (some (.ref x))) (k : Go l g M n lv (.ref x :: st) w Q) : Go l g M pc lv (st) w Q := by
  obtain ⟨hd, rfl⟩ := hd
  exact fun p e s m args below meth c H locs ls F hP hS hl => lv_aload_n F.1 F.2.1 hd rfl (hl.2.2 _ _ hi) (k p e s m args below meth c H locs ls F hP hS hl)
theorem g_aload {i : Nat} {x : Nat} (hd : Dc M pc (.aload i) 2 n) (hi : lv[i]? = some (some (.ref x))) (k : Go l g M n lv (.ref x :: st) w Q) : Go l g M pc lv (st) w Q := by
  obtain ⟨hd, rfl⟩ := hd
  exact fun p e s m args below meth c H locs ls F hP hS hl => lv_aload F.1 F.2.1 hd (hl.2.2 _ _ hi) (k p e s m args below meth c H locs ls F hP hS hl)
theorem g_aload_nN {z : Fin 4} (hd : Dc M pc (.aload_n z) 1 n) (hi : lv[(z : Nat)]? = some (some .null)) (k : Go l g M n lv (.null :: st) w Q) : Go l g M pc lv (st) w Q := by
  obtain ⟨hd, rfl⟩ := hd
  exact fun p e s m args below meth c H locs ls F hP hS hl => lv_aload_nN F.1 F.2.1 hd rfl (hl.2.2 _ _ hi) (k p e s m args below meth c H locs ls F hP hS hl)
theorem g_iadd {x y : Int32} (hd : Dc M pc .iadd 1 n) (k : Go l g M n lv (.int (x + y) :: st) w Q) : Go l g M pc lv (.int y :: .int x :: st) w Q := by
  obtain ⟨hd, rfl⟩ := hd
  exact fun p e s m args below meth c H locs ls F hP hS hl => lv_iadd F.1 F.2.1 hd (k p e s m args below meth c H locs ls F hP hS hl)
theorem g_isub {x y : Int32} (hd : Dc M pc .isub 1 n) (k : Go l g M n lv (.int (x - y) :: st) w Q) : Go l g M pc lv (.int y :: .int x :: st) w Q := by
  obtain ⟨hd, rfl⟩ := hd
  exact fun p e s m args below meth c H locs ls F hP hS hl => lv_isub F.1 F.2.1 hd (k p e s m args below meth c H locs ls F hP hS hl)
theorem g_imul {x y : Int32} (hd : Dc M pc .imul 1 n) (k : Go l g M n lv (.int (x * y) :: st) w Q) : Go l g M pc lv (.int y :: .int x :: st) w Q := by
  obtain ⟨hd, rfl⟩ := hd
  exact fun p e s m args below meth c H locs ls F hP hS hl => lv_imul F.1 F.2.1 hd (k p e s m args below meth c H locs ls F hP hS hl)
theorem g_iand {x y : Int32} (hd : Dc M pc .iand 1 n) (k : Go l g M n lv (.int (x &&& y) :: st) w Q) : Go l g M pc lv (.int y :: .int x :: st) w Q := by
  obtain ⟨hd, rfl⟩ := hd
  exact fun p e s m args below meth c H locs ls F hP hS hl => lv_iand F.1 F.2.1 hd (k p e s m args below meth c H locs ls F hP hS hl)
theorem g_ior {x y : Int32} (hd : Dc M pc .ior 1 n) (k : Go l g M n lv (.int (x ||| y) :: st) w Q) : Go l g M pc lv (.int y :: .int x :: st) w Q := by
  obtain ⟨hd, rfl⟩ := hd
  exact fun p e s m args below meth c H locs ls F hP hS hl => lv_ior F.1 F.2.1 hd (k p e s m args below meth c H locs ls F hP hS hl)
theorem g_ixor {x y : Int32} (hd : Dc M pc .ixor 1 n) (k : Go l g M n lv (.int (x ^^^ y) :: st) w Q) : Go l g M pc lv (.int y :: .int x :: st) w Q := by
  obtain ⟨hd, rfl⟩ := hd
  exact fun p e s m args below meth c H locs ls F hP hS hl => lv_ixor F.1 F.2.1 hd (k p e s m args below meth c H locs ls F hP hS hl)
theorem g_ishl {x y : Int32} (hd : Dc M pc .ishl 1 n) (k : Go l g M n lv (.int (x <<< (y &&& 31)) :: st) w Q) : Go l g M pc lv (.int y :: .int x :: st) w Q := by
  obtain ⟨hd, rfl⟩ := hd
  exact fun p e s m args below meth c H locs ls F hP hS hl => lv_ishl F.1 F.2.1 hd (k p e s m args below meth c H locs ls F hP hS hl)
theorem g_ishr {x y : Int32} (hd : Dc M pc .ishr 1 n) (k : Go l g M n lv (.int (x >>> (y &&& 31)) :: st) w Q) : Go l g M pc lv (.int y :: .int x :: st) w Q := by
  obtain ⟨hd, rfl⟩ := hd
  exact fun p e s m args below meth c H locs ls F hP hS hl => lv_ishr F.1 F.2.1 hd (k p e s m args below meth c H locs ls F hP hS hl)
theorem g_idiv {x y : Int32} (hd : Dc M pc .idiv 1 n) (hne : ¬ y = 0) (k : Go l g M n lv (.int (x / y) :: st) w Q) : Go l g M pc lv (.int y :: .int x :: st) w Q := by
  obtain ⟨hd, rfl⟩ := hd
  exact fun p e s m args below meth c H locs ls F hP hS hl => lv_idiv F.1 F.2.1 hd hne (k p e s m args below meth c H locs ls F hP hS hl)
theorem g_irem {x y : Int32} (hd : Dc M pc .irem 1 n) (hne : ¬ y = 0) (k : Go l g M n lv (.int (x - x / y * y) :: st) w Q) : Go l g M pc lv (.int y :: .int x :: st) w Q := by
  obtain ⟨hd, rfl⟩ := hd
  exact fun p e s m args below meth c H locs ls F hP hS hl => lv_irem F.1 F.2.1 hd hne (k p e s m args below meth c H locs ls F hP hS hl)
theorem g_iushr {x y : Int32} (hd : Dc M pc .iushr 1 n) (k : Go l g M n lv (.int ((x.toUInt32 >>> (y.toUInt32 &&& Int32.toUInt32 31)).toInt32) :: st) w Q) : Go l g M pc lv (.int y :: .int x :: st) w Q := by
  obtain ⟨hd, rfl⟩ := hd
  exact fun p e s m args below meth c H locs ls F hP hS hl => lv_iushr F.1 F.2.1 hd rfl (k p e s m args below meth c H locs ls F hP hS hl)
theorem g_ineg {x : Int32} (hd : Dc M pc .ineg 1 n) (k : Go l g M n lv (.int (-x) :: st) w Q) : Go l g M pc lv (.int x :: st) w Q := by
  obtain ⟨hd, rfl⟩ := hd
  exact fun p e s m args below meth c H locs ls F hP hS hl => lv_ineg F.1 F.2.1 hd (k p e s m args below meth c H locs ls F hP hS hl)
theorem g_ladd {x y : Int64} (hd : Dc M pc .ladd 1 n) (k : Go l g M n lv (.long (x + y) :: st) w Q) : Go l g M pc lv (.long y :: .long x :: st) w Q := by
  obtain ⟨hd, rfl⟩ := hd
  exact fun p e s m args below meth c H locs ls F hP hS hl => lv_ladd F.1 F.2.1 hd (k p e s m args below meth c H locs ls F hP hS hl)
theorem g_lmul {x y : Int64} (hd : Dc M pc .lmul 1 n) (k : Go l g M n lv (.long (x * y) :: st) w Q) : Go l g M pc lv (.long y :: .long x :: st) w Q := by
  obtain ⟨hd, rfl⟩ := hd
  exact fun p e s m args below meth c H locs ls F hP hS hl => lv_lmul F.1 F.2.1 hd (k p e s m args below meth c H locs ls F hP hS hl)
theorem g_lcmp {x y : Int64} (hd : Dc M pc .lcmp 1 n) (k : Go l g M n lv (.int (lg_cmp x y) :: st) w Q) : Go l g M pc lv (.long y :: .long x :: st) w Q := by
  obtain ⟨hd, rfl⟩ := hd
  exact fun p e s m args below meth c H locs ls F hP hS hl => W.lcmp F.1 F.2.1 hd (k p e s m args below meth c H locs ls F hP hS hl)
theorem g_i2l {x : Int32} (hd : Dc M pc .i2l 1 n) (k : Go l g M n lv (.long x.toInt64 :: st) w Q) : Go l g M pc lv (.int x :: st) w Q := by
  obtain ⟨hd, rfl⟩ := hd
  exact fun p e s m args below meth c H locs ls F hP hS hl => lv_i2l F.1 F.2.1 hd rfl (k p e s m args below meth c H locs ls F hP hS hl)
theorem g_i2b {x : Int32} (hd : Dc M pc .i2b 1 n) (k : Go l g M n lv (.int x.toInt8.toInt32 :: st) w Q) : Go l g M pc lv (.int x :: st) w Q := by
  obtain ⟨hd, rfl⟩ := hd
  exact fun p e s m args below meth c H locs ls F hP hS hl => lv_i2b F.1 F.2.1 hd rfl (k p e s m args below meth c H locs ls F hP hS hl)
theorem g_i2s {x : Int32} (hd : Dc M pc .i2s 1 n) (k : Go l g M n lv (.int x.toInt16.toInt32 :: st) w Q) : Go l g M pc lv (.int x :: st) w Q := by
  obtain ⟨hd, rfl⟩ := hd
  exact fun p e s m args below meth c H locs ls F hP hS hl => lv_i2s F.1 F.2.1 hd rfl (k p e s m args below meth c H locs ls F hP hS hl)
theorem g_i2c {x : Int32} (hd : Dc M pc .i2c 1 n) (k : Go l g M n lv (.int (x.toUInt32 % 65536).toInt32 :: st) w Q) : Go l g M pc lv (.int x :: st) w Q := by
  obtain ⟨hd, rfl⟩ := hd
  exact fun p e s m args below meth c H locs ls F hP hS hl => lv_i2c F.1 F.2.1 hd rfl (k p e s m args below meth c H locs ls F hP hS hl)
theorem g_dup {a : Value} (hd : Dc M pc .dup 1 n) (ha : a.category = 1) (k : Go l g M n lv (a :: a :: st) w Q) : Go l g M pc lv (a :: st) w Q := by
  obtain ⟨hd, rfl⟩ := hd
  exact fun p e s m args below meth c H locs ls F hP hS hl => lv_dup F.1 F.2.1 hd ha (k p e s m args below meth c H locs ls F hP hS hl)
theorem g_pop {a : Value} (hd : Dc M pc .pop 1 n) (ha : a.category = 1) (k : Go l g M n lv (st) w Q) : Go l g M pc lv (a :: st) w Q := by
  obtain ⟨hd, rfl⟩ := hd
  exact fun p e s m args below meth c H locs ls F hP hS hl => lv_pop F.1 F.2.1 hd ha (k p e s m args below meth c H locs ls F hP hS hl)
theorem g_dup2 {a b : Value} (hd : Dc M pc .dup2 1 n) (ha : a.category = 1) (hb : b.category = 1) (k : Go l g M n lv (a :: b :: a :: b :: st) w Q) : Go l g M pc lv (a :: b :: st) w Q := by
  obtain ⟨hd, rfl⟩ := hd
  exact fun p e s m args below meth c H locs ls F hP hS hl => lv_dup2_11 F.1 F.2.1 hd ha hb (k p e s m args below meth c H locs ls F hP hS hl)
theorem g_dup_x1 {a b : Value} (hd : Dc M pc .dup_x1 1 n) (ha : a.category = 1) (hb : b.category = 1) (k : Go l g M n lv (a :: b :: a :: st) w Q) : Go l g M pc lv (a :: b :: st) w Q := by
  obtain ⟨hd, rfl⟩ := hd
  exact fun p e s m args below meth c H locs ls F hP hS hl => lv_dup_x1 F.1 F.2.1 hd ha hb (k p e s m args below meth c H locs ls F hP hS hl)
theorem g_istore_n {z : Fin 4} {x : Int32} {lv2 : List (Option Value)} (hd : Dc M pc (.istore_n z) 1 n) (hn : (z : Nat) < M.2.2.1) (hok : okst lv (z : Nat) = true) (he : (lv.set (z : Nat) (some (.int x))) = lv2) (k : Go l g M n lv2 st w Q) : Go l g M pc lv (.int x :: st) w Q := by
  obtain ⟨hd, rfl⟩ := hd
  subst he
  exact fun p e s m args below meth c H locs ls F hP hS hl => lv_istore_n F.1 F.2.1 hd rfl hl.has hn rfl (fun ls2 h2 => k p e s m args below meth c H locs ls2 F hP hS (lvh.st1 hok h2))
theorem g_istore {i : Nat} {x : Int32} {lv2 : List (Option Value)} (hd : Dc M pc (.istore i) 2 n) (hn : i < M.2.2.1) (hok : okst lv i = true) (he : (lv.set i (some (.int x))) = lv2) (k : Go l g M n lv2 st w Q) : Go l g M pc lv (.int x :: st) w Q := by
  obtain ⟨hd, rfl⟩ := hd
  subst he
  exact fun p e s m args below meth c H locs ls F hP hS hl => lv_istore F.1 F.2.1 hd hl.has hn rfl (fun ls2 h2 => k p e s m args below meth c H locs ls2 F hP hS (lvh.st1 hok h2))
theorem g_astore_n {z : Fin 4} {x : Nat} {lv2 : List (Option Value)} (hd : Dc M pc (.astore_n z) 1 n) (hn : (z : Nat) < M.2.2.1) (hok : okst lv (z : Nat) = true) (he : (lv.set (z : Nat) (some (.ref x))) = lv2) (k : Go l g M n lv2 st w Q) : Go l g M pc lv (.ref x :: st) w Q := by
  obtain ⟨hd, rfl⟩ := hd
  subst he
  exact fun p e s m args below meth c H locs ls F hP hS hl => lv_astore_n F.1 F.2.1 hd rfl hl.has hn rfl (fun ls2 h2 => k p e s m args below meth c H locs ls2 F hP hS (lvh.st1 hok h2))
theorem g_astore {i : Nat} {x : Nat} {lv2 : List (Option Value)} (hd : Dc M pc (.astore i) 2 n) (hn : i < M.2.2.1) (hok : okst lv i = true) (he : (lv.set i (some (.ref x))) = lv2) (k : Go l g M n lv2 st w Q) : Go l g M pc lv (.ref x :: st) w Q := by
  obtain ⟨hd, rfl⟩ := hd
  subst he
  exact fun p e s m args below meth c H locs ls F hP hS hl => lv_astore F.1 F.2.1 hd hl.has hn rfl (fun ls2 h2 => k p e s m args below meth c H locs ls2 F hP hS (lvh.st1 hok h2))
theorem g_lstore_n {z : Fin 4} {x : Int64} {lv2 : List (Option Value)} (hd : Dc M pc (.lstore_n z) 1 n) (hn : (z : Nat) + 1 < M.2.2.1) (hok : okst lv (z : Nat) = true) (he : ((lv.set (z : Nat) (some (.long x))).set ((z : Nat) + 1) none) = lv2) (k : Go l g M n lv2 st w Q) : Go l g M pc lv (.long x :: st) w Q := by
  obtain ⟨hd, rfl⟩ := hd
  subst he
  exact fun p e s m args below meth c H locs ls F hP hS hl => lv_lstore_n F.1 F.2.1 hd rfl hl.has hn rfl (fun ls2 h2 => k p e s m args below meth c H locs ls2 F hP hS (lvh.st2 hok h2))
theorem g_lstore {i : Nat} {x : Int64} {lv2 : List (Option Value)} (hd : Dc M pc (.lstore i) 2 n) (hn : i + 1 < M.2.2.1) (hok : okst lv i = true) (he : ((lv.set i (some (.long x))).set (i + 1) none) = lv2) (k : Go l g M n lv2 st w Q) : Go l g M pc lv (.long x :: st) w Q := by
  obtain ⟨hd, rfl⟩ := hd
  subst he
  exact fun p e s m args below meth c H locs ls F hP hS hl => lv_lstore F.1 F.2.1 hd hl.has hn rfl (fun ls2 h2 => k p e s m args below meth c H locs ls2 F hP hS (lvh.st2 hok h2))
theorem g_iinc {i : Nat} {z : Int} {x v : Int32} {lv2 : List (Option Value)} (hd : Dc M pc (.iinc i z) 3 n) (hi : lv[i]? = some (some (.int x))) (hv : x + Int32.ofInt z = v) (hn : i < M.2.2.1) (hok : okst lv i = true) (he : lv.set i (some (.int v)) = lv2) (k : Go l g M n lv2 st w Q) : Go l g M pc lv st w Q := by
  obtain ⟨hd, rfl⟩ := hd
  subst he
  intro p e s m args below meth c H locs ls F hP hS hl
  obtain ⟨k0, hk0⟩ := List.getElem?_of_mem (mem_lvasc.mpr hi)
  exact lv_iinc F.1 F.2.1 hd hl.has hk0 hv hn rfl (fun ls2 h2 => k p e s m args below meth c H locs ls2 F hP hS (lvh.st1 hok h2))
theorem g_if_eq {x : Int32} {off : Int} {tgt : Nat} (hd : Dc M pc (.ifCond .eq off) 3 n) (ht : (pc : Int) + off = (tgt : Int)) (kt : x = 0 → Go l g M tgt lv st w Q) (kf : ¬ x = 0 → Go l g M n lv st w Q) : Go l g M pc lv (.int x :: st) w Q := by
  obtain ⟨hd, rfl⟩ := hd
  exact fun p e s m args below meth c H locs ls F hP hS hl => lv_if_eq F.1 F.2.1 hd ht (fun h => kt h p e s m args below meth c H locs ls F hP hS hl) (fun h => kf h p e s m args below meth c H locs ls F hP hS hl)
theorem g_icmp_eq {x y : Int32} {off : Int} {tgt : Nat} (hd : Dc M pc (.if_icmp .eq off) 3 n) (ht : (pc : Int) + off = (tgt : Int)) (kt : x = y → Go l g M tgt lv st w Q) (kf : ¬ x = y → Go l g M n lv st w Q) : Go l g M pc lv (.int y :: .int x :: st) w Q := by
  obtain ⟨hd, rfl⟩ := hd
  exact fun p e s m args below meth c H locs ls F hP hS hl => lv_icmp_eq F.1 F.2.1 hd ht (fun h => kt h p e s m args below meth c H locs ls F hP hS hl) (fun h => kf h p e s m args below meth c H locs ls F hP hS hl)
theorem g_if_ne {x : Int32} {off : Int} {tgt : Nat} (hd : Dc M pc (.ifCond .ne off) 3 n) (ht : (pc : Int) + off = (tgt : Int)) (kt : ¬ x = 0 → Go l g M tgt lv st w Q) (kf : x = 0 → Go l g M n lv st w Q) : Go l g M pc lv (.int x :: st) w Q := by
  obtain ⟨hd, rfl⟩ := hd
  exact fun p e s m args below meth c H locs ls F hP hS hl => lv_if_ne F.1 F.2.1 hd ht (fun h => kt h p e s m args below meth c H locs ls F hP hS hl) (fun h => kf h p e s m args below meth c H locs ls F hP hS hl)
theorem g_icmp_ne {x y : Int32} {off : Int} {tgt : Nat} (hd : Dc M pc (.if_icmp .ne off) 3 n) (ht : (pc : Int) + off = (tgt : Int)) (kt : ¬ x = y → Go l g M tgt lv st w Q) (kf : x = y → Go l g M n lv st w Q) : Go l g M pc lv (.int y :: .int x :: st) w Q := by
  obtain ⟨hd, rfl⟩ := hd
  exact fun p e s m args below meth c H locs ls F hP hS hl => lv_icmp_ne F.1 F.2.1 hd ht (fun h => kt h p e s m args below meth c H locs ls F hP hS hl) (fun h => kf h p e s m args below meth c H locs ls F hP hS hl)
theorem g_if_lt {x : Int32} {off : Int} {tgt : Nat} (hd : Dc M pc (.ifCond .lt off) 3 n) (ht : (pc : Int) + off = (tgt : Int)) (kt : x < 0 → Go l g M tgt lv st w Q) (kf : ¬ x < 0 → Go l g M n lv st w Q) : Go l g M pc lv (.int x :: st) w Q := by
  obtain ⟨hd, rfl⟩ := hd
  exact fun p e s m args below meth c H locs ls F hP hS hl => lv_if_lt F.1 F.2.1 hd ht (fun h => kt h p e s m args below meth c H locs ls F hP hS hl) (fun h => kf h p e s m args below meth c H locs ls F hP hS hl)
theorem g_icmp_lt {x y : Int32} {off : Int} {tgt : Nat} (hd : Dc M pc (.if_icmp .lt off) 3 n) (ht : (pc : Int) + off = (tgt : Int)) (kt : x < y → Go l g M tgt lv st w Q) (kf : ¬ x < y → Go l g M n lv st w Q) : Go l g M pc lv (.int y :: .int x :: st) w Q := by
  obtain ⟨hd, rfl⟩ := hd
  exact fun p e s m args below meth c H locs ls F hP hS hl => lv_icmp_lt F.1 F.2.1 hd ht (fun h => kt h p e s m args below meth c H locs ls F hP hS hl) (fun h => kf h p e s m args below meth c H locs ls F hP hS hl)
theorem g_if_ge {x : Int32} {off : Int} {tgt : Nat} (hd : Dc M pc (.ifCond .ge off) 3 n) (ht : (pc : Int) + off = (tgt : Int)) (kt : 0 ≤ x → Go l g M tgt lv st w Q) (kf : ¬ 0 ≤ x → Go l g M n lv st w Q) : Go l g M pc lv (.int x :: st) w Q := by
  obtain ⟨hd, rfl⟩ := hd
  exact fun p e s m args below meth c H locs ls F hP hS hl => lv_if_ge F.1 F.2.1 hd ht (fun h => kt h p e s m args below meth c H locs ls F hP hS hl) (fun h => kf h p e s m args below meth c H locs ls F hP hS hl)
theorem g_icmp_ge {x y : Int32} {off : Int} {tgt : Nat} (hd : Dc M pc (.if_icmp .ge off) 3 n) (ht : (pc : Int) + off = (tgt : Int)) (kt : y ≤ x → Go l g M tgt lv st w Q) (kf : ¬ y ≤ x → Go l g M n lv st w Q) : Go l g M pc lv (.int y :: .int x :: st) w Q := by
  obtain ⟨hd, rfl⟩ := hd
  exact fun p e s m args below meth c H locs ls F hP hS hl => lv_icmp_ge F.1 F.2.1 hd ht (fun h => kt h p e s m args below meth c H locs ls F hP hS hl) (fun h => kf h p e s m args below meth c H locs ls F hP hS hl)
theorem g_if_gt {x : Int32} {off : Int} {tgt : Nat} (hd : Dc M pc (.ifCond .gt off) 3 n) (ht : (pc : Int) + off = (tgt : Int)) (kt : 0 < x → Go l g M tgt lv st w Q) (kf : ¬ 0 < x → Go l g M n lv st w Q) : Go l g M pc lv (.int x :: st) w Q := by
  obtain ⟨hd, rfl⟩ := hd
  exact fun p e s m args below meth c H locs ls F hP hS hl => lv_if_gt F.1 F.2.1 hd ht (fun h => kt h p e s m args below meth c H locs ls F hP hS hl) (fun h => kf h p e s m args below meth c H locs ls F hP hS hl)
theorem g_icmp_gt {x y : Int32} {off : Int} {tgt : Nat} (hd : Dc M pc (.if_icmp .gt off) 3 n) (ht : (pc : Int) + off = (tgt : Int)) (kt : y < x → Go l g M tgt lv st w Q) (kf : ¬ y < x → Go l g M n lv st w Q) : Go l g M pc lv (.int y :: .int x :: st) w Q := by
  obtain ⟨hd, rfl⟩ := hd
  exact fun p e s m args below meth c H locs ls F hP hS hl => lv_icmp_gt F.1 F.2.1 hd ht (fun h => kt h p e s m args below meth c H locs ls F hP hS hl) (fun h => kf h p e s m args below meth c H locs ls F hP hS hl)
theorem g_if_le {x : Int32} {off : Int} {tgt : Nat} (hd : Dc M pc (.ifCond .le off) 3 n) (ht : (pc : Int) + off = (tgt : Int)) (kt : x ≤ 0 → Go l g M tgt lv st w Q) (kf : ¬ x ≤ 0 → Go l g M n lv st w Q) : Go l g M pc lv (.int x :: st) w Q := by
  obtain ⟨hd, rfl⟩ := hd
  exact fun p e s m args below meth c H locs ls F hP hS hl => lv_if_le F.1 F.2.1 hd ht (fun h => kt h p e s m args below meth c H locs ls F hP hS hl) (fun h => kf h p e s m args below meth c H locs ls F hP hS hl)
theorem g_icmp_le {x y : Int32} {off : Int} {tgt : Nat} (hd : Dc M pc (.if_icmp .le off) 3 n) (ht : (pc : Int) + off = (tgt : Int)) (kt : x ≤ y → Go l g M tgt lv st w Q) (kf : ¬ x ≤ y → Go l g M n lv st w Q) : Go l g M pc lv (.int y :: .int x :: st) w Q := by
  obtain ⟨hd, rfl⟩ := hd
  exact fun p e s m args below meth c H locs ls F hP hS hl => lv_icmp_le F.1 F.2.1 hd ht (fun h => kt h p e s m args below meth c H locs ls F hP hS hl) (fun h => kf h p e s m args below meth c H locs ls F hP hS hl)
theorem g_goto {off : Int} {tgt : Nat} (hd : Dc M pc (.goto off) 3 n) (ht : (pc : Int) + off = (tgt : Int)) (k : Go l g M tgt lv st w Q) : Go l g M pc lv st w Q := by
  obtain ⟨hd, rfl⟩ := hd
  exact fun p e s m args below meth c H locs ls F hP hS hl => lv_goto F.1 F.2.1 hd ht (k p e s m args below meth c H locs ls F hP hS hl)
theorem g_lookup {dflt : Int} {ps : Array (Int × Int)} {len : Nat} {x : Int32} {off : Int} {tgt : Nat} (hd : Dc M pc (.lookupswitch dflt ps) len n) (hp : (ps.toList.zip (ps.toList.drop 1)).all (fun (a, next) => a.1 < next.1) = true) (ho : Op.lookupswitch.offset ps.toList dflt x.toInt = off) (ht : (pc : Int) + off = (tgt : Int)) (k : Go l g M tgt lv st w Q) : Go l g M pc lv (.int x :: st) w Q := by
  obtain ⟨hd, rfl⟩ := hd
  exact fun p e s m args below meth c H locs ls F hP hS hl => lv_lookup F.1 F.2.1 hd hp ho ht (k p e s m args below meth c H locs ls F hP hS hl)
theorem g_tabOut {dflt lo hi : Int} {offs : Array Int} {len : Nat} {x : Int32} {tgt : Nat} (hd : Dc M pc (.tableswitch dflt lo hi offs) len n) (h : x.toInt < lo ∨ hi < x.toInt) (ht : (pc : Int) + dflt = (tgt : Int)) (k : Go l g M tgt lv st w Q) : Go l g M pc lv (.int x :: st) w Q := by
  obtain ⟨hd, rfl⟩ := hd
  exact fun p e s m args below meth c H locs ls F hP hS hl => lv_tableOut F.1 F.2.1 hd h ht (k p e s m args below meth c H locs ls F hP hS hl)
theorem g_tabIn {dflt lo hi : Int} {offs : Array Int} {len : Nat} {x : Int32} {off : Int} {tgt : Nat} (hd : Dc M pc (.tableswitch dflt lo hi offs) len n) (h1 : ¬ x.toInt < lo) (h2 : ¬ hi < x.toInt) (ho : offs[(x.toInt - lo).toNat]? = some off) (ht : (pc : Int) + off = (tgt : Int)) (k : Go l g M tgt lv st w Q) : Go l g M pc lv (.int x :: st) w Q := by
  obtain ⟨hd, rfl⟩ := hd
  exact fun p e s m args below meth c H locs ls F hP hS hl => lv_tableIn F.1 F.2.1 hd h1 h2 ho ht (k p e s m args below meth c H locs ls F hP hS hl)
theorem g_iret {x : Int32} {ty : FieldType} (hd : Dc M pc .ireturn 1 n) (hr : M.2.2.2.1 = some ty) (hn : narrow ty (.int x) = .int x) (hq : Q (some (.int x)) w) : Go l g M pc lv [.int x] w Q := by
  obtain ⟨hd, rfl⟩ := hd
  exact fun p e s m args below meth c H locs ls F hP hS hl => W.zret F.1 F.2.1 (F.2.2.2.1.trans hr) hn (fun t ht hW => ⟨⟨some (.int x), w, rfl, hq, by rw [ht]; exact hP⟩, hS.F ht⟩) hS.2.2 hd F.2.2.2.2.1
theorem g_lret {x : Int64} (hd : Dc M pc .lreturn 1 n) (hr : M.2.2.2.1 = some .long) (hq : Q (some (.long x)) w) : Go l g M pc lv [.long x] w Q := by
  obtain ⟨hd, rfl⟩ := hd
  exact fun p e s m args below meth c H locs ls F hP hS hl => W.lret F.1 F.2.1 (F.2.2.2.1.trans hr) (fun t ht hW => ⟨⟨some (.long x), w, rfl, hq, by rw [ht]; exact hP⟩, hS.F ht⟩) hS.2.2 hd F.2.2.2.2.1
theorem g_aret {x : Nat} {C : String} (hd : Dc M pc .areturn 1 n) (hr : M.2.2.2.1 = some (.object C)) (hq : Q (some (.ref x)) w) : Go l g M pc lv [.ref x] w Q := by
  obtain ⟨hd, rfl⟩ := hd
  exact fun p e s m args below meth c H locs ls F hP hS hl => W.aret F.1 F.2.1 (F.2.2.2.1.trans hr) (Or.inl ⟨_, rfl⟩) (Or.inr ⟨_, rfl⟩) (fun t ht hW => ⟨⟨some (.ref x), w, rfl, hq, by rw [ht]; exact hP⟩, hS.F ht⟩) hS.2.2 hd F.2.2.2.2.1
theorem g_vret (hd : Dc M pc .return_ 1 n) (hr : M.2.2.2.1 = none) (hq : Q none w) : Go l g M pc lv [] w Q := by
  obtain ⟨hd, rfl⟩ := hd
  exact fun p e s m args below meth c H locs ls F hP hS hl => W.vret F.1 F.2.1 (F.2.2.2.1.trans hr) (fun t ht hW => ⟨⟨none, w, rfl, hq, by rw [ht]; exact hP⟩, hS.F ht⟩) hS.2.2 hd F.2.2.2.2.1
end ROWS
