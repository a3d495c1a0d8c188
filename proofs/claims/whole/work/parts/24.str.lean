section STR
variable {l : Launch} {g : GG} {M : MM} {pc n : Nat} {lv : List (Option Value)} {st : List Value} {w : Wd} {Q : Option Value → Wd → Prop}
def stL (i : Nat) : Nat := (sBy.getD i []).length
def sC_ (i j : Nat) : Int32 := (sBy.getD i []).getD j 0
theorem fJS_value : Cond.fieldLink "java/lang/String" 9 "java/lang/String" "value" "[B" ∈ LT := LTm 1266 (by decide +kernel) rfl
theorem fJS_coder : Cond.fieldLink "java/lang/String" 15 "java/lang/String" "coder" "B" ∈ LT := LTm 1267 (by decide +kernel) rfl
theorem fJS_comp : Cond.fieldLink "java/lang/String" 38 "java/lang/String" "COMPACT_STRINGS" "Z" ∈ LT := LTm 609 (by decide +kernel) rfl
theorem fJS_sio : Cond.fieldLink "java/lang/String" 1053 "jdk/internal/util/Preconditions" "SIOOBE_FORMATTER" "Ljava/util/function/BiFunction;" ∈ LT := LTm 625 (by decide +kernel) rfl
theorem g_sval {i : Nat} (hM : M.1.cls = "java/lang/String") (hd : Dc M pc (.getfield 9) 3 n) (hi : i < 14) (kk : Go l g M n lv (.ref (g.2.2.2.2 i) :: st) w Q) : Go l g M pc lv (.ref (g.2.2.2.1 i) :: st) w Q := by
  obtain ⟨hd, rfl⟩ := hd
  exact fun p e s m args below meth c H locs ls F hP hS hlv => vk_getf F.1 F.2.1 (F.2.2.2.2.2.2.2.2.1 i hi).2.2.1 hS F.2.2.2.2.2.1 (by rw [hM]; exact F.2.2.2.2.2.2.1 _ fJS_value) (fun _ h => h) hd (kk p e s m args below meth c H locs ls F hP hS hlv)
theorem g_scod {i : Nat} (hM : M.1.cls = "java/lang/String") (hd : Dc M pc (.getfield 15) 3 n) (hi : i < 14) (kk : Go l g M n lv (.int 0 :: st) w Q) : Go l g M pc lv (.ref (g.2.2.2.1 i) :: st) w Q := by
  obtain ⟨hd, rfl⟩ := hd
  exact fun p e s m args below meth c H locs ls F hP hS hlv => vk_getf F.1 F.2.1 (F.2.2.2.2.2.2.2.2.1 i hi).2.1 hS F.2.2.2.2.2.1 (by rw [hM]; exact F.2.2.2.2.2.2.1 _ fJS_coder) (fun _ h => h) hd (kk p e s m args below meth c H locs ls F hP hS hlv)
theorem g_scomp (hM : M.1.cls = "java/lang/String") (hd : Dc M pc (.getstatic 38) 3 n) (kk : Go l g M n lv (.int 1 :: st) w Q) : Go l g M pc lv st w Q := by
  obtain ⟨hd, rfl⟩ := hd
  exact fun p e s m args below meth c H locs ls F hP hS hlv => va_gets F.1 F.2.1 F.2.2.2.2.2.2.2.2.2.1 hS F.2.2.2.2.2.1 (by rw [hM]; exact F.2.2.2.2.2.2.1 _ fJS_comp) (fun _ h => h) hd (kk p e s m args below meth c H locs ls F hP hS hlv)
theorem g_ssio (hM : M.1.cls = "java/lang/String") (hd : Dc M pc (.getstatic 1053) 3 n) (k1 : Go l g M n lv (.null :: st) w Q) (k2 : ∀ t, Go l g M n lv (.ref t :: st) w Q) : Go l g M pc lv st w Q := by
  obtain ⟨hd, rfl⟩ := hd
  intro p e s m args below meth c H locs ls F hP hS hlv
  rcases F.2.2.2.2.2.2.2.2.2.2 with hz | ⟨t, hz⟩
  · exact va_gets F.1 F.2.1 hz hS F.2.2.2.2.2.1 (by rw [hM]; exact F.2.2.2.2.2.2.1 _ fJS_sio) (fun _ h => h) hd (k1 p e s m args below meth c H locs ls F hP hS hlv)
  · exact va_gets F.1 F.2.1 hz hS F.2.2.2.2.2.1 (by rw [hM]; exact F.2.2.2.2.2.2.1 _ fJS_sio) (fun _ h => h) hd (k2 t p e s m args below meth c H locs ls F hP hS hlv)
theorem g_slen {i : Nat} (hd : Dc M pc .arraylength 1 n) (hi : i < 14) (kk : Go l g M n lv (.int (nI (stL i)) :: st) w Q) : Go l g M pc lv (.ref (g.2.2.2.2 i) :: st) w Q := by
  obtain ⟨hd, rfl⟩ := hd
  exact fun p e s m args below meth c H locs ls F hP hS hlv => va_tlen F.1 F.2.1 (F.2.2.2.2.2.2.2.2.1 i hi).2.2.2 hS rfl hd (kk p e s m args below meth c H locs ls F hP hS hlv)
theorem stL_lt : ∀ i, i < 14 → stL i ≤ 8 ∧ 1 ≤ stL i := by decide
theorem g_sbyte {i j : Nat} (hd : Dc M pc .baload 1 n) (hi : i < 14) (hj : j < stL i) (kk : Go l g M n lv (.int (sC_ i j) :: st) w Q) : Go l g M pc lv (.int (nI j) :: .ref (g.2.2.2.2 i) :: st) w Q := by
  obtain ⟨hd, rfl⟩ := hd
  have h8 := stL_lt i hi
  exact fun p e s m args below meth c H locs ls F hP hS hlv => va_tb F.1 F.2.1 (F.2.2.2.2.2.2.2.2.1 i hi).2.2.2 hS (vp_in_nI (N := stL i) hj (by omega)) (by rw [nI_clamp (by omega)]; rfl) hd (kk p e s m args below meth c H locs ls F hP hS hlv)
end STR
theorem cJP_checkIndex {l : Launch} {g : GG} {w : Wd} {x y : Int32} {v : Value} (hv : v.category = 1) (h1 : ¬ x < 0) (h2 : x < y) : Res l g JP_checkIndex [.int x, .int y, v] w (Is (some (.int x)) w) := by
  refine Res.of (by decide) (by intro u hu; simp at hu; rcases hu with rfl | rfl | rfl <;> first | rfl | exact hv) (Nat.le_of_ble_eq_true rfl) rfl ?_
  show Go l g JP_checkIndex 0 [some (.int x), some (.int y), some v] [] w _
  refine g_iload_n dJP_checkIndex_0 rfl ?_
  refine g_if_lt dJP_checkIndex_1 rfl (fun h => absurd h h1) (fun _ => ?_)
  refine g_iload_n dJP_checkIndex_4 rfl ?_
  refine g_iload_n dJP_checkIndex_5 rfl ?_
  refine g_icmp_lt dJP_checkIndex_6 rfl (fun _ => ?_) (fun h => absurd h2 h)
  refine g_iload_n dJP_checkIndex_16 rfl ?_
  refine g_iret dJP_checkIndex_17 rfl rfl ?_
  exact ⟨rfl, rfl⟩
theorem cJS_checkIndex {l : Launch} {g : GG} {w : Wd} {x y : Int32} (h1 : ¬ x < 0) (h2 : x < y) : Res l g JS_checkIndex [.int x, .int y] w (Is none w) := by
  refine Res.of (by decide) (by simp [Value.category]) (Nat.le_of_ble_eq_true rfl) rfl ?_
  show Go l g JS_checkIndex 0 [some (.int x), some (.int y)] [] w _
  refine g_iload_n dJS_checkIndex_0 rfl ?_
  refine g_iload_n dJS_checkIndex_1 rfl ?_
  refine g_ssio rfl dJS_checkIndex_2 ?_ (fun t => ?_)
  · refine gS3 dJS_checkIndex_5 kJS_checkIndex_1059 (cJP_checkIndex rfl h1 h2) (Nat.le_of_ble_eq_true rfl) ?_
    refine g_pop dJS_checkIndex_8 rfl ?_
    refine g_vret dJS_checkIndex_9 rfl ?_
    exact ⟨rfl, rfl⟩
  · refine gS3 dJS_checkIndex_5 kJS_checkIndex_1059 (cJP_checkIndex rfl h1 h2) (Nat.le_of_ble_eq_true rfl) ?_
    refine g_pop dJS_checkIndex_8 rfl ?_
    refine g_vret dJS_checkIndex_9 rfl ?_
    exact ⟨rfl, rfl⟩
theorem sC_ok : ∀ i, i < 14 → ∀ j, j < stL i → ((sC_ i j &&& 255).toUInt32 % 65536).toInt32 = sC_ i j ∧ narrow .char (.int (sC_ i j)) = .int (sC_ i j) ∧ 97 ≤ sC_ i j ∧ sC_ i j ≤ 122 := by decide +kernel
theorem cJL_charAt {l : Launch} {g : GG} {w : Wd} {i j : Nat} (hi : i < 14) (hj : j < stL i) : Res l g JL_charAt [.ref (g.2.2.2.2 i), .int (nI j)] w (Is (some (.int (sC_ i j))) w) := by
  have h8 := stL_lt i hi
  refine Res.of (by decide) (by simp [Value.category]) (Nat.le_of_ble_eq_true rfl) rfl ?_
  show Go l g JL_charAt 0 [some (.ref (g.2.2.2.2 i)), some (.int (nI j))] [] w _
  refine g_iload_n dJL_charAt_0 rfl ?_
  refine g_aload_n dJL_charAt_1 rfl ?_
  refine g_slen dJL_charAt_2 hi ?_
  refine gS2v dJL_charAt_3 kJL_charAt_9 (cJS_checkIndex (nI_pos (by omega)) (nI_lt hj (by omega))) (Nat.le_of_ble_eq_true rfl) ?_
  refine g_aload_n dJL_charAt_6 rfl ?_
  refine g_iload_n dJL_charAt_7 rfl ?_
  refine g_sbyte dJL_charAt_8 hi hj ?_
  refine g_sipush (v := 255) dJL_charAt_9 (by decide) ?_
  refine g_iand dJL_charAt_12 ?_
  refine g_i2c dJL_charAt_13 ?_
  refine g_top (sC_ok i hi j hj).1 ?_
  refine g_iret dJL_charAt_14 rfl (sC_ok i hi j hj).2.1 ?_
  exact ⟨rfl, rfl⟩
theorem cJS_isLatin1 {l : Launch} {g : GG} {w : Wd} {i : Nat} (hi : i < 14) : Res l g JS_isLatin1 [.ref (g.2.2.2.1 i)] w (Is (some (.int 1)) w) := by
  refine Res.of (by decide) (by simp [Value.category]) (Nat.le_of_ble_eq_true rfl) rfl ?_
  show Go l g JS_isLatin1 0 [some (.ref (g.2.2.2.1 i))] [] w _
  refine g_scomp rfl dJS_isLatin1_0 ?_
  refine g_if_eq dJS_isLatin1_3 rfl (fun h => absurd h (by decide)) (fun _ => ?_)
  refine g_aload_n dJS_isLatin1_6 rfl ?_
  refine g_scod rfl dJS_isLatin1_7 hi ?_
  refine g_if_ne dJS_isLatin1_10 rfl (fun h => absurd rfl h) (fun _ => ?_)
  refine g_iconst (v := 1) dJS_isLatin1_13 (by decide) ?_
  refine g_goto dJS_isLatin1_14 rfl ?_
  refine g_iret dJS_isLatin1_18 rfl rfl ?_
  exact ⟨rfl, rfl⟩
theorem cJS_coder {l : Launch} {g : GG} {w : Wd} {i : Nat} (hi : i < 14) : Res l g JS_coder [.ref (g.2.2.2.1 i)] w (Is (some (.int 0)) w) := by
  refine Res.of (by decide) (by simp [Value.category]) (Nat.le_of_ble_eq_true rfl) rfl ?_
  show Go l g JS_coder 0 [some (.ref (g.2.2.2.1 i))] [] w _
  refine g_scomp rfl dJS_coder_0 ?_
  refine g_if_eq dJS_coder_3 rfl (fun h => absurd h (by decide)) (fun _ => ?_)
  refine g_aload_n dJS_coder_6 rfl ?_
  refine g_scod rfl dJS_coder_7 hi ?_
  refine g_goto dJS_coder_10 rfl ?_
  refine g_iret dJS_coder_14 rfl rfl ?_
  exact ⟨rfl, rfl⟩
theorem cJS_length {l : Launch} {g : GG} {w : Wd} {i : Nat} (hi : i < 14) : Res l g JS_length [.ref (g.2.2.2.1 i)] w (Is (some (.int (nI (stL i)))) w) := by
  have h8 := stL_lt i hi
  refine Res.of (by decide) (by simp [Value.category]) (Nat.le_of_ble_eq_true rfl) rfl ?_
  show Go l g JS_length 0 [some (.ref (g.2.2.2.1 i))] [] w _
  refine g_aload_n dJS_length_0 rfl ?_
  refine g_sval rfl dJS_length_1 hi ?_
  refine g_slen dJS_length_4 hi ?_
  refine g_aload_n dJS_length_5 rfl ?_
  refine gT0 dJS_length_6 kJS_length_335 hi rfl (cJS_coder hi) (Nat.le_of_ble_eq_true rfl) ?_
  refine g_ishr dJS_length_9 ?_
  refine g_top (sb_shr0 _) ?_
  refine g_iret dJS_length_10 rfl rfl ?_
  exact ⟨rfl, rfl⟩
theorem cJS_charAt {l : Launch} {g : GG} {w : Wd} {i j : Nat} (hi : i < 14) (hj : j < stL i) : Res l g JS_charAt [.ref (g.2.2.2.1 i), .int (nI j)] w (Is (some (.int (sC_ i j))) w) := by
  refine Res.of (by decide) (by simp [Value.category]) (Nat.le_of_ble_eq_true rfl) rfl ?_
  show Go l g JS_charAt 0 [some (.ref (g.2.2.2.1 i)), some (.int (nI j))] [] w _
  refine g_aload_n dJS_charAt_0 rfl ?_
  refine gT0 dJS_charAt_1 kJS_charAt_492 hi rfl (cJS_isLatin1 hi) (Nat.le_of_ble_eq_true rfl) ?_
  refine g_if_eq dJS_charAt_4 rfl (fun h => absurd h (by decide)) (fun _ => ?_)
  refine g_aload_n dJS_charAt_7 rfl ?_
  refine g_sval rfl dJS_charAt_8 hi ?_
  refine g_iload_n dJS_charAt_11 rfl ?_
  refine gS2 dJS_charAt_12 kJS_charAt_495 (cJL_charAt hi hj) (Nat.le_of_ble_eq_true rfl) ?_
  refine g_iret dJS_charAt_15 rfl (sC_ok i hi j hj).2.1 ?_
  exact ⟨rfl, rfl⟩
