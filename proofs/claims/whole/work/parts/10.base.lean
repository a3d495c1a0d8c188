section BROWS
variable {l : Launch} {g : GG} {M : MM} {pc n : Nat} {lv : List (Option Value)} {st : List Value} {w : Wd} {Q : Option Value → Wd → Prop}
theorem g_getR2 {k ci j o k2 idx : Nat} {ty : FieldType} {fin : Bool} (hd : Dc M pc (.getfield idx) 3 n) (hf : Fk M.1.cls idx ci j ty fin) (ho : objC k = some ci) (hj : (fdef ci)[j]? = some o) (ho1 : o ≠ 0) (hk2 : k + o = k2) (kk : Go l g M n lv (.ref (g.1 k2) :: st) w Q) : Go l g M pc lv (.ref (g.1 k) :: st) w Q := by
  subst hk2
  cases o with
  | zero => exact absurd rfl ho1
  | succ o => exact g_getR hd hf ho hj kk
theorem g_split {x : Int32} (c : Int32) (k1 : x = c → Go l g M pc lv (.int c :: st) w Q) (k2 : ¬ x = c → Go l g M pc lv (.int x :: st) w Q) : Go l g M pc lv (.int x :: st) w Q := by
  by_cases h : x = c
  · subst h; exact k1 rfl
  · exact k2 h
theorem g_top {x y : Int32} (h : x = y) (k : Go l g M pc lv (.int y :: st) w Q) : Go l g M pc lv (.int x :: st) w Q := by subst h; exact k
theorem g_w {w1 : Wd} (h : w = w1) (k : Go l g M pc lv st w1 Q) : Go l g M pc lv st w Q := by subst h; exact k
theorem g_lv {lv1 : List (Option Value)} (h : lv = lv1) (k : Go l g M pc lv1 st w Q) : Go l g M pc lv st w Q := by subst h; exact k
theorem g_mono {Q' : Option Value → Wd → Prop} (h : ∀ r w', Q' r w' → Q r w') (k : Go l g M pc lv st w Q') : Go l g M pc lv st w Q := by
  intro p e s m args below meth c H locs ls F hP hS hl T hT X
  obtain ⟨t, a1, o, b1, b2, ⟨⟨r, w', h1, h2, h3⟩, b4⟩, b5⟩ := k p e s m args below meth c H locs ls F hP hS hl T hT X
  exact ⟨t, a1, o, b1, b2, ⟨⟨r, w', h1, h r w' h2, h3⟩, b4⟩, b5⟩
end BROWS
theorem Res.mono {l : Launch} {g : GG} {M : MM} {as : List Value} {w : Wd} {Q Q' : Option Value → Wd → Prop} (h : ∀ r w', Q' r w' → Q r w') (hr : Res l g M as w Q') : Res l g M as w Q := by
  intro p e ha hc hk s m args below hf h1 h2 h3
  obtain ⟨k, o, a1, a2, a3, ⟨⟨r, w', b1, b2, b3⟩, b4⟩, b5⟩ := hr p e ha hc hk s m args below hf h1 h2 h3
  exact ⟨k, o, a1, a2, a3, ⟨⟨r, w', b1, h r w' b2, b3⟩, b4⟩, b5⟩
def isH (h : Nat) : Prop := h = 1 ∨ h = 7 ∨ h = 13
theorem isH.o {h : Nat} (hh : isH h) : objC h = some 1 := by rcases hh with rfl | rfl | rfl <;> rfl
theorem isH.a {h c : Nat} (hh : isH h) (h1 : 1 ≤ c) (h2 : c ≤ 5) : arrN (h + c) = some 8 := by
  have : c = 1 ∨ c = 2 ∨ c = 3 ∨ c = 4 ∨ c = 5 := by omega
  rcases hh with rfl | rfl | rfl <;> rcases this with rfl | rfl | rfl | rfl | rfl <;> rfl
theorem shO {q : Nat} (hq : q < 4) : objC (24 + 2 * q) = some 2 := by
  have : q = 0 ∨ q = 1 ∨ q = 2 ∨ q = 3 := by omega
  rcases this with rfl | rfl | rfl | rfl <;> rfl
theorem shA {q : Nat} (hq : q < 4) : arrN (24 + 2 * q + 1) = some 40 := by
  have : q = 0 ∨ q = 1 ∨ q = 2 ∨ q = 3 := by omega
  rcases this with rfl | rfl | rfl | rfl <;> rfl
/-! numbers -/
def dist (a b : Int32) : Int32 := if a < b then b - a else a - b
def bI (c : Prop) [Decidable c] : Int32 := if c then 1 else 0
theorem bI_t {c : Prop} [Decidable c] (h : c) : bI c = 1 := if_pos h
theorem bI_f {c : Prop} [Decidable c] (h : ¬ c) : bI c = 0 := if_neg h
theorem bI_0 {c : Prop} [Decidable c] : bI c = 0 ↔ ¬ c := by unfold bI; split <;> simp_all
theorem bI_1 {c : Prop} [Decidable c] : bI c = 1 ↔ c := by unfold bI; split <;> simp_all
theorem bI_n {c : Prop} [Decidable c] : narrow .boolean (.int (bI c)) = .int (bI c) := by unfold bI; split <;> rfl
def mnI (a b : Int32) : Int32 := if b < a then b else a
def mxI (a b : Int32) : Int32 := if a < b then b else a
def abI (a : Int32) : Int32 := if 0 ≤ a then a else 0 - a
def tow (a b s : Int32) : Int32 := if a < b then mnI (a + s) b else mxI (a - s) b
def fearsK (k : Int32) : Int32 := if k = 1 then 5 else if k = 2 then 20 else if k = 3 then 25 else if k = 4 then 25 else if k = 5 then 0 else if k = 6 then 0 else 10
def calmsK (k : Int32) : Int32 := if k = 1 then 2 else if k = 4 then 0 else if k = 6 then 4 else 1
def lightK (k : Int32) : Int32 := if k = 1 then 1 else if k = 3 then 3 else if k = 4 then 4 else if k = 5 then 1 else if k = 6 then 1 else 2
def aboveK (k : Int32) : Int32 := if k = 1 then 0 else if k = 2 then 0 else if k = 3 then 2 else if k = 4 then 3 else if k = 5 then 0 else if k = 6 then 1 else -1
def isW (v a b : Int32) : Prop := a ≤ v ∧ v ≤ b
/-! Math -/
theorem mm_min_s : Cond.static Lib.Math.min.name ∈ LT := LTm 367 (by decide +kernel) rfl
set_option maxRecDepth 20000 in
theorem mm_min_c : Cond.code Lib.Math.min.name Lib.Math.min.code 2 (some .int) ∈ LT := LTm 368 rfl rfl
theorem g_min {l : Launch} {g : GG} {M : MM} {pc n idx : Nat} {lv : List (Option Value)} {st : List Value} {w : Wd} {Q : Option Value → Wd → Prop} {x y : Int32} (hd : Dc M pc (.invokestatic idx) 3 n) (hl : Cond.methodLink M.1.cls idx Lib.Math.min.name ∈ LT) (hfr : 1 ≤ (rmM M).frames) (hlo : (st.map fun v => v.category).sum + 13 ≤ (rmM M).locals) (kk : Go l g M n lv (.int (mnI x y) :: st) w Q) : Go l g M pc lv (.int y :: .int x :: st) w Q := by
  obtain ⟨hd, rfl⟩ := hd
  exact fun p e s m args below meth c H locs ls F hP hS hlv => va_mmin F.1 F.2.1 (by rw [F.2.2.1]; exact hlv.1.symm) F.2.2.2.2.2.1 (F.2.2.2.2.2.2.1 _ hl) (F.2.2.2.2.2.2.1 _ mm_min_s) (F.2.2.2.2.2.2.1 _ ini_JM) (F.2.2.2.2.2.2.1 _ mm_min_c) hfr hlo (Nat.le_refl _) (Nat.le_refl _) hd (kk p e s m args below meth c H locs ls F hP hS hlv)
theorem mm_max_s : Cond.static Lib.Math.max.name ∈ LT := LTm 370 (by decide +kernel) rfl
set_option maxRecDepth 20000 in
theorem mm_max_c : Cond.code Lib.Math.max.name Lib.Math.max.code 2 (some .int) ∈ LT := LTm 371 rfl rfl
theorem g_max {l : Launch} {g : GG} {M : MM} {pc n idx : Nat} {lv : List (Option Value)} {st : List Value} {w : Wd} {Q : Option Value → Wd → Prop} {x y : Int32} (hd : Dc M pc (.invokestatic idx) 3 n) (hl : Cond.methodLink M.1.cls idx Lib.Math.max.name ∈ LT) (hfr : 1 ≤ (rmM M).frames) (hlo : (st.map fun v => v.category).sum + 13 ≤ (rmM M).locals) (kk : Go l g M n lv (.int (mxI x y) :: st) w Q) : Go l g M pc lv (.int y :: .int x :: st) w Q := by
  obtain ⟨hd, rfl⟩ := hd
  exact fun p e s m args below meth c H locs ls F hP hS hlv => va_mmax F.1 F.2.1 (by rw [F.2.2.1]; exact hlv.1.symm) F.2.2.2.2.2.1 (F.2.2.2.2.2.2.1 _ hl) (F.2.2.2.2.2.2.1 _ mm_max_s) (F.2.2.2.2.2.2.1 _ ini_JM) (F.2.2.2.2.2.2.1 _ mm_max_c) hfr hlo (Nat.le_refl _) (Nat.le_refl _) hd (kk p e s m args below meth c H locs ls F hP hS hlv)
theorem mm_abs_s : Cond.static Lib.Math.abs.name ∈ LT := LTm 909 (by decide +kernel) rfl
set_option maxRecDepth 20000 in
theorem mm_abs_c : Cond.code Lib.Math.abs.name Lib.Math.abs.code 1 (some .int) ∈ LT := LTm 910 rfl rfl
theorem g_abs {l : Launch} {g : GG} {M : MM} {pc n idx : Nat} {lv : List (Option Value)} {st : List Value} {w : Wd} {Q : Option Value → Wd → Prop} {x : Int32} (hd : Dc M pc (.invokestatic idx) 3 n) (hl : Cond.methodLink M.1.cls idx Lib.Math.abs.name ∈ LT) (hfr : 1 ≤ (rmM M).frames) (hlo : (st.map fun v => v.category).sum + 13 ≤ (rmM M).locals) (kk : Go l g M n lv (.int (abI x) :: st) w Q) : Go l g M pc lv (.int x :: st) w Q := by
  obtain ⟨hd, rfl⟩ := hd
  exact fun p e s m args below meth c H locs ls F hP hS hlv => va_mabs F.1 F.2.1 (by rw [F.2.2.1]; exact hlv.1.symm) F.2.2.2.2.2.1 (F.2.2.2.2.2.2.1 _ hl) (F.2.2.2.2.2.2.1 _ mm_abs_s) (F.2.2.2.2.2.2.1 _ ini_JM) (F.2.2.2.2.2.2.1 _ mm_abs_c) hfr hlo (Nat.le_refl _) (Nat.le_refl _) hd (kk p e s m args below meth c H locs ls F hP hS hlv)
