section KSTR
variable {l : Launch} {p : Program} {e : Env} {s : State} {m : MethodId} {args : Array Value} {below : List Frame} {meth : Method} {c : Code} {R : Room} {M : MM} {Z : State → Prop} {D : va_G} {A : Nat → Prop} {tys : List (ClassId × FieldType)} {ce sl pc n : Nat} {lv : List (Option Value)} {st : List Value} {ws : va_W}
theorem k_ldcS {idx x : Nat} {tx : String} (X : KX M p s m args c A) (hd : Dc M pc (.ldc idx) 2 n) (hz : vk_R M.1.cls idx tx x s) (k : GoC l p e s m args below meth c R M Z D A ce sl n lv (.ref x :: st) ws) : GoC l p e s m args below meth c R M Z D A ce sl pc lv st ws := by
  obtain ⟨hd, rfl⟩ := hd
  exact fun H locs ls hP hD hS hl => va_ldcS X.1 X.2.1 X.2.2.2.1 hz hd (k H locs ls hP hD hS hl)
theorem k_astS {q0 a N j v t0 : Nat} {cA : ClassId} {E : String} {i : Int32} {f : Nat → Option Nat} (X : KX M p s m args c A) (hd : Dc M pc .aastore 1 n) (hK : va_K D cls tys s) (he : ws[q0]? = some (a, .inl (cA, N, .inr (.inr (.inr (.inr f)))))) (ht : tys[t0]? = some (cA, .object E)) (hO : va_O E v A s s.heap) (hi : i = nI j) (hj : j < N) (hN : N ≤ 200) (k : GoC l p e s m args below meth c R M Z D A ce sl n lv st (ws.set q0 (a, .inl (cA, N, .inr (.inr (.inr (.inr (va_up f j (some v))))))))) : GoC l p e s m args below meth c R M Z D A ce sl pc lv (.ref v :: .int i :: .ref a :: st) ws := by
  obtain ⟨hd, rfl⟩ := hd
  subst hi
  intro H locs ls hP hD hS hlv
  have hA : va_Any E s H v := by
    obtain ⟨cell, h1, h2, h3, -⟩ := hO.kept (H1 := H) (fun a ha hn => hS.2.1 a ha hn)
    obtain ⟨kC, hkC, -⟩ := Vm.findClass_spec h3
    exact ⟨cell, h1, h2, ⟨kC, hkC⟩, fun comp h => by rw [Option.some.inj (h.symm.trans h3)]; exact va_asg _ _⟩
  refine va_astqM X.1 X.2.1 hK hP hD hS q0 t0 he ht hA (vp_in_nI hj (by omega)) hd (fun H1 locs1 hP1 hD1 hS1 => ?_)
  rw [nI_clamp (by omega)] at hP1 hD1
  exact k H1 locs1 ls hP1 hD1 hS1 hlv
end KSTR
def ETr : EE := fun _ _ _ => True
theorem ETr_ok : Eok ETr := fun _ _ _ _ _ _ => trivial
def ENW : EE := fun _ U _ => (∀ w ∈ NW, va_Nw w U) ∧ va_AO "StraySheep$Sheet" U
theorem ENW_ok : Eok ENW := fun A U V hvm _ h => ⟨fun w hw => by
  obtain ⟨a, i, x, b, rfl⟩ := NW_is hw
  exact va_Nw.same rfl hvm.symm (h.1 _ hw), va_AO.moved (by rw [hvm]; exact Vm.Alike.refl _) h.2⟩
def EQs (str : Nat → Nat) : EE := fun A U H => (∀ own k i, i < 14 → SW own k i → vk_R own k (sTx.getD i "") (str i) U) ∧ (∀ i, i < 14 → va_O "java/lang/String" (str i) A U H) ∧ va_AO "java/lang/String" U
theorem EQs_ok {str : Nat → Nat} : Eok (EQs str) := fun A U V hvm hh h => ⟨fun own k i hi hs => vk_R.same hvm (h.1 own k i hi hs), fun i hi => by
  rw [hh]; exact va_O.moved (by rw [hvm]; exact Vm.Alike.refl _) (h.2.1 i hi), va_AO.moved (by rw [hvm]; exact Vm.Alike.refl _) h.2.2⟩
theorem bn0 : ∀ j, j < 11 → defaultValue (ty0 j) = vp_V ([.null, .null, .null, .int 0, .null, .null, .int 0, .int 0, .null, .null, .null] : List Value) j := fun j hj => by
  match j, hj with
  | 0, _ => rfl
  | 1, _ => rfl
  | 2, _ => rfl
  | 3, _ => rfl
  | 4, _ => rfl
  | 5, _ => rfl
  | 6, _ => rfl
  | 7, _ => rfl
  | 8, _ => rfl
  | 9, _ => rfl
  | 10, _ => rfl
  | j + 11, hh => exact absurd hh (by omega)
theorem bn1 : ∀ j, j < 12 → defaultValue (ty1 j) = vp_V ([.int 0, .int 0, .int 0, .int 0, .int 0, .int 0, .int 0, .null, .null, .null, .null, .null] : List Value) j := fun j hj => by
  match j, hj with
  | 0, _ => rfl
  | 1, _ => rfl
  | 2, _ => rfl
  | 3, _ => rfl
  | 4, _ => rfl
  | 5, _ => rfl
  | 6, _ => rfl
  | 7, _ => rfl
  | 8, _ => rfl
  | 9, _ => rfl
  | 10, _ => rfl
  | 11, _ => rfl
  | j + 12, hh => exact absurd hh (by omega)
theorem bn2 : ∀ j, j < 3 → defaultValue (ty2 j) = vp_V ([.int 0, .int 0, .null] : List Value) j := fun j hj => by
  match j, hj with
  | 0, _ => rfl
  | 1, _ => rfl
  | 2, _ => rfl
  | j + 3, hh => exact absurd hh (by omega)
theorem bn3 : ∀ j, j < 5 → defaultValue (ty3 j) = vp_V ([.null, .int 0, .int 0, .int 0, .int 0] : List Value) j := fun j hj => by
  match j, hj with
  | 0, _ => rfl
  | 1, _ => rfl
  | 2, _ => rfl
  | 3, _ => rfl
  | 4, _ => rfl
  | j + 5, hh => exact absurd hh (by omega)
theorem bn4 : ∀ j, j < 24 → defaultValue (ty4 j) = vp_V ([.null, .null, .null, .int 0, .null, .int 0, .null, .int 0, .int 0, .int 0, .int 0, .int 0, .int 0, .null, .null, .null, .null, .null, .int 0, .int 0, .null, .null, .null, .null] : List Value) j := fun j hj => by
  match j, hj with
  | 0, _ => rfl
  | 1, _ => rfl
  | 2, _ => rfl
  | 3, _ => rfl
  | 4, _ => rfl
  | 5, _ => rfl
  | 6, _ => rfl
  | 7, _ => rfl
  | 8, _ => rfl
  | 9, _ => rfl
  | 10, _ => rfl
  | 11, _ => rfl
  | 12, _ => rfl
  | 13, _ => rfl
  | 14, _ => rfl
  | 15, _ => rfl
  | 16, _ => rfl
  | 17, _ => rfl
  | 18, _ => rfl
  | 19, _ => rfl
  | 20, _ => rfl
  | 21, _ => rfl
  | 22, _ => rfl
  | 23, _ => rfl
  | j + 24, hh => exact absurd hh (by omega)
set_option maxRecDepth 20000 in
theorem mS_init : MkI S_init := ⟨LTm 83 (by decide +kernel) rfl, ini_S, LTm 84 rfl rfl, ⟨by decide, by decide, by decide +kernel⟩, rfl⟩
set_option maxRecDepth 20000 in
theorem mH_init : MkI H_init := ⟨LTm 91 (by decide +kernel) rfl, ini_H, LTm 92 rfl rfl, ⟨by decide, by decide, by decide +kernel⟩, rfl⟩
set_option maxRecDepth 20000 in
theorem mT_init : MkI T_init := ⟨LTm 153 (by decide +kernel) rfl, ini_T, LTm 154 rfl rfl, ⟨by decide, by decide, by decide +kernel⟩, rfl⟩
set_option maxRecDepth 20000 in
theorem mE_init : MkI E_init := ⟨LTm 177 (by decide +kernel) rfl, ini_E, LTm 178 rfl rfl, ⟨by decide, by decide, by decide +kernel⟩, rfl⟩
set_option maxRecDepth 20000 in
theorem mQ_init : MkI Q_init := ⟨LTm 761 (by decide +kernel) rfl, ini_Q, LTm 762 rfl rfl, ⟨by decide, by decide, by decide +kernel⟩, rfl⟩
def eH (cI : ClassId) (u : Nat → Nat) : va_W := [(u 0, .inr (1, [.int 0, .int 0, .int (-1), .int (-1), .int 1, .int 0, .int 0, .ref (u 1), .ref (u 2), .ref (u 3), .ref (u 4), .ref (u 5)])), (u 1, .inl (cI, 8, .inl (fun _ => 0))), (u 2, .inl (cI, 8, .inl (fun _ => 0))), (u 3, .inl (cI, 8, .inl (fun _ => 0))), (u 4, .inl (cI, 8, .inl (fun _ => 0))), (u 5, .inl (cI, 8, .inl (fun _ => 0)))]
def eT (cI : ClassId) (u : Nat → Nat) : va_W := [(u 0, .inr (3, [.ref (u 1), .int 0, .int 0, .int 0, .int 0])), (u 1, .inl (cI, 120, .inl (fun _ => 0)))]
def eE (cI : ClassId) (u : Nat → Nat) : va_W := [(u 0, .inr (2, [.int 0, .int 0, .ref (u 1)])), (u 1, .inl (cI, 40, .inl (fun _ => 0)))]
def fl (b : Nat) : Nat → (Nat → Int32) → (Nat → Int32)
  | 0, f => f
  | n + 1, f => upd (fl b n f) (b + n) (-1)
def w00 : Wd := fun k j => match k with
  | 0 => if j = 6 ∨ j = 7 then 1 else 0
  | 1 => if j = 2 ∨ j = 3 then -1 else if j = 4 then 1 else 0
  | 7 => if j = 2 ∨ j = 3 then -1 else if j = 4 then 1 else 0
  | 13 => if j = 2 ∨ j = 3 then -1 else if j = 4 then 1 else 0
  | 19 => fl 0 10 (fun _ => 0) j
  | 20 => fl 0 10 (fun _ => 0) j
  | 34 => fl 8 10 (upd (upd (upd (upd (fun _ => 0) 2 1) 5 (-1)) 6 1) 7 (-1)) j
  | _ => 0
def gS (D : va_G) (cI : ClassId) (u : (Nat → Nat) × ClassId) : GG := (u.1, D, (cI, u.2, u.2), (fun _ => 0), (fun _ => 0))
def eS (D : va_G) (cI : ClassId) (u : (Nat → Nat) × ClassId) : va_W := (List.range 33).map (fun k => (u.1 k, cellOf (gS D cI u) w00 k))
def gQ (D : va_G) (cI : ClassId) (str : Nat → Nat) (u : (Nat → Nat) × ClassId) : GG := (fun k => u.1 (k - 33), D, (cI, u.2, u.2), str, (fun _ => 0))
def eQ9 (D : va_G) (cI : ClassId) (str : Nat → Nat) (u : (Nat → Nat) × ClassId) : va_W := (List.range 15).map (fun k => (u.1 k, cellOf (gQ D cI str u) w00 (33 + k)))
set_option maxRecDepth 20000 in
set_option maxHeartbeats 4000000 in
theorem cH_init (l : Launch) (D : va_G) (cI : ClassId) : CRes l H_init 5 40 D cI 1 [.int 0, .int 0, .int 0, .int 0, .int 0, .int 0, .int 0, .null, .null, .null, .null, .null] ETr (fun u : Nat → Nat => u 0) (eH cI) (fun _ => []) := by
  refine CRes.of (by decide) rfl (by decide) ?_
  intro p e s m args below meth c h0 A X hin hr hlk hK hE
  refine k_aload X dH_init_0 rfl ?_
  refine k_obj X dH_init_1 (LTm 93 (by decide +kernel) rfl) (Nat.le_of_ble_eq_true rfl) (Nat.le_of_ble_eq_true rfl) ?_
  refine k_aload X dH_init_4 rfl ?_
  refine k_iconst (v := 0) X dH_init_5 (by decide) ?_
  refine k_put (q0 := 0) X dH_init_6 fH_9 hK hin (fun _ _ _ hc => by cases hc; rfl) rfl (Nat.le_of_ble_eq_true rfl) (by first | rfl | decide) (by first | rfl | decide) ?_
  refine k_ws (ws2 := [(h0, .inr (1, [.int 0, .int 0, .int 0, .int 0, .int 0, .int 0, .int 0, .null, .null, .null, .null, .null]))]) rfl ?_
  refine k_aload X dH_init_9 rfl ?_
  refine k_iconst (v := 0) X dH_init_10 (by decide) ?_
  refine k_put (q0 := 0) X dH_init_11 fH_15 hK hin (fun _ _ _ hc => by cases hc; rfl) rfl (Nat.le_of_ble_eq_true rfl) (by first | rfl | decide) (by first | rfl | decide) ?_
  refine k_ws (ws2 := [(h0, .inr (1, [.int 0, .int 0, .int 0, .int 0, .int 0, .int 0, .int 0, .null, .null, .null, .null, .null]))]) rfl ?_
  refine k_aload X dH_init_14 rfl ?_
  refine k_iconst (v := (-1)) X dH_init_15 (by decide) ?_
  refine k_put (q0 := 0) X dH_init_16 fH_18 hK hin (fun _ _ _ hc => by cases hc; rfl) rfl (Nat.le_of_ble_eq_true rfl) (by first | rfl | decide) (by first | rfl | decide) ?_
  refine k_ws (ws2 := [(h0, .inr (1, [.int 0, .int 0, .int (-1), .int 0, .int 0, .int 0, .int 0, .null, .null, .null, .null, .null]))]) rfl ?_
  refine k_aload X dH_init_19 rfl ?_
  refine k_iconst (v := (-1)) X dH_init_20 (by decide) ?_
  refine k_put (q0 := 0) X dH_init_21 fH_21 hK hin (fun _ _ _ hc => by cases hc; rfl) rfl (Nat.le_of_ble_eq_true rfl) (by first | rfl | decide) (by first | rfl | decide) ?_
  refine k_ws (ws2 := [(h0, .inr (1, [.int 0, .int 0, .int (-1), .int (-1), .int 0, .int 0, .int 0, .null, .null, .null, .null, .null]))]) rfl ?_
  refine k_aload X dH_init_24 rfl ?_
  refine k_iconst (v := 1) X dH_init_25 (by decide) ?_
  refine k_put (q0 := 0) X dH_init_26 fH_24 hK hin (fun _ _ _ hc => by cases hc; rfl) rfl (Nat.le_of_ble_eq_true rfl) (by first | rfl | decide) (by first | rfl | decide) ?_
  refine k_ws (ws2 := [(h0, .inr (1, [.int 0, .int 0, .int (-1), .int (-1), .int 1, .int 0, .int 0, .null, .null, .null, .null, .null]))]) rfl ?_
  refine k_aload X dH_init_29 rfl ?_
  refine k_iconst (v := 0) X dH_init_30 (by decide) ?_
  refine k_put (q0 := 0) X dH_init_31 fH_27 hK hin (fun _ _ _ hc => by cases hc; rfl) rfl (Nat.le_of_ble_eq_true rfl) (by first | rfl | decide) (by first | rfl | decide) ?_
  refine k_ws (ws2 := [(h0, .inr (1, [.int 0, .int 0, .int (-1), .int (-1), .int 1, .int 0, .int 0, .null, .null, .null, .null, .null]))]) rfl ?_
  refine k_aload X dH_init_34 rfl ?_
  refine k_iconst (v := 0) X dH_init_35 (by decide) ?_
  refine k_put (q0 := 0) X dH_init_36 fH_30 hK hin (fun _ _ _ hc => by cases hc; rfl) rfl (Nat.le_of_ble_eq_true rfl) (by first | rfl | decide) (by first | rfl | decide) ?_
  refine k_ws (ws2 := [(h0, .inr (1, [.int 0, .int 0, .int (-1), .int (-1), .int 1, .int 0, .int 0, .null, .null, .null, .null, .null]))]) rfl ?_
  refine k_aload X dH_init_39 rfl ?_
  refine k_bipush (v := 8) X dH_init_40 (by decide) ?_
  refine k_newa (N := 8) X dH_init_42 hK (by decide) (by decide) (Nat.le_of_ble_eq_true rfl) (Nat.le_of_ble_eq_true rfl) (fun q1 => ?_)
  refine k_ws (ws2 := [(h0, .inr (1, [.int 0, .int 0, .int (-1), .int (-1), .int 1, .int 0, .int 0, .null, .null, .null, .null, .null])), (q1, .inl (cI, 8, .inl (fun _ => 0)))]) rfl ?_
  refine k_put (q0 := 0) X dH_init_44 fH_33 hK hin (fun _ _ _ hc => by cases hc; rfl) rfl (Nat.le_of_ble_eq_true rfl) (by first | rfl | decide) (by first | rfl | decide) ?_
  refine k_ws (ws2 := [(h0, .inr (1, [.int 0, .int 0, .int (-1), .int (-1), .int 1, .int 0, .int 0, .ref q1, .null, .null, .null, .null])), (q1, .inl (cI, 8, .inl (fun _ => 0)))]) rfl ?_
  refine k_aload X dH_init_47 rfl ?_
  refine k_bipush (v := 8) X dH_init_48 (by decide) ?_
  refine k_newa (N := 8) X dH_init_50 hK (by decide) (by decide) (Nat.le_of_ble_eq_true rfl) (Nat.le_of_ble_eq_true rfl) (fun q2 => ?_)
  refine k_ws (ws2 := [(h0, .inr (1, [.int 0, .int 0, .int (-1), .int (-1), .int 1, .int 0, .int 0, .ref q1, .null, .null, .null, .null])), (q1, .inl (cI, 8, .inl (fun _ => 0))), (q2, .inl (cI, 8, .inl (fun _ => 0)))]) rfl ?_
  refine k_put (q0 := 0) X dH_init_52 fH_37 hK hin (fun _ _ _ hc => by cases hc; rfl) rfl (Nat.le_of_ble_eq_true rfl) (by first | rfl | decide) (by first | rfl | decide) ?_
  refine k_ws (ws2 := [(h0, .inr (1, [.int 0, .int 0, .int (-1), .int (-1), .int 1, .int 0, .int 0, .ref q1, .ref q2, .null, .null, .null])), (q1, .inl (cI, 8, .inl (fun _ => 0))), (q2, .inl (cI, 8, .inl (fun _ => 0)))]) rfl ?_
  refine k_aload X dH_init_55 rfl ?_
  refine k_bipush (v := 8) X dH_init_56 (by decide) ?_
  refine k_newa (N := 8) X dH_init_58 hK (by decide) (by decide) (Nat.le_of_ble_eq_true rfl) (Nat.le_of_ble_eq_true rfl) (fun q3 => ?_)
  refine k_ws (ws2 := [(h0, .inr (1, [.int 0, .int 0, .int (-1), .int (-1), .int 1, .int 0, .int 0, .ref q1, .ref q2, .null, .null, .null])), (q1, .inl (cI, 8, .inl (fun _ => 0))), (q2, .inl (cI, 8, .inl (fun _ => 0))), (q3, .inl (cI, 8, .inl (fun _ => 0)))]) rfl ?_
  refine k_put (q0 := 0) X dH_init_60 fH_40 hK hin (fun _ _ _ hc => by cases hc; rfl) rfl (Nat.le_of_ble_eq_true rfl) (by first | rfl | decide) (by first | rfl | decide) ?_
  refine k_ws (ws2 := [(h0, .inr (1, [.int 0, .int 0, .int (-1), .int (-1), .int 1, .int 0, .int 0, .ref q1, .ref q2, .ref q3, .null, .null])), (q1, .inl (cI, 8, .inl (fun _ => 0))), (q2, .inl (cI, 8, .inl (fun _ => 0))), (q3, .inl (cI, 8, .inl (fun _ => 0)))]) rfl ?_
  refine k_aload X dH_init_63 rfl ?_
  refine k_bipush (v := 8) X dH_init_64 (by decide) ?_
  refine k_newa (N := 8) X dH_init_66 hK (by decide) (by decide) (Nat.le_of_ble_eq_true rfl) (Nat.le_of_ble_eq_true rfl) (fun q4 => ?_)
  refine k_ws (ws2 := [(h0, .inr (1, [.int 0, .int 0, .int (-1), .int (-1), .int 1, .int 0, .int 0, .ref q1, .ref q2, .ref q3, .null, .null])), (q1, .inl (cI, 8, .inl (fun _ => 0))), (q2, .inl (cI, 8, .inl (fun _ => 0))), (q3, .inl (cI, 8, .inl (fun _ => 0))), (q4, .inl (cI, 8, .inl (fun _ => 0)))]) rfl ?_
  refine k_put (q0 := 0) X dH_init_68 fH_43 hK hin (fun _ _ _ hc => by cases hc; rfl) rfl (Nat.le_of_ble_eq_true rfl) (by first | rfl | decide) (by first | rfl | decide) ?_
  refine k_ws (ws2 := [(h0, .inr (1, [.int 0, .int 0, .int (-1), .int (-1), .int 1, .int 0, .int 0, .ref q1, .ref q2, .ref q3, .ref q4, .null])), (q1, .inl (cI, 8, .inl (fun _ => 0))), (q2, .inl (cI, 8, .inl (fun _ => 0))), (q3, .inl (cI, 8, .inl (fun _ => 0))), (q4, .inl (cI, 8, .inl (fun _ => 0)))]) rfl ?_
  refine k_aload X dH_init_71 rfl ?_
  refine k_bipush (v := 8) X dH_init_72 (by decide) ?_
  refine k_newa (N := 8) X dH_init_74 hK (by decide) (by decide) (Nat.le_of_ble_eq_true rfl) (Nat.le_of_ble_eq_true rfl) (fun q5 => ?_)
  refine k_ws (ws2 := [(h0, .inr (1, [.int 0, .int 0, .int (-1), .int (-1), .int 1, .int 0, .int 0, .ref q1, .ref q2, .ref q3, .ref q4, .null])), (q1, .inl (cI, 8, .inl (fun _ => 0))), (q2, .inl (cI, 8, .inl (fun _ => 0))), (q3, .inl (cI, 8, .inl (fun _ => 0))), (q4, .inl (cI, 8, .inl (fun _ => 0))), (q5, .inl (cI, 8, .inl (fun _ => 0)))]) rfl ?_
  refine k_put (q0 := 0) X dH_init_76 fH_46 hK hin (fun _ _ _ hc => by cases hc; rfl) rfl (Nat.le_of_ble_eq_true rfl) (by first | rfl | decide) (by first | rfl | decide) ?_
  refine k_ws (ws2 := [(h0, .inr (1, [.int 0, .int 0, .int (-1), .int (-1), .int 1, .int 0, .int 0, .ref q1, .ref q2, .ref q3, .ref q4, .ref q5])), (q1, .inl (cI, 8, .inl (fun _ => 0))), (q2, .inl (cI, 8, .inl (fun _ => 0))), (q3, .inl (cI, 8, .inl (fun _ => 0))), (q4, .inl (cI, 8, .inl (fun _ => 0))), (q5, .inl (cI, 8, .inl (fun _ => 0)))]) rfl ?_
  exact k_ret (fun j => ([h0, q1, q2, q3, q4, q5] : List Nat).getD j 0) X dH_init_79 hr hlk rfl (hK.sub [] rfl) rfl (Nat.le_of_ble_eq_true rfl) (Nat.le_of_ble_eq_true rfl)
set_option maxRecDepth 20000 in
set_option maxHeartbeats 4000000 in
theorem cT_init (l : Launch) (D : va_G) (cI : ClassId) : CRes l T_init 1 120 D cI 3 [.null, .int 0, .int 0, .int 0, .int 0] ETr (fun u : Nat → Nat => u 0) (eT cI) (fun _ => []) := by
  refine CRes.of (by decide) rfl (by decide) ?_
  intro p e s m args below meth c h0 A X hin hr hlk hK hE
  refine k_aload X dT_init_0 rfl ?_
  refine k_obj X dT_init_1 (LTm 155 (by decide +kernel) rfl) (Nat.le_of_ble_eq_true rfl) (Nat.le_of_ble_eq_true rfl) ?_
  refine k_aload X dT_init_4 rfl ?_
  refine k_bipush (v := 120) X dT_init_5 (by decide) ?_
  refine k_newa (N := 120) X dT_init_7 hK (by decide) (by decide) (Nat.le_of_ble_eq_true rfl) (Nat.le_of_ble_eq_true rfl) (fun q1 => ?_)
  refine k_ws (ws2 := [(h0, .inr (3, [.null, .int 0, .int 0, .int 0, .int 0])), (q1, .inl (cI, 120, .inl (fun _ => 0)))]) rfl ?_
  refine k_put (q0 := 0) X dT_init_9 fT_9 hK hin (fun _ _ _ hc => by cases hc; rfl) rfl (Nat.le_of_ble_eq_true rfl) (by first | rfl | decide) (by first | rfl | decide) ?_
  refine k_ws (ws2 := [(h0, .inr (3, [.ref q1, .int 0, .int 0, .int 0, .int 0])), (q1, .inl (cI, 120, .inl (fun _ => 0)))]) rfl ?_
  refine k_aload X dT_init_12 rfl ?_
  refine k_iconst (v := 0) X dT_init_13 (by decide) ?_
  refine k_put (q0 := 0) X dT_init_14 fT_15 hK hin (fun _ _ _ hc => by cases hc; rfl) rfl (Nat.le_of_ble_eq_true rfl) (by first | rfl | decide) (by first | rfl | decide) ?_
  refine k_ws (ws2 := [(h0, .inr (3, [.ref q1, .int 0, .int 0, .int 0, .int 0])), (q1, .inl (cI, 120, .inl (fun _ => 0)))]) rfl ?_
  refine k_aload X dT_init_17 rfl ?_
  refine k_iconst (v := 0) X dT_init_18 (by decide) ?_
  refine k_put (q0 := 0) X dT_init_19 fT_19 hK hin (fun _ _ _ hc => by cases hc; rfl) rfl (Nat.le_of_ble_eq_true rfl) (by first | rfl | decide) (by first | rfl | decide) ?_
  refine k_ws (ws2 := [(h0, .inr (3, [.ref q1, .int 0, .int 0, .int 0, .int 0])), (q1, .inl (cI, 120, .inl (fun _ => 0)))]) rfl ?_
  refine k_aload X dT_init_22 rfl ?_
  refine k_iconst (v := 0) X dT_init_23 (by decide) ?_
  refine k_put (q0 := 0) X dT_init_24 fT_22 hK hin (fun _ _ _ hc => by cases hc; rfl) rfl (Nat.le_of_ble_eq_true rfl) (by first | rfl | decide) (by first | rfl | decide) ?_
  refine k_ws (ws2 := [(h0, .inr (3, [.ref q1, .int 0, .int 0, .int 0, .int 0])), (q1, .inl (cI, 120, .inl (fun _ => 0)))]) rfl ?_
  refine k_aload X dT_init_27 rfl ?_
  refine k_iconst (v := 0) X dT_init_28 (by decide) ?_
  refine k_put (q0 := 0) X dT_init_29 fT_25 hK hin (fun _ _ _ hc => by cases hc; rfl) rfl (Nat.le_of_ble_eq_true rfl) (by first | rfl | decide) (by first | rfl | decide) ?_
  refine k_ws (ws2 := [(h0, .inr (3, [.ref q1, .int 0, .int 0, .int 0, .int 0])), (q1, .inl (cI, 120, .inl (fun _ => 0)))]) rfl ?_
  exact k_ret (fun j => ([h0, q1] : List Nat).getD j 0) X dT_init_32 hr hlk rfl (hK.sub [] rfl) rfl (Nat.le_of_ble_eq_true rfl) (Nat.le_of_ble_eq_true rfl)
set_option maxRecDepth 20000 in
set_option maxHeartbeats 4000000 in
theorem cE_init (l : Launch) (D : va_G) (cI : ClassId) : CRes l E_init 1 40 D cI 2 [.int 0, .int 0, .null] ETr (fun u : Nat → Nat => u 0) (eE cI) (fun _ => []) := by
  refine CRes.of (by decide) rfl (by decide) ?_
  intro p e s m args below meth c h0 A X hin hr hlk hK hE
  refine k_aload X dE_init_0 rfl ?_
  refine k_obj X dE_init_1 (LTm 179 (by decide +kernel) rfl) (Nat.le_of_ble_eq_true rfl) (Nat.le_of_ble_eq_true rfl) ?_
  refine k_aload X dE_init_4 rfl ?_
  refine k_iconst (v := 0) X dE_init_5 (by decide) ?_
  refine k_put (q0 := 0) X dE_init_6 fE_9 hK hin (fun _ _ _ hc => by cases hc; rfl) rfl (Nat.le_of_ble_eq_true rfl) (by first | rfl | decide) (by first | rfl | decide) ?_
  refine k_ws (ws2 := [(h0, .inr (2, [.int 0, .int 0, .null]))]) rfl ?_
  refine k_aload X dE_init_9 rfl ?_
  refine k_iconst (v := 0) X dE_init_10 (by decide) ?_
  refine k_put (q0 := 0) X dE_init_11 fE_15 hK hin (fun _ _ _ hc => by cases hc; rfl) rfl (Nat.le_of_ble_eq_true rfl) (by first | rfl | decide) (by first | rfl | decide) ?_
  refine k_ws (ws2 := [(h0, .inr (2, [.int 0, .int 0, .null]))]) rfl ?_
  refine k_aload X dE_init_14 rfl ?_
  refine k_bipush (v := 40) X dE_init_15 (by decide) ?_
  refine k_newa (N := 40) X dE_init_17 hK (by decide) (by decide) (Nat.le_of_ble_eq_true rfl) (Nat.le_of_ble_eq_true rfl) (fun q1 => ?_)
  refine k_ws (ws2 := [(h0, .inr (2, [.int 0, .int 0, .null])), (q1, .inl (cI, 40, .inl (fun _ => 0)))]) rfl ?_
  refine k_put (q0 := 0) X dE_init_19 fE_18 hK hin (fun _ _ _ hc => by cases hc; rfl) rfl (Nat.le_of_ble_eq_true rfl) (by first | rfl | decide) (by first | rfl | decide) ?_
  refine k_ws (ws2 := [(h0, .inr (2, [.int 0, .int 0, .ref q1])), (q1, .inl (cI, 40, .inl (fun _ => 0)))]) rfl ?_
  exact k_ret (fun j => ([h0, q1] : List Nat).getD j 0) X dE_init_22 hr hlk rfl (hK.sub [] rfl) rfl (Nat.le_of_ble_eq_true rfl) (Nat.le_of_ble_eq_true rfl)
