set_option maxRecDepth 20000 in
set_option maxHeartbeats 4000000 in
theorem cQ_init (l : Launch) (D : va_G) (cI : ClassId) (str : Nat → Nat) : CRes l Q_init 14 997 D cI 4 [.null, .null, .null, .int 0, .null, .int 0, .null, .int 0, .int 0, .int 0, .int 0, .int 0, .int 0, .null, .null, .null, .null, .null, .int 0, .int 0, .null, .null, .null, .null] (EQs str) (fun u : (Nat → Nat) × ClassId => u.1 0) (eQ9 D cI str) (fun u => [(u.2, .object "java/lang/String")]) := by
  refine CRes.of (by decide) rfl (by decide) ?_
  intro p e s m args below meth c h0 A X hin hr hlk hK hE
  refine k_aload X dQ_init_0 rfl ?_
  refine k_obj X dQ_init_1 (LTm 763 (by decide +kernel) rfl) (Nat.le_of_ble_eq_true rfl) (Nat.le_of_ble_eq_true rfl) ?_
  refine k_aload X dQ_init_4 rfl ?_
  refine k_bipush (v := 58) X dQ_init_5 (by decide) ?_
  refine k_newa (N := 58) X dQ_init_7 hK (by decide) (by decide) (Nat.le_of_ble_eq_true rfl) (Nat.le_of_ble_eq_true rfl) (fun q1 => ?_)
  refine k_ws (ws2 := [(h0, .inr (4, [.null, .null, .null, .int 0, .null, .int 0, .null, .int 0, .int 0, .int 0, .int 0, .int 0, .int 0, .null, .null, .null, .null, .null, .int 0, .int 0, .null, .null, .null, .null])), (q1, .inl (cI, 58, .inl (fun _ => 0)))]) rfl ?_
  refine k_put (q0 := 0) X dQ_init_9 fQ_9 hK hin (fun _ _ _ hc => by cases hc; rfl) rfl (Nat.le_of_ble_eq_true rfl) (by first | rfl | decide) (by first | rfl | decide) ?_
  refine k_ws (ws2 := [(h0, .inr (4, [.ref q1, .null, .null, .int 0, .null, .int 0, .null, .int 0, .int 0, .int 0, .int 0, .int 0, .int 0, .null, .null, .null, .null, .null, .int 0, .int 0, .null, .null, .null, .null])), (q1, .inl (cI, 58, .inl (fun _ => 0)))]) rfl ?_
  refine k_aload X dQ_init_12 rfl ?_
  refine k_bipush (v := 58) X dQ_init_13 (by decide) ?_
  refine k_newa (N := 58) X dQ_init_15 hK (by decide) (by decide) (Nat.le_of_ble_eq_true rfl) (Nat.le_of_ble_eq_true rfl) (fun q2 => ?_)
  refine k_ws (ws2 := [(h0, .inr (4, [.ref q1, .null, .null, .int 0, .null, .int 0, .null, .int 0, .int 0, .int 0, .int 0, .int 0, .int 0, .null, .null, .null, .null, .null, .int 0, .int 0, .null, .null, .null, .null])), (q1, .inl (cI, 58, .inl (fun _ => 0))), (q2, .inl (cI, 58, .inl (fun _ => 0)))]) rfl ?_
  refine k_put (q0 := 0) X dQ_init_17 fQ_13 hK hin (fun _ _ _ hc => by cases hc; rfl) rfl (Nat.le_of_ble_eq_true rfl) (by first | rfl | decide) (by first | rfl | decide) ?_
  refine k_ws (ws2 := [(h0, .inr (4, [.ref q1, .ref q2, .null, .int 0, .null, .int 0, .null, .int 0, .int 0, .int 0, .int 0, .int 0, .int 0, .null, .null, .null, .null, .null, .int 0, .int 0, .null, .null, .null, .null])), (q1, .inl (cI, 58, .inl (fun _ => 0))), (q2, .inl (cI, 58, .inl (fun _ => 0)))]) rfl ?_
  refine k_aload X dQ_init_20 rfl ?_
  refine k_bipush (v := 58) X dQ_init_21 (by decide) ?_
  refine k_newa (N := 58) X dQ_init_23 hK (by decide) (by decide) (Nat.le_of_ble_eq_true rfl) (Nat.le_of_ble_eq_true rfl) (fun q3 => ?_)
  refine k_ws (ws2 := [(h0, .inr (4, [.ref q1, .ref q2, .null, .int 0, .null, .int 0, .null, .int 0, .int 0, .int 0, .int 0, .int 0, .int 0, .null, .null, .null, .null, .null, .int 0, .int 0, .null, .null, .null, .null])), (q1, .inl (cI, 58, .inl (fun _ => 0))), (q2, .inl (cI, 58, .inl (fun _ => 0))), (q3, .inl (cI, 58, .inl (fun _ => 0)))]) rfl ?_
  refine k_put (q0 := 0) X dQ_init_25 fQ_16 hK hin (fun _ _ _ hc => by cases hc; rfl) rfl (Nat.le_of_ble_eq_true rfl) (by first | rfl | decide) (by first | rfl | decide) ?_
  refine k_ws (ws2 := [(h0, .inr (4, [.ref q1, .ref q2, .ref q3, .int 0, .null, .int 0, .null, .int 0, .int 0, .int 0, .int 0, .int 0, .int 0, .null, .null, .null, .null, .null, .int 0, .int 0, .null, .null, .null, .null])), (q1, .inl (cI, 58, .inl (fun _ => 0))), (q2, .inl (cI, 58, .inl (fun _ => 0))), (q3, .inl (cI, 58, .inl (fun _ => 0)))]) rfl ?_
  refine k_aload X dQ_init_28 rfl ?_
  refine k_bipush (v := 8) X dQ_init_29 (by decide) ?_
  refine k_newa (N := 8) X dQ_init_31 hK (by decide) (by decide) (Nat.le_of_ble_eq_true rfl) (Nat.le_of_ble_eq_true rfl) (fun q4 => ?_)
  refine k_ws (ws2 := [(h0, .inr (4, [.ref q1, .ref q2, .ref q3, .int 0, .null, .int 0, .null, .int 0, .int 0, .int 0, .int 0, .int 0, .int 0, .null, .null, .null, .null, .null, .int 0, .int 0, .null, .null, .null, .null])), (q1, .inl (cI, 58, .inl (fun _ => 0))), (q2, .inl (cI, 58, .inl (fun _ => 0))), (q3, .inl (cI, 58, .inl (fun _ => 0))), (q4, .inl (cI, 8, .inl (fun _ => 0)))]) rfl ?_
  refine k_put (q0 := 0) X dQ_init_33 fQ_19 hK hin (fun _ _ _ hc => by cases hc; rfl) rfl (Nat.le_of_ble_eq_true rfl) (by first | rfl | decide) (by first | rfl | decide) ?_
  refine k_ws (ws2 := [(h0, .inr (4, [.ref q1, .ref q2, .ref q3, .int 0, .ref q4, .int 0, .null, .int 0, .int 0, .int 0, .int 0, .int 0, .int 0, .null, .null, .null, .null, .null, .int 0, .int 0, .null, .null, .null, .null])), (q1, .inl (cI, 58, .inl (fun _ => 0))), (q2, .inl (cI, 58, .inl (fun _ => 0))), (q3, .inl (cI, 58, .inl (fun _ => 0))), (q4, .inl (cI, 8, .inl (fun _ => 0)))]) rfl ?_
  refine k_aload X dQ_init_36 rfl ?_
  refine k_bipush (v := 120) X dQ_init_37 (by decide) ?_
  refine k_newa (N := 120) X dQ_init_39 hK (by decide) (by decide) (Nat.le_of_ble_eq_true rfl) (Nat.le_of_ble_eq_true rfl) (fun q5 => ?_)
  refine k_ws (ws2 := [(h0, .inr (4, [.ref q1, .ref q2, .ref q3, .int 0, .ref q4, .int 0, .null, .int 0, .int 0, .int 0, .int 0, .int 0, .int 0, .null, .null, .null, .null, .null, .int 0, .int 0, .null, .null, .null, .null])), (q1, .inl (cI, 58, .inl (fun _ => 0))), (q2, .inl (cI, 58, .inl (fun _ => 0))), (q3, .inl (cI, 58, .inl (fun _ => 0))), (q4, .inl (cI, 8, .inl (fun _ => 0))), (q5, .inl (cI, 120, .inl (fun _ => 0)))]) rfl ?_
  refine k_put (q0 := 0) X dQ_init_41 fQ_22 hK hin (fun _ _ _ hc => by cases hc; rfl) rfl (Nat.le_of_ble_eq_true rfl) (by first | rfl | decide) (by first | rfl | decide) ?_
  refine k_ws (ws2 := [(h0, .inr (4, [.ref q1, .ref q2, .ref q3, .int 0, .ref q4, .int 0, .ref q5, .int 0, .int 0, .int 0, .int 0, .int 0, .int 0, .null, .null, .null, .null, .null, .int 0, .int 0, .null, .null, .null, .null])), (q1, .inl (cI, 58, .inl (fun _ => 0))), (q2, .inl (cI, 58, .inl (fun _ => 0))), (q3, .inl (cI, 58, .inl (fun _ => 0))), (q4, .inl (cI, 8, .inl (fun _ => 0))), (q5, .inl (cI, 120, .inl (fun _ => 0)))]) rfl ?_
  refine k_aload X dQ_init_44 rfl ?_
  refine k_bipush (v := 7) X dQ_init_45 (by decide) ?_
  refine k_newq (C := "java/lang/String") (N := 7) X dQ_init_47 ⟨LTm 764 (by decide +kernel) rfl, hE.2.2⟩ hK (by decide) (by decide) (Nat.le_of_ble_eq_true rfl) (Nat.le_of_ble_eq_true rfl) (fun q6 cA9 hK9 => ?_)
  have hK9 : va_K D cls [(cI, .int), (cA9, .object "java/lang/String")] s := hK9
  refine k_dup X dQ_init_50 rfl ?_
  refine k_iconst (v := 0) X dQ_init_51 (by decide) ?_
  refine k_ldcS X dQ_init_52 (hE.1 _ _ 0 (by decide) fQ_27) ?_
  refine k_astS (q0 := 6) (t0 := 1) (j := 0) X dQ_init_54 hK9 rfl rfl (hE.2.1 0 (by decide)) (by decide) (by decide) (by decide) ?_
  refine k_ws (ws2 := [(h0, .inr (4, [.ref q1, .ref q2, .ref q3, .int 0, .ref q4, .int 0, .ref q5, .int 0, .int 0, .int 0, .int 0, .int 0, .int 0, .null, .null, .null, .null, .null, .int 0, .int 0, .null, .null, .null, .null])), (q1, .inl (cI, 58, .inl (fun _ => 0))), (q2, .inl (cI, 58, .inl (fun _ => 0))), (q3, .inl (cI, 58, .inl (fun _ => 0))), (q4, .inl (cI, 8, .inl (fun _ => 0))), (q5, .inl (cI, 120, .inl (fun _ => 0))), (q6, .inl (cA9, 7, .inr (.inr (.inr (.inr (va_up (fun _ => none) 0 (some (str 0))))))))]) rfl ?_
  refine k_dup X dQ_init_55 rfl ?_
  refine k_iconst (v := 1) X dQ_init_56 (by decide) ?_
  refine k_ldcS X dQ_init_57 (hE.1 _ _ 1 (by decide) fQ_29) ?_
  refine k_astS (q0 := 6) (t0 := 1) (j := 1) X dQ_init_59 hK9 rfl rfl (hE.2.1 1 (by decide)) (by decide) (by decide) (by decide) ?_
  refine k_ws (ws2 := [(h0, .inr (4, [.ref q1, .ref q2, .ref q3, .int 0, .ref q4, .int 0, .ref q5, .int 0, .int 0, .int 0, .int 0, .int 0, .int 0, .null, .null, .null, .null, .null, .int 0, .int 0, .null, .null, .null, .null])), (q1, .inl (cI, 58, .inl (fun _ => 0))), (q2, .inl (cI, 58, .inl (fun _ => 0))), (q3, .inl (cI, 58, .inl (fun _ => 0))), (q4, .inl (cI, 8, .inl (fun _ => 0))), (q5, .inl (cI, 120, .inl (fun _ => 0))), (q6, .inl (cA9, 7, .inr (.inr (.inr (.inr (va_up (va_up (fun _ => none) 0 (some (str 0))) 1 (some (str 1))))))))]) rfl ?_
  refine k_dup X dQ_init_60 rfl ?_
  refine k_iconst (v := 2) X dQ_init_61 (by decide) ?_
  refine k_ldcS X dQ_init_62 (hE.1 _ _ 2 (by decide) fQ_31) ?_
  refine k_astS (q0 := 6) (t0 := 1) (j := 2) X dQ_init_64 hK9 rfl rfl (hE.2.1 2 (by decide)) (by decide) (by decide) (by decide) ?_
  refine k_ws (ws2 := [(h0, .inr (4, [.ref q1, .ref q2, .ref q3, .int 0, .ref q4, .int 0, .ref q5, .int 0, .int 0, .int 0, .int 0, .int 0, .int 0, .null, .null, .null, .null, .null, .int 0, .int 0, .null, .null, .null, .null])), (q1, .inl (cI, 58, .inl (fun _ => 0))), (q2, .inl (cI, 58, .inl (fun _ => 0))), (q3, .inl (cI, 58, .inl (fun _ => 0))), (q4, .inl (cI, 8, .inl (fun _ => 0))), (q5, .inl (cI, 120, .inl (fun _ => 0))), (q6, .inl (cA9, 7, .inr (.inr (.inr (.inr (va_up (va_up (va_up (fun _ => none) 0 (some (str 0))) 1 (some (str 1))) 2 (some (str 2))))))))]) rfl ?_
  refine k_dup X dQ_init_65 rfl ?_
  refine k_iconst (v := 3) X dQ_init_66 (by decide) ?_
  refine k_ldcS X dQ_init_67 (hE.1 _ _ 3 (by decide) fQ_33) ?_
  refine k_astS (q0 := 6) (t0 := 1) (j := 3) X dQ_init_69 hK9 rfl rfl (hE.2.1 3 (by decide)) (by decide) (by decide) (by decide) ?_
  refine k_ws (ws2 := [(h0, .inr (4, [.ref q1, .ref q2, .ref q3, .int 0, .ref q4, .int 0, .ref q5, .int 0, .int 0, .int 0, .int 0, .int 0, .int 0, .null, .null, .null, .null, .null, .int 0, .int 0, .null, .null, .null, .null])), (q1, .inl (cI, 58, .inl (fun _ => 0))), (q2, .inl (cI, 58, .inl (fun _ => 0))), (q3, .inl (cI, 58, .inl (fun _ => 0))), (q4, .inl (cI, 8, .inl (fun _ => 0))), (q5, .inl (cI, 120, .inl (fun _ => 0))), (q6, .inl (cA9, 7, .inr (.inr (.inr (.inr (va_up (va_up (va_up (va_up (fun _ => none) 0 (some (str 0))) 1 (some (str 1))) 2 (some (str 2))) 3 (some (str 3))))))))]) rfl ?_
  refine k_dup X dQ_init_70 rfl ?_
  refine k_iconst (v := 4) X dQ_init_71 (by decide) ?_
  refine k_ldcS X dQ_init_72 (hE.1 _ _ 4 (by decide) fQ_35) ?_
  refine k_astS (q0 := 6) (t0 := 1) (j := 4) X dQ_init_74 hK9 rfl rfl (hE.2.1 4 (by decide)) (by decide) (by decide) (by decide) ?_
  refine k_ws (ws2 := [(h0, .inr (4, [.ref q1, .ref q2, .ref q3, .int 0, .ref q4, .int 0, .ref q5, .int 0, .int 0, .int 0, .int 0, .int 0, .int 0, .null, .null, .null, .null, .null, .int 0, .int 0, .null, .null, .null, .null])), (q1, .inl (cI, 58, .inl (fun _ => 0))), (q2, .inl (cI, 58, .inl (fun _ => 0))), (q3, .inl (cI, 58, .inl (fun _ => 0))), (q4, .inl (cI, 8, .inl (fun _ => 0))), (q5, .inl (cI, 120, .inl (fun _ => 0))), (q6, .inl (cA9, 7, .inr (.inr (.inr (.inr (va_up (va_up (va_up (va_up (va_up (fun _ => none) 0 (some (str 0))) 1 (some (str 1))) 2 (some (str 2))) 3 (some (str 3))) 4 (some (str 4))))))))]) rfl ?_
  refine k_dup X dQ_init_75 rfl ?_
  refine k_iconst (v := 5) X dQ_init_76 (by decide) ?_
  refine k_ldcS X dQ_init_77 (hE.1 _ _ 5 (by decide) fQ_37) ?_
  refine k_astS (q0 := 6) (t0 := 1) (j := 5) X dQ_init_79 hK9 rfl rfl (hE.2.1 5 (by decide)) (by decide) (by decide) (by decide) ?_
  refine k_ws (ws2 := [(h0, .inr (4, [.ref q1, .ref q2, .ref q3, .int 0, .ref q4, .int 0, .ref q5, .int 0, .int 0, .int 0, .int 0, .int 0, .int 0, .null, .null, .null, .null, .null, .int 0, .int 0, .null, .null, .null, .null])), (q1, .inl (cI, 58, .inl (fun _ => 0))), (q2, .inl (cI, 58, .inl (fun _ => 0))), (q3, .inl (cI, 58, .inl (fun _ => 0))), (q4, .inl (cI, 8, .inl (fun _ => 0))), (q5, .inl (cI, 120, .inl (fun _ => 0))), (q6, .inl (cA9, 7, .inr (.inr (.inr (.inr (va_up (va_up (va_up (va_up (va_up (va_up (fun _ => none) 0 (some (str 0))) 1 (some (str 1))) 2 (some (str 2))) 3 (some (str 3))) 4 (some (str 4))) 5 (some (str 5))))))))]) rfl ?_
  refine k_dup X dQ_init_80 rfl ?_
  refine k_bipush (v := 6) X dQ_init_81 (by decide) ?_
  refine k_ldcS X dQ_init_83 (hE.1 _ _ 6 (by decide) fQ_39) ?_
  refine k_astS (q0 := 6) (t0 := 1) (j := 6) X dQ_init_85 hK9 rfl rfl (hE.2.1 6 (by decide)) (by decide) (by decide) (by decide) ?_
  refine k_ws (ws2 := [(h0, .inr (4, [.ref q1, .ref q2, .ref q3, .int 0, .ref q4, .int 0, .ref q5, .int 0, .int 0, .int 0, .int 0, .int 0, .int 0, .null, .null, .null, .null, .null, .int 0, .int 0, .null, .null, .null, .null])), (q1, .inl (cI, 58, .inl (fun _ => 0))), (q2, .inl (cI, 58, .inl (fun _ => 0))), (q3, .inl (cI, 58, .inl (fun _ => 0))), (q4, .inl (cI, 8, .inl (fun _ => 0))), (q5, .inl (cI, 120, .inl (fun _ => 0))), (q6, .inl (cA9, 7, .inr (.inr (.inr (.inr (va_up (va_up (va_up (va_up (va_up (va_up (va_up (fun _ => none) 0 (some (str 0))) 1 (some (str 1))) 2 (some (str 2))) 3 (some (str 3))) 4 (some (str 4))) 5 (some (str 5))) 6 (some (str 6))))))))]) rfl ?_
  refine k_put (q0 := 0) X dQ_init_86 fQ_41 hK hin (fun _ _ _ hc => by cases hc; rfl) rfl (Nat.le_of_ble_eq_true rfl) (by first | rfl | decide) (by first | rfl | decide) ?_
  refine k_ws (ws2 := [(h0, .inr (4, [.ref q1, .ref q2, .ref q3, .int 0, .ref q4, .int 0, .ref q5, .int 0, .int 0, .int 0, .int 0, .int 0, .int 0, .ref q6, .null, .null, .null, .null, .int 0, .int 0, .null, .null, .null, .null])), (q1, .inl (cI, 58, .inl (fun _ => 0))), (q2, .inl (cI, 58, .inl (fun _ => 0))), (q3, .inl (cI, 58, .inl (fun _ => 0))), (q4, .inl (cI, 8, .inl (fun _ => 0))), (q5, .inl (cI, 120, .inl (fun _ => 0))), (q6, .inl (cA9, 7, .inr (.inr (.inr (.inr (va_up (va_up (va_up (va_up (va_up (va_up (va_up (fun _ => none) 0 (some (str 0))) 1 (some (str 1))) 2 (some (str 2))) 3 (some (str 3))) 4 (some (str 4))) 5 (some (str 5))) 6 (some (str 6))))))))]) rfl ?_
  refine k_aload X dQ_init_89 rfl ?_
  refine k_bipush (v := 120) X dQ_init_90 (by decide) ?_
  refine k_newa (N := 120) X dQ_init_92 hK (by decide) (by decide) (Nat.le_of_ble_eq_true rfl) (Nat.le_of_ble_eq_true rfl) (fun q7 => ?_)
  refine k_ws (ws2 := [(h0, .inr (4, [.ref q1, .ref q2, .ref q3, .int 0, .ref q4, .int 0, .ref q5, .int 0, .int 0, .int 0, .int 0, .int 0, .int 0, .ref q6, .null, .null, .null, .null, .int 0, .int 0, .null, .null, .null, .null])), (q1, .inl (cI, 58, .inl (fun _ => 0))), (q2, .inl (cI, 58, .inl (fun _ => 0))), (q3, .inl (cI, 58, .inl (fun _ => 0))), (q4, .inl (cI, 8, .inl (fun _ => 0))), (q5, .inl (cI, 120, .inl (fun _ => 0))), (q6, .inl (cA9, 7, .inr (.inr (.inr (.inr (va_up (va_up (va_up (va_up (va_up (va_up (va_up (fun _ => none) 0 (some (str 0))) 1 (some (str 1))) 2 (some (str 2))) 3 (some (str 3))) 4 (some (str 4))) 5 (some (str 5))) 6 (some (str 6)))))))), (q7, .inl (cI, 120, .inl (fun _ => 0)))]) rfl ?_
  refine k_put (q0 := 0) X dQ_init_94 fQ_45 hK hin (fun _ _ _ hc => by cases hc; rfl) rfl (Nat.le_of_ble_eq_true rfl) (by first | rfl | decide) (by first | rfl | decide) ?_
  refine k_ws (ws2 := [(h0, .inr (4, [.ref q1, .ref q2, .ref q3, .int 0, .ref q4, .int 0, .ref q5, .int 0, .int 0, .int 0, .int 0, .int 0, .int 0, .ref q6, .ref q7, .null, .null, .null, .int 0, .int 0, .null, .null, .null, .null])), (q1, .inl (cI, 58, .inl (fun _ => 0))), (q2, .inl (cI, 58, .inl (fun _ => 0))), (q3, .inl (cI, 58, .inl (fun _ => 0))), (q4, .inl (cI, 8, .inl (fun _ => 0))), (q5, .inl (cI, 120, .inl (fun _ => 0))), (q6, .inl (cA9, 7, .inr (.inr (.inr (.inr (va_up (va_up (va_up (va_up (va_up (va_up (va_up (fun _ => none) 0 (some (str 0))) 1 (some (str 1))) 2 (some (str 2))) 3 (some (str 3))) 4 (some (str 4))) 5 (some (str 5))) 6 (some (str 6)))))))), (q7, .inl (cI, 120, .inl (fun _ => 0)))]) rfl ?_
  refine k_aload X dQ_init_97 rfl ?_
  refine k_bipush (v := 120) X dQ_init_98 (by decide) ?_
  refine k_newa (N := 120) X dQ_init_100 hK (by decide) (by decide) (Nat.le_of_ble_eq_true rfl) (Nat.le_of_ble_eq_true rfl) (fun q8 => ?_)
  refine k_ws (ws2 := [(h0, .inr (4, [.ref q1, .ref q2, .ref q3, .int 0, .ref q4, .int 0, .ref q5, .int 0, .int 0, .int 0, .int 0, .int 0, .int 0, .ref q6, .ref q7, .null, .null, .null, .int 0, .int 0, .null, .null, .null, .null])), (q1, .inl (cI, 58, .inl (fun _ => 0))), (q2, .inl (cI, 58, .inl (fun _ => 0))), (q3, .inl (cI, 58, .inl (fun _ => 0))), (q4, .inl (cI, 8, .inl (fun _ => 0))), (q5, .inl (cI, 120, .inl (fun _ => 0))), (q6, .inl (cA9, 7, .inr (.inr (.inr (.inr (va_up (va_up (va_up (va_up (va_up (va_up (va_up (fun _ => none) 0 (some (str 0))) 1 (some (str 1))) 2 (some (str 2))) 3 (some (str 3))) 4 (some (str 4))) 5 (some (str 5))) 6 (some (str 6)))))))), (q7, .inl (cI, 120, .inl (fun _ => 0))), (q8, .inl (cI, 120, .inl (fun _ => 0)))]) rfl ?_
  refine k_put (q0 := 0) X dQ_init_102 fQ_48 hK hin (fun _ _ _ hc => by cases hc; rfl) rfl (Nat.le_of_ble_eq_true rfl) (by first | rfl | decide) (by first | rfl | decide) ?_
  refine k_ws (ws2 := [(h0, .inr (4, [.ref q1, .ref q2, .ref q3, .int 0, .ref q4, .int 0, .ref q5, .int 0, .int 0, .int 0, .int 0, .int 0, .int 0, .ref q6, .ref q7, .ref q8, .null, .null, .int 0, .int 0, .null, .null, .null, .null])), (q1, .inl (cI, 58, .inl (fun _ => 0))), (q2, .inl (cI, 58, .inl (fun _ => 0))), (q3, .inl (cI, 58, .inl (fun _ => 0))), (q4, .inl (cI, 8, .inl (fun _ => 0))), (q5, .inl (cI, 120, .inl (fun _ => 0))), (q6, .inl (cA9, 7, .inr (.inr (.inr (.inr (va_up (va_up (va_up (va_up (va_up (va_up (va_up (fun _ => none) 0 (some (str 0))) 1 (some (str 1))) 2 (some (str 2))) 3 (some (str 3))) 4 (some (str 4))) 5 (some (str 5))) 6 (some (str 6)))))))), (q7, .inl (cI, 120, .inl (fun _ => 0))), (q8, .inl (cI, 120, .inl (fun _ => 0)))]) rfl ?_
  refine k_aload X dQ_init_105 rfl ?_
  refine k_bipush (v := 120) X dQ_init_106 (by decide) ?_
  refine k_newa (N := 120) X dQ_init_108 hK (by decide) (by decide) (Nat.le_of_ble_eq_true rfl) (Nat.le_of_ble_eq_true rfl) (fun q9 => ?_)
  refine k_ws (ws2 := [(h0, .inr (4, [.ref q1, .ref q2, .ref q3, .int 0, .ref q4, .int 0, .ref q5, .int 0, .int 0, .int 0, .int 0, .int 0, .int 0, .ref q6, .ref q7, .ref q8, .null, .null, .int 0, .int 0, .null, .null, .null, .null])), (q1, .inl (cI, 58, .inl (fun _ => 0))), (q2, .inl (cI, 58, .inl (fun _ => 0))), (q3, .inl (cI, 58, .inl (fun _ => 0))), (q4, .inl (cI, 8, .inl (fun _ => 0))), (q5, .inl (cI, 120, .inl (fun _ => 0))), (q6, .inl (cA9, 7, .inr (.inr (.inr (.inr (va_up (va_up (va_up (va_up (va_up (va_up (va_up (fun _ => none) 0 (some (str 0))) 1 (some (str 1))) 2 (some (str 2))) 3 (some (str 3))) 4 (some (str 4))) 5 (some (str 5))) 6 (some (str 6)))))))), (q7, .inl (cI, 120, .inl (fun _ => 0))), (q8, .inl (cI, 120, .inl (fun _ => 0))), (q9, .inl (cI, 120, .inl (fun _ => 0)))]) rfl ?_
  refine k_put (q0 := 0) X dQ_init_110 fQ_51 hK hin (fun _ _ _ hc => by cases hc; rfl) rfl (Nat.le_of_ble_eq_true rfl) (by first | rfl | decide) (by first | rfl | decide) ?_
  refine k_ws (ws2 := [(h0, .inr (4, [.ref q1, .ref q2, .ref q3, .int 0, .ref q4, .int 0, .ref q5, .int 0, .int 0, .int 0, .int 0, .int 0, .int 0, .ref q6, .ref q7, .ref q8, .ref q9, .null, .int 0, .int 0, .null, .null, .null, .null])), (q1, .inl (cI, 58, .inl (fun _ => 0))), (q2, .inl (cI, 58, .inl (fun _ => 0))), (q3, .inl (cI, 58, .inl (fun _ => 0))), (q4, .inl (cI, 8, .inl (fun _ => 0))), (q5, .inl (cI, 120, .inl (fun _ => 0))), (q6, .inl (cA9, 7, .inr (.inr (.inr (.inr (va_up (va_up (va_up (va_up (va_up (va_up (va_up (fun _ => none) 0 (some (str 0))) 1 (some (str 1))) 2 (some (str 2))) 3 (some (str 3))) 4 (some (str 4))) 5 (some (str 5))) 6 (some (str 6)))))))), (q7, .inl (cI, 120, .inl (fun _ => 0))), (q8, .inl (cI, 120, .inl (fun _ => 0))), (q9, .inl (cI, 120, .inl (fun _ => 0)))]) rfl ?_
  refine k_aload X dQ_init_113 rfl ?_
  refine k_bipush (v := 120) X dQ_init_114 (by decide) ?_
  refine k_newa (N := 120) X dQ_init_116 hK (by decide) (by decide) (Nat.le_of_ble_eq_true rfl) (Nat.le_of_ble_eq_true rfl) (fun q10 => ?_)
  refine k_ws (ws2 := [(h0, .inr (4, [.ref q1, .ref q2, .ref q3, .int 0, .ref q4, .int 0, .ref q5, .int 0, .int 0, .int 0, .int 0, .int 0, .int 0, .ref q6, .ref q7, .ref q8, .ref q9, .null, .int 0, .int 0, .null, .null, .null, .null])), (q1, .inl (cI, 58, .inl (fun _ => 0))), (q2, .inl (cI, 58, .inl (fun _ => 0))), (q3, .inl (cI, 58, .inl (fun _ => 0))), (q4, .inl (cI, 8, .inl (fun _ => 0))), (q5, .inl (cI, 120, .inl (fun _ => 0))), (q6, .inl (cA9, 7, .inr (.inr (.inr (.inr (va_up (va_up (va_up (va_up (va_up (va_up (va_up (fun _ => none) 0 (some (str 0))) 1 (some (str 1))) 2 (some (str 2))) 3 (some (str 3))) 4 (some (str 4))) 5 (some (str 5))) 6 (some (str 6)))))))), (q7, .inl (cI, 120, .inl (fun _ => 0))), (q8, .inl (cI, 120, .inl (fun _ => 0))), (q9, .inl (cI, 120, .inl (fun _ => 0))), (q10, .inl (cI, 120, .inl (fun _ => 0)))]) rfl ?_
  refine k_put (q0 := 0) X dQ_init_118 fQ_54 hK hin (fun _ _ _ hc => by cases hc; rfl) rfl (Nat.le_of_ble_eq_true rfl) (by first | rfl | decide) (by first | rfl | decide) ?_
  refine k_ws (ws2 := [(h0, .inr (4, [.ref q1, .ref q2, .ref q3, .int 0, .ref q4, .int 0, .ref q5, .int 0, .int 0, .int 0, .int 0, .int 0, .int 0, .ref q6, .ref q7, .ref q8, .ref q9, .ref q10, .int 0, .int 0, .null, .null, .null, .null])), (q1, .inl (cI, 58, .inl (fun _ => 0))), (q2, .inl (cI, 58, .inl (fun _ => 0))), (q3, .inl (cI, 58, .inl (fun _ => 0))), (q4, .inl (cI, 8, .inl (fun _ => 0))), (q5, .inl (cI, 120, .inl (fun _ => 0))), (q6, .inl (cA9, 7, .inr (.inr (.inr (.inr (va_up (va_up (va_up (va_up (va_up (va_up (va_up (fun _ => none) 0 (some (str 0))) 1 (some (str 1))) 2 (some (str 2))) 3 (some (str 3))) 4 (some (str 4))) 5 (some (str 5))) 6 (some (str 6)))))))), (q7, .inl (cI, 120, .inl (fun _ => 0))), (q8, .inl (cI, 120, .inl (fun _ => 0))), (q9, .inl (cI, 120, .inl (fun _ => 0))), (q10, .inl (cI, 120, .inl (fun _ => 0)))]) rfl ?_
  refine k_aload X dQ_init_121 rfl ?_
  refine k_iconst (v := 4) X dQ_init_122 (by decide) ?_
  refine k_newa (N := 4) X dQ_init_123 hK (by decide) (by decide) (Nat.le_of_ble_eq_true rfl) (Nat.le_of_ble_eq_true rfl) (fun q11 => ?_)
  refine k_ws (ws2 := [(h0, .inr (4, [.ref q1, .ref q2, .ref q3, .int 0, .ref q4, .int 0, .ref q5, .int 0, .int 0, .int 0, .int 0, .int 0, .int 0, .ref q6, .ref q7, .ref q8, .ref q9, .ref q10, .int 0, .int 0, .null, .null, .null, .null])), (q1, .inl (cI, 58, .inl (fun _ => 0))), (q2, .inl (cI, 58, .inl (fun _ => 0))), (q3, .inl (cI, 58, .inl (fun _ => 0))), (q4, .inl (cI, 8, .inl (fun _ => 0))), (q5, .inl (cI, 120, .inl (fun _ => 0))), (q6, .inl (cA9, 7, .inr (.inr (.inr (.inr (va_up (va_up (va_up (va_up (va_up (va_up (va_up (fun _ => none) 0 (some (str 0))) 1 (some (str 1))) 2 (some (str 2))) 3 (some (str 3))) 4 (some (str 4))) 5 (some (str 5))) 6 (some (str 6)))))))), (q7, .inl (cI, 120, .inl (fun _ => 0))), (q8, .inl (cI, 120, .inl (fun _ => 0))), (q9, .inl (cI, 120, .inl (fun _ => 0))), (q10, .inl (cI, 120, .inl (fun _ => 0))), (q11, .inl (cI, 4, .inl (fun _ => 0)))]) rfl ?_
  refine k_put (q0 := 0) X dQ_init_125 fQ_57 hK hin (fun _ _ _ hc => by cases hc; rfl) rfl (Nat.le_of_ble_eq_true rfl) (by first | rfl | decide) (by first | rfl | decide) ?_
  refine k_ws (ws2 := [(h0, .inr (4, [.ref q1, .ref q2, .ref q3, .int 0, .ref q4, .int 0, .ref q5, .int 0, .int 0, .int 0, .int 0, .int 0, .int 0, .ref q6, .ref q7, .ref q8, .ref q9, .ref q10, .int 0, .int 0, .ref q11, .null, .null, .null])), (q1, .inl (cI, 58, .inl (fun _ => 0))), (q2, .inl (cI, 58, .inl (fun _ => 0))), (q3, .inl (cI, 58, .inl (fun _ => 0))), (q4, .inl (cI, 8, .inl (fun _ => 0))), (q5, .inl (cI, 120, .inl (fun _ => 0))), (q6, .inl (cA9, 7, .inr (.inr (.inr (.inr (va_up (va_up (va_up (va_up (va_up (va_up (va_up (fun _ => none) 0 (some (str 0))) 1 (some (str 1))) 2 (some (str 2))) 3 (some (str 3))) 4 (some (str 4))) 5 (some (str 5))) 6 (some (str 6)))))))), (q7, .inl (cI, 120, .inl (fun _ => 0))), (q8, .inl (cI, 120, .inl (fun _ => 0))), (q9, .inl (cI, 120, .inl (fun _ => 0))), (q10, .inl (cI, 120, .inl (fun _ => 0))), (q11, .inl (cI, 4, .inl (fun _ => 0)))]) rfl ?_
  refine k_aload X dQ_init_128 rfl ?_
  refine k_iconst (v := 4) X dQ_init_129 (by decide) ?_
  refine k_newa (N := 4) X dQ_init_130 hK (by decide) (by decide) (Nat.le_of_ble_eq_true rfl) (Nat.le_of_ble_eq_true rfl) (fun q12 => ?_)
  refine k_ws (ws2 := [(h0, .inr (4, [.ref q1, .ref q2, .ref q3, .int 0, .ref q4, .int 0, .ref q5, .int 0, .int 0, .int 0, .int 0, .int 0, .int 0, .ref q6, .ref q7, .ref q8, .ref q9, .ref q10, .int 0, .int 0, .ref q11, .null, .null, .null])), (q1, .inl (cI, 58, .inl (fun _ => 0))), (q2, .inl (cI, 58, .inl (fun _ => 0))), (q3, .inl (cI, 58, .inl (fun _ => 0))), (q4, .inl (cI, 8, .inl (fun _ => 0))), (q5, .inl (cI, 120, .inl (fun _ => 0))), (q6, .inl (cA9, 7, .inr (.inr (.inr (.inr (va_up (va_up (va_up (va_up (va_up (va_up (va_up (fun _ => none) 0 (some (str 0))) 1 (some (str 1))) 2 (some (str 2))) 3 (some (str 3))) 4 (some (str 4))) 5 (some (str 5))) 6 (some (str 6)))))))), (q7, .inl (cI, 120, .inl (fun _ => 0))), (q8, .inl (cI, 120, .inl (fun _ => 0))), (q9, .inl (cI, 120, .inl (fun _ => 0))), (q10, .inl (cI, 120, .inl (fun _ => 0))), (q11, .inl (cI, 4, .inl (fun _ => 0))), (q12, .inl (cI, 4, .inl (fun _ => 0)))]) rfl ?_
  refine k_put (q0 := 0) X dQ_init_132 fQ_60 hK hin (fun _ _ _ hc => by cases hc; rfl) rfl (Nat.le_of_ble_eq_true rfl) (by first | rfl | decide) (by first | rfl | decide) ?_
  refine k_ws (ws2 := [(h0, .inr (4, [.ref q1, .ref q2, .ref q3, .int 0, .ref q4, .int 0, .ref q5, .int 0, .int 0, .int 0, .int 0, .int 0, .int 0, .ref q6, .ref q7, .ref q8, .ref q9, .ref q10, .int 0, .int 0, .ref q11, .ref q12, .null, .null])), (q1, .inl (cI, 58, .inl (fun _ => 0))), (q2, .inl (cI, 58, .inl (fun _ => 0))), (q3, .inl (cI, 58, .inl (fun _ => 0))), (q4, .inl (cI, 8, .inl (fun _ => 0))), (q5, .inl (cI, 120, .inl (fun _ => 0))), (q6, .inl (cA9, 7, .inr (.inr (.inr (.inr (va_up (va_up (va_up (va_up (va_up (va_up (va_up (fun _ => none) 0 (some (str 0))) 1 (some (str 1))) 2 (some (str 2))) 3 (some (str 3))) 4 (some (str 4))) 5 (some (str 5))) 6 (some (str 6)))))))), (q7, .inl (cI, 120, .inl (fun _ => 0))), (q8, .inl (cI, 120, .inl (fun _ => 0))), (q9, .inl (cI, 120, .inl (fun _ => 0))), (q10, .inl (cI, 120, .inl (fun _ => 0))), (q11, .inl (cI, 4, .inl (fun _ => 0))), (q12, .inl (cI, 4, .inl (fun _ => 0)))]) rfl ?_
  refine k_aload X dQ_init_135 rfl ?_
  refine k_sipush (v := 160) X dQ_init_136 (by decide) ?_
  refine k_newa (N := 160) X dQ_init_139 hK (by decide) (by decide) (Nat.le_of_ble_eq_true rfl) (Nat.le_of_ble_eq_true rfl) (fun q13 => ?_)
  refine k_ws (ws2 := [(h0, .inr (4, [.ref q1, .ref q2, .ref q3, .int 0, .ref q4, .int 0, .ref q5, .int 0, .int 0, .int 0, .int 0, .int 0, .int 0, .ref q6, .ref q7, .ref q8, .ref q9, .ref q10, .int 0, .int 0, .ref q11, .ref q12, .null, .null])), (q1, .inl (cI, 58, .inl (fun _ => 0))), (q2, .inl (cI, 58, .inl (fun _ => 0))), (q3, .inl (cI, 58, .inl (fun _ => 0))), (q4, .inl (cI, 8, .inl (fun _ => 0))), (q5, .inl (cI, 120, .inl (fun _ => 0))), (q6, .inl (cA9, 7, .inr (.inr (.inr (.inr (va_up (va_up (va_up (va_up (va_up (va_up (va_up (fun _ => none) 0 (some (str 0))) 1 (some (str 1))) 2 (some (str 2))) 3 (some (str 3))) 4 (some (str 4))) 5 (some (str 5))) 6 (some (str 6)))))))), (q7, .inl (cI, 120, .inl (fun _ => 0))), (q8, .inl (cI, 120, .inl (fun _ => 0))), (q9, .inl (cI, 120, .inl (fun _ => 0))), (q10, .inl (cI, 120, .inl (fun _ => 0))), (q11, .inl (cI, 4, .inl (fun _ => 0))), (q12, .inl (cI, 4, .inl (fun _ => 0))), (q13, .inl (cI, 160, .inl (fun _ => 0)))]) rfl ?_
  refine k_put (q0 := 0) X dQ_init_141 fQ_63 hK hin (fun _ _ _ hc => by cases hc; rfl) rfl (Nat.le_of_ble_eq_true rfl) (by first | rfl | decide) (by first | rfl | decide) ?_
  refine k_ws (ws2 := [(h0, .inr (4, [.ref q1, .ref q2, .ref q3, .int 0, .ref q4, .int 0, .ref q5, .int 0, .int 0, .int 0, .int 0, .int 0, .int 0, .ref q6, .ref q7, .ref q8, .ref q9, .ref q10, .int 0, .int 0, .ref q11, .ref q12, .ref q13, .null])), (q1, .inl (cI, 58, .inl (fun _ => 0))), (q2, .inl (cI, 58, .inl (fun _ => 0))), (q3, .inl (cI, 58, .inl (fun _ => 0))), (q4, .inl (cI, 8, .inl (fun _ => 0))), (q5, .inl (cI, 120, .inl (fun _ => 0))), (q6, .inl (cA9, 7, .inr (.inr (.inr (.inr (va_up (va_up (va_up (va_up (va_up (va_up (va_up (fun _ => none) 0 (some (str 0))) 1 (some (str 1))) 2 (some (str 2))) 3 (some (str 3))) 4 (some (str 4))) 5 (some (str 5))) 6 (some (str 6)))))))), (q7, .inl (cI, 120, .inl (fun _ => 0))), (q8, .inl (cI, 120, .inl (fun _ => 0))), (q9, .inl (cI, 120, .inl (fun _ => 0))), (q10, .inl (cI, 120, .inl (fun _ => 0))), (q11, .inl (cI, 4, .inl (fun _ => 0))), (q12, .inl (cI, 4, .inl (fun _ => 0))), (q13, .inl (cI, 160, .inl (fun _ => 0)))]) rfl ?_
  refine k_aload X dQ_init_144 rfl ?_
  refine k_bipush (v := 40) X dQ_init_145 (by decide) ?_
  refine k_newa (N := 40) X dQ_init_147 hK (by decide) (by decide) (Nat.le_of_ble_eq_true rfl) (Nat.le_of_ble_eq_true rfl) (fun q14 => ?_)
  refine k_ws (ws2 := [(h0, .inr (4, [.ref q1, .ref q2, .ref q3, .int 0, .ref q4, .int 0, .ref q5, .int 0, .int 0, .int 0, .int 0, .int 0, .int 0, .ref q6, .ref q7, .ref q8, .ref q9, .ref q10, .int 0, .int 0, .ref q11, .ref q12, .ref q13, .null])), (q1, .inl (cI, 58, .inl (fun _ => 0))), (q2, .inl (cI, 58, .inl (fun _ => 0))), (q3, .inl (cI, 58, .inl (fun _ => 0))), (q4, .inl (cI, 8, .inl (fun _ => 0))), (q5, .inl (cI, 120, .inl (fun _ => 0))), (q6, .inl (cA9, 7, .inr (.inr (.inr (.inr (va_up (va_up (va_up (va_up (va_up (va_up (va_up (fun _ => none) 0 (some (str 0))) 1 (some (str 1))) 2 (some (str 2))) 3 (some (str 3))) 4 (some (str 4))) 5 (some (str 5))) 6 (some (str 6)))))))), (q7, .inl (cI, 120, .inl (fun _ => 0))), (q8, .inl (cI, 120, .inl (fun _ => 0))), (q9, .inl (cI, 120, .inl (fun _ => 0))), (q10, .inl (cI, 120, .inl (fun _ => 0))), (q11, .inl (cI, 4, .inl (fun _ => 0))), (q12, .inl (cI, 4, .inl (fun _ => 0))), (q13, .inl (cI, 160, .inl (fun _ => 0))), (q14, .inl (cI, 40, .inl (fun _ => 0)))]) rfl ?_
  refine k_put (q0 := 0) X dQ_init_149 fQ_66 hK hin (fun _ _ _ hc => by cases hc; rfl) rfl (Nat.le_of_ble_eq_true rfl) (by first | rfl | decide) (by first | rfl | decide) ?_
  refine k_ws (ws2 := [(h0, .inr (4, [.ref q1, .ref q2, .ref q3, .int 0, .ref q4, .int 0, .ref q5, .int 0, .int 0, .int 0, .int 0, .int 0, .int 0, .ref q6, .ref q7, .ref q8, .ref q9, .ref q10, .int 0, .int 0, .ref q11, .ref q12, .ref q13, .ref q14])), (q1, .inl (cI, 58, .inl (fun _ => 0))), (q2, .inl (cI, 58, .inl (fun _ => 0))), (q3, .inl (cI, 58, .inl (fun _ => 0))), (q4, .inl (cI, 8, .inl (fun _ => 0))), (q5, .inl (cI, 120, .inl (fun _ => 0))), (q6, .inl (cA9, 7, .inr (.inr (.inr (.inr (va_up (va_up (va_up (va_up (va_up (va_up (va_up (fun _ => none) 0 (some (str 0))) 1 (some (str 1))) 2 (some (str 2))) 3 (some (str 3))) 4 (some (str 4))) 5 (some (str 5))) 6 (some (str 6)))))))), (q7, .inl (cI, 120, .inl (fun _ => 0))), (q8, .inl (cI, 120, .inl (fun _ => 0))), (q9, .inl (cI, 120, .inl (fun _ => 0))), (q10, .inl (cI, 120, .inl (fun _ => 0))), (q11, .inl (cI, 4, .inl (fun _ => 0))), (q12, .inl (cI, 4, .inl (fun _ => 0))), (q13, .inl (cI, 160, .inl (fun _ => 0))), (q14, .inl (cI, 40, .inl (fun _ => 0)))]) rfl ?_
  refine k_aload X dQ_init_152 rfl ?_
  refine k_get (q0 := 0) X dQ_init_153 fQ_9 hK rfl rfl ?_
  refine k_iconst (v := 2) X dQ_init_156 (by decide) ?_
  refine k_iconst (v := 1) X dQ_init_157 (by decide) ?_
  refine k_iast (q0 := 1) (j := 2) X dQ_init_158 hK rfl (by decide) (by decide) (by decide) ?_
  refine k_ws (ws2 := [(h0, .inr (4, [.ref q1, .ref q2, .ref q3, .int 0, .ref q4, .int 0, .ref q5, .int 0, .int 0, .int 0, .int 0, .int 0, .int 0, .ref q6, .ref q7, .ref q8, .ref q9, .ref q10, .int 0, .int 0, .ref q11, .ref q12, .ref q13, .ref q14])), (q1, .inl (cI, 58, .inl (upd (fun _ => 0) 2 1))), (q2, .inl (cI, 58, .inl (fun _ => 0))), (q3, .inl (cI, 58, .inl (fun _ => 0))), (q4, .inl (cI, 8, .inl (fun _ => 0))), (q5, .inl (cI, 120, .inl (fun _ => 0))), (q6, .inl (cA9, 7, .inr (.inr (.inr (.inr (va_up (va_up (va_up (va_up (va_up (va_up (va_up (fun _ => none) 0 (some (str 0))) 1 (some (str 1))) 2 (some (str 2))) 3 (some (str 3))) 4 (some (str 4))) 5 (some (str 5))) 6 (some (str 6)))))))), (q7, .inl (cI, 120, .inl (fun _ => 0))), (q8, .inl (cI, 120, .inl (fun _ => 0))), (q9, .inl (cI, 120, .inl (fun _ => 0))), (q10, .inl (cI, 120, .inl (fun _ => 0))), (q11, .inl (cI, 4, .inl (fun _ => 0))), (q12, .inl (cI, 4, .inl (fun _ => 0))), (q13, .inl (cI, 160, .inl (fun _ => 0))), (q14, .inl (cI, 40, .inl (fun _ => 0)))]) rfl ?_
  refine k_aload X dQ_init_159 rfl ?_
  refine k_get (q0 := 0) X dQ_init_160 fQ_9 hK rfl rfl ?_
  refine k_iconst (v := 5) X dQ_init_163 (by decide) ?_
  refine k_iconst (v := (-1)) X dQ_init_164 (by decide) ?_
  refine k_iast (q0 := 1) (j := 5) X dQ_init_165 hK rfl (by decide) (by decide) (by decide) ?_
  refine k_ws (ws2 := [(h0, .inr (4, [.ref q1, .ref q2, .ref q3, .int 0, .ref q4, .int 0, .ref q5, .int 0, .int 0, .int 0, .int 0, .int 0, .int 0, .ref q6, .ref q7, .ref q8, .ref q9, .ref q10, .int 0, .int 0, .ref q11, .ref q12, .ref q13, .ref q14])), (q1, .inl (cI, 58, .inl (upd (upd (fun _ => 0) 2 1) 5 (-1)))), (q2, .inl (cI, 58, .inl (fun _ => 0))), (q3, .inl (cI, 58, .inl (fun _ => 0))), (q4, .inl (cI, 8, .inl (fun _ => 0))), (q5, .inl (cI, 120, .inl (fun _ => 0))), (q6, .inl (cA9, 7, .inr (.inr (.inr (.inr (va_up (va_up (va_up (va_up (va_up (va_up (va_up (fun _ => none) 0 (some (str 0))) 1 (some (str 1))) 2 (some (str 2))) 3 (some (str 3))) 4 (some (str 4))) 5 (some (str 5))) 6 (some (str 6)))))))), (q7, .inl (cI, 120, .inl (fun _ => 0))), (q8, .inl (cI, 120, .inl (fun _ => 0))), (q9, .inl (cI, 120, .inl (fun _ => 0))), (q10, .inl (cI, 120, .inl (fun _ => 0))), (q11, .inl (cI, 4, .inl (fun _ => 0))), (q12, .inl (cI, 4, .inl (fun _ => 0))), (q13, .inl (cI, 160, .inl (fun _ => 0))), (q14, .inl (cI, 40, .inl (fun _ => 0)))]) rfl ?_
  refine k_aload X dQ_init_166 rfl ?_
  refine k_get (q0 := 0) X dQ_init_167 fQ_9 hK rfl rfl ?_
  refine k_bipush (v := 6) X dQ_init_170 (by decide) ?_
  refine k_iconst (v := 1) X dQ_init_172 (by decide) ?_
  refine k_iast (q0 := 1) (j := 6) X dQ_init_173 hK rfl (by decide) (by decide) (by decide) ?_
  refine k_ws (ws2 := [(h0, .inr (4, [.ref q1, .ref q2, .ref q3, .int 0, .ref q4, .int 0, .ref q5, .int 0, .int 0, .int 0, .int 0, .int 0, .int 0, .ref q6, .ref q7, .ref q8, .ref q9, .ref q10, .int 0, .int 0, .ref q11, .ref q12, .ref q13, .ref q14])), (q1, .inl (cI, 58, .inl (upd (upd (upd (fun _ => 0) 2 1) 5 (-1)) 6 1))), (q2, .inl (cI, 58, .inl (fun _ => 0))), (q3, .inl (cI, 58, .inl (fun _ => 0))), (q4, .inl (cI, 8, .inl (fun _ => 0))), (q5, .inl (cI, 120, .inl (fun _ => 0))), (q6, .inl (cA9, 7, .inr (.inr (.inr (.inr (va_up (va_up (va_up (va_up (va_up (va_up (va_up (fun _ => none) 0 (some (str 0))) 1 (some (str 1))) 2 (some (str 2))) 3 (some (str 3))) 4 (some (str 4))) 5 (some (str 5))) 6 (some (str 6)))))))), (q7, .inl (cI, 120, .inl (fun _ => 0))), (q8, .inl (cI, 120, .inl (fun _ => 0))), (q9, .inl (cI, 120, .inl (fun _ => 0))), (q10, .inl (cI, 120, .inl (fun _ => 0))), (q11, .inl (cI, 4, .inl (fun _ => 0))), (q12, .inl (cI, 4, .inl (fun _ => 0))), (q13, .inl (cI, 160, .inl (fun _ => 0))), (q14, .inl (cI, 40, .inl (fun _ => 0)))]) rfl ?_
  refine k_aload X dQ_init_174 rfl ?_
  refine k_get (q0 := 0) X dQ_init_175 fQ_9 hK rfl rfl ?_
  refine k_bipush (v := 7) X dQ_init_178 (by decide) ?_
  refine k_iconst (v := (-1)) X dQ_init_180 (by decide) ?_
  refine k_iast (q0 := 1) (j := 7) X dQ_init_181 hK rfl (by decide) (by decide) (by decide) ?_
  refine k_ws (ws2 := [(h0, .inr (4, [.ref q1, .ref q2, .ref q3, .int 0, .ref q4, .int 0, .ref q5, .int 0, .int 0, .int 0, .int 0, .int 0, .int 0, .ref q6, .ref q7, .ref q8, .ref q9, .ref q10, .int 0, .int 0, .ref q11, .ref q12, .ref q13, .ref q14])), (q1, .inl (cI, 58, .inl (upd (upd (upd (upd (fun _ => 0) 2 1) 5 (-1)) 6 1) 7 (-1)))), (q2, .inl (cI, 58, .inl (fun _ => 0))), (q3, .inl (cI, 58, .inl (fun _ => 0))), (q4, .inl (cI, 8, .inl (fun _ => 0))), (q5, .inl (cI, 120, .inl (fun _ => 0))), (q6, .inl (cA9, 7, .inr (.inr (.inr (.inr (va_up (va_up (va_up (va_up (va_up (va_up (va_up (fun _ => none) 0 (some (str 0))) 1 (some (str 1))) 2 (some (str 2))) 3 (some (str 3))) 4 (some (str 4))) 5 (some (str 5))) 6 (some (str 6)))))))), (q7, .inl (cI, 120, .inl (fun _ => 0))), (q8, .inl (cI, 120, .inl (fun _ => 0))), (q9, .inl (cI, 120, .inl (fun _ => 0))), (q10, .inl (cI, 120, .inl (fun _ => 0))), (q11, .inl (cI, 4, .inl (fun _ => 0))), (q12, .inl (cI, 4, .inl (fun _ => 0))), (q13, .inl (cI, 160, .inl (fun _ => 0))), (q14, .inl (cI, 40, .inl (fun _ => 0)))]) rfl ?_
  refine k_iconst (v := 0) X dQ_init_182 (by decide) ?_
  refine k_istore X dQ_init_183 (by decide) rfl rfl ?_
  refine k_iload X dQ_init_184 rfl ?_
  refine k_bipush (v := 10) X dQ_init_185 (by decide) ?_
  refine k_geF X dQ_init_187 rfl (by decide) ?_
  refine k_aload X dQ_init_190 rfl ?_
  refine k_get (q0 := 0) X dQ_init_191 fQ_9 hK rfl rfl ?_
  refine k_bipush (v := 8) X dQ_init_194 (by decide) ?_
  refine k_iload X dQ_init_196 rfl ?_
  refine k_iadd X dQ_init_197 ?_
  refine k_iconst (v := (-1)) X dQ_init_198 (by decide) ?_
  refine k_iast (q0 := 1) (j := 8) X dQ_init_199 hK rfl (by decide) (by decide) (by decide) ?_
  refine k_ws (ws2 := [(h0, .inr (4, [.ref q1, .ref q2, .ref q3, .int 0, .ref q4, .int 0, .ref q5, .int 0, .int 0, .int 0, .int 0, .int 0, .int 0, .ref q6, .ref q7, .ref q8, .ref q9, .ref q10, .int 0, .int 0, .ref q11, .ref q12, .ref q13, .ref q14])), (q1, .inl (cI, 58, .inl (fl 8 1 (upd (upd (upd (upd (fun _ => 0) 2 1) 5 (-1)) 6 1) 7 (-1))))), (q2, .inl (cI, 58, .inl (fun _ => 0))), (q3, .inl (cI, 58, .inl (fun _ => 0))), (q4, .inl (cI, 8, .inl (fun _ => 0))), (q5, .inl (cI, 120, .inl (fun _ => 0))), (q6, .inl (cA9, 7, .inr (.inr (.inr (.inr (va_up (va_up (va_up (va_up (va_up (va_up (va_up (fun _ => none) 0 (some (str 0))) 1 (some (str 1))) 2 (some (str 2))) 3 (some (str 3))) 4 (some (str 4))) 5 (some (str 5))) 6 (some (str 6)))))))), (q7, .inl (cI, 120, .inl (fun _ => 0))), (q8, .inl (cI, 120, .inl (fun _ => 0))), (q9, .inl (cI, 120, .inl (fun _ => 0))), (q10, .inl (cI, 120, .inl (fun _ => 0))), (q11, .inl (cI, 4, .inl (fun _ => 0))), (q12, .inl (cI, 4, .inl (fun _ => 0))), (q13, .inl (cI, 160, .inl (fun _ => 0))), (q14, .inl (cI, 40, .inl (fun _ => 0)))]) rfl ?_
  refine k_iinc (v := 1) X dQ_init_200 rfl (by decide) (by decide) rfl rfl ?_
  refine k_goto X dQ_init_203 rfl ?_
  refine k_iload X dQ_init_184 rfl ?_
  refine k_bipush (v := 10) X dQ_init_185 (by decide) ?_
  refine k_geF X dQ_init_187 rfl (by decide) ?_
  refine k_aload X dQ_init_190 rfl ?_
  refine k_get (q0 := 0) X dQ_init_191 fQ_9 hK rfl rfl ?_
  refine k_bipush (v := 8) X dQ_init_194 (by decide) ?_
  refine k_iload X dQ_init_196 rfl ?_
  refine k_iadd X dQ_init_197 ?_
  refine k_iconst (v := (-1)) X dQ_init_198 (by decide) ?_
  refine k_iast (q0 := 1) (j := 9) X dQ_init_199 hK rfl (by decide) (by decide) (by decide) ?_
  refine k_ws (ws2 := [(h0, .inr (4, [.ref q1, .ref q2, .ref q3, .int 0, .ref q4, .int 0, .ref q5, .int 0, .int 0, .int 0, .int 0, .int 0, .int 0, .ref q6, .ref q7, .ref q8, .ref q9, .ref q10, .int 0, .int 0, .ref q11, .ref q12, .ref q13, .ref q14])), (q1, .inl (cI, 58, .inl (fl 8 2 (upd (upd (upd (upd (fun _ => 0) 2 1) 5 (-1)) 6 1) 7 (-1))))), (q2, .inl (cI, 58, .inl (fun _ => 0))), (q3, .inl (cI, 58, .inl (fun _ => 0))), (q4, .inl (cI, 8, .inl (fun _ => 0))), (q5, .inl (cI, 120, .inl (fun _ => 0))), (q6, .inl (cA9, 7, .inr (.inr (.inr (.inr (va_up (va_up (va_up (va_up (va_up (va_up (va_up (fun _ => none) 0 (some (str 0))) 1 (some (str 1))) 2 (some (str 2))) 3 (some (str 3))) 4 (some (str 4))) 5 (some (str 5))) 6 (some (str 6)))))))), (q7, .inl (cI, 120, .inl (fun _ => 0))), (q8, .inl (cI, 120, .inl (fun _ => 0))), (q9, .inl (cI, 120, .inl (fun _ => 0))), (q10, .inl (cI, 120, .inl (fun _ => 0))), (q11, .inl (cI, 4, .inl (fun _ => 0))), (q12, .inl (cI, 4, .inl (fun _ => 0))), (q13, .inl (cI, 160, .inl (fun _ => 0))), (q14, .inl (cI, 40, .inl (fun _ => 0)))]) rfl ?_
  refine k_iinc (v := 2) X dQ_init_200 rfl (by decide) (by decide) rfl rfl ?_
  refine k_goto X dQ_init_203 rfl ?_
  refine k_iload X dQ_init_184 rfl ?_
  refine k_bipush (v := 10) X dQ_init_185 (by decide) ?_
  refine k_geF X dQ_init_187 rfl (by decide) ?_
  refine k_aload X dQ_init_190 rfl ?_
  refine k_get (q0 := 0) X dQ_init_191 fQ_9 hK rfl rfl ?_
  refine k_bipush (v := 8) X dQ_init_194 (by decide) ?_
  refine k_iload X dQ_init_196 rfl ?_
  refine k_iadd X dQ_init_197 ?_
  refine k_iconst (v := (-1)) X dQ_init_198 (by decide) ?_
  refine k_iast (q0 := 1) (j := 10) X dQ_init_199 hK rfl (by decide) (by decide) (by decide) ?_
  refine k_ws (ws2 := [(h0, .inr (4, [.ref q1, .ref q2, .ref q3, .int 0, .ref q4, .int 0, .ref q5, .int 0, .int 0, .int 0, .int 0, .int 0, .int 0, .ref q6, .ref q7, .ref q8, .ref q9, .ref q10, .int 0, .int 0, .ref q11, .ref q12, .ref q13, .ref q14])), (q1, .inl (cI, 58, .inl (fl 8 3 (upd (upd (upd (upd (fun _ => 0) 2 1) 5 (-1)) 6 1) 7 (-1))))), (q2, .inl (cI, 58, .inl (fun _ => 0))), (q3, .inl (cI, 58, .inl (fun _ => 0))), (q4, .inl (cI, 8, .inl (fun _ => 0))), (q5, .inl (cI, 120, .inl (fun _ => 0))), (q6, .inl (cA9, 7, .inr (.inr (.inr (.inr (va_up (va_up (va_up (va_up (va_up (va_up (va_up (fun _ => none) 0 (some (str 0))) 1 (some (str 1))) 2 (some (str 2))) 3 (some (str 3))) 4 (some (str 4))) 5 (some (str 5))) 6 (some (str 6)))))))), (q7, .inl (cI, 120, .inl (fun _ => 0))), (q8, .inl (cI, 120, .inl (fun _ => 0))), (q9, .inl (cI, 120, .inl (fun _ => 0))), (q10, .inl (cI, 120, .inl (fun _ => 0))), (q11, .inl (cI, 4, .inl (fun _ => 0))), (q12, .inl (cI, 4, .inl (fun _ => 0))), (q13, .inl (cI, 160, .inl (fun _ => 0))), (q14, .inl (cI, 40, .inl (fun _ => 0)))]) rfl ?_
  refine k_iinc (v := 3) X dQ_init_200 rfl (by decide) (by decide) rfl rfl ?_
  refine k_goto X dQ_init_203 rfl ?_
  refine k_iload X dQ_init_184 rfl ?_
  refine k_bipush (v := 10) X dQ_init_185 (by decide) ?_
  refine k_geF X dQ_init_187 rfl (by decide) ?_
  refine k_aload X dQ_init_190 rfl ?_
  refine k_get (q0 := 0) X dQ_init_191 fQ_9 hK rfl rfl ?_
  refine k_bipush (v := 8) X dQ_init_194 (by decide) ?_
  refine k_iload X dQ_init_196 rfl ?_
  refine k_iadd X dQ_init_197 ?_
  refine k_iconst (v := (-1)) X dQ_init_198 (by decide) ?_
  refine k_iast (q0 := 1) (j := 11) X dQ_init_199 hK rfl (by decide) (by decide) (by decide) ?_
  refine k_ws (ws2 := [(h0, .inr (4, [.ref q1, .ref q2, .ref q3, .int 0, .ref q4, .int 0, .ref q5, .int 0, .int 0, .int 0, .int 0, .int 0, .int 0, .ref q6, .ref q7, .ref q8, .ref q9, .ref q10, .int 0, .int 0, .ref q11, .ref q12, .ref q13, .ref q14])), (q1, .inl (cI, 58, .inl (fl 8 4 (upd (upd (upd (upd (fun _ => 0) 2 1) 5 (-1)) 6 1) 7 (-1))))), (q2, .inl (cI, 58, .inl (fun _ => 0))), (q3, .inl (cI, 58, .inl (fun _ => 0))), (q4, .inl (cI, 8, .inl (fun _ => 0))), (q5, .inl (cI, 120, .inl (fun _ => 0))), (q6, .inl (cA9, 7, .inr (.inr (.inr (.inr (va_up (va_up (va_up (va_up (va_up (va_up (va_up (fun _ => none) 0 (some (str 0))) 1 (some (str 1))) 2 (some (str 2))) 3 (some (str 3))) 4 (some (str 4))) 5 (some (str 5))) 6 (some (str 6)))))))), (q7, .inl (cI, 120, .inl (fun _ => 0))), (q8, .inl (cI, 120, .inl (fun _ => 0))), (q9, .inl (cI, 120, .inl (fun _ => 0))), (q10, .inl (cI, 120, .inl (fun _ => 0))), (q11, .inl (cI, 4, .inl (fun _ => 0))), (q12, .inl (cI, 4, .inl (fun _ => 0))), (q13, .inl (cI, 160, .inl (fun _ => 0))), (q14, .inl (cI, 40, .inl (fun _ => 0)))]) rfl ?_
  refine k_iinc (v := 4) X dQ_init_200 rfl (by decide) (by decide) rfl rfl ?_
  refine k_goto X dQ_init_203 rfl ?_
  refine k_iload X dQ_init_184 rfl ?_
  refine k_bipush (v := 10) X dQ_init_185 (by decide) ?_
  refine k_geF X dQ_init_187 rfl (by decide) ?_
  refine k_aload X dQ_init_190 rfl ?_
  refine k_get (q0 := 0) X dQ_init_191 fQ_9 hK rfl rfl ?_
  refine k_bipush (v := 8) X dQ_init_194 (by decide) ?_
  refine k_iload X dQ_init_196 rfl ?_
  refine k_iadd X dQ_init_197 ?_
  refine k_iconst (v := (-1)) X dQ_init_198 (by decide) ?_
  refine k_iast (q0 := 1) (j := 12) X dQ_init_199 hK rfl (by decide) (by decide) (by decide) ?_
  refine k_ws (ws2 := [(h0, .inr (4, [.ref q1, .ref q2, .ref q3, .int 0, .ref q4, .int 0, .ref q5, .int 0, .int 0, .int 0, .int 0, .int 0, .int 0, .ref q6, .ref q7, .ref q8, .ref q9, .ref q10, .int 0, .int 0, .ref q11, .ref q12, .ref q13, .ref q14])), (q1, .inl (cI, 58, .inl (fl 8 5 (upd (upd (upd (upd (fun _ => 0) 2 1) 5 (-1)) 6 1) 7 (-1))))), (q2, .inl (cI, 58, .inl (fun _ => 0))), (q3, .inl (cI, 58, .inl (fun _ => 0))), (q4, .inl (cI, 8, .inl (fun _ => 0))), (q5, .inl (cI, 120, .inl (fun _ => 0))), (q6, .inl (cA9, 7, .inr (.inr (.inr (.inr (va_up (va_up (va_up (va_up (va_up (va_up (va_up (fun _ => none) 0 (some (str 0))) 1 (some (str 1))) 2 (some (str 2))) 3 (some (str 3))) 4 (some (str 4))) 5 (some (str 5))) 6 (some (str 6)))))))), (q7, .inl (cI, 120, .inl (fun _ => 0))), (q8, .inl (cI, 120, .inl (fun _ => 0))), (q9, .inl (cI, 120, .inl (fun _ => 0))), (q10, .inl (cI, 120, .inl (fun _ => 0))), (q11, .inl (cI, 4, .inl (fun _ => 0))), (q12, .inl (cI, 4, .inl (fun _ => 0))), (q13, .inl (cI, 160, .inl (fun _ => 0))), (q14, .inl (cI, 40, .inl (fun _ => 0)))]) rfl ?_
  refine k_iinc (v := 5) X dQ_init_200 rfl (by decide) (by decide) rfl rfl ?_
  refine k_goto X dQ_init_203 rfl ?_
  refine k_iload X dQ_init_184 rfl ?_
  refine k_bipush (v := 10) X dQ_init_185 (by decide) ?_
  refine k_geF X dQ_init_187 rfl (by decide) ?_
  refine k_aload X dQ_init_190 rfl ?_
  refine k_get (q0 := 0) X dQ_init_191 fQ_9 hK rfl rfl ?_
  refine k_bipush (v := 8) X dQ_init_194 (by decide) ?_
  refine k_iload X dQ_init_196 rfl ?_
  refine k_iadd X dQ_init_197 ?_
  refine k_iconst (v := (-1)) X dQ_init_198 (by decide) ?_
  refine k_iast (q0 := 1) (j := 13) X dQ_init_199 hK rfl (by decide) (by decide) (by decide) ?_
  refine k_ws (ws2 := [(h0, .inr (4, [.ref q1, .ref q2, .ref q3, .int 0, .ref q4, .int 0, .ref q5, .int 0, .int 0, .int 0, .int 0, .int 0, .int 0, .ref q6, .ref q7, .ref q8, .ref q9, .ref q10, .int 0, .int 0, .ref q11, .ref q12, .ref q13, .ref q14])), (q1, .inl (cI, 58, .inl (fl 8 6 (upd (upd (upd (upd (fun _ => 0) 2 1) 5 (-1)) 6 1) 7 (-1))))), (q2, .inl (cI, 58, .inl (fun _ => 0))), (q3, .inl (cI, 58, .inl (fun _ => 0))), (q4, .inl (cI, 8, .inl (fun _ => 0))), (q5, .inl (cI, 120, .inl (fun _ => 0))), (q6, .inl (cA9, 7, .inr (.inr (.inr (.inr (va_up (va_up (va_up (va_up (va_up (va_up (va_up (fun _ => none) 0 (some (str 0))) 1 (some (str 1))) 2 (some (str 2))) 3 (some (str 3))) 4 (some (str 4))) 5 (some (str 5))) 6 (some (str 6)))))))), (q7, .inl (cI, 120, .inl (fun _ => 0))), (q8, .inl (cI, 120, .inl (fun _ => 0))), (q9, .inl (cI, 120, .inl (fun _ => 0))), (q10, .inl (cI, 120, .inl (fun _ => 0))), (q11, .inl (cI, 4, .inl (fun _ => 0))), (q12, .inl (cI, 4, .inl (fun _ => 0))), (q13, .inl (cI, 160, .inl (fun _ => 0))), (q14, .inl (cI, 40, .inl (fun _ => 0)))]) rfl ?_
  refine k_iinc (v := 6) X dQ_init_200 rfl (by decide) (by decide) rfl rfl ?_
  refine k_goto X dQ_init_203 rfl ?_
  refine k_iload X dQ_init_184 rfl ?_
  refine k_bipush (v := 10) X dQ_init_185 (by decide) ?_
  refine k_geF X dQ_init_187 rfl (by decide) ?_
  refine k_aload X dQ_init_190 rfl ?_
  refine k_get (q0 := 0) X dQ_init_191 fQ_9 hK rfl rfl ?_
  refine k_bipush (v := 8) X dQ_init_194 (by decide) ?_
  refine k_iload X dQ_init_196 rfl ?_
  refine k_iadd X dQ_init_197 ?_
  refine k_iconst (v := (-1)) X dQ_init_198 (by decide) ?_
  refine k_iast (q0 := 1) (j := 14) X dQ_init_199 hK rfl (by decide) (by decide) (by decide) ?_
  refine k_ws (ws2 := [(h0, .inr (4, [.ref q1, .ref q2, .ref q3, .int 0, .ref q4, .int 0, .ref q5, .int 0, .int 0, .int 0, .int 0, .int 0, .int 0, .ref q6, .ref q7, .ref q8, .ref q9, .ref q10, .int 0, .int 0, .ref q11, .ref q12, .ref q13, .ref q14])), (q1, .inl (cI, 58, .inl (fl 8 7 (upd (upd (upd (upd (fun _ => 0) 2 1) 5 (-1)) 6 1) 7 (-1))))), (q2, .inl (cI, 58, .inl (fun _ => 0))), (q3, .inl (cI, 58, .inl (fun _ => 0))), (q4, .inl (cI, 8, .inl (fun _ => 0))), (q5, .inl (cI, 120, .inl (fun _ => 0))), (q6, .inl (cA9, 7, .inr (.inr (.inr (.inr (va_up (va_up (va_up (va_up (va_up (va_up (va_up (fun _ => none) 0 (some (str 0))) 1 (some (str 1))) 2 (some (str 2))) 3 (some (str 3))) 4 (some (str 4))) 5 (some (str 5))) 6 (some (str 6)))))))), (q7, .inl (cI, 120, .inl (fun _ => 0))), (q8, .inl (cI, 120, .inl (fun _ => 0))), (q9, .inl (cI, 120, .inl (fun _ => 0))), (q10, .inl (cI, 120, .inl (fun _ => 0))), (q11, .inl (cI, 4, .inl (fun _ => 0))), (q12, .inl (cI, 4, .inl (fun _ => 0))), (q13, .inl (cI, 160, .inl (fun _ => 0))), (q14, .inl (cI, 40, .inl (fun _ => 0)))]) rfl ?_
  refine k_iinc (v := 7) X dQ_init_200 rfl (by decide) (by decide) rfl rfl ?_
  refine k_goto X dQ_init_203 rfl ?_
  refine k_iload X dQ_init_184 rfl ?_
  refine k_bipush (v := 10) X dQ_init_185 (by decide) ?_
  refine k_geF X dQ_init_187 rfl (by decide) ?_
  refine k_aload X dQ_init_190 rfl ?_
  refine k_get (q0 := 0) X dQ_init_191 fQ_9 hK rfl rfl ?_
  refine k_bipush (v := 8) X dQ_init_194 (by decide) ?_
  refine k_iload X dQ_init_196 rfl ?_
  refine k_iadd X dQ_init_197 ?_
  refine k_iconst (v := (-1)) X dQ_init_198 (by decide) ?_
  refine k_iast (q0 := 1) (j := 15) X dQ_init_199 hK rfl (by decide) (by decide) (by decide) ?_
  refine k_ws (ws2 := [(h0, .inr (4, [.ref q1, .ref q2, .ref q3, .int 0, .ref q4, .int 0, .ref q5, .int 0, .int 0, .int 0, .int 0, .int 0, .int 0, .ref q6, .ref q7, .ref q8, .ref q9, .ref q10, .int 0, .int 0, .ref q11, .ref q12, .ref q13, .ref q14])), (q1, .inl (cI, 58, .inl (fl 8 8 (upd (upd (upd (upd (fun _ => 0) 2 1) 5 (-1)) 6 1) 7 (-1))))), (q2, .inl (cI, 58, .inl (fun _ => 0))), (q3, .inl (cI, 58, .inl (fun _ => 0))), (q4, .inl (cI, 8, .inl (fun _ => 0))), (q5, .inl (cI, 120, .inl (fun _ => 0))), (q6, .inl (cA9, 7, .inr (.inr (.inr (.inr (va_up (va_up (va_up (va_up (va_up (va_up (va_up (fun _ => none) 0 (some (str 0))) 1 (some (str 1))) 2 (some (str 2))) 3 (some (str 3))) 4 (some (str 4))) 5 (some (str 5))) 6 (some (str 6)))))))), (q7, .inl (cI, 120, .inl (fun _ => 0))), (q8, .inl (cI, 120, .inl (fun _ => 0))), (q9, .inl (cI, 120, .inl (fun _ => 0))), (q10, .inl (cI, 120, .inl (fun _ => 0))), (q11, .inl (cI, 4, .inl (fun _ => 0))), (q12, .inl (cI, 4, .inl (fun _ => 0))), (q13, .inl (cI, 160, .inl (fun _ => 0))), (q14, .inl (cI, 40, .inl (fun _ => 0)))]) rfl ?_
  refine k_iinc (v := 8) X dQ_init_200 rfl (by decide) (by decide) rfl rfl ?_
  refine k_goto X dQ_init_203 rfl ?_
  refine k_iload X dQ_init_184 rfl ?_
  refine k_bipush (v := 10) X dQ_init_185 (by decide) ?_
  refine k_geF X dQ_init_187 rfl (by decide) ?_
  refine k_aload X dQ_init_190 rfl ?_
  refine k_get (q0 := 0) X dQ_init_191 fQ_9 hK rfl rfl ?_
  refine k_bipush (v := 8) X dQ_init_194 (by decide) ?_
  refine k_iload X dQ_init_196 rfl ?_
  refine k_iadd X dQ_init_197 ?_
  refine k_iconst (v := (-1)) X dQ_init_198 (by decide) ?_
  refine k_iast (q0 := 1) (j := 16) X dQ_init_199 hK rfl (by decide) (by decide) (by decide) ?_
  refine k_ws (ws2 := [(h0, .inr (4, [.ref q1, .ref q2, .ref q3, .int 0, .ref q4, .int 0, .ref q5, .int 0, .int 0, .int 0, .int 0, .int 0, .int 0, .ref q6, .ref q7, .ref q8, .ref q9, .ref q10, .int 0, .int 0, .ref q11, .ref q12, .ref q13, .ref q14])), (q1, .inl (cI, 58, .inl (fl 8 9 (upd (upd (upd (upd (fun _ => 0) 2 1) 5 (-1)) 6 1) 7 (-1))))), (q2, .inl (cI, 58, .inl (fun _ => 0))), (q3, .inl (cI, 58, .inl (fun _ => 0))), (q4, .inl (cI, 8, .inl (fun _ => 0))), (q5, .inl (cI, 120, .inl (fun _ => 0))), (q6, .inl (cA9, 7, .inr (.inr (.inr (.inr (va_up (va_up (va_up (va_up (va_up (va_up (va_up (fun _ => none) 0 (some (str 0))) 1 (some (str 1))) 2 (some (str 2))) 3 (some (str 3))) 4 (some (str 4))) 5 (some (str 5))) 6 (some (str 6)))))))), (q7, .inl (cI, 120, .inl (fun _ => 0))), (q8, .inl (cI, 120, .inl (fun _ => 0))), (q9, .inl (cI, 120, .inl (fun _ => 0))), (q10, .inl (cI, 120, .inl (fun _ => 0))), (q11, .inl (cI, 4, .inl (fun _ => 0))), (q12, .inl (cI, 4, .inl (fun _ => 0))), (q13, .inl (cI, 160, .inl (fun _ => 0))), (q14, .inl (cI, 40, .inl (fun _ => 0)))]) rfl ?_
  refine k_iinc (v := 9) X dQ_init_200 rfl (by decide) (by decide) rfl rfl ?_
  refine k_goto X dQ_init_203 rfl ?_
  refine k_iload X dQ_init_184 rfl ?_
  refine k_bipush (v := 10) X dQ_init_185 (by decide) ?_
  refine k_geF X dQ_init_187 rfl (by decide) ?_
  refine k_aload X dQ_init_190 rfl ?_
  refine k_get (q0 := 0) X dQ_init_191 fQ_9 hK rfl rfl ?_
  refine k_bipush (v := 8) X dQ_init_194 (by decide) ?_
  refine k_iload X dQ_init_196 rfl ?_
  refine k_iadd X dQ_init_197 ?_
  refine k_iconst (v := (-1)) X dQ_init_198 (by decide) ?_
  refine k_iast (q0 := 1) (j := 17) X dQ_init_199 hK rfl (by decide) (by decide) (by decide) ?_
  refine k_ws (ws2 := [(h0, .inr (4, [.ref q1, .ref q2, .ref q3, .int 0, .ref q4, .int 0, .ref q5, .int 0, .int 0, .int 0, .int 0, .int 0, .int 0, .ref q6, .ref q7, .ref q8, .ref q9, .ref q10, .int 0, .int 0, .ref q11, .ref q12, .ref q13, .ref q14])), (q1, .inl (cI, 58, .inl (fl 8 10 (upd (upd (upd (upd (fun _ => 0) 2 1) 5 (-1)) 6 1) 7 (-1))))), (q2, .inl (cI, 58, .inl (fun _ => 0))), (q3, .inl (cI, 58, .inl (fun _ => 0))), (q4, .inl (cI, 8, .inl (fun _ => 0))), (q5, .inl (cI, 120, .inl (fun _ => 0))), (q6, .inl (cA9, 7, .inr (.inr (.inr (.inr (va_up (va_up (va_up (va_up (va_up (va_up (va_up (fun _ => none) 0 (some (str 0))) 1 (some (str 1))) 2 (some (str 2))) 3 (some (str 3))) 4 (some (str 4))) 5 (some (str 5))) 6 (some (str 6)))))))), (q7, .inl (cI, 120, .inl (fun _ => 0))), (q8, .inl (cI, 120, .inl (fun _ => 0))), (q9, .inl (cI, 120, .inl (fun _ => 0))), (q10, .inl (cI, 120, .inl (fun _ => 0))), (q11, .inl (cI, 4, .inl (fun _ => 0))), (q12, .inl (cI, 4, .inl (fun _ => 0))), (q13, .inl (cI, 160, .inl (fun _ => 0))), (q14, .inl (cI, 40, .inl (fun _ => 0)))]) rfl ?_
  refine k_iinc (v := 10) X dQ_init_200 rfl (by decide) (by decide) rfl rfl ?_
  refine k_goto X dQ_init_203 rfl ?_
  refine k_iload X dQ_init_184 rfl ?_
  refine k_bipush (v := 10) X dQ_init_185 (by decide) ?_
  refine k_geT X dQ_init_187 rfl (by decide) ?_
  refine k_wsq (q0 := 6) (fun j => some (str j)) rfl (fun j hj => ?_) ?_
  · match j, hj with
    | 0, _ => rfl
    | 1, _ => rfl
    | 2, _ => rfl
    | 3, _ => rfl
    | 4, _ => rfl
    | 5, _ => rfl
    | 6, _ => rfl
    | j + 7, hh => exact absurd hh (by omega)
  refine k_ws (ws2 := [(h0, .inr (4, [.ref q1, .ref q2, .ref q3, .int 0, .ref q4, .int 0, .ref q5, .int 0, .int 0, .int 0, .int 0, .int 0, .int 0, .ref q6, .ref q7, .ref q8, .ref q9, .ref q10, .int 0, .int 0, .ref q11, .ref q12, .ref q13, .ref q14])), (q1, .inl (cI, 58, .inl (fl 8 10 (upd (upd (upd (upd (fun _ => 0) 2 1) 5 (-1)) 6 1) 7 (-1))))), (q2, .inl (cI, 58, .inl (fun _ => 0))), (q3, .inl (cI, 58, .inl (fun _ => 0))), (q4, .inl (cI, 8, .inl (fun _ => 0))), (q5, .inl (cI, 120, .inl (fun _ => 0))), (q6, .inl (cA9, 7, .inr (.inr (.inr (.inr (fun j => some (str j))))))), (q7, .inl (cI, 120, .inl (fun _ => 0))), (q8, .inl (cI, 120, .inl (fun _ => 0))), (q9, .inl (cI, 120, .inl (fun _ => 0))), (q10, .inl (cI, 120, .inl (fun _ => 0))), (q11, .inl (cI, 4, .inl (fun _ => 0))), (q12, .inl (cI, 4, .inl (fun _ => 0))), (q13, .inl (cI, 160, .inl (fun _ => 0))), (q14, .inl (cI, 40, .inl (fun _ => 0)))]) rfl ?_
  exact k_ret ((fun j => ([h0, q1, q2, q3, q4, q5, q6, q7, q8, q9, q10, q11, q12, q13, q14] : List Nat).getD j 0), cA9) X dQ_init_206 hr hlk rfl (hK9.sub [1] rfl) rfl (Nat.le_of_ble_eq_true rfl) (Nat.le_of_ble_eq_true rfl)
