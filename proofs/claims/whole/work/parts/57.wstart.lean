def gL (D : va_G) (cI : ClassId) (u1 u2 : (Nat → Nat) × ClassId) (str str2 : Nat → Nat) : GG := (fun k => if k < 33 then u1.1 k else u2.1 (k - 33), D, (cI, u1.2, u2.2), str, str2)
set_option maxHeartbeats 4000000 in
/-- THE LAW, from its entry -/
theorem whole_start {p : Program} {e : Env} {s : State} {m : MethodId} {below : List Frame} {meth : Method} {c : Code} (l : Launch) (_hflags : l.flags = flags0) {b L : Nat} {xs : Nat → Int32} (hL : L ≤ 3072) (C0 : lw_At p s m meth c b L xs) : W p l e room_1 s m #[Value.ref b] below meth c s.heap [] 0 0 (lw_Z below #[Value.ref b] s) (entryFrame m ([Value.ref b] : List Value).toArray 4) := by
  obtain ⟨hx, hb, hr, hml, hown, hts, hX, hbl, hlocks, hgv⟩ := id C0
  have hLT : ∀ w ∈ LT, w.before #[Value.ref b] s = true := fun w hw => hts w (LTsub hw)
  have hg : ∀ c ∈ GW, c.before #[Value.ref b] s = true := flat_of_before _ hgv
  have hA : ∀ a : Nat, a < s.heap.size → ¬ (fun q : Nat => s.heap.size ≤ q) a := fun a ha h => absurd h (Nat.not_le.mpr ha)
  have X : KX L_law p s m #[Value.ref b] c (fun q => s.heap.size ≤ q) := ⟨hx, hb, hml, hown, hLT, fun _ h => h⟩
  obtain ⟨cI, hI1, hI2⟩ := int_arr (hLT _ w_arrI)
  obtain ⟨c0, i0, k0⟩ := u_known (C := R0) (T := T0) (N := 11) (n := 11) hLT in0 (hLT _ (LTm 81 (by decide +kernel) rfl))
  obtain ⟨c1, i1, k1⟩ := u_known (C := R1) (T := T1) (N := 12) (n := 12) hLT in1 (hLT _ (LTm 89 (by decide +kernel) rfl))
  obtain ⟨c2, i2, k2⟩ := u_known (C := R2) (T := T2) (N := 3) (n := 3) hLT in2 (hLT _ (LTm 175 (by decide +kernel) rfl))
  obtain ⟨c3, i3, k3⟩ := u_known (C := R3) (T := T3) (N := 5) (n := 5) hLT in3 (hLT _ (LTm 151 (by decide +kernel) rfl))
  obtain ⟨c4, i4, k4⟩ := u_known (C := R4) (T := T4) (N := 24) (n := 24) hLT in4 (hLT _ (LTm 759 (by decide +kernel) rfl))
  obtain ⟨D, hD0⟩ : ∃ D : va_G, ∀ (k : Nat) (q : vw_C), cls[k]? = some q → u_Kn s q.1 q.2.1 q.2.2 (D.1 k) (D.2 k) := by
    refine ⟨(fun k => match k with | 0 => c0 | 1 => c1 | 2 => c2 | 3 => c3 | _ => c4, fun k => match k with | 0 => i0 | 1 => i1 | 2 => i2 | 3 => i3 | _ => i4), ?_⟩
    intro k q hq
    match k, hq with
    | 0, hq => cases hq; exact k0
    | 1, hq => cases hq; exact k1
    | 2, hq => cases hq; exact k2
    | 3, hq => cases hq; exact k3
    | 4, hq => cases hq; exact k4
    | k + 5, hq => simp [cls] at hq
  have hK : va_K D cls [(cI, .int)] s := ⟨hD0, fun k q h => by
    have hz : k < 1 := (List.getElem?_eq_some_iff.mp h).1
    rw [show k = 0 by omega] at h
    cases h
    exact ⟨hI1, hI2⟩⟩
  have hNW : ∀ w ∈ NW, va_Nw w s := fun w hw => by
    have h1 := hts _ (NW_lw hw)
    obtain ⟨a, i, x, b9, rfl⟩ := NW_is hw
    exact va_Nw.of rfl h1
  have hAO1 : va_AO "StraySheep$Sheet" s := va_AO.of (hts _ (List.mem_of_getElem? (i := 174) (by decide +kernel)))
  have hAO2 : va_AO "java/lang/String" s := va_AO.of (hts _ (List.mem_of_getElem? (i := 765) (by decide +kernel)))
  obtain ⟨str, str2, hS1, hS2⟩ := start_str hg hts hA
  have hZ1 := va_Zof (C := "java/lang/String") (n := "COMPACT_STRINGS") (d := "Z") (v := .int 1) (A := fun q => s.heap.size ≤ q) (hts _ (List.mem_of_getElem? (i := 610) (by decide +kernel))) (hLT _ ini_JS) (va_eqt (hg _ (List.mem_of_getElem? (i := 4) (by decide +kernel)))) hA
  have hZ2 := va_Zqof (C := "jdk/internal/util/Preconditions") (n := "SIOOBE_FORMATTER") (d := "Ljava/util/function/BiFunction;") (A := fun q => s.heap.size ≤ q) (hts _ (List.mem_of_getElem? (i := 626) (by decide +kernel))) (hLT _ ini_JP) (hg _ (List.mem_of_getElem? (i := 5) (by decide +kernel))) hA
  rw [lg_entry_eq]
  have hl := lvh_entry [.ref b] 4 (fun v hv => by rcases List.mem_singleton.mp hv with rfl; rfl) (Nat.le_of_ble_eq_true rfl)
  suffices hgo : GoC l p e s m #[Value.ref b] below meth c room_1 L_law (lw_Z below #[Value.ref b] s) D (fun q => s.heap.size ≤ q) 0 0 0 [some (.ref b), none, none, none] [] [] from
    hgo s.heap [] _ (fun k q h => by simp at h) ⟨fun i j p q h => by simp at h, fun k q h => by simp at h⟩ va_S.rf hl
  refine k_new (fs := [.null, .null, .null, .int 0, .null, .null, .int 0, .int 0, .null, .null, .null]) X dL_0 ok0 ⟨LTm 80 (by decide +kernel) rfl, LTm 81 (by decide +kernel) rfl, ini_S⟩ hK bn0 (Nat.le_of_ble_eq_true rfl) (Nat.le_of_ble_eq_true rfl) (fun q1 => ?_)
  refine k_dup X dL_3 rfl ?_
  refine k_callI (M' := S_init) (mc := 32) (ms := 484) X dL_4 (LTm 82 (by decide +kernel) rfl) mS_init (cS_init l D cI) hK ENW_ok (fun H locs hP hS hF U hU hW => ⟨fun w hw => by
    obtain ⟨a, i, x, b9, rfl⟩ := NW_is hw
    exact va_Nw.warmM hW (hNW _ hw), va_AO.moved hW.alike hAO1⟩) ⟨by decide, by decide⟩ ⟨Nat.le_of_ble_eq_true rfl, Nat.le_of_ble_eq_true rfl⟩ (Nat.le_of_ble_eq_true rfl) (fun u1 h1 hK1 => ?_)
  have h1 : u1.1 0 = q1 := h1
  subst h1
  refine k_astore X dL_7 (by decide) rfl rfl ?_
  refine k_new (fs := [.null, .null, .null, .int 0, .null, .int 0, .null, .int 0, .int 0, .int 0, .int 0, .int 0, .int 0, .null, .null, .null, .null, .null, .int 0, .int 0, .null, .null, .null, .null]) X dL_8 ok4 ⟨LTm 758 (by decide +kernel) rfl, LTm 759 (by decide +kernel) rfl, ini_Q⟩ hK1 bn4 (Nat.le_of_ble_eq_true rfl) (Nat.le_of_ble_eq_true rfl) (fun q2 => ?_)
  refine k_dup X dL_11 rfl ?_
  refine k_callI (M' := Q_init) (mc := 14) (ms := 997) X dL_12 (LTm 760 (by decide +kernel) rfl) mQ_init (cQ_init l D cI str) hK1 EQs_ok (fun H locs hP hS hF U hU hW => ⟨fun own k i hi hs => vk_R.warm hW (hS2 own k i hi hs), fun i hi => ?_, va_AO.moved hW.alike hAO2⟩) ⟨by decide, by decide⟩ ⟨Nat.le_of_ble_eq_true rfl, Nat.le_of_ble_eq_true rfl⟩ (Nat.le_of_ble_eq_true rfl) (fun u2 h2 hK2 => ?_)
  · refine va_O.moved hW.alike (va_O.narrow ((hS1 i hi).1.kept (H1 := U.heap) (fun a ha hn => by rw [hU]; exact hS.2.1 a ha hn)) hF)
  have h2 : u2.1 0 = q2 := h2
  subst h2
  refine k_astore X dL_15 (by decide) rfl rfl ?_
  refine k_iconst (v := nI 0) X dL_16 rfl ?_
  refine k_istore X dL_17 (by decide) rfl rfl ?_
  refine k_wsq (q0 := 23) (fun j => some ((gL D cI u1 u2 str str2).1 (24 + 2 * j))) rfl (fun j hj => ?_) ?_
  · match j, hj with
    | 0, _ => rfl
    | 1, _ => rfl
    | 2, _ => rfl
    | 3, _ => rfl
    | j + 4, hh => exact absurd hh (by omega)
  refine k_ws (ws2 := wsW (gL D cI u1 u2 str str2) w00) rfl ?_
  intro H locs ls hP hD hS hl2
  have hAd : ∀ q, Ad (gL D cI u1 u2 str str2) q → s.heap.size ≤ q := fun q hq => by
    obtain ⟨k, hk, rfl⟩ := hq
    exact hD.2 k _ (wsW_at _ _ hk)
  have hC : Cx (gL D cI u1 u2 str str2) s := ⟨hK2, fun i j hi hj he => hD.1 i j _ _ (wsW_at _ _ hi) (wsW_at _ _ hj) he, hNW, hS2⟩
  have hH : Hx (gL D cI u1 u2 str str2) s s.heap := ⟨fun i hi => ⟨(hS1 i hi).1.narrow hAd, (hS1 i hi).2.1.narrow hAd, (hS1 i hi).2.2.1.narrow hAd, (hS1 i hi).2.2.2.narrow hAd⟩, hZ1.narrow hAd, hZ2.narrow hAd⟩
  have XL : LX p s m meth c (gL D cI u1 u2 str str2) b L xs := ⟨hx, hb, hr, hml, hown, hLT, hX, hbl, hlocks, hC, hH, hAd⟩
  refine W.widen (k := 48) (n := 1516) (Nat.le_of_ble_eq_true rfl) (Nat.le_of_ble_eq_true rfl) ?_
  exact lw_loop (l := l) (e := e) (below := below) XL hL (L + 1) 0 w00 (by omega) (Nat.zero_le _) ⟨RM_0, IVW_0⟩ H locs ls hP hS hl2
