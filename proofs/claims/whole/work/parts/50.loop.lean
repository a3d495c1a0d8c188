section LLOOP
variable {l : Launch} {p : Program} {e : Env} {s : State} {m : MethodId} {below : List Frame} {meth : Method} {c : Code} {g : GG} {b L : Nat} {xs : Nat → Int32} {bb i : Nat} {w : Wd}
theorem INV.up {b b2 : Nat} (h : INV b w) (hb : b ≤ b2) (h2 : b2 < 2 ^ 31) : INV b2 w := ⟨h.1, h.2.up hb h2⟩
theorem lc_sw (X : LX p s m meth c g b L xs) (hL : L ≤ 3072) (hI : INV bb w) (hb : bb ≤ 40000) (hi1 : i + 6 ≤ L) {t : Int32} (k2 : ∀ w2, INV (bb + 60) w2 → GoL l p e s m below meth c g b 1302 (LVl g b i) [] w2) : GoL l p e s m below meth c g b 33 (LVl g b i) [.int t] w := by
  by_cases ho : t.toInt < 0 ∨ 38 < t.toInt
  · exact l_tabOut X dL_33 ho rfl (k2 w (hI.up (by omega) (by omega)))
  · obtain ⟨j, hj, rfl⟩ : ∃ j : Nat, j < 39 ∧ t = nI j := ⟨t.toInt.toNat, by omega, Int32.toInt_inj.mp (by rw [nI_toInt (by omega)]; omega)⟩
    clear ho
    match j, hj with
    | 0, _ => exact l_tabIn X dL_33 (by decide) (by decide) (off := 171) rfl rfl (lc_set X hL hI (by omega) hi1 k2)
    | 1, _ => exact l_tabIn X dL_33 (by decide) (by decide) (off := 204) rfl rfl (lc_hill X hL hI (by omega) hi1 k2)
    | 2, _ => exact l_tabIn X dL_33 (by decide) (by decide) (off := 227) rfl rfl (lc_sheep X hL hI (by omega) hi1 k2)
    | 3, _ => exact l_tabIn X dL_33 (by decide) (by decide) (off := 260) rfl rfl (lc_of X hL hI (by omega) hi1 k2)
    | 4, _ => exact l_tabIn X dL_33 (by decide) (by decide) (off := 293) rfl rfl (lc_change X hL hI (by omega) hi1 k2)
    | 5, _ => exact l_tabIn X dL_33 (by decide) (by decide) (off := 336) rfl rfl (lc_drop X hL hI (by omega) hi1 k2)
    | 6, _ => exact l_tabIn X dL_33 (by decide) (by decide) (off := 349) rfl rfl (lc_who X hL hI (by omega) hi1 k2)
    | 7, _ => exact l_tabIn X dL_33 (by decide) (by decide) (off := 372) rfl rfl (lc_go X hL hI (by omega) hi1 k2)
    | 8, _ => exact l_tabIn X dL_33 (by decide) (by decide) (off := 395) rfl rfl (lc_now X hL hI (by omega) hi1 k2)
    | 9, _ => exact l_tabIn X dL_33 (by decide) (by decide) (off := 418) rfl rfl (lc_ahead X hL hI (by omega) hi1 k2)
    | 10, _ => exact l_tabIn X dL_33 (by decide) (by decide) (off := 461) rfl rfl (lc_later X hL hI (by omega) hi1 k2)
    | 11, _ => exact l_tabIn X dL_33 (by decide) (by decide) (off := 494) rfl rfl (lc_when X hL hI (by omega) hi1 k2)
    | 12, _ => exact l_tabIn X dL_33 (by decide) (by decide) (off := 527) rfl rfl (lc_home X hL hI (by omega) hi1 k2)
    | 13, _ => exact l_tabIn X dL_33 (by decide) (by decide) (off := 540) rfl rfl (lc_panic X hL hI (by omega) hi1 k2)
    | 14, _ => exact l_tabIn X dL_33 (by decide) (by decide) (off := 573) rfl rfl (lc_standFor X hL hI (by omega) hi1 k2)
    | 15, _ => exact l_tabIn X dL_33 (by decide) (by decide) (off := 596) rfl rfl (lc_foldFor X hL hI (by omega) hi1 k2)
    | 16, _ => exact l_tabIn X dL_33 (by decide) (by decide) (off := 619) rfl rfl (lc_kindFor X hL hI (by omega) hi1 k2)
    | 17, _ => exact l_tabIn X dL_33 (by decide) (by decide) (off := 652) rfl rfl (lc_paceFor X hL hI (by omega) hi1 k2)
    | 18, _ => exact l_tabIn X dL_33 (by decide) (by decide) (off := 685) rfl rfl (lc_tether X hL hI (by omega) hi1 k2)
    | 19, _ => exact l_tabIn X dL_33 (by decide) (by decide) (off := 708) rfl rfl (lc_fits X hL hI (by omega) hi1 k2)
    | 20, _ => exact l_tabIn X dL_33 (by decide) (by decide) (off := 741) rfl rfl (lc_kinds X hL hI (by omega) hi1 k2)
    | 21, _ => exact l_tabIn X dL_33 (by decide) (by decide) (off := 774) rfl rfl (lc_nights X hL hI (by omega) hi1 k2)
    | 22, _ => exact l_tabIn X dL_33 (by decide) (by decide) (off := 797) rfl rfl (lc_odds X hL hI (by omega) hi1 k2)
    | 23, _ => exact l_tabIn X dL_33 (by decide) (by decide) (off := 841) rfl rfl (lc_seed X hL hI (by omega) hi1 k2)
    | 24, _ => exact l_tabIn X dL_33 (by decide) (by decide) (off := 864) rfl rfl (lc_feed X hL hI (by omega) hi1 k2)
    | 25, _ => exact l_tabIn X dL_33 (by decide) (by decide) (off := 897) rfl rfl (lc_wipe X hL hI (by omega) hi1 k2)
    | 26, _ => exact l_tabIn X dL_33 (by decide) (by decide) (off := 910) rfl rfl (lc_text X hL hI (by omega) hi1 k2)
    | 27, _ => exact l_tabIn X dL_33 (by decide) (by decide) (off := 923) rfl rfl (lc_hold X hL hI (by omega) hi1 k2)
    | 28, _ => exact l_tabIn X dL_33 (by decide) (by decide) (off := 956) rfl rfl (lc_as X hL hI (by omega) hi1 k2)
    | 29, _ => exact l_tabIn X dL_33 (by decide) (by decide) (off := 989) rfl rfl (lc_sheet X hL hI (by omega) hi1 k2)
    | 30, _ => exact l_tabIn X dL_33 (by decide) (by decide) (off := 1032) rfl rfl (lc_write X hL hI (by omega) hi1 k2)
    | 31, _ => exact l_tabIn X dL_33 (by decide) (by decide) (off := 1075) rfl rfl (lc_copy X hL hI (by omega) hi1 k2)
    | 32, _ => exact l_tabIn X dL_33 (by decide) (by decide) (off := 1138) rfl rfl (lc_load X hL hI (by omega) hi1 k2)
    | 33, _ => exact l_tabIn X dL_33 (by decide) (by decide) (off := 1161) rfl rfl (lc_judge X hL hI (by omega) hi1 k2)
    | 34, _ => exact l_tabIn X dL_33 (by decide) (by decide) (off := 1184) rfl rfl (lc_image X hL hI (by omega) hi1 k2)
    | 35, _ => exact l_tabIn X dL_33 (by decide) (by decide) (off := 1197) rfl rfl (lc_undo X hL hI (by omega) hi1 k2)
    | 36, _ => exact l_tabIn X dL_33 (by decide) (by decide) (off := 1210) rfl rfl (lc_tear X hL hI (by omega) hi1 k2)
    | 37, _ => exact l_tabIn X dL_33 (by decide) (by decide) (off := 1223) rfl rfl (lc_count X hL hI (by omega) hi1 k2)
    | 38, _ => exact l_tabIn X dL_33 (by decide) (by decide) (off := 1246) rfl rfl (lc_status X hL hI (by omega) hi1 k2)
    | j + 39, hh => exact absurd hh (by omega)
theorem lw_loop (X : LX p s m meth c g b L xs) (hL : L ≤ 3072) : ∀ (n i : Nat) (w : Wd), L < i + n → i ≤ L → INV (10 * i) w → GoL l p e s m below meth c g b 18 (LVl g b i) [] w
  | 0, i, w, h1, h2, _ => absurd h1 (by omega)
  | n + 1, i, w, h1, h2, hI => by
    refine l_iload X dL_18 rfl ?_
    refine l_aload X dL_19 rfl ?_
    refine l_slen X dL_20 ?_
    refine l_bipush X dL_21 (v := nI 6) rfl ?_
    refine l_isub X dL_23 ?_
    refine l_icmp_gt X dL_24 rfl (fun _ => l_end X dL_1308 dL_1309) (fun hg => ?_)
    have hi1 : i + 6 ≤ L := by
      have h3 : ¬ (nI L - nI 6).toInt < (nI i).toInt := fun hh => hg (Int32.lt_iff_toInt_lt.mpr hh)
      rw [pk_sub_toInt (by omega) (by omega), nI_toInt (by omega)] at h3
      omega
    refine l_aload X dL_27 rfl ?_
    refine l_iload X dL_28 rfl ?_
    refine l_sld X dL_29 hL (by omega) ?_
    refine l_bipush X dL_30 (v := nI 63) rfl ?_
    refine l_iand X dL_32 ?_
    refine lc_sw X hL hI (by omega) hi1 (fun w2 h2 => ?_)
    refine l_iinc X dL_1302 rfl (v := nI (i + 6)) (nI_add i 6) (by decide) rfl rfl ?_
    refine l_goto X dL_1305 rfl ?_
    exact lw_loop X hL n (i + 6) w2 (by omega) hi1 (by rw [show 10 * (i + 6) = 10 * i + 60 from by omega]; exact h2)
end LLOOP
