set_option maxHeartbeats 4000000 in
set_option maxRecDepth 100000 in
theorem c_X_giveTurn (g : zw_G) (l : Launch) (N : Nat) (ad : Nat → Nat) (E : Nat → va_E) (F : Nat) (q : Nat → Nat) (rg : zt_R) (ev sf lf : Nat → Nat) (hF8 : 8 ≤ F) (hN : N = F + 5 * q 0) (hT : zt_at g ad E F q rg ev sf lf) (hok : zt_ok q rg ev sf) (i : Nat) (hi : i < q 0) (kc ks : Nat) (hkc : (zp_give (q, rg, ev, lf) i).2.1 6 ≤ q 6 + kc) (hks : 2 * (zp_give (q, rg, ev, lf) i).2.1 6 ≤ 2 * q 6 + ks) : zc_i g l y_X_giveTurn b_X_giveTurn 4 (some .int) { frames := 4, cells := kc, slots := ks, locals := 160 } [.ref (ad (0)), .int (nI (i + 1))] N ad E (fun v N1 ad1 E1 => N = N1 ∧ (∀ k, k ≠ 7 → k < N → ad1 k = ad k) ∧ v = nI (zp_give (q, rg, ev, lf) i).1 ∧ zt_at g ad1 E1 F (zp_give (q, rg, ev, lf) i).2.1 (zp_give (q, rg, ev, lf) i).2.2.1 (zp_give (q, rg, ev, lf) i).2.2.2.1 sf (zp_give (q, rg, ev, lf) i).2.2.2.2 ∧ zt_fr E E1 F) := by
  refine zc_i.of (by decide) (Nat.le_of_ble_eq_true rfl) ?_
  intro p e s m below meth c ls A X hr hlk hl hH
  have hl : lv_has ls 4 [(0, .ref (ad (0))), (1, .int (nI (i + 1)))] := hl
  obtain ⟨k0, k2, k3, k3a, k4, k4a, k5, k5a, k6, k6a⟩ := hok.1
  refine lv_aload_n X.1 X.2.1 d_X_giveTurn_0 rfl (lv_at hl 0 rfl) ?_
  refine lv_iload_n X.1 X.2.1 d_X_giveTurn_1 rfl (lv_at hl 1 rfl) ?_
  refine zx_callq (zx_runV (As := [.int (nI (i + 1))]) (rest := []) X hH mv_X_45 ((c_X_find g l N ad E F q rg ev sf lf hF8 hN hT hok (nI (i + 1))) _) (by omega) hT.1 rfl ⟨Nat.le_of_ble_eq_true rfl, Nat.le_of_ble_eq_true rfl⟩ rfl hl rfl (Nat.le_of_ble_eq_true rfl) d_X_giveTurn_2 ⟨Nat.le_of_ble_eq_true rfl, Nat.le_of_ble_eq_true rfl⟩) hH (fun r N1 ad1 E1 H locs hq hH => ?_)
  obtain ⟨rfl, rfl, rfl, hv⟩ := hq
  have ee := nI_toInt (n := i + 1) (by omega)
  rw [if_pos (by omega), show (nI (i + 1)).toInt.toNat - 1 = i by omega] at hv
  subst hv
  have hi0 : i < q 0 := by omega
  have hR := hT.2.2.2.2.2 i hi0
  have hro := hok.2.1 i hi0
  obtain ⟨r0, r1, r2, r3, r4, r5, r7, r8, r6⟩ := hro.1
  refine W.eq (g2 := F0 m 5 ls ([.ref (ad (F + 5 * i))])) rfl ?_
  refine lv_astore_n (lv' := [(2, .ref (ad (F + 5 * i))), (0, .ref (ad (0))), (1, .int (nI (i + 1)))]) X.1 X.2.1 d_X_giveTurn_5 rfl hl (by decide) rfl (fun ls hl => ?_)
  refine lv_aload_n X.1 X.2.1 d_X_giveTurn_6 rfl (lv_at hl 0 rfl) ?_
  refine lv_ifnonnull (tgt := 12) X.1 X.2.1 d_X_giveTurn_7 (by decide) ?_
  refine lv_aload_n X.1 X.2.1 d_X_giveTurn_12 rfl (lv_at hl 0 rfl) ?_
  refine lv_aload_n X.1 X.2.1 d_X_giveTurn_13 rfl (lv_at hl 1 rfl) ?_
  refine zx_get (v := .ref (ad (2))) X hH fg_X_18 (by omega) hT.1 rfl d_X_giveTurn_14 ?_
  refine zx_calli (zx_runV (As := [.ref (ad (2))]) (rest := []) X hH mv_X_129 ((c_R_takeTurn g l N ad E (F + 5 * i) (rg i).1 (rg i).2 (by omega) hR hro 2 3 ev (by omega) (by omega) (by decide) hT.2.2.1 (by omega) (by omega) hok.2.2.1) _) (by omega) hR.1 rfl ⟨Nat.le_of_ble_eq_true rfl, Nat.le_of_ble_eq_true rfl⟩ rfl hl rfl (Nat.le_of_ble_eq_true rfl) d_X_giveTurn_17 ⟨(by dsimp only; omega), (by dsimp only; omega)⟩) hH (fun r N1 ad1 E1 H locs hq hH => ?_)
  obtain ⟨rfl, rfl, rfl, hR, hV, hf⟩ := hq
  obtain ⟨r, hr1⟩ : ∃ r, zp_turn (rg i).1 (rg i).2 ev = r := ⟨_, rfl⟩
  rw [hr1] at hR hV
  refine zx_top (b := nI r.1) (by rw [hr1]) ?_
  have hT1 := hT.reg (r := (r.2.1, r.2.2.1)) hF8 hi0 hR hV hf
  have hrl := zp_turn_le (rg i).1 (rg i).2 ev
  rw [hr1] at hrl
  refine lv_istore_n (lv' := [(3, .int (nI (r.1))), (2, .ref (ad (F + 5 * i))), (0, .ref (ad (0))), (1, .int (nI (i + 1)))]) X.1 X.2.1 d_X_giveTurn_20 rfl hl (by decide) rfl (fun ls hl => ?_)
  refine lv_iload_n X.1 X.2.1 d_X_giveTurn_21 rfl (lv_at hl 0 rfl) ?_
  refine lv_iconst (v := nI 1) X.1 X.2.1 d_X_giveTurn_22 (by decide) ?_
  refine lv_icmp_ne (tgt := 43) X.1 X.2.1 d_X_giveTurn_23 (by decide) (fun c1 => ?_) (fun c1 => ?_)
  · have c1 := mt (zn_eq (nI_toInt (by omega)) (nI_toInt (by omega))).mpr c1
    refine lv_iload_n X.1 X.2.1 d_X_giveTurn_43 rfl (lv_at hl 0 rfl) ?_
    have hg : zp_give (q, rg, ev, lf) i = _ := zp_give_no (lf := lf) hr1 (by omega)
    exact zx_iret X hr hlk hH (by dsimp only; omega) (by dsimp only; omega) d_X_giveTurn_44 ⟨rfl, fun _ _ _ => rfl, by rw [hg], by rw [hg]; exact hT1, hf.t⟩
  · have c1 := (zn_eq (nI_toInt (by omega)) (nI_toInt (by omega))).mp c1
    refine lv_aload_n X.1 X.2.1 d_X_giveTurn_26 rfl (lv_at hl 2 rfl) ?_
    refine zx_get (v := .ref (ad (6))) X hH fg_X_31 (by omega) hT1.1 rfl d_X_giveTurn_27 ?_
    refine lv_sipush (v := nI 1000) X.1 X.2.1 d_X_giveTurn_30 (by decide) ?_
    refine lv_iload_n X.1 X.2.1 d_X_giveTurn_33 rfl (lv_at hl 3 rfl) ?_
    refine lv_imul X.1 X.2.1 d_X_giveTurn_34 ?_
    refine zx_top (pk_mul _ _) ?_
    refine lv_aload_n X.1 X.2.1 d_X_giveTurn_35 rfl (lv_at hl 1 rfl) ?_
    refine zx_get (v := .int (nI (r.2.1 3))) X hH fg_X_126 (by omega) hR.1 rfl d_X_giveTurn_36 ?_
    refine lv_iadd X.1 X.2.1 d_X_giveTurn_39 ?_
    refine zx_top (nI_add _ _) ?_
    have hv9 : ((1000) * (i + 1)) + (r.2.1 3) = 1000 * (i + 1) + r.2.1 3 := rfl
    by_cases d1 : 3000 ≤ q 5
    · have hz := zp_log_full (q := q) (lf := lf) (v := 1000 * (i + 1) + r.2.1 3) d1
      have hg : zp_give (q, rg, ev, lf) i = _ := zp_give_yes (lf := lf) hr1 (by omega)
      rw [hz] at hg
      dsimp only at hg
      refine zx_callv (zx_runV (As := [.int (nI (((1000) * (i + 1)) + (r.2.1 3)))]) (rest := []) X hH mv_X_73 ((c_O_append_full g l N ad E1 6 7 3000 (q 5) (q 6) lf (by omega) (by omega) (by decide) (by omega) (by omega) (by decide) hT1.2.2.2.2.1 (((1000) * (i + 1)) + (r.2.1 3)) (by omega)) _) (by omega) hT1.2.2.2.2.1.1 rfl ⟨Nat.le_of_ble_eq_true rfl, Nat.le_of_ble_eq_true rfl⟩ rfl hl rfl (Nat.le_of_ble_eq_true rfl) d_X_giveTurn_40 ⟨(by dsimp only; omega), (by dsimp only; omega)⟩) hH (fun N1 ad1 E2 H locs hq hH => ?_)
      obtain ⟨rfl, rfl, rfl⟩ := hq
      refine lv_iload_n X.1 X.2.1 d_X_giveTurn_43 rfl (lv_at hl 0 rfl) ?_
      refine zx_top (b := nI 1) (by rw [show r.1 = 1 by omega]) ?_
      exact zx_iret X hr hlk hH (by dsimp only; omega) (by dsimp only; omega) d_X_giveTurn_44 ⟨rfl, fun _ _ _ => rfl, by rw [hg], by rw [hg]; exact hT1, hf.t⟩
    · by_cases d2 : q 6 ≤ q 5
      · have hz := zp_log_grow (q := q) (lf := lf) (v := 1000 * (i + 1) + r.2.1 3) d1 d2
        have hg : zp_give (q, rg, ev, lf) i = _ := zp_give_yes (lf := lf) hr1 (by omega)
        rw [hz] at hg
        dsimp only at hg
        rw [hg] at hkc hks
        have hkc : 2 * q 6 ≤ q 6 + kc := hkc
        have hks : 2 * (2 * q 6) ≤ 2 * q 6 + ks := hks
        refine zx_callv (zx_runV (As := [.int (nI (((1000) * (i + 1)) + (r.2.1 3)))]) (rest := []) X hH mv_X_73 ((c_O_append_grow g l N ad E1 6 7 3000 (q 5) (q 6) lf (by omega) (by omega) (by decide) (by omega) (by omega) (by decide) hT1.2.2.2.2.1 (((1000) * (i + 1)) + (r.2.1 3)) (by omega) (by omega) (by omega)) _) (by omega) hT1.2.2.2.2.1.1 rfl ⟨Nat.le_of_ble_eq_true rfl, Nat.le_of_ble_eq_true rfl⟩ rfl hl rfl (Nat.le_of_ble_eq_true rfl) d_X_giveTurn_40 ⟨(by dsimp only; omega), (by dsimp only; omega)⟩) hH (fun N1 ad1 E2 H locs hq hH => ?_)
        obtain ⟨rfl, ha, hO, he⟩ := hq
        have hT2 := hT1.log (q1 := va_up (va_up q 6 (2 * q 6)) 5 (q 5 + 1)) hF8 hN hO ha he rfl rfl rfl rfl rfl
        refine lv_iload_n X.1 X.2.1 d_X_giveTurn_43 rfl (lv_at hl 0 rfl) ?_
        refine zx_top (b := nI 1) (by rw [show r.1 = 1 by omega]) ?_
        exact zx_iret X hr hlk hH (by dsimp only; omega) (by dsimp only; omega) d_X_giveTurn_44 ⟨rfl, ha, by rw [hg], by rw [hg]; exact hT2, hf.t.tr (fun k a b => he k (by omega) (by omega) (by omega))⟩
      · have hz := zp_log_room (q := q) (lf := lf) (v := 1000 * (i + 1) + r.2.1 3) d1 d2
        have hg : zp_give (q, rg, ev, lf) i = _ := zp_give_yes (lf := lf) hr1 (by omega)
        rw [hz] at hg
        dsimp only at hg
        refine zx_callv (zx_runV (As := [.int (nI (((1000) * (i + 1)) + (r.2.1 3)))]) (rest := []) X hH mv_X_73 ((c_O_append_room g l N ad E1 6 7 3000 (q 5) (q 6) lf (by omega) (by omega) (by decide) (by omega) (by omega) (by decide) hT1.2.2.2.2.1 (((1000) * (i + 1)) + (r.2.1 3)) (by omega) (by omega)) _) (by omega) hT1.2.2.2.2.1.1 rfl ⟨Nat.le_of_ble_eq_true rfl, Nat.le_of_ble_eq_true rfl⟩ rfl hl rfl (Nat.le_of_ble_eq_true rfl) d_X_giveTurn_40 ⟨(by dsimp only; omega), (by dsimp only; omega)⟩) hH (fun N1 ad1 E2 H locs hq hH => ?_)
        obtain ⟨rfl, rfl, hO, hf2⟩ := hq
        have hT2 := hT1.log (q1 := va_up q 5 (q 5 + 1)) hF8 hN hO (fun _ _ _ => rfl) (fun k _ a b => hf2 k a b) rfl rfl rfl rfl rfl
        refine lv_iload_n X.1 X.2.1 d_X_giveTurn_43 rfl (lv_at hl 0 rfl) ?_
        refine zx_top (b := nI 1) (by rw [show r.1 = 1 by omega]) ?_
        exact zx_iret X hr hlk hH (by dsimp only; omega) (by dsimp only; omega) d_X_giveTurn_44 ⟨rfl, fun _ _ _ => rfl, by rw [hg], by rw [hg]; exact hT2, hf.t.tr (fun k a b => hf2 k (by omega) (by omega))⟩
