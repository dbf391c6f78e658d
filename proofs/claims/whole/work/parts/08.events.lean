set_option maxHeartbeats 4000000 in
set_option maxRecDepth 100000 in
theorem c_X_isEvent (g : zw_G) (l : Launch) (N : Nat) (ad : Nat → Nat) (E : Nat → va_E) (x : Int32) : zc_i g l y_X_isEvent b_X_isEvent 1 (some .boolean) { frames := 0, cells := 0, slots := 0, locals := 0 } [.int (x)] N ad E (fun v N1 ad1 E1 => N = N1 ∧ ad = ad1 ∧ E = E1 ∧ v = nI (if 0 ≤ x.toInt ∧ x.toInt < 16 then 1 else 0)) := by
  refine zc_i.of (by decide) (Nat.le_of_ble_eq_true rfl) ?_
  intro p e s m below meth c ls A X hr hlk hl hH
  have hl : lv_has ls 1 [(0, .int (x))] := hl
  refine lv_iload_n X.1 X.2.1 d_X_isEvent_0 rfl (lv_at hl 0 rfl) ?_
  refine lv_if_lt (tgt := 14) X.1 X.2.1 d_X_isEvent_1 (by decide) (fun c1 => ?_) (fun c1 => ?_)
  · have c1 := (zn_lt rfl zn_0).mp c1
    refine lv_iconst (v := nI 0) X.1 X.2.1 d_X_isEvent_14 (by decide) ?_
    exact zx_zret X hr hlk hH (Nat.le_of_ble_eq_true rfl) (Nat.le_of_ble_eq_true rfl) d_X_isEvent_15 rfl ⟨rfl, rfl, rfl, (by first | rfl | (rw [if_pos (by omega)]) | (rw [if_neg (by omega)]))⟩
  · have c1 := mt (zn_lt rfl zn_0).mpr c1
    refine lv_iload_n X.1 X.2.1 d_X_isEvent_4 rfl (lv_at hl 0 rfl) ?_
    refine lv_bipush (v := nI 16) X.1 X.2.1 d_X_isEvent_5 (by decide) ?_
    refine lv_icmp_ge (tgt := 14) X.1 X.2.1 d_X_isEvent_7 (by decide) (fun c2 => ?_) (fun c2 => ?_)
    · have c2 := (zn_le (nI_toInt (by omega)) rfl).mp c2
      refine lv_iconst (v := nI 0) X.1 X.2.1 d_X_isEvent_14 (by decide) ?_
      exact zx_zret X hr hlk hH (Nat.le_of_ble_eq_true rfl) (Nat.le_of_ble_eq_true rfl) d_X_isEvent_15 rfl ⟨rfl, rfl, rfl, (by first | rfl | (rw [if_pos (by omega)]) | (rw [if_neg (by omega)]))⟩
    · have c2 := mt (zn_le (nI_toInt (by omega)) rfl).mpr c2
      refine lv_iconst (v := nI 1) X.1 X.2.1 d_X_isEvent_10 (by decide) ?_
      refine lv_goto (tgt := 15) X.1 X.2.1 d_X_isEvent_11 (by decide) ?_
      exact zx_zret X hr hlk hH (Nat.le_of_ble_eq_true rfl) (Nat.le_of_ble_eq_true rfl) d_X_isEvent_15 rfl ⟨rfl, rfl, rfl, (by first | rfl | (rw [if_pos (by omega)]) | (rw [if_neg (by omega)]))⟩

set_option maxHeartbeats 4000000 in
set_option maxRecDepth 100000 in
theorem c_V_untaken (g : zw_G) (l : Launch) (N : Nat) (ad : Nat → Nat) (E : Nat → va_E) (pe pp : Nat) (ev : Nat → Nat) (he : pe < N) (hp : pp < N) (hne : pe ≠ pp) (hV : ze_at g ad E pe pp ev) (t : Nat) (ht : t < 16) : zc_i g l y_V_untaken b_V_untaken 2 (some .int) { frames := 1, cells := 0, slots := 0, locals := 40 } [.ref (ad (pe)), .int (nI (t))] N ad E (fun v N1 ad1 E1 => N = N1 ∧ ad = ad1 ∧ E = E1 ∧ v = nI (ev t)) := by
  refine zc_i.of (by decide) (Nat.le_of_ble_eq_true rfl) ?_
  intro p e s m below meth c ls A X hr hlk hl hH
  have hl : lv_has ls 2 [(0, .ref (ad (pe))), (1, .int (nI (t)))] := hl
  refine lv_iload_n X.1 X.2.1 d_V_untaken_0 rfl (lv_at hl 1 rfl) ?_
  refine zx_calli (zx_runSN (As := [.int (nI (t))]) (rest := []) X hH ms_V_15 hH.1.2.2.1 ((c_X_isEvent g l N ad E ((nI (t)))) _) ⟨Nat.le_of_ble_eq_true rfl, Nat.le_of_ble_eq_true rfl⟩ rfl hl rfl (Nat.le_of_ble_eq_true rfl) d_V_untaken_1 ⟨Nat.le_of_ble_eq_true rfl, Nat.le_of_ble_eq_true rfl⟩) hH (fun r N1 ad1 E1 H locs hq hH => ?_)
  obtain ⟨rfl, rfl, rfl, rfl⟩ := hq
  have ee := nI_toInt (n := t) (by omega)
  refine zx_top (b := nI 1) (by rw [if_pos (by omega)]) ?_
  refine lv_if_eq (tgt := 16) X.1 X.2.1 d_V_untaken_4 (by decide) (fun c1 => ?_) (fun c1 => ?_)
  · have c1 := (zn_eq (nI_toInt (by omega)) zn_0).mp c1
    exfalso; omega
  · have c1 := mt (zn_eq (nI_toInt (by omega)) zn_0).mpr c1
    refine lv_aload_n X.1 X.2.1 d_V_untaken_7 rfl (lv_at hl 0 rfl) ?_
    refine zx_get (v := .ref (ad (pp))) X hH fg_V_9 (by omega) hV.1 rfl d_V_untaken_8 ?_
    refine lv_iload_n X.1 X.2.1 d_V_untaken_11 rfl (lv_at hl 1 rfl) ?_
    refine zx_iald (j := t) X hH (by omega) hV.2 rfl (by omega) (by decide) d_V_untaken_12 ?_
    refine lv_goto (tgt := 17) X.1 X.2.1 d_V_untaken_13 (by decide) ?_
    exact zx_iret X hr hlk hH (Nat.le_of_ble_eq_true rfl) (Nat.le_of_ble_eq_true rfl) d_V_untaken_17 ⟨rfl, rfl, rfl, rfl⟩

set_option maxHeartbeats 4000000 in
set_option maxRecDepth 100000 in
theorem c_V_addPosting (g : zw_G) (l : Launch) (N : Nat) (ad : Nat → Nat) (E : Nat → va_E) (pe pp : Nat) (ev : Nat → Nat) (he : pe < N) (hp : pp < N) (hne : pe ≠ pp) (hV : ze_at g ad E pe pp ev) (t : Nat) (ht : t < 16) (hv : ev t < 1000000) : zc_v g l y_V_addPosting b_V_addPosting 2 { frames := 1, cells := 0, slots := 0, locals := 40 } [.ref (ad (pe)), .int (nI (t))] N ad E (fun N1 ad1 E1 => N = N1 ∧ ad = ad1 ∧ va_up E pp (zr_ia g 16 (va_up ev t (ev t + 1))) = E1) := by
  refine zc_v.of (by decide) (Nat.le_of_ble_eq_true rfl) ?_
  intro p e s m below meth c ls A X hr hlk hnm hl hH
  have hl : lv_has ls 2 [(0, .ref (ad (pe))), (1, .int (nI (t)))] := hl
  refine lv_iload_n X.1 X.2.1 d_V_addPosting_0 rfl (lv_at hl 1 rfl) ?_
  refine zx_calli (zx_runSN (As := [.int (nI (t))]) (rest := []) X hH ms_V_15 hH.1.2.2.1 ((c_X_isEvent g l N ad E ((nI (t)))) _) ⟨Nat.le_of_ble_eq_true rfl, Nat.le_of_ble_eq_true rfl⟩ rfl hl rfl (Nat.le_of_ble_eq_true rfl) d_V_addPosting_1 ⟨Nat.le_of_ble_eq_true rfl, Nat.le_of_ble_eq_true rfl⟩) hH (fun r N1 ad1 E1 H locs hq hH => ?_)
  obtain ⟨rfl, rfl, rfl, rfl⟩ := hq
  have ee := nI_toInt (n := t) (by omega)
  refine zx_top (b := nI 1) (by rw [if_pos (by omega)]) ?_
  refine lv_if_eq (tgt := 17) X.1 X.2.1 d_V_addPosting_4 (by decide) (fun c1 => ?_) (fun c1 => ?_)
  · have c1 := (zn_eq (nI_toInt (by omega)) zn_0).mp c1
    exfalso; omega
  · have c1 := mt (zn_eq (nI_toInt (by omega)) zn_0).mpr c1
    refine lv_aload_n X.1 X.2.1 d_V_addPosting_7 rfl (lv_at hl 0 rfl) ?_
    refine zx_get (v := .ref (ad (pp))) X hH fg_V_9 (by omega) hV.1 rfl d_V_addPosting_8 ?_
    refine lv_iload_n X.1 X.2.1 d_V_addPosting_11 rfl (lv_at hl 1 rfl) ?_
    refine lv_dup2_11 X.1 X.2.1 d_V_addPosting_12 rfl rfl ?_
    refine zx_iald (j := t) X hH (by omega) hV.2 rfl (by omega) (by decide) d_V_addPosting_13 ?_
    refine lv_iconst (v := nI 1) X.1 X.2.1 d_V_addPosting_14 (by decide) ?_
    refine lv_iadd X.1 X.2.1 d_V_addPosting_15 ?_
    refine zx_top (nI_add _ _) ?_
    refine zx_iast (j := t) X hH (by omega) hV.2 rfl (by omega) (by decide) d_V_addPosting_16 (fun H locs hH => ?_)
    rw [zr_upd] at hH
    have hH : zw_H g A s.heap s N ad (va_up E pp (zr_ia g 16 (va_up ev (t) ((ev t) + (1))))) H locs := hH
    have hV := hV.up hne (va_up ev (t) ((ev t) + (1)))
    exact zx_vret X hr hlk hH (Nat.le_of_ble_eq_true rfl) (Nat.le_of_ble_eq_true rfl) d_V_addPosting_17 ⟨rfl, rfl, rfl⟩

set_option maxHeartbeats 4000000 in
set_option maxRecDepth 100000 in
theorem c_V_takePosting (g : zw_G) (l : Launch) (N : Nat) (ad : Nat → Nat) (E : Nat → va_E) (pe pp : Nat) (ev : Nat → Nat) (he : pe < N) (hp : pp < N) (hne : pe ≠ pp) (hV : ze_at g ad E pe pp ev) (t : Nat) (ht : t < 16) (hv : ev t < 1000000) : zc_i g l y_V_takePosting b_V_takePosting 2 (some .boolean) { frames := 1, cells := 0, slots := 0, locals := 40 } [.ref (ad (pe)), .int (nI (t))] N ad E (fun v N1 ad1 E1 => N = N1 ∧ ad = ad1 ∧ ((ev t = 0 ∧ v = nI 0 ∧ E = E1) ∨ (¬ ev t = 0 ∧ v = nI 1 ∧ va_up E pp (zr_ia g 16 (va_up ev t (ev t - 1))) = E1))) := by
  refine zc_i.of (by decide) (Nat.le_of_ble_eq_true rfl) ?_
  intro p e s m below meth c ls A X hr hlk hl hH
  have hl : lv_has ls 2 [(0, .ref (ad (pe))), (1, .int (nI (t)))] := hl
  refine lv_iload_n X.1 X.2.1 d_V_takePosting_0 rfl (lv_at hl 1 rfl) ?_
  refine zx_calli (zx_runSN (As := [.int (nI (t))]) (rest := []) X hH ms_V_15 hH.1.2.2.1 ((c_X_isEvent g l N ad E ((nI (t)))) _) ⟨Nat.le_of_ble_eq_true rfl, Nat.le_of_ble_eq_true rfl⟩ rfl hl rfl (Nat.le_of_ble_eq_true rfl) d_V_takePosting_1 ⟨Nat.le_of_ble_eq_true rfl, Nat.le_of_ble_eq_true rfl⟩) hH (fun r N1 ad1 E1 H locs hq hH => ?_)
  obtain ⟨rfl, rfl, rfl, rfl⟩ := hq
  have ee := nI_toInt (n := t) (by omega)
  refine zx_top (b := nI 1) (by rw [if_pos (by omega)]) ?_
  refine lv_if_eq (tgt := 16) X.1 X.2.1 d_V_takePosting_4 (by decide) (fun c1 => ?_) (fun c1 => ?_)
  · have c1 := (zn_eq (nI_toInt (by omega)) zn_0).mp c1
    exfalso; omega
  · have c1 := mt (zn_eq (nI_toInt (by omega)) zn_0).mpr c1
    refine lv_aload_n X.1 X.2.1 d_V_takePosting_7 rfl (lv_at hl 0 rfl) ?_
    refine zx_get (v := .ref (ad (pp))) X hH fg_V_9 (by omega) hV.1 rfl d_V_takePosting_8 ?_
    refine lv_iload_n X.1 X.2.1 d_V_takePosting_11 rfl (lv_at hl 1 rfl) ?_
    refine zx_iald (j := t) X hH (by omega) hV.2 rfl (by omega) (by decide) d_V_takePosting_12 ?_
    refine lv_if_gt (tgt := 18) X.1 X.2.1 d_V_takePosting_13 (by decide) (fun c2 => ?_) (fun c2 => ?_)
    · have c2 := (zn_lt zn_0 (nI_toInt (by omega))).mp c2
      refine lv_aload_n X.1 X.2.1 d_V_takePosting_18 rfl (lv_at hl 0 rfl) ?_
      refine zx_get (v := .ref (ad (pp))) X hH fg_V_9 (by omega) hV.1 rfl d_V_takePosting_19 ?_
      refine lv_iload_n X.1 X.2.1 d_V_takePosting_22 rfl (lv_at hl 1 rfl) ?_
      refine lv_dup2_11 X.1 X.2.1 d_V_takePosting_23 rfl rfl ?_
      refine zx_iald (j := t) X hH (by omega) hV.2 rfl (by omega) (by decide) d_V_takePosting_24 ?_
      refine lv_iconst (v := nI 1) X.1 X.2.1 d_V_takePosting_25 (by decide) ?_
      refine lv_isub X.1 X.2.1 d_V_takePosting_26 ?_
      refine zx_top (pk_sub (by omega)) ?_
      refine zx_iast (j := t) X hH (by omega) hV.2 rfl (by omega) (by decide) d_V_takePosting_27 (fun H locs hH => ?_)
      rw [zr_upd] at hH
      have hH : zw_H g A s.heap s N ad (va_up E pp (zr_ia g 16 (va_up ev (t) ((ev t) - (1))))) H locs := hH
      have hV := hV.up hne (va_up ev (t) ((ev t) - (1)))
      refine lv_iconst (v := nI 1) X.1 X.2.1 d_V_takePosting_28 (by decide) ?_
      exact zx_zret X hr hlk hH (Nat.le_of_ble_eq_true rfl) (Nat.le_of_ble_eq_true rfl) d_V_takePosting_29 rfl ⟨rfl, rfl, Or.inr ⟨by omega, rfl, rfl⟩⟩
    · have c2 := mt (zn_lt zn_0 (nI_toInt (by omega))).mpr c2
      refine lv_iconst (v := nI 0) X.1 X.2.1 d_V_takePosting_16 (by decide) ?_
      exact zx_zret X hr hlk hH (Nat.le_of_ble_eq_true rfl) (Nat.le_of_ble_eq_true rfl) d_V_takePosting_17 rfl ⟨rfl, rfl, Or.inl ⟨by omega, rfl, rfl⟩⟩

set_option maxHeartbeats 4000000 in
set_option maxRecDepth 100000 in
theorem c_R_takeWaitsAt (g : zw_G) (l : Launch) (N : Nat) (ad : Nat → Nat) (E : Nat → va_E) (b : Nat) (sc : Nat → Nat) (ar : Nat → Nat → Nat) (hb : b + 5 ≤ N) (hR : zr_at g ad E b sc ar) (hok : zr_ok sc ar) (pe pp : Nat) (ev : Nat → Nat) (he : pe < N) (hp : pp < N) (hne : pe ≠ pp) (hV : ze_at g ad E pe pp ev) (hpb : pp < b ∨ b + 5 ≤ pp) (hpe : pe < b ∨ b + 5 ≤ pe) (hev : ∀ j, ev j < 1000000) (t : Nat) (ht : t ≤ 101) : zc_i g l y_R_takeWaitsAt b_R_takeWaitsAt 4 (some .boolean) { frames := 2, cells := 0, slots := 0, locals := 80 } [.ref (ad (b)), .int (nI (t)), .ref (ad (pe))] N ad E (fun v N1 ad1 E1 => N = N1 ∧ ad = ad1 ∧ v = nI (if (zp_tw (ar 0) (ar 1) t (sc 8) 0 (ar 2) ev).1 = true then 1 else 0) ∧ zr_at g ad E1 b sc (va_up ar 2 (zp_tw (ar 0) (ar 1) t (sc 8) 0 (ar 2) ev).2.1) ∧ ze_at g ad E1 pe pp (zp_tw (ar 0) (ar 1) t (sc 8) 0 (ar 2) ev).2.2 ∧ zr_f3 E E1 b pp) := by
  refine zc_i.of (by decide) (Nat.le_of_ble_eq_true rfl) ?_
  intro p e s m below meth c ls A X hr hlk hl hH
  have hl : lv_has ls 4 [(0, .ref (ad (b))), (1, .int (nI (t))), (2, .ref (ad (pe)))] := hl
  obtain ⟨k0, k1, k2, k3, k4, k5, k7, k8, k6⟩ := hok.1
  refine lv_iconst (v := nI 0) X.1 X.2.1 d_R_takeWaitsAt_0 (by decide) ?_
  refine lv_istore_n (lv' := [(3, .int (nI (0))), (0, .ref (ad (b))), (1, .int (nI (t))), (2, .ref (ad (pe)))]) X.1 X.2.1 d_R_takeWaitsAt_1 rfl hl (by decide) rfl (fun ls hl => ?_)
  refine zx_loop (σ := Nat × (Nat → Nat) × (Nat → Nat) × (Nat → va_E)) (fun x H locs ls => x.1 ≤ sc 8 ∧ zr_at g ad x.2.2.2 b sc (va_up ar 2 x.2.1) ∧ ze_at g ad x.2.2.2 pe pp x.2.2.1 ∧ zr_f3 E x.2.2.2 b pp ∧ (∀ j, x.2.2.1 j < 1000000) ∧ (∀ j, x.2.1 j ≤ 1) ∧ zp_tw (ar 0) (ar 1) t (sc 8) 0 (ar 2) ev = zp_tw (ar 0) (ar 1) t (sc 8 - x.1) x.1 x.2.1 x.2.2.1 ∧ zw_H g A s.heap s N ad x.2.2.2 H locs ∧ lv_has ls 4 [(3, .int (nI x.1)), (0, .ref (ad b)), (1, .int (nI t)), (2, .ref (ad pe))]) (fun x => sc 8 - x.1) (fun _ => 0) (fun _ => 0) ?_ (0, ar 2, ev, E) _ _ _ ⟨Nat.zero_le _, hR.arr (zr_id ar 2), hV, zr_f3.rf, hev, hok.2.2.2.1, rfl, hH, hl⟩
  rintro ⟨i, tk, ev1, E1⟩ H locs ls ⟨hi, hR, hV, hF, hev, htk, hT, hH, hl⟩ ih
  dsimp only at hi hR hV hF hev htk hT hH hl ih
  have k10 := hok.2.1 i
  have k11 := hok.2.2.1 i
  have k12 := htk i
  refine lv_iload_n X.1 X.2.1 d_R_takeWaitsAt_2 rfl (lv_at hl 0 rfl) ?_
  refine lv_aload_n X.1 X.2.1 d_R_takeWaitsAt_3 rfl (lv_at hl 1 rfl) ?_
  refine zx_get (v := .int (nI (sc 8))) X hH fg_R_49 (by omega) hR.1 rfl d_R_takeWaitsAt_4 ?_
  refine lv_icmp_ge (tgt := 63) X.1 X.2.1 d_R_takeWaitsAt_7 (by decide) (fun c1 => ?_) (fun c1 => ?_)
  · have c1 := (zn_le (nI_toInt (by omega)) (nI_toInt (by omega))).mp c1
    refine lv_iconst (v := nI 1) X.1 X.2.1 d_R_takeWaitsAt_63 (by decide) ?_
    exact zx_zret X hr hlk hH (Nat.le_of_ble_eq_true rfl) (Nat.le_of_ble_eq_true rfl) d_R_takeWaitsAt_64 rfl ⟨rfl, rfl, by rw [hT, show sc 8 - i = 0 by omega, zp_tw_0]; exact ⟨rfl, hR, hV, hF⟩⟩
  · have c1 := mt (zn_le (nI_toInt (by omega)) (nI_toInt (by omega))).mpr c1
    refine lv_iload_n X.1 X.2.1 d_R_takeWaitsAt_10 rfl (lv_at hl 0 rfl) ?_
    refine lv_bipush (v := nI 20) X.1 X.2.1 d_R_takeWaitsAt_11 (by decide) ?_
    refine lv_icmp_ge (tgt := 63) X.1 X.2.1 d_R_takeWaitsAt_13 (by decide) (fun c2 => ?_) (fun c2 => ?_)
    · have c2 := (zn_le (nI_toInt (by omega)) (nI_toInt (by omega))).mp c2
      exfalso; omega
    · have c2 := mt (zn_le (nI_toInt (by omega)) (nI_toInt (by omega))).mpr c2
      refine lv_aload_n X.1 X.2.1 d_R_takeWaitsAt_16 rfl (lv_at hl 1 rfl) ?_
      refine zx_get (v := .ref (ad (b + 1))) X hH fg_R_15 (by omega) hR.1 rfl d_R_takeWaitsAt_17 ?_
      refine lv_iload_n X.1 X.2.1 d_R_takeWaitsAt_20 rfl (lv_at hl 0 rfl) ?_
      refine zx_iald (j := i) X hH (by omega) (show E1 (b + 1) = zr_ia g 20 (ar 0) from hR.2.1) rfl (by omega) (by decide) d_R_takeWaitsAt_21 ?_
      refine lv_iload_n X.1 X.2.1 d_R_takeWaitsAt_22 rfl (lv_at hl 2 rfl) ?_
      refine lv_icmp_ne (tgt := 57) X.1 X.2.1 d_R_takeWaitsAt_23 (by decide) (fun c3 => ?_) (fun c3 => ?_)
      · have c3 := mt (zn_eq (nI_toInt (by omega)) (nI_toInt (by omega))).mpr c3
        refine lv_iinc (v := nI (i + 1)) (lv' := [(3, .int (nI (i + 1))), (0, .ref (ad (b))), (1, .int (nI (t))), (2, .ref (ad (pe)))]) X.1 X.2.1 d_R_takeWaitsAt_57 hl (k := 0) rfl (nI_add _ _) (by decide) rfl (fun ls hl => ?_)
        refine lv_goto (tgt := 2) X.1 X.2.1 d_R_takeWaitsAt_60 (by decide) ?_
        exact ih (i + 1, tk, ev1, E1) _ _ _ ⟨by omega, hR, hV, hF, hev, htk, (hT.trans (by rw [show sc 8 - i = (sc 8 - (i + 1)) + 1 by omega]; exact zp_tw_no (by omega))), hH, lv_sub hl [0, 1, 2, 3] rfl⟩ (by show sc 8 - (i + 1) < sc 8 - i; omega)
      · have c3 := (zn_eq (nI_toInt (by omega)) (nI_toInt (by omega))).mp c3
        refine lv_aload_n X.1 X.2.1 d_R_takeWaitsAt_26 rfl (lv_at hl 1 rfl) ?_
        refine zx_get (v := .ref (ad (b + 3))) X hH fg_R_22 (by omega) hR.1 rfl d_R_takeWaitsAt_27 ?_
        refine lv_iload_n X.1 X.2.1 d_R_takeWaitsAt_30 rfl (lv_at hl 0 rfl) ?_
        refine zx_zald (j := i) X hH (by omega) (show E1 (b + 3) = zr_za g 20 (tk) from hR.2.2.2.1) rfl (by omega) (by decide) d_R_takeWaitsAt_31 ?_
        refine lv_if_ne (tgt := 57) X.1 X.2.1 d_R_takeWaitsAt_32 (by decide) (fun c4 => ?_) (fun c4 => ?_)
        · have c4 := mt (zn_eq (nI_toInt (by omega)) zn_0).mpr c4
          refine lv_iinc (v := nI (i + 1)) (lv' := [(3, .int (nI (i + 1))), (0, .ref (ad (b))), (1, .int (nI (t))), (2, .ref (ad (pe)))]) X.1 X.2.1 d_R_takeWaitsAt_57 hl (k := 0) rfl (nI_add _ _) (by decide) rfl (fun ls hl => ?_)
          refine lv_goto (tgt := 2) X.1 X.2.1 d_R_takeWaitsAt_60 (by decide) ?_
          exact ih (i + 1, tk, ev1, E1) _ _ _ ⟨by omega, hR, hV, hF, hev, htk, (hT.trans (by rw [show sc 8 - i = (sc 8 - (i + 1)) + 1 by omega]; exact zp_tw_no (by omega))), hH, lv_sub hl [0, 1, 2, 3] rfl⟩ (by show sc 8 - (i + 1) < sc 8 - i; omega)
        · have c4 := (zn_eq (nI_toInt (by omega)) zn_0).mp c4
          refine lv_aload_n X.1 X.2.1 d_R_takeWaitsAt_35 rfl (lv_at hl 3 rfl) ?_
          refine lv_aload_n X.1 X.2.1 d_R_takeWaitsAt_36 rfl (lv_at hl 1 rfl) ?_
          refine zx_get (v := .ref (ad (b + 2))) X hH fg_R_19 (by omega) hR.1 rfl d_R_takeWaitsAt_37 ?_
          refine lv_iload_n X.1 X.2.1 d_R_takeWaitsAt_40 rfl (lv_at hl 0 rfl) ?_
          refine zx_iald (j := i) X hH (by omega) (show E1 (b + 2) = zr_ia g 20 (ar 1) from hR.2.2.1) rfl (by omega) (by decide) d_R_takeWaitsAt_41 ?_
          refine zx_calli (zx_runV (As := [.int (nI (ar 1 i))]) (rest := []) X hH mv_R_83 ((c_V_takePosting g l N ad E1 pe pp ev1 he hp hne hV (ar 1 i) (hok.2.2.1 i) (hev (ar 1 i))) _) he hV.1 rfl ⟨Nat.le_of_ble_eq_true rfl, Nat.le_of_ble_eq_true rfl⟩ rfl hl rfl (Nat.le_of_ble_eq_true rfl) d_R_takeWaitsAt_42 ⟨Nat.le_of_ble_eq_true rfl, Nat.le_of_ble_eq_true rfl⟩) hH (fun r N1 ad1 E2 H locs hq hH => ?_)
          obtain ⟨rfl, rfl, hq⟩ := hq
          rcases hq with ⟨z1, rfl, rfl⟩ | ⟨z1, rfl, rfl⟩
          · refine lv_if_ne (tgt := 50) X.1 X.2.1 d_R_takeWaitsAt_45 (by decide) (fun z => absurd (by decide) z) (fun _ => ?_)
            refine lv_iconst (v := nI 0) X.1 X.2.1 d_R_takeWaitsAt_48 (by decide) ?_
            exact zx_zret X hr hlk hH (Nat.le_of_ble_eq_true rfl) (Nat.le_of_ble_eq_true rfl) d_R_takeWaitsAt_49 rfl ⟨rfl, rfl, by rw [hT, show sc 8 - i = (sc 8 - (i + 1)) + 1 by omega, zp_tw_stop ⟨by omega, by omega⟩ z1]; exact ⟨rfl, hR, hV, hF⟩⟩
          · refine lv_if_ne (tgt := 50) X.1 X.2.1 d_R_takeWaitsAt_45 (by decide) (fun _ => ?_) (fun z => absurd z (by decide))
            have hV := hV.up hne (va_up ev1 (ar 1 i) (ev1 (ar 1 i) - 1))
            have hR := hR.keep (E1 := va_up E1 pp (zr_ia g 16 (va_up ev1 (ar 1 i) (ev1 (ar 1 i) - 1)))) (fun k h1 h2 => va_up_ne _ _ (by omega))
            have hF := hF.up (k := pp) (x := zr_ia g 16 (va_up ev1 (ar 1 i) (ev1 (ar 1 i) - 1))) (Or.inr rfl)
            generalize va_up E1 pp (zr_ia g 16 (va_up ev1 (ar 1 i) (ev1 (ar 1 i) - 1))) = E2 at hH hV hR hF
            refine lv_aload_n X.1 X.2.1 d_R_takeWaitsAt_50 rfl (lv_at hl 1 rfl) ?_
            refine zx_get (v := .ref (ad (b + 3))) X hH fg_R_22 (by omega) hR.1 rfl d_R_takeWaitsAt_51 ?_
            refine lv_iload_n X.1 X.2.1 d_R_takeWaitsAt_54 rfl (lv_at hl 0 rfl) ?_
            refine lv_iconst (v := nI 1) X.1 X.2.1 d_R_takeWaitsAt_55 (by decide) ?_
            refine zx_zast (j := i) X hH (by omega) (show E2 (b + 3) = zr_za g 20 tk from hR.2.2.2.1) rfl (by omega) (by decide) (by decide) d_R_takeWaitsAt_56 (fun H locs hH => ?_)
            rw [zr_upd] at hH
            have hH : zw_H g A s.heap s N ad (va_up E2 (b + 3) (zr_za g 20 (va_up tk i 1))) H locs := hH
            have hR : zr_at g ad (va_up E2 (b + 3) (zr_za g 20 (va_up tk i 1))) b sc (va_up ar 2 (va_up tk i 1)) := (hR.a2 (va_up tk i 1)).arr (bx_uu _ _ _ _)
            have hV := hV.keep (E1 := va_up E2 (b + 3) (zr_za g 20 (va_up tk i 1))) (va_up_ne _ _ (by omega)) (va_up_ne _ _ (by omega))
            have hF := hF.up (k := b + 3) (x := zr_za g 20 (va_up tk i 1)) (Or.inl (by omega))
            have hev2 : ∀ j, va_up ev1 (ar 1 i) (ev1 (ar 1 i) - 1) j < 1000000 := fun j => by have := hev j; have := hev (ar 1 i); unfold va_up; split <;> omega
            have htk2 : ∀ j, va_up tk i 1 j ≤ 1 := fun j => by have := htk j; unfold va_up; split <;> omega
            refine lv_iinc (v := nI (i + 1)) (lv' := [(3, .int (nI (i + 1))), (0, .ref (ad (b))), (1, .int (nI (t))), (2, .ref (ad (pe)))]) X.1 X.2.1 d_R_takeWaitsAt_57 hl (k := 0) rfl (nI_add _ _) (by decide) rfl (fun ls hl => ?_)
            refine lv_goto (tgt := 2) X.1 X.2.1 d_R_takeWaitsAt_60 (by decide) ?_
            exact ih (i + 1, va_up tk i 1, va_up ev1 (ar 1 i) (ev1 (ar 1 i) - 1), va_up E2 (b + 3) (zr_za g 20 (va_up tk i 1))) _ _ _ ⟨by omega, hR, hV, hF, hev2, htk2, (hT.trans (by rw [show sc 8 - i = (sc 8 - (i + 1)) + 1 by omega]; exact zp_tw_take ⟨by omega, by omega⟩ z1)), hH, lv_sub hl [0, 1, 2, 3] rfl⟩ (by show sc 8 - (i + 1) < sc 8 - i; omega)

set_option maxHeartbeats 4000000 in
set_option maxRecDepth 100000 in
theorem c_R_takeTurn (g : zw_G) (l : Launch) (N : Nat) (ad : Nat → Nat) (E : Nat → va_E) (b : Nat) (sc : Nat → Nat) (ar : Nat → Nat → Nat) (hb : b + 5 ≤ N) (hR : zr_at g ad E b sc ar) (hok : zr_ok sc ar) (pe pp : Nat) (ev : Nat → Nat) (he : pe < N) (hp : pp < N) (hne : pe ≠ pp) (hV : ze_at g ad E pe pp ev) (hpb : pp < b ∨ b + 5 ≤ pp) (hpe : pe < b ∨ b + 5 ≤ pe) (hev : ∀ j, ev j < 1000000) : zc_i g l y_R_takeTurn b_R_takeTurn 3 (some .int) { frames := 3, cells := 0, slots := 0, locals := 120 } [.ref (ad (b)), .ref (ad (pe))] N ad E (fun v N1 ad1 E1 => N = N1 ∧ ad = ad1 ∧ v = nI (zp_turn sc ar ev).1 ∧ zr_at g ad E1 b (zp_turn sc ar ev).2.1 (zp_turn sc ar ev).2.2.1 ∧ ze_at g ad E1 pe pp (zp_turn sc ar ev).2.2.2 ∧ zr_f3 E E1 b pp) := by
  refine zc_i.of (by decide) (Nat.le_of_ble_eq_true rfl) ?_
  intro p e s m below meth c ls A X hr hlk hl hH
  have hl : lv_has ls 3 [(0, .ref (ad (b))), (1, .ref (ad (pe)))] := hl
  obtain ⟨k0, k1, k2, k3, k4, k5, k7, k8, k6⟩ := hok.1
  have k9 := hok.2.2.2.2 (sc 3)
  have hF : zr_f3 E E b pp := zr_f3.rf
  refine lv_aload_n X.1 X.2.1 d_R_takeTurn_0 rfl (lv_at hl 0 rfl) ?_
  refine zx_calli (zx_runV (As := []) (rest := []) X hH mv_R_35 ((c_R_goesOn g l N ad E b sc ar hb hR hok) _) (by omega) hR.1 rfl ⟨Nat.le_of_ble_eq_true rfl, Nat.le_of_ble_eq_true rfl⟩ rfl hl rfl (Nat.le_of_ble_eq_true rfl) d_R_takeTurn_1 ⟨Nat.le_of_ble_eq_true rfl, Nat.le_of_ble_eq_true rfl⟩) hH (fun r N1 ad1 E1 H locs hq hH => ?_)
  obtain ⟨rfl, rfl, rfl, rfl⟩ := hq
  by_cases d1 : sc 2 = 0
  · refine zx_top (b := nI 1) (by rw [if_pos d1]) ?_
    refine lv_if_ne (tgt := 9) X.1 X.2.1 d_R_takeTurn_4 (by decide) (fun z => ?_) (fun z => ?_)
    · clear z
      refine lv_aload_n X.1 X.2.1 d_R_takeTurn_9 rfl (lv_at hl 0 rfl) ?_
      refine zx_get (v := .int (nI (sc 7))) X hH fg_R_52 (by omega) hR.1 rfl d_R_takeTurn_10 ?_
      refine lv_if_eq (tgt := 30) X.1 X.2.1 d_R_takeTurn_13 (by decide) (fun c2 => ?_) (fun c2 => ?_)
      · have c2 := (zn_eq (nI_toInt (by omega)) zn_0).mp c2
        refine lv_aload_n X.1 X.2.1 d_R_takeTurn_30 rfl (lv_at hl 0 rfl) ?_
        refine zx_get (v := .int (nI (sc 3))) X hH fg_R_39 (by omega) hR.1 rfl d_R_takeTurn_31 ?_
        refine lv_iconst (v := nI 1) X.1 X.2.1 d_R_takeTurn_34 (by decide) ?_
        refine lv_iadd X.1 X.2.1 d_R_takeTurn_35 ?_
        refine zx_top (nI_add _ _) ?_
        refine lv_istore_n (lv' := [(2, .int (nI ((sc 3) + (1)))), (0, .ref (ad (b))), (1, .ref (ad (pe)))]) X.1 X.2.1 d_R_takeTurn_36 rfl hl (by decide) rfl (fun ls hl => ?_)
        refine lv_aload_n X.1 X.2.1 d_R_takeTurn_37 rfl (lv_at hl 1 rfl) ?_
        refine lv_iload_n X.1 X.2.1 d_R_takeTurn_38 rfl (lv_at hl 0 rfl) ?_
        refine lv_aload_n X.1 X.2.1 d_R_takeTurn_39 rfl (lv_at hl 2 rfl) ?_
        refine zx_calli (zx_runV (As := [.int (nI ((sc 3) + (1))), .ref (ad (pe))]) (rest := []) X hH mv_R_63 ((c_R_takeWaitsAt g l N ad E b sc ar hb hR hok pe pp ev he hp hne hV hpb hpe hev (sc 3 + 1) (by omega)) _) (by omega) hR.1 rfl ⟨Nat.le_of_ble_eq_true rfl, Nat.le_of_ble_eq_true rfl⟩ rfl hl rfl (Nat.le_of_ble_eq_true rfl) d_R_takeTurn_40 ⟨Nat.le_of_ble_eq_true rfl, Nat.le_of_ble_eq_true rfl⟩) hH (fun r N1 ad1 E8 H locs hq hH => ?_)
        obtain ⟨rfl, rfl, rfl, hR, hV, hF⟩ := hq
        have hok2 := zr_ok.tw hok (sc 3 + 1) ev
        by_cases dw : (zp_tw (ar 0) (ar 1) (sc 3 + 1) (sc 8) 0 (ar 2) ev).1 = true
        · refine zx_top (b := nI 1) (by rw [if_pos dw]) ?_
          refine lv_if_ne (tgt := 48) X.1 X.2.1 d_R_takeTurn_43 (by decide) (fun _ => ?_) (fun z => absurd z (by decide))
          refine lv_iload_n X.1 X.2.1 d_R_takeTurn_48 rfl (lv_at hl 0 rfl) ?_
          refine lv_aload_n X.1 X.2.1 d_R_takeTurn_49 rfl (lv_at hl 1 rfl) ?_
          refine zx_get (v := .int (nI (sc 1))) X hH fg_R_32 (by omega) hR.1 rfl d_R_takeTurn_50 ?_
          refine lv_icmp_ne (tgt := 63) X.1 X.2.1 d_R_takeTurn_53 (by decide) (fun c3 => ?_) (fun c3 => ?_)
          · have c3 := mt (zn_eq (nI_toInt (by omega)) (nI_toInt (by omega))).mpr c3
            refine lv_aload_n X.1 X.2.1 d_R_takeTurn_63 rfl (lv_at hl 1 rfl) ?_
            refine lv_iload_n X.1 X.2.1 d_R_takeTurn_64 rfl (lv_at hl 0 rfl) ?_
            refine zx_callv (zx_runV (As := [.int (nI ((sc 3) + (1)))]) (rest := []) X hH mv_R_67 ((c_R_doStep g l N ad E8 b sc (va_up ar 2 (zp_tw (ar 0) (ar 1) (sc 3 + 1) (sc 8) 0 (ar 2) ev).2.1) hb hR hok2 (sc 3 + 1) (by omega)) _) (by omega) hR.1 rfl ⟨Nat.le_of_ble_eq_true rfl, Nat.le_of_ble_eq_true rfl⟩ rfl hl rfl (Nat.le_of_ble_eq_true rfl) d_R_takeTurn_65 ⟨Nat.le_of_ble_eq_true rfl, Nat.le_of_ble_eq_true rfl⟩) hH (fun N1 ad1 E9 H locs hq hH => ?_)
            obtain ⟨rfl, rfl, hR, hF1⟩ := hq
            have hV := hV.keep (E1 := E9) (hF1 pe hpe) (hF1 pp hpb)
            have hF := hF.tf hF1
            refine lv_iconst (v := nI 1) X.1 X.2.1 d_R_takeTurn_68 (by decide) ?_
            exact zx_iret X hr hlk hH (Nat.le_of_ble_eq_true rfl) (Nat.le_of_ble_eq_true rfl) d_R_takeTurn_69 ⟨rfl, rfl, by rw [zp_turn_step (by omega) (by omega) dw (by omega)]; exact ⟨rfl, hR, hV, hF⟩⟩
          · have c3 := (zn_eq (nI_toInt (by omega)) (nI_toInt (by omega))).mp c3
            refine lv_aload_n X.1 X.2.1 d_R_takeTurn_56 rfl (lv_at hl 1 rfl) ?_
            refine lv_iconst (v := nI 2) X.1 X.2.1 d_R_takeTurn_57 (by decide) ?_
            refine zx_callv (zx_runV (As := [.int (nI (2))]) (rest := []) X hH mv_R_59 ((c_R_backOut g l N ad E8 b sc (va_up ar 2 (zp_tw (ar 0) (ar 1) (sc 3 + 1) (sc 8) 0 (ar 2) ev).2.1) hb hR hok2 2) _) (by omega) hR.1 rfl ⟨Nat.le_of_ble_eq_true rfl, Nat.le_of_ble_eq_true rfl⟩ rfl hl rfl (Nat.le_of_ble_eq_true rfl) d_R_takeTurn_58 ⟨Nat.le_of_ble_eq_true rfl, Nat.le_of_ble_eq_true rfl⟩) hH (fun N1 ad1 E9 H locs hq hH => ?_)
            obtain ⟨rfl, rfl, hR, hF1⟩ := hq
            have hV := hV.keep (E1 := E9) (hF1 pe hpe) (hF1 pp hpb)
            have hF := hF.tf hF1
            refine lv_iconst (v := nI 2) X.1 X.2.1 d_R_takeTurn_61 (by decide) ?_
            exact zx_iret X hr hlk hH (Nat.le_of_ble_eq_true rfl) (Nat.le_of_ble_eq_true rfl) d_R_takeTurn_62 ⟨rfl, rfl, by rw [zp_turn_fail (by omega) (by omega) dw (by omega)]; exact ⟨rfl, hR, hV, hF⟩⟩
        · refine zx_top (b := nI 0) (by rw [if_neg dw]) ?_
          refine lv_if_ne (tgt := 48) X.1 X.2.1 d_R_takeTurn_43 (by decide) (fun z => absurd (by decide) z) (fun _ => ?_)
          refine lv_iconst (v := nI 0) X.1 X.2.1 d_R_takeTurn_46 (by decide) ?_
          exact zx_iret X hr hlk hH (Nat.le_of_ble_eq_true rfl) (Nat.le_of_ble_eq_true rfl) d_R_takeTurn_47 ⟨rfl, rfl, by rw [zp_turn_wait (by omega) (by omega) dw]; exact ⟨rfl, hR, hV, hF⟩⟩
      · have c2 := mt (zn_eq (nI_toInt (by omega)) zn_0).mpr c2
        refine lv_aload_n X.1 X.2.1 d_R_takeTurn_16 rfl (lv_at hl 0 rfl) ?_
        refine zx_calli (zx_runV (As := []) (rest := []) X hH mv_R_56 ((c_R_isInside g l N ad E b sc ar hb hR hok) _) (by omega) hR.1 rfl ⟨Nat.le_of_ble_eq_true rfl, Nat.le_of_ble_eq_true rfl⟩ rfl hl rfl (Nat.le_of_ble_eq_true rfl) d_R_takeTurn_17 ⟨Nat.le_of_ble_eq_true rfl, Nat.le_of_ble_eq_true rfl⟩) hH (fun r N1 ad1 E1 H locs hq hH => ?_)
        obtain ⟨rfl, rfl, rfl, rfl⟩ := hq
        by_cases d4 : ar 3 (sc 3) = 1
        · refine zx_top (b := nI 1) (by rw [if_pos d4]) ?_
          refine lv_if_ne (tgt := 30) X.1 X.2.1 d_R_takeTurn_20 (by decide) (fun z => ?_) (fun z => ?_)
          · clear z
            refine lv_aload_n X.1 X.2.1 d_R_takeTurn_30 rfl (lv_at hl 0 rfl) ?_
            refine zx_get (v := .int (nI (sc 3))) X hH fg_R_39 (by omega) hR.1 rfl d_R_takeTurn_31 ?_
            refine lv_iconst (v := nI 1) X.1 X.2.1 d_R_takeTurn_34 (by decide) ?_
            refine lv_iadd X.1 X.2.1 d_R_takeTurn_35 ?_
            refine zx_top (nI_add _ _) ?_
            refine lv_istore_n (lv' := [(2, .int (nI ((sc 3) + (1)))), (0, .ref (ad (b))), (1, .ref (ad (pe)))]) X.1 X.2.1 d_R_takeTurn_36 rfl hl (by decide) rfl (fun ls hl => ?_)
            refine lv_aload_n X.1 X.2.1 d_R_takeTurn_37 rfl (lv_at hl 1 rfl) ?_
            refine lv_iload_n X.1 X.2.1 d_R_takeTurn_38 rfl (lv_at hl 0 rfl) ?_
            refine lv_aload_n X.1 X.2.1 d_R_takeTurn_39 rfl (lv_at hl 2 rfl) ?_
            refine zx_calli (zx_runV (As := [.int (nI ((sc 3) + (1))), .ref (ad (pe))]) (rest := []) X hH mv_R_63 ((c_R_takeWaitsAt g l N ad E b sc ar hb hR hok pe pp ev he hp hne hV hpb hpe hev (sc 3 + 1) (by omega)) _) (by omega) hR.1 rfl ⟨Nat.le_of_ble_eq_true rfl, Nat.le_of_ble_eq_true rfl⟩ rfl hl rfl (Nat.le_of_ble_eq_true rfl) d_R_takeTurn_40 ⟨Nat.le_of_ble_eq_true rfl, Nat.le_of_ble_eq_true rfl⟩) hH (fun r N1 ad1 E8 H locs hq hH => ?_)
            obtain ⟨rfl, rfl, rfl, hR, hV, hF⟩ := hq
            have hok2 := zr_ok.tw hok (sc 3 + 1) ev
            by_cases dw : (zp_tw (ar 0) (ar 1) (sc 3 + 1) (sc 8) 0 (ar 2) ev).1 = true
            · refine zx_top (b := nI 1) (by rw [if_pos dw]) ?_
              refine lv_if_ne (tgt := 48) X.1 X.2.1 d_R_takeTurn_43 (by decide) (fun _ => ?_) (fun z => absurd z (by decide))
              refine lv_iload_n X.1 X.2.1 d_R_takeTurn_48 rfl (lv_at hl 0 rfl) ?_
              refine lv_aload_n X.1 X.2.1 d_R_takeTurn_49 rfl (lv_at hl 1 rfl) ?_
              refine zx_get (v := .int (nI (sc 1))) X hH fg_R_32 (by omega) hR.1 rfl d_R_takeTurn_50 ?_
              refine lv_icmp_ne (tgt := 63) X.1 X.2.1 d_R_takeTurn_53 (by decide) (fun c5 => ?_) (fun c5 => ?_)
              · have c5 := mt (zn_eq (nI_toInt (by omega)) (nI_toInt (by omega))).mpr c5
                refine lv_aload_n X.1 X.2.1 d_R_takeTurn_63 rfl (lv_at hl 1 rfl) ?_
                refine lv_iload_n X.1 X.2.1 d_R_takeTurn_64 rfl (lv_at hl 0 rfl) ?_
                refine zx_callv (zx_runV (As := [.int (nI ((sc 3) + (1)))]) (rest := []) X hH mv_R_67 ((c_R_doStep g l N ad E8 b sc (va_up ar 2 (zp_tw (ar 0) (ar 1) (sc 3 + 1) (sc 8) 0 (ar 2) ev).2.1) hb hR hok2 (sc 3 + 1) (by omega)) _) (by omega) hR.1 rfl ⟨Nat.le_of_ble_eq_true rfl, Nat.le_of_ble_eq_true rfl⟩ rfl hl rfl (Nat.le_of_ble_eq_true rfl) d_R_takeTurn_65 ⟨Nat.le_of_ble_eq_true rfl, Nat.le_of_ble_eq_true rfl⟩) hH (fun N1 ad1 E9 H locs hq hH => ?_)
                obtain ⟨rfl, rfl, hR, hF1⟩ := hq
                have hV := hV.keep (E1 := E9) (hF1 pe hpe) (hF1 pp hpb)
                have hF := hF.tf hF1
                refine lv_iconst (v := nI 1) X.1 X.2.1 d_R_takeTurn_68 (by decide) ?_
                exact zx_iret X hr hlk hH (Nat.le_of_ble_eq_true rfl) (Nat.le_of_ble_eq_true rfl) d_R_takeTurn_69 ⟨rfl, rfl, by rw [zp_turn_step (by omega) (by omega) dw (by omega)]; exact ⟨rfl, hR, hV, hF⟩⟩
              · have c5 := (zn_eq (nI_toInt (by omega)) (nI_toInt (by omega))).mp c5
                refine lv_aload_n X.1 X.2.1 d_R_takeTurn_56 rfl (lv_at hl 1 rfl) ?_
                refine lv_iconst (v := nI 2) X.1 X.2.1 d_R_takeTurn_57 (by decide) ?_
                refine zx_callv (zx_runV (As := [.int (nI (2))]) (rest := []) X hH mv_R_59 ((c_R_backOut g l N ad E8 b sc (va_up ar 2 (zp_tw (ar 0) (ar 1) (sc 3 + 1) (sc 8) 0 (ar 2) ev).2.1) hb hR hok2 2) _) (by omega) hR.1 rfl ⟨Nat.le_of_ble_eq_true rfl, Nat.le_of_ble_eq_true rfl⟩ rfl hl rfl (Nat.le_of_ble_eq_true rfl) d_R_takeTurn_58 ⟨Nat.le_of_ble_eq_true rfl, Nat.le_of_ble_eq_true rfl⟩) hH (fun N1 ad1 E9 H locs hq hH => ?_)
                obtain ⟨rfl, rfl, hR, hF1⟩ := hq
                have hV := hV.keep (E1 := E9) (hF1 pe hpe) (hF1 pp hpb)
                have hF := hF.tf hF1
                refine lv_iconst (v := nI 2) X.1 X.2.1 d_R_takeTurn_61 (by decide) ?_
                exact zx_iret X hr hlk hH (Nat.le_of_ble_eq_true rfl) (Nat.le_of_ble_eq_true rfl) d_R_takeTurn_62 ⟨rfl, rfl, by rw [zp_turn_fail (by omega) (by omega) dw (by omega)]; exact ⟨rfl, hR, hV, hF⟩⟩
            · refine zx_top (b := nI 0) (by rw [if_neg dw]) ?_
              refine lv_if_ne (tgt := 48) X.1 X.2.1 d_R_takeTurn_43 (by decide) (fun z => absurd (by decide) z) (fun _ => ?_)
              refine lv_iconst (v := nI 0) X.1 X.2.1 d_R_takeTurn_46 (by decide) ?_
              exact zx_iret X hr hlk hH (Nat.le_of_ble_eq_true rfl) (Nat.le_of_ble_eq_true rfl) d_R_takeTurn_47 ⟨rfl, rfl, by rw [zp_turn_wait (by omega) (by omega) dw]; exact ⟨rfl, hR, hV, hF⟩⟩
          · exact absurd z (by decide)
        · refine zx_top (b := nI 0) (by rw [if_neg d4]) ?_
          refine lv_if_ne (tgt := 30) X.1 X.2.1 d_R_takeTurn_20 (by decide) (fun z => ?_) (fun z => ?_)
          · exact absurd z (by decide)
          · clear z
            refine lv_aload_n X.1 X.2.1 d_R_takeTurn_23 rfl (lv_at hl 0 rfl) ?_
            refine lv_iconst (v := nI 3) X.1 X.2.1 d_R_takeTurn_24 (by decide) ?_
            refine zx_callv (zx_runV (As := [.int (nI (3))]) (rest := []) X hH mv_R_59 ((c_R_backOut g l N ad E b sc ar hb hR hok 3) _) (by omega) hR.1 rfl ⟨Nat.le_of_ble_eq_true rfl, Nat.le_of_ble_eq_true rfl⟩ rfl hl rfl (Nat.le_of_ble_eq_true rfl) d_R_takeTurn_25 ⟨Nat.le_of_ble_eq_true rfl, Nat.le_of_ble_eq_true rfl⟩) hH (fun N1 ad1 E9 H locs hq hH => ?_)
            obtain ⟨rfl, rfl, hR, hF1⟩ := hq
            have hV := hV.keep (E1 := E9) (hF1 pe hpe) (hF1 pp hpb)
            have hF := hF.tf hF1
            refine lv_iconst (v := nI 2) X.1 X.2.1 d_R_takeTurn_28 (by decide) ?_
            exact zx_iret X hr hlk hH (Nat.le_of_ble_eq_true rfl) (Nat.le_of_ble_eq_true rfl) d_R_takeTurn_29 ⟨rfl, rfl, by rw [zp_turn_cancel (by omega) (by omega) (by omega)]; exact ⟨rfl, hR, hV, hF⟩⟩
    · exact absurd z (by decide)
  · refine zx_top (b := nI 0) (by rw [if_neg d1]) ?_
    refine lv_if_ne (tgt := 9) X.1 X.2.1 d_R_takeTurn_4 (by decide) (fun z => ?_) (fun z => ?_)
    · exact absurd z (by decide)
    · clear z
      refine lv_iconst (v := nI 0) X.1 X.2.1 d_R_takeTurn_7 (by decide) ?_
      exact zx_iret X hr hlk hH (Nat.le_of_ble_eq_true rfl) (Nat.le_of_ble_eq_true rfl) d_R_takeTurn_8 ⟨rfl, rfl, by rw [zp_turn_off (by omega)]; exact ⟨rfl, hR, hV, hF⟩⟩
