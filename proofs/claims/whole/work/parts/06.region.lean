set_option maxHeartbeats 4000000 in
set_option maxRecDepth 100000 in
/-- halfOf(t) -/
theorem c_R_halfOf (g : zw_G) (l : Launch) (N : Nat) (ad : Nat → Nat) (E : Nat → va_E) (b : Nat) (sc : Nat → Nat) (ar : Nat → Nat → Nat) (hb : b + 5 ≤ N) (hR : zr_at g ad E b sc ar) (t : Nat) (ht : t ≤ 100) : zc_i g l y_R_halfOf b_R_halfOf 2 (some .int) { frames := 0, cells := 0, slots := 0, locals := 0 } [.ref (ad (b)), .int (nI (t))] N ad E (fun v N1 ad1 E1 => N = N1 ∧ ad = ad1 ∧ E = E1 ∧ v = nI (ar 3 t)) := by
  refine zc_i.of (by decide) (Nat.le_of_ble_eq_true rfl) ?_
  intro p e s m below meth c ls A X hr hlk hl hH
  have hl : lv_has ls 2 [(0, .ref (ad (b))), (1, .int (nI (t)))] := hl
  refine lv_iload_n X.1 X.2.1 d_R_halfOf_0 rfl (lv_at hl 1 rfl) ?_
  refine lv_if_lt (tgt := 10) X.1 X.2.1 d_R_halfOf_1 (by decide) (fun c1 => ?_) (fun c1 => ?_)
  · have c1 := (zn_lt (nI_toInt (by omega)) zn_0).mp c1
    exfalso; omega
  · have c1 := mt (zn_lt (nI_toInt (by omega)) zn_0).mpr c1
    refine lv_iload_n X.1 X.2.1 d_R_halfOf_4 rfl (lv_at hl 1 rfl) ?_
    refine lv_bipush (v := nI 100) X.1 X.2.1 d_R_halfOf_5 (by decide) ?_
    refine lv_icmp_le (tgt := 14) X.1 X.2.1 d_R_halfOf_7 (by decide) (fun c2 => ?_) (fun c2 => ?_)
    · have c2 := (zn_le (nI_toInt (by omega)) (nI_toInt (by omega))).mp c2
      refine lv_aload_n X.1 X.2.1 d_R_halfOf_14 rfl (lv_at hl 0 rfl) ?_
      refine zx_get (v := .ref (ad (b + 4))) X hH fg_R_26 (by omega) hR.1 rfl d_R_halfOf_15 ?_
      refine lv_iload_n X.1 X.2.1 d_R_halfOf_18 rfl (lv_at hl 1 rfl) ?_
      refine zx_iald (j := t) X hH (by omega) (show E (b + 4) = zr_ia g 101 (ar 3) from hR.2.2.2.2) rfl (by omega) (by decide) d_R_halfOf_19 ?_
      exact zx_iret X hr hlk hH (Nat.le_of_ble_eq_true rfl) (Nat.le_of_ble_eq_true rfl) d_R_halfOf_20 ⟨rfl, rfl, rfl, rfl⟩
    · have c2 := mt (zn_le (nI_toInt (by omega)) (nI_toInt (by omega))).mpr c2
      exfalso; omega

set_option maxHeartbeats 4000000 in
set_option maxRecDepth 100000 in
theorem c_R_goesOn (g : zw_G) (l : Launch) (N : Nat) (ad : Nat → Nat) (E : Nat → va_E) (b : Nat) (sc : Nat → Nat) (ar : Nat → Nat → Nat) (hb : b + 5 ≤ N) (hR : zr_at g ad E b sc ar) (hok : zr_ok sc ar) : zc_i g l y_R_goesOn b_R_goesOn 1 (some .boolean) { frames := 0, cells := 0, slots := 0, locals := 0 } [.ref (ad (b))] N ad E (fun v N1 ad1 E1 => N = N1 ∧ ad = ad1 ∧ E = E1 ∧ v = nI (if sc 2 = 0 then 1 else 0)) := by
  refine zc_i.of (by decide) (Nat.le_of_ble_eq_true rfl) ?_
  intro p e s m below meth c ls A X hr hlk hl hH
  have hl : lv_has ls 1 [(0, .ref (ad (b)))] := hl
  obtain ⟨k0, k1, k2, k3, k4, k5, k7, k8, k6⟩ := hok.1
  refine lv_aload_n X.1 X.2.1 d_R_goesOn_0 rfl (lv_at hl 0 rfl) ?_
  refine zx_get (v := .int (nI (sc 2))) X hH fg_R_9 (by omega) hR.1 rfl d_R_goesOn_1 ?_
  refine lv_if_ne (tgt := 11) X.1 X.2.1 d_R_goesOn_4 (by decide) (fun c1 => ?_) (fun c1 => ?_)
  · have c1 := mt (zn_eq (nI_toInt (by omega)) zn_0).mpr c1
    refine lv_iconst (v := nI 0) X.1 X.2.1 d_R_goesOn_11 (by decide) ?_
    exact zx_zret X hr hlk hH (Nat.le_of_ble_eq_true rfl) (Nat.le_of_ble_eq_true rfl) d_R_goesOn_12 rfl ⟨rfl, rfl, rfl, (by first | rfl | (rw [if_pos (by omega)]) | (rw [if_neg (by omega)]))⟩
  · have c1 := (zn_eq (nI_toInt (by omega)) zn_0).mp c1
    refine lv_iconst (v := nI 1) X.1 X.2.1 d_R_goesOn_7 (by decide) ?_
    refine lv_goto (tgt := 12) X.1 X.2.1 d_R_goesOn_8 (by decide) ?_
    exact zx_zret X hr hlk hH (Nat.le_of_ble_eq_true rfl) (Nat.le_of_ble_eq_true rfl) d_R_goesOn_12 rfl ⟨rfl, rfl, rfl, (by first | rfl | (rw [if_pos (by omega)]) | (rw [if_neg (by omega)]))⟩

set_option maxHeartbeats 4000000 in
set_option maxRecDepth 100000 in
theorem c_R_openSteps (g : zw_G) (l : Launch) (N : Nat) (ad : Nat → Nat) (E : Nat → va_E) (b : Nat) (sc : Nat → Nat) (ar : Nat → Nat → Nat) (hb : b + 5 ≤ N) (hR : zr_at g ad E b sc ar) (hok : zr_ok sc ar) : zc_i g l y_R_openSteps b_R_openSteps 1 (some .int) { frames := 0, cells := 0, slots := 0, locals := 0 } [.ref (ad (b))] N ad E (fun v N1 ad1 E1 => N = N1 ∧ ad = ad1 ∧ E = E1 ∧ v = nI (sc 3 - sc 4)) := by
  refine zc_i.of (by decide) (Nat.le_of_ble_eq_true rfl) ?_
  intro p e s m below meth c ls A X hr hlk hl hH
  have hl : lv_has ls 1 [(0, .ref (ad (b)))] := hl
  obtain ⟨k0, k1, k2, k3, k4, k5, k7, k8, k6⟩ := hok.1
  refine lv_aload_n X.1 X.2.1 d_R_openSteps_0 rfl (lv_at hl 0 rfl) ?_
  refine zx_get (v := .int (nI (sc 3))) X hH fg_R_39 (by omega) hR.1 rfl d_R_openSteps_1 ?_
  refine lv_aload_n X.1 X.2.1 d_R_openSteps_4 rfl (lv_at hl 0 rfl) ?_
  refine zx_get (v := .int (nI (sc 4))) X hH fg_R_46 (by omega) hR.1 rfl d_R_openSteps_5 ?_
  refine lv_isub X.1 X.2.1 d_R_openSteps_8 ?_
  refine zx_top (pk_sub (by omega)) ?_
  exact zx_iret X hr hlk hH (Nat.le_of_ble_eq_true rfl) (Nat.le_of_ble_eq_true rfl) d_R_openSteps_9 ⟨rfl, rfl, rfl, rfl⟩

set_option maxHeartbeats 4000000 in
set_option maxRecDepth 100000 in
theorem c_R_isAheadOf (g : zw_G) (l : Launch) (N : Nat) (ad : Nat → Nat) (E : Nat → va_E) (b : Nat) (sc : Nat → Nat) (ar : Nat → Nat → Nat) (hb : b + 5 ≤ N) (hR : zr_at g ad E b sc ar) (hok : zr_ok sc ar) (t : Nat) (ht : t ≤ 100) : zc_i g l y_R_isAheadOf b_R_isAheadOf 2 (some .boolean) { frames := 1, cells := 0, slots := 0, locals := 40 } [.ref (ad (b)), .int (nI (t))] N ad E (fun v N1 ad1 E1 => N = N1 ∧ ad = ad1 ∧ E = E1 ∧ v = nI (if sc 2 = 0 ∧ sc 3 < t then 1 else 0)) := by
  refine zc_i.of (by decide) (Nat.le_of_ble_eq_true rfl) ?_
  intro p e s m below meth c ls A X hr hlk hl hH
  have hl : lv_has ls 2 [(0, .ref (ad (b))), (1, .int (nI (t)))] := hl
  obtain ⟨k0, k1, k2, k3, k4, k5, k7, k8, k6⟩ := hok.1
  refine lv_aload_n X.1 X.2.1 d_R_isAheadOf_0 rfl (lv_at hl 0 rfl) ?_
  refine zx_calli (zx_runV (As := []) (rest := []) X hH mv_R_35 ((c_R_goesOn g l N ad E b sc ar hb hR hok) _) (by omega) hR.1 rfl ⟨Nat.le_of_ble_eq_true rfl, Nat.le_of_ble_eq_true rfl⟩ rfl hl rfl (Nat.le_of_ble_eq_true rfl) d_R_isAheadOf_1 ⟨Nat.le_of_ble_eq_true rfl, Nat.le_of_ble_eq_true rfl⟩) hH (fun r N1 ad1 E1 H locs hq hH => ?_)
  obtain ⟨rfl, rfl, rfl, rfl⟩ := hq
  by_cases d1 : sc 2 = 0
  · refine zx_top (b := nI 1) (by rw [if_pos d1]) ?_
    refine lv_if_eq (tgt := 19) X.1 X.2.1 d_R_isAheadOf_4 (by decide) (fun z => ?_) (fun z => ?_)
    · exact absurd z (by decide)
    · clear z
      refine lv_iload_n X.1 X.2.1 d_R_isAheadOf_7 rfl (lv_at hl 1 rfl) ?_
      refine lv_aload_n X.1 X.2.1 d_R_isAheadOf_8 rfl (lv_at hl 0 rfl) ?_
      refine zx_get (v := .int (nI (sc 3))) X hH fg_R_39 (by omega) hR.1 rfl d_R_isAheadOf_9 ?_
      refine lv_icmp_le (tgt := 19) X.1 X.2.1 d_R_isAheadOf_12 (by decide) (fun c2 => ?_) (fun c2 => ?_)
      · have c2 := (zn_le (nI_toInt (by omega)) (nI_toInt (by omega))).mp c2
        refine lv_iconst (v := nI 0) X.1 X.2.1 d_R_isAheadOf_19 (by decide) ?_
        exact zx_zret X hr hlk hH (Nat.le_of_ble_eq_true rfl) (Nat.le_of_ble_eq_true rfl) d_R_isAheadOf_20 rfl ⟨rfl, rfl, rfl, (by first | rfl | (rw [if_pos (by omega)]) | (rw [if_neg (by omega)]))⟩
      · have c2 := mt (zn_le (nI_toInt (by omega)) (nI_toInt (by omega))).mpr c2
        refine lv_iconst (v := nI 1) X.1 X.2.1 d_R_isAheadOf_15 (by decide) ?_
        refine lv_goto (tgt := 20) X.1 X.2.1 d_R_isAheadOf_16 (by decide) ?_
        exact zx_zret X hr hlk hH (Nat.le_of_ble_eq_true rfl) (Nat.le_of_ble_eq_true rfl) d_R_isAheadOf_20 rfl ⟨rfl, rfl, rfl, (by first | rfl | (rw [if_pos (by omega)]) | (rw [if_neg (by omega)]))⟩
  · refine zx_top (b := nI 0) (by rw [if_neg d1]) ?_
    refine lv_if_eq (tgt := 19) X.1 X.2.1 d_R_isAheadOf_4 (by decide) (fun z => ?_) (fun z => ?_)
    · clear z
      refine lv_iconst (v := nI 0) X.1 X.2.1 d_R_isAheadOf_19 (by decide) ?_
      exact zx_zret X hr hlk hH (Nat.le_of_ble_eq_true rfl) (Nat.le_of_ble_eq_true rfl) d_R_isAheadOf_20 rfl ⟨rfl, rfl, rfl, (by first | rfl | (rw [if_pos (by omega)]) | (rw [if_neg (by omega)]))⟩
    · exact absurd z (by decide)

set_option maxHeartbeats 4000000 in
set_option maxRecDepth 100000 in
theorem c_R_isInside (g : zw_G) (l : Launch) (N : Nat) (ad : Nat → Nat) (E : Nat → va_E) (b : Nat) (sc : Nat → Nat) (ar : Nat → Nat → Nat) (hb : b + 5 ≤ N) (hR : zr_at g ad E b sc ar) (hok : zr_ok sc ar) : zc_i g l y_R_isInsideDecision b_R_isInsideDecision 1 (some .boolean) { frames := 1, cells := 0, slots := 0, locals := 40 } [.ref (ad (b))] N ad E (fun v N1 ad1 E1 => N = N1 ∧ ad = ad1 ∧ E = E1 ∧ v = nI (if ar 3 (sc 3) = 1 then 1 else 0)) := by
  refine zc_i.of (by decide) (Nat.le_of_ble_eq_true rfl) ?_
  intro p e s m below meth c ls A X hr hlk hl hH
  have hl : lv_has ls 1 [(0, .ref (ad (b)))] := hl
  obtain ⟨k0, k1, k2, k3, k4, k5, k7, k8, k6⟩ := hok.1
  have k9 := hok.2.2.2.2 (sc 3)
  refine lv_aload_n X.1 X.2.1 d_R_isInsideDecision_0 rfl (lv_at hl 0 rfl) ?_
  refine lv_aload_n X.1 X.2.1 d_R_isInsideDecision_1 rfl (lv_at hl 0 rfl) ?_
  refine zx_get (v := .int (nI (sc 3))) X hH fg_R_39 (by omega) hR.1 rfl d_R_isInsideDecision_2 ?_
  refine zx_calli (zx_runV (As := [.int (nI (sc 3))]) (rest := []) X hH mv_R_42 ((c_R_halfOf g l N ad E b sc ar hb hR (sc 3) (by omega)) _) (by omega) hR.1 rfl ⟨Nat.le_of_ble_eq_true rfl, Nat.le_of_ble_eq_true rfl⟩ rfl hl rfl (Nat.le_of_ble_eq_true rfl) d_R_isInsideDecision_5 ⟨Nat.le_of_ble_eq_true rfl, Nat.le_of_ble_eq_true rfl⟩) hH (fun r N1 ad1 E1 H locs hq hH => ?_)
  obtain ⟨rfl, rfl, rfl, rfl⟩ := hq
  refine lv_iconst (v := nI 1) X.1 X.2.1 d_R_isInsideDecision_8 (by decide) ?_
  refine lv_icmp_ne (tgt := 16) X.1 X.2.1 d_R_isInsideDecision_9 (by decide) (fun c1 => ?_) (fun c1 => ?_)
  · have c1 := mt (zn_eq (nI_toInt (by omega)) (nI_toInt (by omega))).mpr c1
    refine lv_iconst (v := nI 0) X.1 X.2.1 d_R_isInsideDecision_16 (by decide) ?_
    exact zx_zret X hr hlk hH (Nat.le_of_ble_eq_true rfl) (Nat.le_of_ble_eq_true rfl) d_R_isInsideDecision_17 rfl ⟨rfl, rfl, rfl, (by first | rfl | (rw [if_pos (by omega)]) | (rw [if_neg (by omega)]))⟩
  · have c1 := (zn_eq (nI_toInt (by omega)) (nI_toInt (by omega))).mp c1
    refine lv_iconst (v := nI 1) X.1 X.2.1 d_R_isInsideDecision_12 (by decide) ?_
    refine lv_goto (tgt := 17) X.1 X.2.1 d_R_isInsideDecision_13 (by decide) ?_
    exact zx_zret X hr hlk hH (Nat.le_of_ble_eq_true rfl) (Nat.le_of_ble_eq_true rfl) d_R_isInsideDecision_17 rfl ⟨rfl, rfl, rfl, (by first | rfl | (rw [if_pos (by omega)]) | (rw [if_neg (by omega)]))⟩

set_option maxHeartbeats 4000000 in
set_option maxRecDepth 100000 in
theorem c_R_addWait (g : zw_G) (l : Launch) (N : Nat) (ad : Nat → Nat) (E : Nat → va_E) (b : Nat) (sc : Nat → Nat) (ar : Nat → Nat → Nat) (hb : b + 5 ≤ N) (hR : zr_at g ad E b sc ar) (hok : zr_ok sc ar) (t u : Nat) : zc_i g l y_R_addWait b_R_addWait 3 (some .boolean) { frames := 0, cells := 0, slots := 0, locals := 0 } [.ref (ad (b)), .int (nI (t)), .int (nI (u))] N ad E (fun v N1 ad1 E1 => N = N1 ∧ ad = ad1 ∧ ((20 ≤ sc 8 ∧ v = nI 0 ∧ E = E1) ∨ (sc 8 < 20 ∧ v = nI 1 ∧ zr_at g ad E1 b (va_up sc 8 (sc 8 + 1)) (va_up (va_up ar 0 (va_up (ar 0) (sc 8) t)) 1 (va_up (ar 1) (sc 8) u)) ∧ zr_fr E E1 b))) := by
  refine zc_i.of (by decide) (Nat.le_of_ble_eq_true rfl) ?_
  intro p e s m below meth c ls A X hr hlk hl hH
  have hl : lv_has ls 3 [(0, .ref (ad (b))), (1, .int (nI (t))), (2, .int (nI (u)))] := hl
  obtain ⟨k0, k1, k2, k3, k4, k5, k7, k8, k6⟩ := hok.1
  have hF : zr_fr E E b := zr_fr.rf
  refine lv_aload_n X.1 X.2.1 d_R_addWait_0 rfl (lv_at hl 0 rfl) ?_
  refine zx_get (v := .int (nI (sc 8))) X hH fg_R_49 (by omega) hR.1 rfl d_R_addWait_1 ?_
  refine lv_bipush (v := nI 20) X.1 X.2.1 d_R_addWait_4 (by decide) ?_
  refine lv_icmp_lt (tgt := 11) X.1 X.2.1 d_R_addWait_6 (by decide) (fun c1 => ?_) (fun c1 => ?_)
  · have c1 := (zn_lt (nI_toInt (by omega)) (nI_toInt (by omega))).mp c1
    refine lv_aload_n X.1 X.2.1 d_R_addWait_11 rfl (lv_at hl 0 rfl) ?_
    refine zx_get (v := .ref (ad (b + 1))) X hH fg_R_15 (by omega) hR.1 rfl d_R_addWait_12 ?_
    refine lv_aload_n X.1 X.2.1 d_R_addWait_15 rfl (lv_at hl 0 rfl) ?_
    refine zx_get (v := .int (nI (sc 8))) X hH fg_R_49 (by omega) hR.1 rfl d_R_addWait_16 ?_
    refine lv_iload_n X.1 X.2.1 d_R_addWait_19 rfl (lv_at hl 1 rfl) ?_
    refine zx_iast (j := sc 8) X hH (by omega) (show E (b + 1) = zr_ia g 20 (ar 0) from hR.2.1) rfl (by omega) (by decide) d_R_addWait_20 (fun H locs hH => ?_)
    rw [zr_upd] at hH
    have hH : zw_H g A s.heap s N ad (va_up E (b + 1) (zr_ia g 20 (va_up (ar 0) (sc 8) (t)))) H locs := hH
    have hR := hR.a0 (va_up (ar 0) (sc 8) (t))
    have hF := hF.up (k := b + 1) (x := (zr_ia g 20 (va_up (ar 0) (sc 8) (t)))) (by omega) (by omega)
    generalize va_up E (b + 1) (zr_ia g 20 (va_up (ar 0) (sc 8) (t))) = E2 at hH hR hF
    refine lv_aload_n X.1 X.2.1 d_R_addWait_21 rfl (lv_at hl 0 rfl) ?_
    refine zx_get (v := .ref (ad (b + 2))) X hH fg_R_19 (by omega) hR.1 rfl d_R_addWait_22 ?_
    refine lv_aload_n X.1 X.2.1 d_R_addWait_25 rfl (lv_at hl 0 rfl) ?_
    refine zx_get (v := .int (nI (sc 8))) X hH fg_R_49 (by omega) hR.1 rfl d_R_addWait_26 ?_
    refine lv_iload_n X.1 X.2.1 d_R_addWait_29 rfl (lv_at hl 2 rfl) ?_
    refine zx_iast (j := sc 8) X hH (by omega) (show E2 (b + 2) = zr_ia g 20 (ar 1) from hR.2.2.1) rfl (by omega) (by decide) d_R_addWait_30 (fun H locs hH => ?_)
    rw [zr_upd] at hH
    have hH : zw_H g A s.heap s N ad (va_up E2 (b + 2) (zr_ia g 20 (va_up (ar 1) (sc 8) (u)))) H locs := hH
    have hR := hR.a1 (va_up (ar 1) (sc 8) (u))
    have hF := hF.up (k := b + 2) (x := (zr_ia g 20 (va_up (ar 1) (sc 8) (u)))) (by omega) (by omega)
    generalize va_up E2 (b + 2) (zr_ia g 20 (va_up (ar 1) (sc 8) (u))) = E3 at hH hR hF
    refine lv_aload_n X.1 X.2.1 d_R_addWait_31 rfl (lv_at hl 0 rfl) ?_
    refine lv_dup X.1 X.2.1 d_R_addWait_32 rfl ?_
    refine zx_get (v := .int (nI (sc 8))) X hH fg_R_49 (by omega) hR.1 rfl d_R_addWait_33 ?_
    refine lv_iconst (v := nI 1) X.1 X.2.1 d_R_addWait_36 (by decide) ?_
    refine lv_iadd X.1 X.2.1 d_R_addWait_37 ?_
    refine zx_top (nI_add _ _) ?_
    refine zx_put X hH fp_R_49 (by omega) hR.1 (Nat.le_of_ble_eq_true rfl) rfl rfl d_R_addWait_38 (fun H locs hH => ?_)
    have hH : zw_H g A s.heap s N ad (va_up E3 b (zr_o ad b (va_up sc 8 ((sc 8) + (1))))) H locs := hH
    have hR := hR.sc (va_up sc 8 ((sc 8) + (1)))
    have hF := hF.up (k := b) (x := zr_o ad b (va_up sc 8 ((sc 8) + (1)))) (by omega) (by omega)
    generalize va_up E3 b (zr_o ad b (va_up sc 8 ((sc 8) + (1)))) = E4 at hH hR hF
    refine lv_iconst (v := nI 1) X.1 X.2.1 d_R_addWait_41 (by decide) ?_
    exact zx_zret X hr hlk hH (Nat.le_of_ble_eq_true rfl) (Nat.le_of_ble_eq_true rfl) d_R_addWait_42 rfl ⟨rfl, rfl, Or.inr ⟨by omega, rfl, hR, hF⟩⟩
  · have c1 := mt (zn_lt (nI_toInt (by omega)) (nI_toInt (by omega))).mpr c1
    refine lv_iconst (v := nI 0) X.1 X.2.1 d_R_addWait_9 (by decide) ?_
    exact zx_zret X hr hlk hH (Nat.le_of_ble_eq_true rfl) (Nat.le_of_ble_eq_true rfl) d_R_addWait_10 rfl ⟨rfl, rfl, Or.inl ⟨by omega, rfl, rfl⟩⟩

set_option maxHeartbeats 4000000 in
set_option maxRecDepth 100000 in
theorem c_R_addDecision (g : zw_G) (l : Launch) (N : Nat) (ad : Nat → Nat) (E : Nat → va_E) (b : Nat) (sc : Nat → Nat) (ar : Nat → Nat → Nat) (hb : b + 5 ≤ N) (hR : zr_at g ad E b sc ar) (hok : zr_ok sc ar) (t : Nat) (h1 : 1 ≤ t) (ht : t < 100) : zc_i g l y_R_addDecision b_R_addDecision 2 (some .boolean) { frames := 1, cells := 0, slots := 0, locals := 40 } [.ref (ad (b)), .int (nI (t))] N ad E (fun v N1 ad1 E1 => N = N1 ∧ ad = ad1 ∧ ((¬ (ar 3 t = 0 ∧ ar 3 (t + 1) = 0) ∧ v = nI 0 ∧ E = E1) ∨ ((ar 3 t = 0 ∧ ar 3 (t + 1) = 0) ∧ v = nI 1 ∧ zr_at g ad E1 b sc (va_up (va_up ar 3 (va_up (ar 3) t 1)) 3 (va_up (va_up (ar 3) t 1) (t + 1) 2)) ∧ zr_fr E E1 b))) := by
  refine zc_i.of (by decide) (Nat.le_of_ble_eq_true rfl) ?_
  intro p e s m below meth c ls A X hr hlk hl hH
  have hl : lv_has ls 2 [(0, .ref (ad (b))), (1, .int (nI (t)))] := hl
  obtain ⟨k0, k1, k2, k3, k4, k5, k7, k8, k6⟩ := hok.1
  have k9 := hok.2.2.2.2 t
  have k10 := hok.2.2.2.2 (t + 1)
  have hF : zr_fr E E b := zr_fr.rf
  refine lv_iload_n X.1 X.2.1 d_R_addDecision_0 rfl (lv_at hl 1 rfl) ?_
  refine lv_iconst (v := nI 1) X.1 X.2.1 d_R_addDecision_1 (by decide) ?_
  refine lv_icmp_lt (tgt := 29) X.1 X.2.1 d_R_addDecision_2 (by decide) (fun c1 => ?_) (fun c1 => ?_)
  · have c1 := (zn_lt (nI_toInt (by omega)) (nI_toInt (by omega))).mp c1
    exfalso; omega
  · have c1 := mt (zn_lt (nI_toInt (by omega)) (nI_toInt (by omega))).mpr c1
    refine lv_iload_n X.1 X.2.1 d_R_addDecision_5 rfl (lv_at hl 1 rfl) ?_
    refine lv_bipush (v := nI 100) X.1 X.2.1 d_R_addDecision_6 (by decide) ?_
    refine lv_icmp_ge (tgt := 29) X.1 X.2.1 d_R_addDecision_8 (by decide) (fun c2 => ?_) (fun c2 => ?_)
    · have c2 := (zn_le (nI_toInt (by omega)) (nI_toInt (by omega))).mp c2
      exfalso; omega
    · have c2 := mt (zn_le (nI_toInt (by omega)) (nI_toInt (by omega))).mpr c2
      refine lv_aload_n X.1 X.2.1 d_R_addDecision_11 rfl (lv_at hl 0 rfl) ?_
      refine lv_iload_n X.1 X.2.1 d_R_addDecision_12 rfl (lv_at hl 1 rfl) ?_
      refine zx_calli (zx_runV (As := [.int (nI (t))]) (rest := []) X hH mv_R_42 ((c_R_halfOf g l N ad E b sc ar hb hR (t) (by omega)) _) (by omega) hR.1 rfl ⟨Nat.le_of_ble_eq_true rfl, Nat.le_of_ble_eq_true rfl⟩ rfl hl rfl (Nat.le_of_ble_eq_true rfl) d_R_addDecision_13 ⟨Nat.le_of_ble_eq_true rfl, Nat.le_of_ble_eq_true rfl⟩) hH (fun r N1 ad1 E1 H locs hq hH => ?_)
      obtain ⟨rfl, rfl, rfl, rfl⟩ := hq
      refine lv_if_ne (tgt := 29) X.1 X.2.1 d_R_addDecision_16 (by decide) (fun c3 => ?_) (fun c3 => ?_)
      · have c3 := mt (zn_eq (nI_toInt (by omega)) zn_0).mpr c3
        refine lv_iconst (v := nI 0) X.1 X.2.1 d_R_addDecision_29 (by decide) ?_
        exact zx_zret X hr hlk hH (Nat.le_of_ble_eq_true rfl) (Nat.le_of_ble_eq_true rfl) d_R_addDecision_30 rfl ⟨rfl, rfl, Or.inl ⟨by omega, rfl, rfl⟩⟩
      · have c3 := (zn_eq (nI_toInt (by omega)) zn_0).mp c3
        refine lv_aload_n X.1 X.2.1 d_R_addDecision_19 rfl (lv_at hl 0 rfl) ?_
        refine lv_iload_n X.1 X.2.1 d_R_addDecision_20 rfl (lv_at hl 1 rfl) ?_
        refine lv_iconst (v := nI 1) X.1 X.2.1 d_R_addDecision_21 (by decide) ?_
        refine lv_iadd X.1 X.2.1 d_R_addDecision_22 ?_
        refine zx_top (nI_add _ _) ?_
        refine zx_calli (zx_runV (As := [.int (nI ((t) + (1)))]) (rest := []) X hH mv_R_42 ((c_R_halfOf g l N ad E b sc ar hb hR (t + 1) (by omega)) _) (by omega) hR.1 rfl ⟨Nat.le_of_ble_eq_true rfl, Nat.le_of_ble_eq_true rfl⟩ rfl hl rfl (Nat.le_of_ble_eq_true rfl) d_R_addDecision_23 ⟨Nat.le_of_ble_eq_true rfl, Nat.le_of_ble_eq_true rfl⟩) hH (fun r N1 ad1 E1 H locs hq hH => ?_)
        obtain ⟨rfl, rfl, rfl, rfl⟩ := hq
        refine lv_if_eq (tgt := 31) X.1 X.2.1 d_R_addDecision_26 (by decide) (fun c4 => ?_) (fun c4 => ?_)
        · have c4 := (zn_eq (nI_toInt (by omega)) zn_0).mp c4
          refine lv_aload_n X.1 X.2.1 d_R_addDecision_31 rfl (lv_at hl 0 rfl) ?_
          refine zx_get (v := .ref (ad (b + 4))) X hH fg_R_26 (by omega) hR.1 rfl d_R_addDecision_32 ?_
          refine lv_iload_n X.1 X.2.1 d_R_addDecision_35 rfl (lv_at hl 1 rfl) ?_
          refine lv_iconst (v := nI 1) X.1 X.2.1 d_R_addDecision_36 (by decide) ?_
          refine zx_iast (j := t) X hH (by omega) (show E (b + 4) = zr_ia g 101 (ar 3) from hR.2.2.2.2) rfl (by omega) (by decide) d_R_addDecision_37 (fun H locs hH => ?_)
          rw [zr_upd] at hH
          have hH : zw_H g A s.heap s N ad (va_up E (b + 4) (zr_ia g 101 (va_up (ar 3) (t) (1)))) H locs := hH
          have hR := hR.a3 (va_up (ar 3) (t) (1))
          have hF := hF.up (k := b + 4) (x := (zr_ia g 101 (va_up (ar 3) (t) (1)))) (by omega) (by omega)
          generalize va_up E (b + 4) (zr_ia g 101 (va_up (ar 3) (t) (1))) = E5 at hH hR hF
          refine lv_aload_n X.1 X.2.1 d_R_addDecision_38 rfl (lv_at hl 0 rfl) ?_
          refine zx_get (v := .ref (ad (b + 4))) X hH fg_R_26 (by omega) hR.1 rfl d_R_addDecision_39 ?_
          refine lv_iload_n X.1 X.2.1 d_R_addDecision_42 rfl (lv_at hl 1 rfl) ?_
          refine lv_iconst (v := nI 1) X.1 X.2.1 d_R_addDecision_43 (by decide) ?_
          refine lv_iadd X.1 X.2.1 d_R_addDecision_44 ?_
          refine zx_top (nI_add _ _) ?_
          refine lv_iconst (v := nI 2) X.1 X.2.1 d_R_addDecision_45 (by decide) ?_
          refine zx_iast (j := (t) + (1)) X hH (by omega) (show E5 (b + 4) = zr_ia g 101 (va_up (ar 3) (t) (1)) from hR.2.2.2.2) rfl (by omega) (by decide) d_R_addDecision_46 (fun H locs hH => ?_)
          rw [zr_upd] at hH
          have hH : zw_H g A s.heap s N ad (va_up E5 (b + 4) (zr_ia g 101 (va_up (va_up (ar 3) (t) (1)) ((t) + (1)) (2)))) H locs := hH
          have hR := hR.a3 (va_up (va_up (ar 3) (t) (1)) ((t) + (1)) (2))
          have hF := hF.up (k := b + 4) (x := (zr_ia g 101 (va_up (va_up (ar 3) (t) (1)) ((t) + (1)) (2)))) (by omega) (by omega)
          generalize va_up E5 (b + 4) (zr_ia g 101 (va_up (va_up (ar 3) (t) (1)) ((t) + (1)) (2))) = E6 at hH hR hF
          refine lv_iconst (v := nI 1) X.1 X.2.1 d_R_addDecision_47 (by decide) ?_
          exact zx_zret X hr hlk hH (Nat.le_of_ble_eq_true rfl) (Nat.le_of_ble_eq_true rfl) d_R_addDecision_48 rfl ⟨rfl, rfl, Or.inr ⟨by omega, rfl, hR, hF⟩⟩
        · have c4 := mt (zn_eq (nI_toInt (by omega)) zn_0).mpr c4
          refine lv_iconst (v := nI 0) X.1 X.2.1 d_R_addDecision_29 (by decide) ?_
          exact zx_zret X hr hlk hH (Nat.le_of_ble_eq_true rfl) (Nat.le_of_ble_eq_true rfl) d_R_addDecision_30 rfl ⟨rfl, rfl, Or.inl ⟨by omega, rfl, rfl⟩⟩

set_option maxHeartbeats 4000000 in
set_option maxRecDepth 100000 in
theorem c_R_endAs (g : zw_G) (l : Launch) (N : Nat) (ad : Nat → Nat) (E : Nat → va_E) (b : Nat) (sc : Nat → Nat) (ar : Nat → Nat → Nat) (hb : b + 5 ≤ N) (hR : zr_at g ad E b sc ar) (k : Nat) : zc_v g l y_R_endAs b_R_endAs 2 { frames := 0, cells := 0, slots := 0, locals := 0 } [.ref (ad (b)), .int (nI (k))] N ad E (fun N1 ad1 E1 => N = N1 ∧ ad = ad1 ∧ zr_at g ad E1 b (va_up (va_up sc 2 k) 6 (sc 6 + 1)) ar ∧ zr_fr E E1 b) := by
  refine zc_v.of (by decide) (Nat.le_of_ble_eq_true rfl) ?_
  intro p e s m below meth c ls A X hr hlk hnm hl hH
  have hl : lv_has ls 2 [(0, .ref (ad (b))), (1, .int (nI (k)))] := hl
  have hF : zr_fr E E b := zr_fr.rf
  refine lv_aload_n X.1 X.2.1 d_R_endAs_0 rfl (lv_at hl 0 rfl) ?_
  refine lv_iload_n X.1 X.2.1 d_R_endAs_1 rfl (lv_at hl 1 rfl) ?_
  refine zx_put X hH fp_R_9 (by omega) hR.1 (Nat.le_of_ble_eq_true rfl) rfl rfl d_R_endAs_2 (fun H locs hH => ?_)
  have hH : zw_H g A s.heap s N ad (va_up E b (zr_o ad b (va_up sc 2 (k)))) H locs := hH
  have hR := hR.sc (va_up sc 2 (k))
  have hF := hF.up (k := b) (x := zr_o ad b (va_up sc 2 (k))) (by omega) (by omega)
  generalize va_up E b (zr_o ad b (va_up sc 2 (k))) = E1 at hH hR hF
  refine lv_aload_n X.1 X.2.1 d_R_endAs_5 rfl (lv_at hl 0 rfl) ?_
  refine lv_dup X.1 X.2.1 d_R_endAs_6 rfl ?_
  refine zx_get (v := .int (nI (sc 6))) X hH fg_R_80 (by omega) hR.1 rfl d_R_endAs_7 ?_
  refine lv_iconst (v := nI 1) X.1 X.2.1 d_R_endAs_10 (by decide) ?_
  refine lv_iadd X.1 X.2.1 d_R_endAs_11 ?_
  refine zx_top (nI_add _ _) ?_
  refine zx_put X hH fp_R_80 (by omega) hR.1 (Nat.le_of_ble_eq_true rfl) rfl rfl d_R_endAs_12 (fun H locs hH => ?_)
  have hH : zw_H g A s.heap s N ad (va_up E1 b (zr_o ad b (va_up (va_up sc 2 (k)) 6 ((sc 6) + (1))))) H locs := hH
  have hR := hR.sc (va_up (va_up sc 2 (k)) 6 ((sc 6) + (1)))
  have hF := hF.up (k := b) (x := zr_o ad b (va_up (va_up sc 2 (k)) 6 ((sc 6) + (1)))) (by omega) (by omega)
  generalize va_up E1 b (zr_o ad b (va_up (va_up sc 2 (k)) 6 ((sc 6) + (1)))) = E2 at hH hR hF
  exact zx_vret X hr hlk hH (Nat.le_of_ble_eq_true rfl) (Nat.le_of_ble_eq_true rfl) d_R_endAs_15 ⟨rfl, rfl, hR, hF⟩

set_option maxHeartbeats 4000000 in
set_option maxRecDepth 100000 in
theorem c_R_backOut (g : zw_G) (l : Launch) (N : Nat) (ad : Nat → Nat) (E : Nat → va_E) (b : Nat) (sc : Nat → Nat) (ar : Nat → Nat → Nat) (hb : b + 5 ≤ N) (hR : zr_at g ad E b sc ar) (hok : zr_ok sc ar) (k : Nat) : zc_v g l y_R_backOut b_R_backOut 2 { frames := 1, cells := 0, slots := 0, locals := 40 } [.ref (ad (b)), .int (nI (k))] N ad E (fun N1 ad1 E1 => N = N1 ∧ ad = ad1 ∧ zr_at g ad E1 b (zp_back sc k) ar ∧ zr_fr E E1 b) := by
  refine zc_v.of (by decide) (Nat.le_of_ble_eq_true rfl) ?_
  intro p e s m below meth c ls A X hr hlk hnm hl hH
  have hl : lv_has ls 2 [(0, .ref (ad (b))), (1, .int (nI (k)))] := hl
  obtain ⟨k0, k1, k2, k3, k4, k5, k7, k8, k6⟩ := hok.1
  have hF : zr_fr E E b := zr_fr.rf
  refine lv_aload_n X.1 X.2.1 d_R_backOut_0 rfl (lv_at hl 0 rfl) ?_
  refine lv_aload_n X.1 X.2.1 d_R_backOut_1 rfl (lv_at hl 0 rfl) ?_
  refine zx_calli (zx_runV (As := []) (rest := [.ref (ad (b))]) X hH mv_R_70 ((c_R_openSteps g l N ad E b sc ar hb hR hok) _) (by omega) hR.1 rfl ⟨Nat.le_of_ble_eq_true rfl, Nat.le_of_ble_eq_true rfl⟩ rfl hl rfl (Nat.le_of_ble_eq_true rfl) d_R_backOut_2 ⟨Nat.le_of_ble_eq_true rfl, Nat.le_of_ble_eq_true rfl⟩) hH (fun r N1 ad1 E1 H locs hq hH => ?_)
  obtain ⟨rfl, rfl, rfl, rfl⟩ := hq
  refine zx_put X hH fp_R_74 (by omega) hR.1 (Nat.le_of_ble_eq_true rfl) rfl rfl d_R_backOut_5 (fun H locs hH => ?_)
  have hH : zw_H g A s.heap s N ad (va_up E b (zr_o ad b (va_up sc 5 (sc 3 - sc 4)))) H locs := hH
  have hR := hR.sc (va_up sc 5 (sc 3 - sc 4))
  have hF := hF.up (k := b) (x := zr_o ad b (va_up sc 5 (sc 3 - sc 4))) (by omega) (by omega)
  generalize va_up E b (zr_o ad b (va_up sc 5 (sc 3 - sc 4))) = E1 at hH hR hF
  refine lv_aload_n X.1 X.2.1 d_R_backOut_8 rfl (lv_at hl 0 rfl) ?_
  refine lv_iload_n X.1 X.2.1 d_R_backOut_9 rfl (lv_at hl 1 rfl) ?_
  refine zx_callv (zx_runV (As := [.int (nI (k))]) (rest := []) X hH mv_R_77 ((c_R_endAs g l N ad E1 b (va_up sc 5 (sc 3 - sc 4)) ar hb hR (k)) _) (by omega) hR.1 rfl ⟨Nat.le_of_ble_eq_true rfl, Nat.le_of_ble_eq_true rfl⟩ rfl hl rfl (Nat.le_of_ble_eq_true rfl) d_R_backOut_10 ⟨Nat.le_of_ble_eq_true rfl, Nat.le_of_ble_eq_true rfl⟩) hH (fun N1 ad1 E2 H locs hq hH => ?_)
  obtain ⟨rfl, rfl, hR, hF1⟩ := hq
  have hF := hF.tr hF1
  exact zx_vret X hr hlk hH (Nat.le_of_ble_eq_true rfl) (Nat.le_of_ble_eq_true rfl) d_R_backOut_13 ⟨rfl, rfl, hR, hF⟩

set_option maxHeartbeats 4000000 in
set_option maxRecDepth 100000 in
theorem c_R_doStep (g : zw_G) (l : Launch) (N : Nat) (ad : Nat → Nat) (E : Nat → va_E) (b : Nat) (sc : Nat → Nat) (ar : Nat → Nat → Nat) (hb : b + 5 ≤ N) (hR : zr_at g ad E b sc ar) (hok : zr_ok sc ar) (t : Nat) (ht : t ≤ 100) : zc_v g l y_R_doStep b_R_doStep 2 { frames := 1, cells := 0, slots := 0, locals := 40 } [.ref (ad (b)), .int (nI (t))] N ad E (fun N1 ad1 E1 => N = N1 ∧ ad = ad1 ∧ zr_at g ad E1 b (zp_step sc ar t) ar ∧ zr_fr E E1 b) := by
  refine zc_v.of (by decide) (Nat.le_of_ble_eq_true rfl) ?_
  intro p e s m below meth c ls A X hr hlk hnm hl hH
  have hl : lv_has ls 2 [(0, .ref (ad (b))), (1, .int (nI (t)))] := hl
  obtain ⟨k0, k1, k2, k3, k4, k5, k7, k8, k6⟩ := hok.1
  have k9 := hok.2.2.2.2 t
  have hF : zr_fr E E b := zr_fr.rf
  refine lv_aload_n X.1 X.2.1 d_R_doStep_0 rfl (lv_at hl 0 rfl) ?_
  refine lv_iload_n X.1 X.2.1 d_R_doStep_1 rfl (lv_at hl 1 rfl) ?_
  refine zx_put X hH fp_R_39 (by omega) hR.1 (Nat.le_of_ble_eq_true rfl) rfl rfl d_R_doStep_2 (fun H locs hH => ?_)
  have hH : zw_H g A s.heap s N ad (va_up E b (zr_o ad b (va_up sc 3 (t)))) H locs := hH
  have hR := hR.sc (va_up sc 3 (t))
  have hF := hF.up (k := b) (x := zr_o ad b (va_up sc 3 (t))) (by omega) (by omega)
  generalize va_up E b (zr_o ad b (va_up sc 3 (t))) = E1 at hH hR hF
  refine lv_aload_n X.1 X.2.1 d_R_doStep_5 rfl (lv_at hl 0 rfl) ?_
  refine lv_iload_n X.1 X.2.1 d_R_doStep_6 rfl (lv_at hl 1 rfl) ?_
  refine zx_calli (zx_runV (As := [.int (nI (t))]) (rest := []) X hH mv_R_42 ((c_R_halfOf g l N ad E1 b (va_up sc 3 (t)) ar hb hR t (by omega)) _) (by omega) hR.1 rfl ⟨Nat.le_of_ble_eq_true rfl, Nat.le_of_ble_eq_true rfl⟩ rfl hl rfl (Nat.le_of_ble_eq_true rfl) d_R_doStep_7 ⟨Nat.le_of_ble_eq_true rfl, Nat.le_of_ble_eq_true rfl⟩) hH (fun r N1 ad1 E1 H locs hq hH => ?_)
  obtain ⟨rfl, rfl, rfl, rfl⟩ := hq
  refine lv_iconst (v := nI 2) X.1 X.2.1 d_R_doStep_10 (by decide) ?_
  refine lv_icmp_ne (tgt := 19) X.1 X.2.1 d_R_doStep_11 (by decide) (fun c2 => ?_) (fun c2 => ?_)
  · have c2 := mt (zn_eq (nI_toInt (by omega)) (nI_toInt (by omega))).mpr c2
    refine lv_iload_n X.1 X.2.1 d_R_doStep_19 rfl (lv_at hl 1 rfl) ?_
    refine lv_aload_n X.1 X.2.1 d_R_doStep_20 rfl (lv_at hl 0 rfl) ?_
    refine zx_get (v := .int (nI (sc 0))) X hH fg_R_29 (by omega) hR.1 rfl d_R_doStep_21 ?_
    refine lv_icmp_lt (tgt := 32) X.1 X.2.1 d_R_doStep_24 (by decide) (fun c3 => ?_) (fun c3 => ?_)
    · have c3 := (zn_lt (nI_toInt (by omega)) (nI_toInt (by omega))).mp c3
      exact zx_vret X hr hlk hH (Nat.le_of_ble_eq_true rfl) (Nat.le_of_ble_eq_true rfl) d_R_doStep_32 ⟨rfl, rfl, (by unfold zp_step zp_s2; first | (rw [if_pos (by omega), if_pos (by omega)]; exact hR) | (rw [if_pos (by omega), if_neg (by omega)]; exact hR) | (rw [if_neg (by omega), if_pos (by omega)]; exact hR) | (rw [if_neg (by omega), if_neg (by omega)]; exact hR)), hF⟩
    · have c3 := mt (zn_lt (nI_toInt (by omega)) (nI_toInt (by omega))).mpr c3
      refine lv_aload_n X.1 X.2.1 d_R_doStep_27 rfl (lv_at hl 0 rfl) ?_
      refine lv_iconst (v := nI 1) X.1 X.2.1 d_R_doStep_28 (by decide) ?_
      refine zx_callv (zx_runV (As := [.int (nI (1))]) (rest := []) X hH mv_R_77 ((c_R_endAs g l N ad E1 b (va_up sc 3 (t)) ar hb hR (1)) _) (by omega) hR.1 rfl ⟨Nat.le_of_ble_eq_true rfl, Nat.le_of_ble_eq_true rfl⟩ rfl hl rfl (Nat.le_of_ble_eq_true rfl) d_R_doStep_29 ⟨Nat.le_of_ble_eq_true rfl, Nat.le_of_ble_eq_true rfl⟩) hH (fun N1 ad1 E4 H locs hq hH => ?_)
      obtain ⟨rfl, rfl, hR, hF1⟩ := hq
      have hF := hF.tr hF1
      exact zx_vret X hr hlk hH (Nat.le_of_ble_eq_true rfl) (Nat.le_of_ble_eq_true rfl) d_R_doStep_32 ⟨rfl, rfl, (by unfold zp_step zp_s2; first | (rw [if_pos (by omega), if_pos (by omega)]; exact hR) | (rw [if_pos (by omega), if_neg (by omega)]; exact hR) | (rw [if_neg (by omega), if_pos (by omega)]; exact hR) | (rw [if_neg (by omega), if_neg (by omega)]; exact hR)), hF⟩
  · have c2 := (zn_eq (nI_toInt (by omega)) (nI_toInt (by omega))).mp c2
    refine lv_aload_n X.1 X.2.1 d_R_doStep_14 rfl (lv_at hl 0 rfl) ?_
    refine lv_iload_n X.1 X.2.1 d_R_doStep_15 rfl (lv_at hl 1 rfl) ?_
    refine zx_put X hH fp_R_46 (by omega) hR.1 (Nat.le_of_ble_eq_true rfl) rfl rfl d_R_doStep_16 (fun H locs hH => ?_)
    have hH : zw_H g A s.heap s N ad (va_up E1 b (zr_o ad b (va_up (va_up sc 3 (t)) 4 (t)))) H locs := hH
    have hR := hR.sc (va_up (va_up sc 3 (t)) 4 (t))
    have hF := hF.up (k := b) (x := zr_o ad b (va_up (va_up sc 3 (t)) 4 (t))) (by omega) (by omega)
    generalize va_up E1 b (zr_o ad b (va_up (va_up sc 3 (t)) 4 (t))) = E5 at hH hR hF
    refine lv_iload_n X.1 X.2.1 d_R_doStep_19 rfl (lv_at hl 1 rfl) ?_
    refine lv_aload_n X.1 X.2.1 d_R_doStep_20 rfl (lv_at hl 0 rfl) ?_
    refine zx_get (v := .int (nI (sc 0))) X hH fg_R_29 (by omega) hR.1 rfl d_R_doStep_21 ?_
    refine lv_icmp_lt (tgt := 32) X.1 X.2.1 d_R_doStep_24 (by decide) (fun c6 => ?_) (fun c6 => ?_)
    · have c6 := (zn_lt (nI_toInt (by omega)) (nI_toInt (by omega))).mp c6
      exact zx_vret X hr hlk hH (Nat.le_of_ble_eq_true rfl) (Nat.le_of_ble_eq_true rfl) d_R_doStep_32 ⟨rfl, rfl, (by unfold zp_step zp_s2; first | (rw [if_pos (by omega), if_pos (by omega)]; exact hR) | (rw [if_pos (by omega), if_neg (by omega)]; exact hR) | (rw [if_neg (by omega), if_pos (by omega)]; exact hR) | (rw [if_neg (by omega), if_neg (by omega)]; exact hR)), hF⟩
    · have c6 := mt (zn_lt (nI_toInt (by omega)) (nI_toInt (by omega))).mpr c6
      refine lv_aload_n X.1 X.2.1 d_R_doStep_27 rfl (lv_at hl 0 rfl) ?_
      refine lv_iconst (v := nI 1) X.1 X.2.1 d_R_doStep_28 (by decide) ?_
      refine zx_callv (zx_runV (As := [.int (nI (1))]) (rest := []) X hH mv_R_77 ((c_R_endAs g l N ad E5 b (va_up (va_up sc 3 (t)) 4 (t)) ar hb hR (1)) _) (by omega) hR.1 rfl ⟨Nat.le_of_ble_eq_true rfl, Nat.le_of_ble_eq_true rfl⟩ rfl hl rfl (Nat.le_of_ble_eq_true rfl) d_R_doStep_29 ⟨Nat.le_of_ble_eq_true rfl, Nat.le_of_ble_eq_true rfl⟩) hH (fun N1 ad1 E7 H locs hq hH => ?_)
      obtain ⟨rfl, rfl, hR, hF1⟩ := hq
      have hF := hF.tr hF1
      exact zx_vret X hr hlk hH (Nat.le_of_ble_eq_true rfl) (Nat.le_of_ble_eq_true rfl) d_R_doStep_32 ⟨rfl, rfl, (by unfold zp_step zp_s2; first | (rw [if_pos (by omega), if_pos (by omega)]; exact hR) | (rw [if_pos (by omega), if_neg (by omega)]; exact hR) | (rw [if_neg (by omega), if_pos (by omega)]; exact hR) | (rw [if_neg (by omega), if_neg (by omega)]; exact hR)), hF⟩
