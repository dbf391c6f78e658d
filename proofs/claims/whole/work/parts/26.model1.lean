def zm_end (sc : Nat → Nat) (k : Nat) : Nat → Nat := va_up (va_up (va_up sc 2 k) 6 (sc 6 + 1)) 5 (if k = 1 then 0 else sc 3 - sc 4)
set_option maxHeartbeats 4000000 in
set_option maxRecDepth 100000 in
theorem c_M_of (g : zw_G) (l : Launch) (N : Nat) (ad : Nat → Nat) (E : Nat → va_E) (a b : Nat) : zc_i g l y_M_of b_M_of 2 (some .int) { frames := 0, cells := 0, slots := 0, locals := 0 } [.int (nI (a)), .int (nI (b))] N ad E (fun v N1 ad1 E1 => N = N1 ∧ ad = ad1 ∧ E = E1 ∧ v = nI (101 * a + b)) := by
  refine zc_i.of (by decide) (Nat.le_of_ble_eq_true rfl) ?_
  intro p e s m below meth c ls A X hr hlk hl hH
  have hl : lv_has ls 2 [(0, .int (nI (a))), (1, .int (nI (b)))] := hl
  refine lv_bipush (v := nI 101) X.1 X.2.1 d_M_of_0 (by decide) ?_
  refine lv_iload_n X.1 X.2.1 d_M_of_2 rfl (lv_at hl 0 rfl) ?_
  refine lv_imul X.1 X.2.1 d_M_of_3 ?_
  refine zx_top (pk_mul _ _) ?_
  refine lv_iload_n X.1 X.2.1 d_M_of_4 rfl (lv_at hl 1 rfl) ?_
  refine lv_iadd X.1 X.2.1 d_M_of_5 ?_
  refine zx_top (nI_add _ _) ?_
  exact zx_iret X hr hlk hH (Nat.le_of_ble_eq_true rfl) (Nat.le_of_ble_eq_true rfl) d_M_of_6 ⟨rfl, rfl, rfl, rfl⟩

set_option maxHeartbeats 4000000 in
set_option maxRecDepth 100000 in
theorem c_M_isRegion (g : zw_G) (l : Launch) (N : Nat) (ad : Nat → Nat) (E : Nat → va_E) (q : Nat → Nat) (rg : zt_R) (ev fs fl : Nat → Nat) (hN : 25 ≤ N) (hq0 : q 0 ≤ 30) (hM : zm_at g ad E q rg ev fs fl) (x : Int32) : zc_i g l y_M_isRegion b_M_isRegion 2 (some .boolean) { frames := 0, cells := 0, slots := 0, locals := 0 } [.ref (ad (8)), .int (x)] N ad E (fun v N1 ad1 E1 => N = N1 ∧ ad = ad1 ∧ E = E1 ∧ v = nI (if 1 ≤ x.toInt ∧ x.toInt ≤ (q 0 : Int) then 1 else 0)) := by
  refine zc_i.of (by decide) (Nat.le_of_ble_eq_true rfl) ?_
  intro p e s m below meth c ls A X hr hlk hl hH
  have hl : lv_has ls 2 [(0, .ref (ad (8))), (1, .int (x))] := hl
  refine lv_iload_n X.1 X.2.1 d_M_isRegion_0 rfl (lv_at hl 1 rfl) ?_
  refine lv_if_le (tgt := 16) X.1 X.2.1 d_M_isRegion_1 (by decide) (fun c1 => ?_) (fun c1 => ?_)
  · have c1 := (zn_le rfl zn_0).mp c1
    refine lv_iconst (v := nI 0) X.1 X.2.1 d_M_isRegion_16 (by decide) ?_
    exact zx_zret X hr hlk hH (Nat.le_of_ble_eq_true rfl) (Nat.le_of_ble_eq_true rfl) d_M_isRegion_17 rfl ⟨rfl, rfl, rfl, (by first | rfl | (rw [if_pos (by omega)]) | (rw [if_neg (by omega)]))⟩
  · have c1 := mt (zn_le rfl zn_0).mpr c1
    refine lv_iload_n X.1 X.2.1 d_M_isRegion_4 rfl (lv_at hl 1 rfl) ?_
    refine lv_aload_n X.1 X.2.1 d_M_isRegion_5 rfl (lv_at hl 0 rfl) ?_
    refine zx_get (v := .int (nI (q 0))) X hH fg_M_63 (by omega) hM.1 rfl d_M_isRegion_6 ?_
    refine lv_icmp_gt (tgt := 16) X.1 X.2.1 d_M_isRegion_9 (by decide) (fun c2 => ?_) (fun c2 => ?_)
    · have c2 := (zn_lt (nI_toInt (by omega)) rfl).mp c2
      refine lv_iconst (v := nI 0) X.1 X.2.1 d_M_isRegion_16 (by decide) ?_
      exact zx_zret X hr hlk hH (Nat.le_of_ble_eq_true rfl) (Nat.le_of_ble_eq_true rfl) d_M_isRegion_17 rfl ⟨rfl, rfl, rfl, (by first | rfl | (rw [if_pos (by omega)]) | (rw [if_neg (by omega)]))⟩
    · have c2 := mt (zn_lt (nI_toInt (by omega)) rfl).mpr c2
      refine lv_iconst (v := nI 1) X.1 X.2.1 d_M_isRegion_12 (by decide) ?_
      refine lv_goto (tgt := 17) X.1 X.2.1 d_M_isRegion_13 (by decide) ?_
      exact zx_zret X hr hlk hH (Nat.le_of_ble_eq_true rfl) (Nat.le_of_ble_eq_true rfl) d_M_isRegion_17 rfl ⟨rfl, rfl, rfl, (by first | rfl | (rw [if_pos (by omega)]) | (rw [if_neg (by omega)]))⟩

set_option maxHeartbeats 4000000 in
set_option maxRecDepth 100000 in
theorem c_M_isBetween (g : zw_G) (l : Launch) (N : Nat) (ad : Nat → Nat) (E : Nat → va_E) (q : Nat → Nat) (rg : zt_R) (ev fs fl : Nat → Nat) (i : Nat) (r : (Nat → Nat) × (Nat → Nat → Nat)) (hN : 25 ≤ N) (hi : i < 30) (hro : zr_ok r.1 r.2) (hM : zm_at g ad E q (va_up rg i r) ev fs fl) (hz0 : r.2 3 0 = 0) : zc_i g l y_M_isBetween b_M_isBetween 2 (some .boolean) { frames := 1, cells := 0, slots := 0, locals := 40 } [.ref (ad (8)), .int (nI (i + 1))] N ad E (fun v N1 ad1 E1 => N = N1 ∧ ad = ad1 ∧ E = E1 ∧ v = nI (if r.2 3 (r.1 3) = 1 then 1 else 0)) := by
  refine zc_i.of (by decide) (Nat.le_of_ble_eq_true rfl) ?_
  intro p e s m below meth c ls A X hr hlk hl hH
  have hl : lv_has ls 2 [(0, .ref (ad (8))), (1, .int (nI (i + 1)))] := hl
  obtain ⟨r0, r1, r2, r3, r4, r5, r7, r8, r6⟩ := hro.1
  have k9 := hro.2.2.2.2 (r.1 3)
  refine lv_aload_n X.1 X.2.1 d_M_isBetween_0 rfl (lv_at hl 0 rfl) ?_
  refine zx_get (v := .ref (ad (12))) X hH fg_M_19 (by omega) hM.1 rfl d_M_isBetween_1 ?_
  refine lv_iload_n X.1 X.2.1 d_M_isBetween_4 rfl (lv_at hl 1 rfl) ?_
  refine zx_iald (j := i + 1) X hH (by omega) (show E 12 = zr_ia g 31 (zm_c (va_up rg i (r)) 3) from hM.2.2.2.2.1) rfl (by omega) (by decide) d_M_isBetween_5 ?_
  refine zx_top (b := nI (r.1 3)) (congrArg nI (zm_c_at _ _ _ _)) ?_
  refine lv_if_le (tgt := 32) X.1 X.2.1 d_M_isBetween_6 (by decide) (fun c1 => ?_) (fun c1 => ?_)
  · have c1 := (zn_le (nI_toInt (by omega)) zn_0).mp c1
    refine lv_iconst (v := nI 0) X.1 X.2.1 d_M_isBetween_32 (by decide) ?_
    exact zx_zret X hr hlk hH (Nat.le_of_ble_eq_true rfl) (Nat.le_of_ble_eq_true rfl) d_M_isBetween_33 rfl ⟨rfl, rfl, rfl, (by first | (rw [if_pos (by omega)]) | (rw [if_neg (by omega)]) | (rw [show r.1 3 = 0 by omega, if_neg (by omega)]))⟩
  · have c1 := mt (zn_le (nI_toInt (by omega)) zn_0).mpr c1
    refine lv_aload_n X.1 X.2.1 d_M_isBetween_9 rfl (lv_at hl 0 rfl) ?_
    refine zx_get (v := .ref (ad (19))) X hH fg_M_41 (by omega) hM.1 rfl d_M_isBetween_10 ?_
    refine lv_iload_n X.1 X.2.1 d_M_isBetween_13 rfl (lv_at hl 1 rfl) ?_
    refine lv_aload_n X.1 X.2.1 d_M_isBetween_14 rfl (lv_at hl 0 rfl) ?_
    refine zx_get (v := .ref (ad (12))) X hH fg_M_19 (by omega) hM.1 rfl d_M_isBetween_15 ?_
    refine lv_iload_n X.1 X.2.1 d_M_isBetween_18 rfl (lv_at hl 1 rfl) ?_
    refine zx_iald (j := i + 1) X hH (by omega) (show E 12 = zr_ia g 31 (zm_c (va_up rg i (r)) 3) from hM.2.2.2.2.1) rfl (by omega) (by decide) d_M_isBetween_19 ?_
    refine zx_top (b := nI (r.1 3)) (congrArg nI (zm_c_at _ _ _ _)) ?_
    refine zx_calli (zx_runS (As := [.int (nI (i + 1)), .int (nI (r.1 3))]) (rest := [.ref (ad (19))]) X hH ms_M_77 ((c_M_of g l N ad E (i + 1) (r.1 3)) _) ⟨Nat.le_of_ble_eq_true rfl, Nat.le_of_ble_eq_true rfl⟩ rfl hl rfl (Nat.le_of_ble_eq_true rfl) d_M_isBetween_20 ⟨Nat.le_of_ble_eq_true rfl, Nat.le_of_ble_eq_true rfl⟩) hH (fun r N1 ad1 E1 H locs hq hH => ?_)
    obtain ⟨rfl, rfl, rfl, rfl⟩ := hq
    refine zx_iald (j := 101 * (i + 1) + (r.1 3)) X hH (by omega) (show E 19 = zr_ia g 3131 (zm_d (va_up rg i (r))) from hM.2.2.2.2.2.2.2.2.2.2.2.1) rfl (by omega) (by decide) d_M_isBetween_23 ?_
    refine zx_top (b := nI (r.2 3 (r.1 3))) (congrArg nI (zm_d_at _ _ _ (by omega))) ?_
    refine lv_iconst (v := nI 1) X.1 X.2.1 d_M_isBetween_24 (by decide) ?_
    refine lv_icmp_ne (tgt := 32) X.1 X.2.1 d_M_isBetween_25 (by decide) (fun c2 => ?_) (fun c2 => ?_)
    · have c2 := mt (zn_eq (nI_toInt (by omega)) (nI_toInt (by omega))).mpr c2
      refine lv_iconst (v := nI 0) X.1 X.2.1 d_M_isBetween_32 (by decide) ?_
      exact zx_zret X hr hlk hH (Nat.le_of_ble_eq_true rfl) (Nat.le_of_ble_eq_true rfl) d_M_isBetween_33 rfl ⟨rfl, rfl, rfl, (by first | (rw [if_pos (by omega)]) | (rw [if_neg (by omega)]) | (rw [show r.1 3 = 0 by omega, if_neg (by omega)]))⟩
    · have c2 := (zn_eq (nI_toInt (by omega)) (nI_toInt (by omega))).mp c2
      refine lv_iconst (v := nI 1) X.1 X.2.1 d_M_isBetween_28 (by decide) ?_
      refine lv_goto (tgt := 33) X.1 X.2.1 d_M_isBetween_29 (by decide) ?_
      exact zx_zret X hr hlk hH (Nat.le_of_ble_eq_true rfl) (Nat.le_of_ble_eq_true rfl) d_M_isBetween_33 rfl ⟨rfl, rfl, rfl, (by first | (rw [if_pos (by omega)]) | (rw [if_neg (by omega)]) | (rw [show r.1 3 = 0 by omega, if_neg (by omega)]))⟩

set_option maxHeartbeats 4000000 in
set_option maxRecDepth 100000 in
theorem c_M_end (g : zw_G) (l : Launch) (N : Nat) (ad : Nat → Nat) (E : Nat → va_E) (q : Nat → Nat) (rg : zt_R) (ev fs fl : Nat → Nat) (i : Nat) (r : (Nat → Nat) × (Nat → Nat → Nat)) (hN : 25 ≤ N) (hi : i < 30) (h43 : r.1 4 ≤ r.1 3) (hM : zm_at g ad E q (va_up rg i r) ev fs fl) (k : Nat) (hk : k ≤ 4) : zc_v g l y_M_end b_M_end 3 { frames := 0, cells := 0, slots := 0, locals := 0 } [.ref (ad (8)), .int (nI (i + 1)), .int (nI (k))] N ad E (fun N1 ad1 E1 => N = N1 ∧ ad = ad1 ∧ zm_at g ad E1 q (va_up rg i (zm_end r.1 k, r.2)) ev fs fl ∧ zm_fr E E1) := by
  refine zc_v.of (by decide) (Nat.le_of_ble_eq_true rfl) ?_
  intro p e s m below meth c ls A X hr hlk hnm hl hH
  have hl : lv_has ls 3 [(0, .ref (ad (8))), (1, .int (nI (i + 1))), (2, .int (nI (k)))] := hl
  have hF : zm_fr E E := zm_fr.rf
  refine lv_aload_n X.1 X.2.1 d_M_end_0 rfl (lv_at hl 0 rfl) ?_
  refine zx_get (v := .ref (ad (11))) X hH fg_M_16 (by omega) hM.1 rfl d_M_end_1 ?_
  refine lv_iload_n X.1 X.2.1 d_M_end_4 rfl (lv_at hl 1 rfl) ?_
  refine lv_iload_n X.1 X.2.1 d_M_end_5 rfl (lv_at hl 2 rfl) ?_
  refine zx_iast (j := i + 1) (x := nI (k)) X hH (by omega) (show E 11 = zr_ia g 31 (zm_c (va_up rg i (r)) 2) from hM.2.2.2.1) rfl (by omega) (by decide) d_M_end_6 (fun H locs hH => ?_)
  rw [zr_upd] at hH
  have hH : zw_H g A s.heap s N ad (va_up E 11 (zr_ia g 31 (va_up (zm_c (va_up rg i (r)) 2) (i + 1) (k)))) H locs := hH
  have hM := hM.s2 (k)
  have hF := hF.up (k := 11) (x := (zr_ia g 31 (va_up (zm_c (va_up rg i (r)) 2) (i + 1) (k)))) (by decide) (by decide)
  generalize va_up E 11 (zr_ia g 31 (va_up (zm_c (va_up rg i (r)) 2) (i + 1) (k))) = E1 at hH hM hF
  have hM : zm_at g ad E1 q (va_up rg i (va_up r.1 2 (k), r.2)) ev fs fl := hM
  refine lv_aload_n X.1 X.2.1 d_M_end_7 rfl (lv_at hl 0 rfl) ?_
  refine zx_get (v := .ref (ad (14))) X hH fg_M_25 (by omega) hM.1 rfl d_M_end_8 ?_
  refine lv_iload_n X.1 X.2.1 d_M_end_11 rfl (lv_at hl 1 rfl) ?_
  refine lv_dup2_11 X.1 X.2.1 d_M_end_12 rfl rfl ?_
  refine zx_iald (j := i + 1) X hH (by omega) (show E1 14 = zr_ia g 31 (zm_c (va_up rg i (va_up r.1 2 (k), r.2)) 6) from hM.2.2.2.2.2.2.1) rfl (by omega) (by decide) d_M_end_13 ?_
  refine zx_top (b := nI (r.1 6)) (congrArg nI (zm_c_at _ _ _ _)) ?_
  refine lv_iconst (v := nI 1) X.1 X.2.1 d_M_end_14 (by decide) ?_
  refine lv_iadd X.1 X.2.1 d_M_end_15 ?_
  refine zx_top (nI_add _ _) ?_
  refine zx_iast (j := i + 1) (x := nI ((r.1 6) + (1))) X hH (by omega) (show E1 14 = zr_ia g 31 (zm_c (va_up rg i (va_up r.1 2 (k), r.2)) 6) from hM.2.2.2.2.2.2.1) rfl (by omega) (by decide) d_M_end_16 (fun H locs hH => ?_)
  rw [zr_upd] at hH
  have hH : zw_H g A s.heap s N ad (va_up E1 14 (zr_ia g 31 (va_up (zm_c (va_up rg i (va_up r.1 2 (k), r.2)) 6) (i + 1) ((r.1 6) + (1))))) H locs := hH
  have hM := hM.s6 ((r.1 6) + (1))
  have hF := hF.up (k := 14) (x := (zr_ia g 31 (va_up (zm_c (va_up rg i (va_up r.1 2 (k), r.2)) 6) (i + 1) ((r.1 6) + (1))))) (by decide) (by decide)
  generalize va_up E1 14 (zr_ia g 31 (va_up (zm_c (va_up rg i (va_up r.1 2 (k), r.2)) 6) (i + 1) ((r.1 6) + (1)))) = E2 at hH hM hF
  have hM : zm_at g ad E2 q (va_up rg i (va_up (va_up r.1 2 (k)) 6 ((r.1 6) + (1)), r.2)) ev fs fl := hM
  refine lv_aload_n X.1 X.2.1 d_M_end_17 rfl (lv_at hl 0 rfl) ?_
  refine zx_get (v := .ref (ad (15))) X hH fg_M_28 (by omega) hM.1 rfl d_M_end_18 ?_
  refine lv_iload_n X.1 X.2.1 d_M_end_21 rfl (lv_at hl 1 rfl) ?_
  refine lv_iload_n X.1 X.2.1 d_M_end_22 rfl (lv_at hl 2 rfl) ?_
  refine lv_iconst (v := nI 1) X.1 X.2.1 d_M_end_23 (by decide) ?_
  refine lv_icmp_ne (tgt := 31) X.1 X.2.1 d_M_end_24 (by decide) (fun c3 => ?_) (fun c3 => ?_)
  · have c3 := mt (zn_eq (nI_toInt (by omega)) (nI_toInt (by omega))).mpr c3
    refine lv_aload_n X.1 X.2.1 d_M_end_31 rfl (lv_at hl 0 rfl) ?_
    refine zx_get (v := .ref (ad (12))) X hH fg_M_19 (by omega) hM.1 rfl d_M_end_32 ?_
    refine lv_iload_n X.1 X.2.1 d_M_end_35 rfl (lv_at hl 1 rfl) ?_
    refine zx_iald (j := i + 1) X hH (by omega) (show E2 12 = zr_ia g 31 (zm_c (va_up rg i (va_up (va_up r.1 2 (k)) 6 ((r.1 6) + (1)), r.2)) 3) from hM.2.2.2.2.1) rfl (by omega) (by decide) d_M_end_36 ?_
    refine zx_top (b := nI (r.1 3)) (congrArg nI (zm_c_at _ _ _ _)) ?_
    refine lv_aload_n X.1 X.2.1 d_M_end_37 rfl (lv_at hl 0 rfl) ?_
    refine zx_get (v := .ref (ad (13))) X hH fg_M_22 (by omega) hM.1 rfl d_M_end_38 ?_
    refine lv_iload_n X.1 X.2.1 d_M_end_41 rfl (lv_at hl 1 rfl) ?_
    refine zx_iald (j := i + 1) X hH (by omega) (show E2 13 = zr_ia g 31 (zm_c (va_up rg i (va_up (va_up r.1 2 (k)) 6 ((r.1 6) + (1)), r.2)) 4) from hM.2.2.2.2.2.1) rfl (by omega) (by decide) d_M_end_42 ?_
    refine zx_top (b := nI (r.1 4)) (congrArg nI (zm_c_at _ _ _ _)) ?_
    refine lv_isub X.1 X.2.1 d_M_end_43 ?_
    refine zx_top (pk_sub (by omega)) ?_
    refine zx_iast (j := i + 1) (x := nI ((r.1 3) - (r.1 4))) X hH (by omega) (show E2 15 = zr_ia g 31 (zm_c (va_up rg i (va_up (va_up r.1 2 (k)) 6 ((r.1 6) + (1)), r.2)) 5) from hM.2.2.2.2.2.2.2.1) rfl (by omega) (by decide) d_M_end_44 (fun H locs hH => ?_)
    rw [zr_upd] at hH
    have hH : zw_H g A s.heap s N ad (va_up E2 15 (zr_ia g 31 (va_up (zm_c (va_up rg i (va_up (va_up r.1 2 (k)) 6 ((r.1 6) + (1)), r.2)) 5) (i + 1) ((r.1 3) - (r.1 4))))) H locs := hH
    have hM := hM.s5 ((r.1 3) - (r.1 4))
    have hF := hF.up (k := 15) (x := (zr_ia g 31 (va_up (zm_c (va_up rg i (va_up (va_up r.1 2 (k)) 6 ((r.1 6) + (1)), r.2)) 5) (i + 1) ((r.1 3) - (r.1 4))))) (by decide) (by decide)
    generalize va_up E2 15 (zr_ia g 31 (va_up (zm_c (va_up rg i (va_up (va_up r.1 2 (k)) 6 ((r.1 6) + (1)), r.2)) 5) (i + 1) ((r.1 3) - (r.1 4)))) = E4 at hH hM hF
    have hM : zm_at g ad E4 q (va_up rg i (va_up (va_up (va_up r.1 2 (k)) 6 ((r.1 6) + (1))) 5 ((r.1 3) - (r.1 4)), r.2)) ev fs fl := hM
    exact zx_vret X hr hlk hH (Nat.le_of_ble_eq_true rfl) (Nat.le_of_ble_eq_true rfl) d_M_end_45 ⟨rfl, rfl, (by unfold zm_end; first | (rw [if_pos (by omega)]; exact hM) | (rw [if_neg (by omega)]; exact hM)), hF⟩
  · have c3 := (zn_eq (nI_toInt (by omega)) (nI_toInt (by omega))).mp c3
    refine lv_iconst (v := nI 0) X.1 X.2.1 d_M_end_27 (by decide) ?_
    refine lv_goto (tgt := 44) X.1 X.2.1 d_M_end_28 (by decide) ?_
    refine zx_iast (j := i + 1) (x := nI (0)) X hH (by omega) (show E2 15 = zr_ia g 31 (zm_c (va_up rg i (va_up (va_up r.1 2 (k)) 6 ((r.1 6) + (1)), r.2)) 5) from hM.2.2.2.2.2.2.2.1) rfl (by omega) (by decide) d_M_end_44 (fun H locs hH => ?_)
    rw [zr_upd] at hH
    have hH : zw_H g A s.heap s N ad (va_up E2 15 (zr_ia g 31 (va_up (zm_c (va_up rg i (va_up (va_up r.1 2 (k)) 6 ((r.1 6) + (1)), r.2)) 5) (i + 1) (0)))) H locs := hH
    have hM := hM.s5 (0)
    have hF := hF.up (k := 15) (x := (zr_ia g 31 (va_up (zm_c (va_up rg i (va_up (va_up r.1 2 (k)) 6 ((r.1 6) + (1)), r.2)) 5) (i + 1) (0)))) (by decide) (by decide)
    generalize va_up E2 15 (zr_ia g 31 (va_up (zm_c (va_up rg i (va_up (va_up r.1 2 (k)) 6 ((r.1 6) + (1)), r.2)) 5) (i + 1) (0))) = E5 at hH hM hF
    have hM : zm_at g ad E5 q (va_up rg i (va_up (va_up (va_up r.1 2 (k)) 6 ((r.1 6) + (1))) 5 (0), r.2)) ev fs fl := hM
    exact zx_vret X hr hlk hH (Nat.le_of_ble_eq_true rfl) (Nat.le_of_ble_eq_true rfl) d_M_end_45 ⟨rfl, rfl, (by unfold zm_end; first | (rw [if_pos (by omega)]; exact hM) | (rw [if_neg (by omega)]; exact hM)), hF⟩

set_option maxHeartbeats 4000000 in
set_option maxRecDepth 100000 in
theorem c_M_leave (g : zw_G) (l : Launch) (N : Nat) (ad : Nat → Nat) (E : Nat → va_E) (q : Nat → Nat) (rg : zt_R) (ev fs fl : Nat → Nat) (i : Nat) (r : (Nat → Nat) × (Nat → Nat → Nat)) (hN : 25 ≤ N) (hi : i < 30) (hro : zr_ok r.1 r.2) (hM : zm_at g ad E q (va_up rg i r) ev fs fl) : zc_i g l y_M_leave b_M_leave 2 (some .int) { frames := 0, cells := 0, slots := 0, locals := 0 } [.ref (ad (8)), .int (nI (i + 1))] N ad E (fun v N1 ad1 E1 => N = N1 ∧ ad = ad1 ∧ v = nI (if 0 < r.1 3 - r.1 4 then 1 else 0) ∧ zm_at g ad E1 q (va_up rg i (va_up r.1 2 4, r.2)) ev fs fl ∧ zm_fr E E1) := by
  refine zc_i.of (by decide) (Nat.le_of_ble_eq_true rfl) ?_
  intro p e s m below meth c ls A X hr hlk hl hH
  have hl : lv_has ls 2 [(0, .ref (ad (8))), (1, .int (nI (i + 1)))] := hl
  obtain ⟨r0, r1, r2, r3, r4, r5, r7, r8, r6⟩ := hro.1
  have hF : zm_fr E E := zm_fr.rf
  refine lv_aload_n X.1 X.2.1 d_M_leave_0 rfl (lv_at hl 0 rfl) ?_
  refine zx_get (v := .ref (ad (11))) X hH fg_M_16 (by omega) hM.1 rfl d_M_leave_1 ?_
  refine lv_iload_n X.1 X.2.1 d_M_leave_4 rfl (lv_at hl 1 rfl) ?_
  refine lv_iconst (v := nI 4) X.1 X.2.1 d_M_leave_5 (by decide) ?_
  refine zx_iast (j := i + 1) (x := nI (4)) X hH (by omega) (show E 11 = zr_ia g 31 (zm_c (va_up rg i (r)) 2) from hM.2.2.2.1) rfl (by omega) (by decide) d_M_leave_6 (fun H locs hH => ?_)
  rw [zr_upd] at hH
  have hH : zw_H g A s.heap s N ad (va_up E 11 (zr_ia g 31 (va_up (zm_c (va_up rg i (r)) 2) (i + 1) (4)))) H locs := hH
  have hM := hM.s2 (4)
  have hF := hF.up (k := 11) (x := (zr_ia g 31 (va_up (zm_c (va_up rg i (r)) 2) (i + 1) (4)))) (by decide) (by decide)
  generalize va_up E 11 (zr_ia g 31 (va_up (zm_c (va_up rg i (r)) 2) (i + 1) (4))) = E1 at hH hM hF
  have hM : zm_at g ad E1 q (va_up rg i (va_up r.1 2 (4), r.2)) ev fs fl := hM
  refine lv_aload_n X.1 X.2.1 d_M_leave_7 rfl (lv_at hl 0 rfl) ?_
  refine zx_get (v := .ref (ad (12))) X hH fg_M_19 (by omega) hM.1 rfl d_M_leave_8 ?_
  refine lv_iload_n X.1 X.2.1 d_M_leave_11 rfl (lv_at hl 1 rfl) ?_
  refine zx_iald (j := i + 1) X hH (by omega) (show E1 12 = zr_ia g 31 (zm_c (va_up rg i (va_up r.1 2 (4), r.2)) 3) from hM.2.2.2.2.1) rfl (by omega) (by decide) d_M_leave_12 ?_
  refine zx_top (b := nI (r.1 3)) (congrArg nI (zm_c_at _ _ _ _)) ?_
  refine lv_aload_n X.1 X.2.1 d_M_leave_13 rfl (lv_at hl 0 rfl) ?_
  refine zx_get (v := .ref (ad (13))) X hH fg_M_22 (by omega) hM.1 rfl d_M_leave_14 ?_
  refine lv_iload_n X.1 X.2.1 d_M_leave_17 rfl (lv_at hl 1 rfl) ?_
  refine zx_iald (j := i + 1) X hH (by omega) (show E1 13 = zr_ia g 31 (zm_c (va_up rg i (va_up r.1 2 (4), r.2)) 4) from hM.2.2.2.2.2.1) rfl (by omega) (by decide) d_M_leave_18 ?_
  refine zx_top (b := nI (r.1 4)) (congrArg nI (zm_c_at _ _ _ _)) ?_
  refine lv_icmp_le (tgt := 26) X.1 X.2.1 d_M_leave_19 (by decide) (fun c2 => ?_) (fun c2 => ?_)
  · have c2 := (zn_le (nI_toInt (by omega)) (nI_toInt (by omega))).mp c2
    refine lv_iconst (v := nI 0) X.1 X.2.1 d_M_leave_26 (by decide) ?_
    exact zx_iret X hr hlk hH (Nat.le_of_ble_eq_true rfl) (Nat.le_of_ble_eq_true rfl) d_M_leave_27 ⟨rfl, rfl, (by first | rfl | (rw [if_pos (by omega)]) | (rw [if_neg (by omega)])), hM, hF⟩
  · have c2 := mt (zn_le (nI_toInt (by omega)) (nI_toInt (by omega))).mpr c2
    refine lv_iconst (v := nI 1) X.1 X.2.1 d_M_leave_22 (by decide) ?_
    refine lv_goto (tgt := 27) X.1 X.2.1 d_M_leave_23 (by decide) ?_
    exact zx_iret X hr hlk hH (Nat.le_of_ble_eq_true rfl) (Nat.le_of_ble_eq_true rfl) d_M_leave_27 ⟨rfl, rfl, (by first | rfl | (rw [if_pos (by omega)]) | (rw [if_neg (by omega)])), hM, hF⟩

set_option maxHeartbeats 4000000 in
set_option maxRecDepth 100000 in
theorem c_M_isFree (g : zw_G) (l : Launch) (N : Nat) (ad : Nat → Nat) (E : Nat → va_E) (q : Nat → Nat) (rg : zt_R) (ev fs fl : Nat → Nat) (i : Nat) (r : (Nat → Nat) × (Nat → Nat → Nat)) (hN : 25 ≤ N) (hi : i < 30) (hro : zr_ok r.1 r.2) (hM : zm_at g ad E q (va_up rg i r) ev fs fl) (hev : ∀ j, ev j < 1000000) : zc_i g l y_M_isFree b_M_isFree 3 (some .boolean) { frames := 0, cells := 0, slots := 0, locals := 0 } [.ref (ad (8)), .int (nI (i + 1))] N ad E (fun v N1 ad1 E1 => N = N1 ∧ ad = ad1 ∧ v = nI (if (zp_tw (r.2 0) (r.2 1) (r.1 3 + 1) (r.1 8) 0 (r.2 2) ev).1 = true then 1 else 0) ∧ zm_at g ad E1 q (va_up rg i (r.1, va_up r.2 2 (zp_tw (r.2 0) (r.2 1) (r.1 3 + 1) (r.1 8) 0 (r.2 2) ev).2.1)) (zp_tw (r.2 0) (r.2 1) (r.1 3 + 1) (r.1 8) 0 (r.2 2) ev).2.2 fs fl ∧ zm_fr E E1) := by
  refine zc_i.of (by decide) (Nat.le_of_ble_eq_true rfl) ?_
  intro p e s m below meth c ls A X hr hlk hl hH
  have hl : lv_has ls 3 [(0, .ref (ad (8))), (1, .int (nI (i + 1)))] := hl
  obtain ⟨r0, r1, r2, r3, r4, r5, r7, r8, r6⟩ := hro.1
  refine lv_bipush (v := nI 20) X.1 X.2.1 d_M_isFree_0 (by decide) ?_
  refine lv_iload_n X.1 X.2.1 d_M_isFree_2 rfl (lv_at hl 1 rfl) ?_
  refine lv_imul X.1 X.2.1 d_M_isFree_3 ?_
  refine zx_top (pk_mul _ _) ?_
  refine lv_bipush (v := nI 20) X.1 X.2.1 d_M_isFree_4 (by decide) ?_
  refine lv_isub X.1 X.2.1 d_M_isFree_6 ?_
  refine zx_top (pk_sub (by omega)) ?_
  refine zx_top (b := nI (20 * i + 0)) (congrArg nI (by omega)) ?_
  refine lv_istore_n (lv' := [(2, .int (nI (20 * i + 0))), (0, .ref (ad (8))), (1, .int (nI (i + 1)))]) X.1 X.2.1 d_M_isFree_7 rfl hl (by decide) rfl (fun ls hl => ?_)
  refine zx_loop (σ := Nat × (Nat → Nat) × (Nat → Nat) × (Nat → va_E)) (fun x H locs ls => x.1 ≤ r.1 8 ∧ zm_at g ad x.2.2.2 q (va_up rg i (r.1, va_up r.2 2 x.2.1)) x.2.2.1 fs fl ∧ zm_fr E x.2.2.2 ∧ (∀ j, x.2.2.1 j < 1000000) ∧ (∀ j, x.2.1 j ≤ 1) ∧ zp_tw (r.2 0) (r.2 1) (r.1 3 + 1) (r.1 8) 0 (r.2 2) ev = zp_tw (r.2 0) (r.2 1) (r.1 3 + 1) (r.1 8 - x.1) x.1 x.2.1 x.2.2.1 ∧ zw_H g A s.heap s N ad x.2.2.2 H locs ∧ lv_has ls 3 [(2, .int (nI (20 * i + x.1))), (0, .ref (ad 8)), (1, .int (nI (i + 1)))]) (fun x => r.1 8 - x.1) (fun _ => 0) (fun _ => 0) ?_ (0, r.2 2, ev, E) _ _ _ ⟨Nat.zero_le _, hM.rg (congrArg (fun z => va_up rg i (r.1, z)) (zr_id r.2 2)), zm_fr.rf, hev, hro.2.2.2.1, rfl, hH, hl⟩
  rintro ⟨m, tk, ev1, E1⟩ H locs ls ⟨hm, hM, hF, hev, htk, hT, hH, hl⟩ ih
  dsimp only at hm hM hF hev htk hT hH hl ih
  have k10 := hro.2.1 m
  have k11 := hro.2.2.1 m
  have k12 := htk m
  have k13 := hev (r.2 1 m)
  refine lv_iload_n X.1 X.2.1 d_M_isFree_8 rfl (lv_at hl 0 rfl) ?_
  refine lv_bipush (v := nI 20) X.1 X.2.1 d_M_isFree_9 (by decide) ?_
  refine lv_iload_n X.1 X.2.1 d_M_isFree_11 rfl (lv_at hl 2 rfl) ?_
  refine lv_imul X.1 X.2.1 d_M_isFree_12 ?_
  refine zx_top (pk_mul _ _) ?_
  refine lv_bipush (v := nI 20) X.1 X.2.1 d_M_isFree_13 (by decide) ?_
  refine lv_isub X.1 X.2.1 d_M_isFree_15 ?_
  refine zx_top (pk_sub (by omega)) ?_
  refine lv_aload_n X.1 X.2.1 d_M_isFree_16 rfl (lv_at hl 1 rfl) ?_
  refine zx_get (v := .ref (ad (16))) X hH fg_M_31 (by omega) hM.1 rfl d_M_isFree_17 ?_
  refine lv_iload_n X.1 X.2.1 d_M_isFree_20 rfl (lv_at hl 2 rfl) ?_
  refine zx_iald (j := i + 1) X hH (by omega) (show E1 16 = zr_ia g 31 (zm_c (va_up rg i (r.1, va_up r.2 2 tk)) 8) from hM.2.2.2.2.2.2.2.2.1) rfl (by omega) (by decide) d_M_isFree_21 ?_
  refine zx_top (b := nI (r.1 8)) (congrArg nI (zm_c_at _ _ _ _)) ?_
  refine lv_iadd X.1 X.2.1 d_M_isFree_22 ?_
  refine zx_top (nI_add _ _) ?_
  refine lv_icmp_ge (tgt := 99) X.1 X.2.1 d_M_isFree_23 (by decide) (fun c2 => ?_) (fun c2 => ?_)
  · have c2 := (zn_le (nI_toInt (by omega)) (nI_toInt (by omega))).mp c2
    refine lv_iconst (v := nI 1) X.1 X.2.1 d_M_isFree_99 (by decide) ?_
    exact zx_zret X hr hlk hH (Nat.le_of_ble_eq_true rfl) (Nat.le_of_ble_eq_true rfl) d_M_isFree_100 rfl ⟨rfl, rfl, by rw [hT, show r.1 8 - m = 0 by omega, zp_tw_0]; exact ⟨rfl, hM, hF⟩⟩
  · have c2 := mt (zn_le (nI_toInt (by omega)) (nI_toInt (by omega))).mpr c2
    refine lv_aload_n X.1 X.2.1 d_M_isFree_26 rfl (lv_at hl 1 rfl) ?_
    refine zx_get (v := .ref (ad (20))) X hH fg_M_44 (by omega) hM.1 rfl d_M_isFree_27 ?_
    refine lv_iload_n X.1 X.2.1 d_M_isFree_30 rfl (lv_at hl 0 rfl) ?_
    refine zx_iald (j := 20 * i + m) X hH (by omega) (show E1 20 = zr_ia g 620 (zm_w (va_up rg i (r.1, va_up r.2 2 tk)) 0) from hM.2.2.2.2.2.2.2.2.2.2.2.2.1) (congrArg nI (by omega)) (by omega) (by decide) d_M_isFree_31 ?_
    refine zx_top (b := nI (r.2 0 m)) (congrArg nI (zm_w_at _ _ _ _ (by omega))) ?_
    refine lv_aload_n X.1 X.2.1 d_M_isFree_32 rfl (lv_at hl 1 rfl) ?_
    refine zx_get (v := .ref (ad (12))) X hH fg_M_19 (by omega) hM.1 rfl d_M_isFree_33 ?_
    refine lv_iload_n X.1 X.2.1 d_M_isFree_36 rfl (lv_at hl 2 rfl) ?_
    refine zx_iald (j := i + 1) X hH (by omega) (show E1 12 = zr_ia g 31 (zm_c (va_up rg i (r.1, va_up r.2 2 tk)) 3) from hM.2.2.2.2.1) rfl (by omega) (by decide) d_M_isFree_37 ?_
    refine zx_top (b := nI (r.1 3)) (congrArg nI (zm_c_at _ _ _ _)) ?_
    refine lv_iconst (v := nI 1) X.1 X.2.1 d_M_isFree_38 (by decide) ?_
    refine lv_iadd X.1 X.2.1 d_M_isFree_39 ?_
    refine zx_top (nI_add _ _) ?_
    refine lv_icmp_ne (tgt := 93) X.1 X.2.1 d_M_isFree_40 (by decide) (fun c3 => ?_) (fun c3 => ?_)
    · have c3 := mt (zn_eq (nI_toInt (by omega)) (nI_toInt (by omega))).mpr c3
      refine lv_iinc (v := nI (20 * i + m + 1)) (lv' := [(2, .int (nI (20 * i + m + 1))), (0, .ref (ad (8))), (1, .int (nI (i + 1)))]) X.1 X.2.1 d_M_isFree_93 hl (k := 0) rfl (nI_add _ _) (by decide) rfl (fun ls hl => ?_)
      refine lv_goto (tgt := 8) X.1 X.2.1 d_M_isFree_96 (by decide) ?_
      exact ih (m + 1, tk, ev1, E1) _ _ _ ⟨by omega, hM, hF, hev, htk, (hT.trans (by rw [show r.1 8 - m = (r.1 8 - (m + 1)) + 1 by omega]; exact zp_tw_no (by omega))), hH, lv_sub hl [0, 1, 2] rfl⟩ (by show r.1 8 - (m + 1) < r.1 8 - m; omega)
    · have c3 := (zn_eq (nI_toInt (by omega)) (nI_toInt (by omega))).mp c3
      refine lv_aload_n X.1 X.2.1 d_M_isFree_43 rfl (lv_at hl 1 rfl) ?_
      refine zx_get (v := .ref (ad (18))) X hH fg_M_38 (by omega) hM.1 rfl d_M_isFree_44 ?_
      refine lv_iload_n X.1 X.2.1 d_M_isFree_47 rfl (lv_at hl 0 rfl) ?_
      refine zx_zald (j := 20 * i + m) X hH (by omega) (show E1 18 = zr_za g 620 (zm_w (va_up rg i (r.1, va_up r.2 2 tk)) 2) from hM.2.2.2.2.2.2.2.2.2.2.1) (congrArg nI (by omega)) (by omega) (by decide) d_M_isFree_48 ?_
      refine zx_top (b := nI (tk m)) (congrArg nI (zm_w_at _ _ _ _ (by omega))) ?_
      refine lv_if_eq (tgt := 55) X.1 X.2.1 d_M_isFree_49 (by decide) (fun c4 => ?_) (fun c4 => ?_)
      · have c4 := (zn_eq (nI_toInt (by omega)) zn_0).mp c4
        refine lv_aload_n X.1 X.2.1 d_M_isFree_55 rfl (lv_at hl 1 rfl) ?_
        refine zx_get (v := .ref (ad (23))) X hH fg_M_53 (by omega) hM.1 rfl d_M_isFree_56 ?_
        refine lv_aload_n X.1 X.2.1 d_M_isFree_59 rfl (lv_at hl 1 rfl) ?_
        refine zx_get (v := .ref (ad (21))) X hH fg_M_47 (by omega) hM.1 rfl d_M_isFree_60 ?_
        refine lv_iload_n X.1 X.2.1 d_M_isFree_63 rfl (lv_at hl 0 rfl) ?_
        refine zx_iald (j := 20 * i + m) X hH (by omega) (show E1 21 = zr_ia g 620 (zm_w (va_up rg i (r.1, va_up r.2 2 tk)) 1) from hM.2.2.2.2.2.2.2.2.2.2.2.2.2.1) (congrArg nI (by omega)) (by omega) (by decide) d_M_isFree_64 ?_
        refine zx_top (b := nI (r.2 1 m)) (congrArg nI (zm_w_at _ _ _ _ (by omega))) ?_
        refine zx_iald (j := r.2 1 m) X hH (by omega) (show E1 23 = zr_ia g 16 ev1 from hM.2.2.2.2.2.2.2.2.2.2.2.2.2.2.2.1) rfl (by omega) (by decide) d_M_isFree_65 ?_
        refine lv_if_ne (tgt := 71) X.1 X.2.1 d_M_isFree_66 (by decide) (fun c5 => ?_) (fun c5 => ?_)
        · have c5 := mt (zn_eq (nI_toInt (by omega)) zn_0).mpr c5
          refine lv_aload_n X.1 X.2.1 d_M_isFree_71 rfl (lv_at hl 1 rfl) ?_
          refine zx_get (v := .ref (ad (23))) X hH fg_M_53 (by omega) hM.1 rfl d_M_isFree_72 ?_
          refine lv_aload_n X.1 X.2.1 d_M_isFree_75 rfl (lv_at hl 1 rfl) ?_
          refine zx_get (v := .ref (ad (21))) X hH fg_M_47 (by omega) hM.1 rfl d_M_isFree_76 ?_
          refine lv_iload_n X.1 X.2.1 d_M_isFree_79 rfl (lv_at hl 0 rfl) ?_
          refine zx_iald (j := 20 * i + m) X hH (by omega) (show E1 21 = zr_ia g 620 (zm_w (va_up rg i (r.1, va_up r.2 2 tk)) 1) from hM.2.2.2.2.2.2.2.2.2.2.2.2.2.1) (congrArg nI (by omega)) (by omega) (by decide) d_M_isFree_80 ?_
          refine zx_top (b := nI (r.2 1 m)) (congrArg nI (zm_w_at _ _ _ _ (by omega))) ?_
          refine lv_dup2_11 X.1 X.2.1 d_M_isFree_81 rfl rfl ?_
          refine zx_iald (j := r.2 1 m) X hH (by omega) (show E1 23 = zr_ia g 16 ev1 from hM.2.2.2.2.2.2.2.2.2.2.2.2.2.2.2.1) rfl (by omega) (by decide) d_M_isFree_82 ?_
          refine lv_iconst (v := nI 1) X.1 X.2.1 d_M_isFree_83 (by decide) ?_
          refine lv_isub X.1 X.2.1 d_M_isFree_84 ?_
          refine zx_top (pk_sub (by omega)) ?_
          refine zx_iast (j := r.2 1 m) X hH (by omega) (show E1 23 = zr_ia g 16 ev1 from hM.2.2.2.2.2.2.2.2.2.2.2.2.2.2.2.1) rfl (by omega) (by decide) d_M_isFree_85 (fun H locs hH => ?_)
          rw [zr_upd] at hH
          have hH : zw_H g A s.heap s N ad (va_up E1 23 (zr_ia g 16 (va_up ev1 (r.2 1 m) (ev1 (r.2 1 m) - 1)))) H locs := hH
          have hM := hM.ev (va_up ev1 (r.2 1 m) (ev1 (r.2 1 m) - 1))
          have hF := hF.up (k := 23) (x := (zr_ia g 16 (va_up ev1 (r.2 1 m) (ev1 (r.2 1 m) - 1)))) (by decide) (by decide)
          generalize va_up E1 23 (zr_ia g 16 (va_up ev1 (r.2 1 m) (ev1 (r.2 1 m) - 1))) = E6 at hH hM hF
          have hev2 : ∀ j, (va_up ev1 (r.2 1 m) (ev1 (r.2 1 m) - 1)) j < 1000000 := fun j => by have := hev j; have := hev (r.2 1 m); unfold va_up; split <;> omega
          refine lv_aload_n X.1 X.2.1 d_M_isFree_86 rfl (lv_at hl 1 rfl) ?_
          refine zx_get (v := .ref (ad (18))) X hH fg_M_38 (by omega) hM.1 rfl d_M_isFree_87 ?_
          refine lv_iload_n X.1 X.2.1 d_M_isFree_90 rfl (lv_at hl 0 rfl) ?_
          refine lv_iconst (v := nI 1) X.1 X.2.1 d_M_isFree_91 (by decide) ?_
          refine zx_zast (j := 20 * i + m) X hH (by omega) (show E6 18 = zr_za g 620 (zm_w (va_up rg i (r.1, va_up r.2 2 tk)) 2) from hM.2.2.2.2.2.2.2.2.2.2.1) rfl (by omega) (by decide) (by decide) d_M_isFree_92 (fun H locs hH => ?_)
          rw [zr_upd] at hH
          have hH : zw_H g A s.heap s N ad (va_up E6 18 (zr_za g 620 (va_up (zm_w (va_up rg i (r.1, va_up r.2 2 tk)) 2) (20 * i + m) 1))) H locs := hH
          have hM : zm_at g ad (va_up E6 18 (zr_za g 620 (va_up (zm_w (va_up rg i (r.1, va_up r.2 2 tk)) 2) (20 * i + m) 1))) q (va_up rg i (r.1, va_up r.2 2 (va_up tk m 1))) (va_up ev1 (r.2 1 m) (ev1 (r.2 1 m) - 1)) fs fl := (hM.w2 (m := m) (by omega) 1).rg (congrArg (fun z => va_up rg i (r.1, z)) (bx_uu r.2 2 tk (va_up tk m 1)))
          have hF := hF.up (k := 18) (x := (zr_za g 620 (va_up (zm_w (va_up rg i (r.1, va_up r.2 2 tk)) 2) (20 * i + m) 1))) (by decide) (by decide)
          generalize va_up E6 18 (zr_za g 620 (va_up (zm_w (va_up rg i (r.1, va_up r.2 2 tk)) 2) (20 * i + m) 1)) = E7 at hH hM hF
          have htk2 : ∀ j, va_up tk m 1 j ≤ 1 := fun j => by have := htk j; unfold va_up; split <;> omega
          refine lv_iinc (v := nI (20 * i + m + 1)) (lv' := [(2, .int (nI (20 * i + m + 1))), (0, .ref (ad (8))), (1, .int (nI (i + 1)))]) X.1 X.2.1 d_M_isFree_93 hl (k := 0) rfl (nI_add _ _) (by decide) rfl (fun ls hl => ?_)
          refine lv_goto (tgt := 8) X.1 X.2.1 d_M_isFree_96 (by decide) ?_
          exact ih (m + 1, va_up tk m 1, (va_up ev1 (r.2 1 m) (ev1 (r.2 1 m) - 1)), E7) _ _ _ ⟨by omega, hM, hF, hev2, htk2, (hT.trans (by rw [show r.1 8 - m = (r.1 8 - (m + 1)) + 1 by omega]; exact zp_tw_take ⟨by omega, by omega⟩ (by omega))), hH, lv_sub hl [0, 1, 2] rfl⟩ (by show r.1 8 - (m + 1) < r.1 8 - m; omega)
        · have c5 := (zn_eq (nI_toInt (by omega)) zn_0).mp c5
          refine lv_iconst (v := nI 0) X.1 X.2.1 d_M_isFree_69 (by decide) ?_
          exact zx_zret X hr hlk hH (Nat.le_of_ble_eq_true rfl) (Nat.le_of_ble_eq_true rfl) d_M_isFree_70 rfl ⟨rfl, rfl, by rw [hT, show r.1 8 - m = (r.1 8 - (m + 1)) + 1 by omega, zp_tw_stop ⟨by omega, by omega⟩ (by omega)]; exact ⟨rfl, hM, hF⟩⟩
      · have c4 := mt (zn_eq (nI_toInt (by omega)) zn_0).mpr c4
        refine lv_goto (tgt := 93) X.1 X.2.1 d_M_isFree_52 (by decide) ?_
        refine lv_iinc (v := nI (20 * i + m + 1)) (lv' := [(2, .int (nI (20 * i + m + 1))), (0, .ref (ad (8))), (1, .int (nI (i + 1)))]) X.1 X.2.1 d_M_isFree_93 hl (k := 0) rfl (nI_add _ _) (by decide) rfl (fun ls hl => ?_)
        refine lv_goto (tgt := 8) X.1 X.2.1 d_M_isFree_96 (by decide) ?_
        exact ih (m + 1, tk, ev1, E1) _ _ _ ⟨by omega, hM, hF, hev, htk, (hT.trans (by rw [show r.1 8 - m = (r.1 8 - (m + 1)) + 1 by omega]; exact zp_tw_no (by omega))), hH, lv_sub hl [0, 1, 2] rfl⟩ (by show r.1 8 - (m + 1) < r.1 8 - m; omega)
