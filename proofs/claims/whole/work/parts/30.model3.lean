theorem zp_new_eq (a b : Nat) : va_up (va_up (fun _ => 0) 0 a) 1 b = zp_new a b := by
  funext j
  unfold va_up zp_new
  by_cases h1 : j = 1
  · subst h1; rw [if_pos rfl, if_neg (by decide), if_pos rfl]
  · rw [if_neg h1]
    by_cases h0 : j = 0
    · rw [if_pos h0, if_pos h0]
    · rw [if_neg h0, if_neg h0, if_neg h1]
theorem zp_sch_fix {q sf : Nat → Nat} {v : Nat} (h : q 3 < 600) (h4 : q 3 ≤ q 4) : ((zp_sch q sf v).1 0 = q 0 ∧ (zp_sch q sf v).1 1 = q 1 ∧ (zp_sch q sf v).1 2 = q 2 ∧ (zp_sch q sf v).1 3 = q 3 + 1 ∧ (zp_sch q sf v).1 5 = q 5 ∧ (zp_sch q sf v).1 6 = q 6) ∧ (zp_sch q sf v).2 (q 3) = v ∧ ∀ j, j < q 3 → (zp_sch q sf v).2 j = sf j := by
  by_cases d : q 4 ≤ q 3
  · rw [zp_sch_grow (by omega) d]
    refine ⟨⟨rfl, rfl, rfl, rfl, rfl, rfl⟩, va_up_self (fun j => if j < q 4 then sf j else 0) (q 3) v, fun j hj => ?_⟩
    show va_up (fun j => if j < q 4 then sf j else 0) (q 3) v j = _
    rw [va_up_ne _ _ (by omega)]
    show (if j < q 4 then sf j else 0) = _
    rw [if_pos (by omega)]
  · rw [zp_sch_room (by omega) d]
    exact ⟨⟨rfl, rfl, rfl, rfl, rfl, rfl⟩, va_up_self sf (q 3) v, fun j hj => va_up_ne sf v (show j ≠ q 3 by omega)⟩
/-- what turn leaves of the schedule -/
theorem zm_turn {g : zw_G} {ad : Nat → Nat} {E1 : Nat → va_E} {q : Nat → Nat} {rg : zt_R} {ev sf fs fl : Nat → Nat} {v : Nat} (h3 : q 3 < 600) (h4 : q 3 ≤ q 4) (hfs : ∀ j, j < q 3 → fs j = sf j) (hM : zm_at g ad E1 (va_up q 3 (q 3 + 1)) rg ev (va_up fs (q 3) v) fl) : ∃ fs1, zm_at g ad E1 (zp_sch q sf v).1 rg ev fs1 fl ∧ ∀ j, j < (zp_sch q sf v).1 3 → fs1 j = (zp_sch q sf v).2 j := by
  obtain ⟨⟨a0, a1, a2, a3, a5, a6⟩, f1, f2⟩ := zp_sch_fix (sf := sf) (v := v) h3 h4
  refine ⟨_, hM.q a0 a1 a2 a3 a5, fun j hj => ?_⟩
  by_cases e : j = q 3
  · subst e; rw [va_up_self, f1]
  · rw [va_up_ne _ _ e, f2 j (by omega)]; exact hfs j (by omega)
theorem zm_left_same {r : (Nat → Nat) × (Nat → Nat → Nat)} : (va_up r.1 2 (r.1 2), r.2) = r := by rw [← zr_id]
set_option maxHeartbeats 4000000 in
set_option maxRecDepth 100000 in
theorem c_M_region (g : zw_G) (l : Launch) (N : Nat) (ad : Nat → Nat) (E : Nat → va_E) (q : Nat → Nat) (rg : zt_R) (ev sf fs fl : Nat → Nat) (hN : 25 ≤ N) (hok : zt_ok q rg ev sf) (hv : zs_inv q rg) (hM : zm_at g ad E q rg ev fs fl) (x y : Int32) : zc_i g l y_M_region b_M_region 3 (some .int) { frames := 0, cells := 0, slots := 0, locals := 0 } [.ref (ad (8)), .int (x), .int (y)] N ad E (fun v N1 ad1 E1 => N = N1 ∧ ad = ad1 ∧ v = (zs_reg q rg x y).1 ∧ zm_at g ad E1 (zs_reg q rg x y).2.1 (zs_reg q rg x y).2.2 ev fs fl ∧ zm_fr E E1) := by
  refine zc_i.of (by decide) (Nat.le_of_ble_eq_true rfl) ?_
  intro p e s m below meth c ls A X hr hlk hl hH
  have hl : lv_has ls 3 [(0, .ref (ad (8))), (1, .int (x)), (2, .int (y))] := hl
  obtain ⟨k0, k2, k3, k3a, k4, k4a, k5, k5a, k6, k6a⟩ := hok.1
  have hF : zm_fr E E := zm_fr.rf
  refine lv_aload_n X.1 X.2.1 d_M_region_0 rfl (lv_at hl 0 rfl) ?_
  refine lv_iconst (v := nI 0) X.1 X.2.1 d_M_region_1 (by decide) ?_
  refine zx_put X hH fp_M_59 (by omega) hM.1 (Nat.le_of_ble_eq_true rfl) rfl rfl d_M_region_2 (fun H locs hH => ?_)
  have hH : zw_H g A s.heap s N ad (va_up E 8 (zm_o ad q)) H locs := hH
  rw [← hM.1, ← zr_id] at hH
  refine lv_iload_n X.1 X.2.1 d_M_region_5 rfl (lv_at hl 1 rfl) ?_
  refine lv_iconst (v := nI 1) X.1 X.2.1 d_M_region_6 (by decide) ?_
  refine lv_icmp_lt (tgt := 26) X.1 X.2.1 d_M_region_7 (by decide) (fun c2 => ?_) (fun c2 => ?_)
  · have c2 := (zn_lt rfl (nI_toInt (by omega))).mp c2
    refine lv_bipush (v := (-4)) X.1 X.2.1 d_M_region_26 (by decide) ?_
    exact zx_iret X hr hlk hH (Nat.le_of_ble_eq_true rfl) (Nat.le_of_ble_eq_true rfl) d_M_region_28 ⟨rfl, rfl, by rw [zs_reg_bad (by omega)], by rw [zs_reg_bad (by omega)]; exact hM, hF⟩
  · have c2 := mt (zn_lt rfl (nI_toInt (by omega))).mpr c2
    refine lv_iload_n X.1 X.2.1 d_M_region_10 rfl (lv_at hl 1 rfl) ?_
    refine lv_bipush (v := nI 100) X.1 X.2.1 d_M_region_11 (by decide) ?_
    refine lv_icmp_gt (tgt := 26) X.1 X.2.1 d_M_region_13 (by decide) (fun c3 => ?_) (fun c3 => ?_)
    · have c3 := (zn_lt (nI_toInt (by omega)) rfl).mp c3
      refine lv_bipush (v := (-4)) X.1 X.2.1 d_M_region_26 (by decide) ?_
      exact zx_iret X hr hlk hH (Nat.le_of_ble_eq_true rfl) (Nat.le_of_ble_eq_true rfl) d_M_region_28 ⟨rfl, rfl, by rw [zs_reg_bad (by omega)], by rw [zs_reg_bad (by omega)]; exact hM, hF⟩
    · have c3 := mt (zn_lt (nI_toInt (by omega)) rfl).mpr c3
      refine lv_iload_n X.1 X.2.1 d_M_region_16 rfl (lv_at hl 2 rfl) ?_
      refine lv_if_lt (tgt := 26) X.1 X.2.1 d_M_region_17 (by decide) (fun c4 => ?_) (fun c4 => ?_)
      · have c4 := (zn_lt rfl zn_0).mp c4
        refine lv_bipush (v := (-4)) X.1 X.2.1 d_M_region_26 (by decide) ?_
        exact zx_iret X hr hlk hH (Nat.le_of_ble_eq_true rfl) (Nat.le_of_ble_eq_true rfl) d_M_region_28 ⟨rfl, rfl, by rw [zs_reg_bad (by omega)], by rw [zs_reg_bad (by omega)]; exact hM, hF⟩
      · have c4 := mt (zn_lt rfl zn_0).mpr c4
        refine lv_iload_n X.1 X.2.1 d_M_region_20 rfl (lv_at hl 2 rfl) ?_
        refine lv_bipush (v := nI 100) X.1 X.2.1 d_M_region_21 (by decide) ?_
        refine lv_icmp_le (tgt := 29) X.1 X.2.1 d_M_region_23 (by decide) (fun c5 => ?_) (fun c5 => ?_)
        · have c5 := (zn_le rfl (nI_toInt (by omega))).mp c5
          refine lv_aload_n X.1 X.2.1 d_M_region_29 rfl (lv_at hl 0 rfl) ?_
          refine zx_get (v := .int (nI (q 2))) X hH fg_M_66 (by omega) hM.1 rfl d_M_region_30 ?_
          refine lv_if_eq (tgt := 39) X.1 X.2.1 d_M_region_33 (by decide) (fun c6 => ?_) (fun c6 => ?_)
          · have c6 := (zn_eq (nI_toInt (by omega)) zn_0).mp c6
            refine lv_aload_n X.1 X.2.1 d_M_region_39 rfl (lv_at hl 0 rfl) ?_
            refine zx_get (v := .int (nI (q 0))) X hH fg_M_63 (by omega) hM.1 rfl d_M_region_40 ?_
            refine lv_bipush (v := nI 30) X.1 X.2.1 d_M_region_43 (by decide) ?_
            refine lv_icmp_ne (tgt := 50) X.1 X.2.1 d_M_region_45 (by decide) (fun c7 => ?_) (fun c7 => ?_)
            · have c7 := mt (zn_eq (nI_toInt (by omega)) (nI_toInt (by omega))).mpr c7
              refine lv_aload_n X.1 X.2.1 d_M_region_50 rfl (lv_at hl 0 rfl) ?_
              refine lv_dup X.1 X.2.1 d_M_region_51 rfl ?_
              refine zx_get (v := .int (nI (q 0))) X hH fg_M_63 (by omega) hM.1 rfl d_M_region_52 ?_
              refine lv_iconst (v := nI 1) X.1 X.2.1 d_M_region_55 (by decide) ?_
              refine lv_iadd X.1 X.2.1 d_M_region_56 ?_
              refine zx_top (nI_add _ _) ?_
              refine zx_put X hH fp_M_63 (by omega) hM.1 (Nat.le_of_ble_eq_true rfl) rfl rfl d_M_region_57 (fun H locs hH => ?_)
              have hH : zw_H g A s.heap s N ad (va_up E 8 (zm_o ad (va_up q 0 (q 0 + 1)))) H locs := hH
              have hM := hM.o (va_up q 0 (q 0 + 1))
              have hF := hF.up (k := 8) (x := (zm_o ad (va_up q 0 (q 0 + 1)))) (by decide) (by decide)
              generalize va_up E 8 (zm_o ad (va_up q 0 (q 0 + 1))) = E8 at hH hM hF
              obtain ⟨i, hi⟩ : ∃ i, i = q 0 := ⟨_, rfl⟩
              have hrz := hv.2.1 i (by omega)
              have hM := hM.rg (zr_id rg i)
              refine lv_aload_n X.1 X.2.1 d_M_region_60 rfl (lv_at hl 0 rfl) ?_
              refine zx_get (v := .ref (ad (9))) X hH fg_M_7 (by omega) hM.1 rfl d_M_region_61 ?_
              refine lv_aload_n X.1 X.2.1 d_M_region_64 rfl (lv_at hl 0 rfl) ?_
              refine zx_get (v := .int (nI (q 0 + 1))) X hH fg_M_63 (by omega) hM.1 rfl d_M_region_65 ?_
              refine lv_iload_n X.1 X.2.1 d_M_region_68 rfl (lv_at hl 1 rfl) ?_
              refine zx_top (zn_nat (x := x) (by omega)) ?_
              refine zx_iast (j := i + 1) (x := nI (x.toInt.toNat)) X hH (by omega) (show E8 9 = zr_ia g 31 (zm_c (va_up rg i (rg i)) 0) from hM.2.1) (by rw [hi]) (by omega) (by decide) d_M_region_69 (fun H locs hH => ?_)
              rw [zr_upd] at hH
              have hH : zw_H g A s.heap s N ad (va_up E8 9 (zr_ia g 31 (va_up (zm_c (va_up rg i (rg i)) 0) (i + 1) (x.toInt.toNat)))) H locs := hH
              have hM := hM.s0 (x.toInt.toNat)
              have hF := hF.up (k := 9) (x := (zr_ia g 31 (va_up (zm_c (va_up rg i (rg i)) 0) (i + 1) (x.toInt.toNat)))) (by decide) (by decide)
              generalize va_up E8 9 (zr_ia g 31 (va_up (zm_c (va_up rg i (rg i)) 0) (i + 1) (x.toInt.toNat))) = E9 at hH hM hF
              have hM : zm_at g ad E9 (va_up q 0 (q 0 + 1)) (va_up rg i (va_up ((rg i).1) 0 (x.toInt.toNat), (rg i).2)) ev fs fl := hM
              refine lv_aload_n X.1 X.2.1 d_M_region_70 rfl (lv_at hl 0 rfl) ?_
              refine zx_get (v := .ref (ad (10))) X hH fg_M_13 (by omega) hM.1 rfl d_M_region_71 ?_
              refine lv_aload_n X.1 X.2.1 d_M_region_74 rfl (lv_at hl 0 rfl) ?_
              refine zx_get (v := .int (nI (q 0 + 1))) X hH fg_M_63 (by omega) hM.1 rfl d_M_region_75 ?_
              refine lv_iload_n X.1 X.2.1 d_M_region_78 rfl (lv_at hl 2 rfl) ?_
              refine zx_top (zn_nat (x := y) (by omega)) ?_
              refine zx_iast (j := i + 1) (x := nI (y.toInt.toNat)) X hH (by omega) (show E9 10 = zr_ia g 31 (zm_c (va_up rg i (va_up ((rg i).1) 0 (x.toInt.toNat), (rg i).2)) 1) from hM.2.2.1) (by rw [hi]) (by omega) (by decide) d_M_region_79 (fun H locs hH => ?_)
              rw [zr_upd] at hH
              have hH : zw_H g A s.heap s N ad (va_up E9 10 (zr_ia g 31 (va_up (zm_c (va_up rg i (va_up ((rg i).1) 0 (x.toInt.toNat), (rg i).2)) 1) (i + 1) (y.toInt.toNat)))) H locs := hH
              have hM := hM.s1 (y.toInt.toNat)
              have hF := hF.up (k := 10) (x := (zr_ia g 31 (va_up (zm_c (va_up rg i (va_up ((rg i).1) 0 (x.toInt.toNat), (rg i).2)) 1) (i + 1) (y.toInt.toNat)))) (by decide) (by decide)
              generalize va_up E9 10 (zr_ia g 31 (va_up (zm_c (va_up rg i (va_up ((rg i).1) 0 (x.toInt.toNat), (rg i).2)) 1) (i + 1) (y.toInt.toNat))) = E10 at hH hM hF
              have hM : zm_at g ad E10 (va_up q 0 (q 0 + 1)) (va_up rg i (va_up (va_up ((rg i).1) 0 (x.toInt.toNat)) 1 (y.toInt.toNat), (rg i).2)) ev fs fl := hM
              refine lv_aload_n X.1 X.2.1 d_M_region_80 rfl (lv_at hl 0 rfl) ?_
              refine zx_get (v := .int (nI (q 0 + 1))) X hH fg_M_63 (by omega) hM.1 rfl d_M_region_81 ?_
              exact zx_iret X hr hlk hH (Nat.le_of_ble_eq_true rfl) (Nat.le_of_ble_eq_true rfl) d_M_region_84 ⟨rfl, rfl, by rw [zs_reg_ok ⟨⟨by omega, by omega⟩, by omega, by omega⟩ (by omega) (by omega)], by rw [zs_reg_ok ⟨⟨by omega, by omega⟩, by omega, by omega⟩ (by omega) (by omega)]; exact hM.rg (by rw [hrz, hi]; exact congrArg (fun z => va_up rg (q 0) (z, fun _ _ => 0)) (zp_new_eq _ _)), hF⟩
            · have c7 := (zn_eq (nI_toInt (by omega)) (nI_toInt (by omega))).mp c7
              refine lv_iconst (v := (-1)) X.1 X.2.1 d_M_region_48 (by decide) ?_
              exact zx_iret X hr hlk hH (Nat.le_of_ble_eq_true rfl) (Nat.le_of_ble_eq_true rfl) d_M_region_49 ⟨rfl, rfl, by rw [zs_reg_full ⟨⟨by omega, by omega⟩, by omega, by omega⟩ (by omega) (by omega)], by rw [zs_reg_full ⟨⟨by omega, by omega⟩, by omega, by omega⟩ (by omega) (by omega)]; exact hM, hF⟩
          · have c6 := mt (zn_eq (nI_toInt (by omega)) zn_0).mpr c6
            refine lv_bipush (v := (-5)) X.1 X.2.1 d_M_region_36 (by decide) ?_
            exact zx_iret X hr hlk hH (Nat.le_of_ble_eq_true rfl) (Nat.le_of_ble_eq_true rfl) d_M_region_38 ⟨rfl, rfl, by rw [zs_reg_off ⟨⟨by omega, by omega⟩, by omega, by omega⟩ (by omega)], by rw [zs_reg_off ⟨⟨by omega, by omega⟩, by omega, by omega⟩ (by omega)]; exact hM, hF⟩
        · have c5 := mt (zn_le rfl (nI_toInt (by omega))).mpr c5
          refine lv_bipush (v := (-4)) X.1 X.2.1 d_M_region_26 (by decide) ?_
          exact zx_iret X hr hlk hH (Nat.le_of_ble_eq_true rfl) (Nat.le_of_ble_eq_true rfl) d_M_region_28 ⟨rfl, rfl, by rw [zs_reg_bad (by omega)], by rw [zs_reg_bad (by omega)]; exact hM, hF⟩

set_option maxHeartbeats 4000000 in
set_option maxRecDepth 100000 in
theorem c_M_turn (g : zw_G) (l : Launch) (N : Nat) (ad : Nat → Nat) (E : Nat → va_E) (q : Nat → Nat) (rg : zt_R) (ev sf fs fl : Nat → Nat) (hN : 25 ≤ N) (hok : zt_ok q rg ev sf) (hv : zs_inv q rg) (hM : zm_at g ad E q rg ev fs fl) (hfs : ∀ j, j < q 3 → fs j = sf j) (x : Int32) : zc_v g l y_M_turn b_M_turn 2 { frames := 1, cells := 0, slots := 0, locals := 40 } [.ref (ad (8)), .int (x)] N ad E (fun N1 ad1 E1 => N = N1 ∧ ad = ad1 ∧ (∃ fs1, zm_at g ad E1 (zs_turn q sf x).1 rg ev fs1 fl ∧ ∀ j, j < (zs_turn q sf x).1 3 → fs1 j = (zs_turn q sf x).2 j) ∧ zm_fr E E1) := by
  refine zc_v.of (by decide) (Nat.le_of_ble_eq_true rfl) ?_
  intro p e s m below meth c ls A X hr hlk hnm hl hH
  have hl : lv_has ls 2 [(0, .ref (ad (8))), (1, .int (x))] := hl
  obtain ⟨k0, k2, k3, k3a, k4, k4a, k5, k5a, k6, k6a⟩ := hok.1
  have hF : zm_fr E E := zm_fr.rf
  refine lv_aload_n X.1 X.2.1 d_M_turn_0 rfl (lv_at hl 0 rfl) ?_
  refine lv_iconst (v := nI 0) X.1 X.2.1 d_M_turn_1 (by decide) ?_
  refine zx_put X hH fp_M_59 (by omega) hM.1 (Nat.le_of_ble_eq_true rfl) rfl rfl d_M_turn_2 (fun H locs hH => ?_)
  have hH : zw_H g A s.heap s N ad (va_up E 8 (zm_o ad q)) H locs := hH
  rw [← hM.1, ← zr_id] at hH
  refine lv_aload_n X.1 X.2.1 d_M_turn_5 rfl (lv_at hl 0 rfl) ?_
  refine zx_get (v := .int (nI (q 2))) X hH fg_M_66 (by omega) hM.1 rfl d_M_turn_6 ?_
  refine lv_if_ne (tgt := 30) X.1 X.2.1 d_M_turn_9 (by decide) (fun c2 => ?_) (fun c2 => ?_)
  · have c2 := mt (zn_eq (nI_toInt (by omega)) zn_0).mpr c2
    have hz9 := zs_turn_no (q := q) (sf := sf) (x := x) (by omega)
    exact zx_vret X hr hlk hH (Nat.le_of_ble_eq_true rfl) (Nat.le_of_ble_eq_true rfl) d_M_turn_30 ⟨rfl, rfl, by rw [hz9]; exact ⟨fs, hM, hfs⟩, hF⟩
  · have c2 := (zn_eq (nI_toInt (by omega)) zn_0).mp c2
    refine lv_aload_n X.1 X.2.1 d_M_turn_12 rfl (lv_at hl 0 rfl) ?_
    refine lv_iload_n X.1 X.2.1 d_M_turn_13 rfl (lv_at hl 1 rfl) ?_
    refine zx_calli (zx_runV (As := [.int (x)]) (rest := []) X hH mv_M_70 ((c_M_isRegion g l N ad E q rg ev fs fl hN (by omega) hM x) _) (by omega) hM.1 rfl ⟨Nat.le_of_ble_eq_true rfl, Nat.le_of_ble_eq_true rfl⟩ rfl hl rfl (Nat.le_of_ble_eq_true rfl) d_M_turn_14 ⟨Nat.le_of_ble_eq_true rfl, Nat.le_of_ble_eq_true rfl⟩) hH (fun r N1 ad1 E1 H locs hq hH => ?_)
    obtain ⟨rfl, rfl, rfl, rfl⟩ := hq
    by_cases d1 : 1 ≤ x.toInt ∧ x.toInt ≤ (q 0 : Int)
    · refine zx_top (b := nI 1) (by rw [if_pos d1]) ?_
      refine lv_if_eq (tgt := 30) X.1 X.2.1 d_M_turn_17 (by decide) (fun z => absurd z (by decide)) (fun _ => ?_)
      obtain ⟨i, hi⟩ : ∃ i, i = x.toInt.toNat - 1 := ⟨_, rfl⟩
      have hi0 : i < q 0 := by omega
      have hx9 : x = nI (i + 1) := zn_of (by omega)
      have hro := hok.2.1 i hi0
      obtain ⟨r0, r1, r2, r3, r4, r5, r7, r8, r6⟩ := hro.1
      obtain ⟨v0, v5, v3⟩ := hv.1 i hi0
      rw [hx9] at hl
      have hM := hM.rg (zr_id rg i)
      refine lv_aload_n X.1 X.2.1 d_M_turn_20 rfl (lv_at hl 0 rfl) ?_
      refine zx_get (v := .int (nI (q 3))) X hH fg_M_74 (by omega) hM.1 rfl d_M_turn_21 ?_
      refine lv_sipush (v := nI 600) X.1 X.2.1 d_M_turn_24 (by decide) ?_
      refine lv_icmp_ne (tgt := 31) X.1 X.2.1 d_M_turn_27 (by decide) (fun c3 => ?_) (fun c3 => ?_)
      · have c3 := mt (zn_eq (nI_toInt (by omega)) (nI_toInt (by omega))).mpr c3
        refine lv_aload_n X.1 X.2.1 d_M_turn_31 rfl (lv_at hl 0 rfl) ?_
        refine zx_get (v := .ref (ad (22))) X hH fg_M_50 (by omega) hM.1 rfl d_M_turn_32 ?_
        refine lv_aload_n X.1 X.2.1 d_M_turn_35 rfl (lv_at hl 0 rfl) ?_
        refine zx_get (v := .int (nI (q 3))) X hH fg_M_74 (by omega) hM.1 rfl d_M_turn_36 ?_
        refine lv_iload_n X.1 X.2.1 d_M_turn_39 rfl (lv_at hl 1 rfl) ?_
        refine zx_iast (j := q 3) (x := nI (i + 1)) X hH (by omega) (show E 22 = zr_ia g 600 fs from hM.2.2.2.2.2.2.2.2.2.2.2.2.2.2.1) rfl (by omega) (by decide) d_M_turn_40 (fun H locs hH => ?_)
        rw [zr_upd] at hH
        have hH : zw_H g A s.heap s N ad (va_up E 22 (zr_ia g 600 (va_up fs (q 3) (i + 1)))) H locs := hH
        have hM := hM.fs (va_up fs (q 3) (i + 1))
        have hF := hF.up (k := 22) (x := (zr_ia g 600 (va_up fs (q 3) (i + 1)))) (by decide) (by decide)
        generalize va_up E 22 (zr_ia g 600 (va_up fs (q 3) (i + 1))) = E4 at hH hM hF
        refine lv_aload_n X.1 X.2.1 d_M_turn_41 rfl (lv_at hl 0 rfl) ?_
        refine lv_dup X.1 X.2.1 d_M_turn_42 rfl ?_
        refine zx_get (v := .int (nI (q 3))) X hH fg_M_74 (by omega) hM.1 rfl d_M_turn_43 ?_
        refine lv_iconst (v := nI 1) X.1 X.2.1 d_M_turn_46 (by decide) ?_
        refine lv_iadd X.1 X.2.1 d_M_turn_47 ?_
        refine zx_top (nI_add _ _) ?_
        refine zx_put X hH fp_M_74 (by omega) hM.1 (Nat.le_of_ble_eq_true rfl) rfl rfl d_M_turn_48 (fun H locs hH => ?_)
        have hH : zw_H g A s.heap s N ad (va_up E4 8 (zm_o ad (va_up q 3 (q 3 + 1)))) H locs := hH
        have hM := hM.o (va_up q 3 (q 3 + 1))
        have hF := hF.up (k := 8) (x := (zm_o ad (va_up q 3 (q 3 + 1)))) (by decide) (by decide)
        generalize va_up E4 8 (zm_o ad (va_up q 3 (q 3 + 1))) = E5 at hH hM hF
        have hz9 := zs_turn_yes (q := q) (sf := sf) (x := x) ⟨by omega, by omega, by omega⟩
        rw [show x.toInt.toNat = i + 1 by omega] at hz9
        have hM := zm_turn (by omega) k3a hfs (hM.rg (zr_id rg i).symm)
        exact zx_vret X hr hlk hH (Nat.le_of_ble_eq_true rfl) (Nat.le_of_ble_eq_true rfl) d_M_turn_51 ⟨rfl, rfl, by rw [hz9]; exact hM, hF⟩
      · have c3 := (zn_eq (nI_toInt (by omega)) (nI_toInt (by omega))).mp c3
        have hz9 : zs_turn q sf x = (q, sf) := by rw [zs_turn_yes ⟨by omega, by omega, by omega⟩, zp_sch_full (by omega)]
        exact zx_vret X hr hlk hH (Nat.le_of_ble_eq_true rfl) (Nat.le_of_ble_eq_true rfl) d_M_turn_30 ⟨rfl, rfl, by rw [hz9]; exact ⟨fs, hM.rg (zr_id rg i).symm, hfs⟩, hF⟩
    · refine zx_top (b := nI 0) (by rw [if_neg d1]) ?_
      refine lv_if_eq (tgt := 30) X.1 X.2.1 d_M_turn_17 (by decide) (fun _ => ?_) (fun z => absurd rfl z)
      have hz9 := zs_turn_no (q := q) (sf := sf) (x := x) (by omega)
      exact zx_vret X hr hlk hH (Nat.le_of_ble_eq_true rfl) (Nat.le_of_ble_eq_true rfl) d_M_turn_30 ⟨rfl, rfl, by rw [hz9]; exact ⟨fs, hM, hfs⟩, hF⟩

set_option maxHeartbeats 4000000 in
set_option maxRecDepth 100000 in
theorem c_M_count (g : zw_G) (l : Launch) (N : Nat) (ad : Nat → Nat) (E : Nat → va_E) (q : Nat → Nat) (rg : zt_R) (ev sf fs fl : Nat → Nat) (hN : 25 ≤ N) (hok : zt_ok q rg ev sf) (hv : zs_inv q rg) (hM : zm_at g ad E q rg ev fs fl) (x : Int32) : zc_i g l y_M_count b_M_count 4 (some .int) { frames := 0, cells := 0, slots := 0, locals := 0 } [.ref (ad (8)), .int (x)] N ad E (fun v N1 ad1 E1 => N = N1 ∧ ad = ad1 ∧ E = E1 ∧ v = zs_cnt q rg ev x) := by
  refine zc_i.of (by decide) (Nat.le_of_ble_eq_true rfl) ?_
  intro p e s m below meth c ls A X hr hlk hl hH
  have hl : lv_has ls 4 [(0, .ref (ad (8))), (1, .int (x))] := hl
  obtain ⟨k0, k2, k3, k3a, k4, k4a, k5, k5a, k6, k6a⟩ := hok.1
  have hF : zm_fr E E := zm_fr.rf
  refine lv_aload_n X.1 X.2.1 d_M_count_0 rfl (lv_at hl 0 rfl) ?_
  refine lv_iconst (v := nI 0) X.1 X.2.1 d_M_count_1 (by decide) ?_
  refine zx_put X hH fp_M_59 (by omega) hM.1 (Nat.le_of_ble_eq_true rfl) rfl rfl d_M_count_2 (fun H locs hH => ?_)
  have hH : zw_H g A s.heap s N ad (va_up E 8 (zm_o ad q)) H locs := hH
  rw [← hM.1, ← zr_id] at hH
  refine lv_iconst (v := nI 0) X.1 X.2.1 d_M_count_5 (by decide) ?_
  refine lv_istore_n (lv' := [(2, .int (nI (0))), (0, .ref (ad (8))), (1, .int (x))]) X.1 X.2.1 d_M_count_6 rfl hl (by decide) rfl (fun ls hl => ?_)
  refine lv_iconst (v := nI 1) X.1 X.2.1 d_M_count_7 (by decide) ?_
  refine lv_istore_n (lv' := [(3, .int (nI (1))), (2, .int (nI (0))), (0, .ref (ad (8))), (1, .int (x))]) X.1 X.2.1 d_M_count_8 rfl hl (by decide) rfl (fun ls hl => ?_)
  refine zx_loop (σ := Nat) (fun i H locs ls => i ≤ q 0 ∧ zw_H g A s.heap s N ad E H locs ∧ lv_has ls 4 [(3, .int (nI (i + 1))), (2, .int (nI (zp_cnt (fun i => decide ((rg i).1 2 = 0)) i))), (0, .ref (ad 8)), (1, .int x)]) (fun i => q 0 - i) (fun _ => 0) (fun _ => 0) ?_ 0 _ _ _ ⟨Nat.zero_le _, hH, hl⟩
  intro i H locs ls ⟨hi, hH, hl⟩ ih
  have hle := zp_cnt_le (fun i => decide ((rg i).1 2 = 0)) i
  have hrs : i < q 0 → (rg i).1 2 ≤ 4 := fun h => (hok.2.1 i h).1.2.2.1
  refine lv_iload_n X.1 X.2.1 d_M_count_9 rfl (lv_at hl 0 rfl) ?_
  refine lv_aload_n X.1 X.2.1 d_M_count_10 rfl (lv_at hl 2 rfl) ?_
  refine zx_get (v := .int (nI (q 0))) X hH fg_M_63 (by omega) hM.1 rfl d_M_count_11 ?_
  refine lv_icmp_gt (tgt := 40) X.1 X.2.1 d_M_count_14 (by decide) (fun c2 => ?_) (fun c2 => ?_)
  · have c2 := (zn_lt (nI_toInt (by omega)) (nI_toInt (by omega))).mp c2
    refine lv_iload_n X.1 X.2.1 d_M_count_40 rfl (lv_at hl 3 rfl) ?_
    have hiq : i = q 0 := by omega
    rw [hiq] at hl
    by_cases t0 : x.toInt = 0
    · refine lv_tableIn (off := 39) (tgt := 80) X.1 X.2.1 d_M_count_41 (by omega) (by omega) (by rw [t0]; rfl) (by decide) ?_
      refine lv_aload_n X.1 X.2.1 d_M_count_80 rfl (lv_at hl 2 rfl) ?_
      refine zx_get (v := .int (nI (q 0))) X hH fg_M_63 (by omega) hM.1 rfl d_M_count_81 ?_
      exact zx_iret X hr hlk hH (Nat.le_of_ble_eq_true rfl) (Nat.le_of_ble_eq_true rfl) d_M_count_84 ⟨rfl, rfl, rfl, by unfold zs_cnt; rw [if_pos t0]⟩
    · skip
      by_cases t1 : x.toInt = 1
      · refine lv_tableIn (off := 44) (tgt := 85) X.1 X.2.1 d_M_count_41 (by omega) (by omega) (by rw [t1]; rfl) (by decide) ?_
        refine lv_aload_n X.1 X.2.1 d_M_count_85 rfl (lv_at hl 2 rfl) ?_
        refine zx_get (v := .int (nI (q 3))) X hH fg_M_74 (by omega) hM.1 rfl d_M_count_86 ?_
        exact zx_iret X hr hlk hH (Nat.le_of_ble_eq_true rfl) (Nat.le_of_ble_eq_true rfl) d_M_count_89 ⟨rfl, rfl, rfl, by unfold zs_cnt; rw [if_neg t0, if_pos t1]⟩
      · skip
        by_cases t2 : x.toInt = 2
        · refine lv_tableIn (off := 49) (tgt := 90) X.1 X.2.1 d_M_count_41 (by omega) (by omega) (by rw [t2]; rfl) (by decide) ?_
          refine lv_aload_n X.1 X.2.1 d_M_count_90 rfl (lv_at hl 2 rfl) ?_
          refine zx_get (v := .int (nI (q 5))) X hH fg_M_91 (by omega) hM.1 rfl d_M_count_91 ?_
          exact zx_iret X hr hlk hH (Nat.le_of_ble_eq_true rfl) (Nat.le_of_ble_eq_true rfl) d_M_count_94 ⟨rfl, rfl, rfl, by unfold zs_cnt; rw [if_neg t0, if_neg t1, if_pos t2]⟩
        · skip
          by_cases t3 : x.toInt = 3
          · refine lv_tableIn (off := 54) (tgt := 95) X.1 X.2.1 d_M_count_41 (by omega) (by omega) (by rw [t3]; rfl) (by decide) ?_
            refine lv_iload_n X.1 X.2.1 d_M_count_95 rfl (lv_at hl 1 rfl) ?_
            exact zx_iret X hr hlk hH (Nat.le_of_ble_eq_true rfl) (Nat.le_of_ble_eq_true rfl) d_M_count_96 ⟨rfl, rfl, rfl, by unfold zs_cnt; rw [if_neg t0, if_neg t1, if_neg t2, if_pos t3]⟩
          · skip
            by_cases t4 : x.toInt = 4
            · refine lv_tableIn (off := 56) (tgt := 97) X.1 X.2.1 d_M_count_41 (by omega) (by omega) (by rw [t4]; rfl) (by decide) ?_
              refine lv_aload_n X.1 X.2.1 d_M_count_97 rfl (lv_at hl 2 rfl) ?_
              refine zx_get (v := .int (nI (q 1))) X hH fg_M_98 (by omega) hM.1 rfl d_M_count_98 ?_
              exact zx_iret X hr hlk hH (Nat.le_of_ble_eq_true rfl) (Nat.le_of_ble_eq_true rfl) d_M_count_101 ⟨rfl, rfl, rfl, by unfold zs_cnt; rw [if_neg t0, if_neg t1, if_neg t2, if_neg t3, if_pos t4]⟩
            · skip
              by_cases t5 : x.toInt = 5
              · refine lv_tableIn (off := 61) (tgt := 102) X.1 X.2.1 d_M_count_41 (by omega) (by omega) (by rw [t5]; rfl) (by decide) ?_
                refine lv_aload_n X.1 X.2.1 d_M_count_102 rfl (lv_at hl 2 rfl) ?_
                refine zx_get (v := .int (nI (q 2))) X hH fg_M_66 (by omega) hM.1 rfl d_M_count_103 ?_
                refine lv_if_eq (tgt := 113) X.1 X.2.1 d_M_count_106 (by decide) (fun c3 => ?_) (fun c3 => ?_)
                · have c3 := (zn_eq (nI_toInt (by omega)) zn_0).mp c3
                  refine lv_iconst (v := nI 0) X.1 X.2.1 d_M_count_113 (by decide) ?_
                  exact zx_iret X hr hlk hH (Nat.le_of_ble_eq_true rfl) (Nat.le_of_ble_eq_true rfl) d_M_count_114 ⟨rfl, rfl, rfl, by unfold zs_cnt; rw [if_neg t0, if_neg t1, if_neg t2, if_neg t3, if_neg t4, if_pos t5, show q 2 = 0 by omega]⟩
                · have c3 := mt (zn_eq (nI_toInt (by omega)) zn_0).mpr c3
                  refine lv_iconst (v := nI 1) X.1 X.2.1 d_M_count_109 (by decide) ?_
                  refine lv_goto (tgt := 114) X.1 X.2.1 d_M_count_110 (by decide) ?_
                  exact zx_iret X hr hlk hH (Nat.le_of_ble_eq_true rfl) (Nat.le_of_ble_eq_true rfl) d_M_count_114 ⟨rfl, rfl, rfl, by unfold zs_cnt; rw [if_neg t0, if_neg t1, if_neg t2, if_neg t3, if_neg t4, if_pos t5, show q 2 = 1 by omega]⟩
              · skip
                refine lv_tableOut (tgt := 115) X.1 X.2.1 d_M_count_41 (by omega) (by decide) ?_
                refine lv_iload_n X.1 X.2.1 d_M_count_115 rfl (lv_at hl 3 rfl) ?_
                refine lv_bipush (v := nI 9) X.1 X.2.1 d_M_count_116 (by decide) ?_
                refine lv_icmp_le (tgt := 139) X.1 X.2.1 d_M_count_118 (by decide) (fun c4 => ?_) (fun c4 => ?_)
                · have c4 := (zn_le rfl (nI_toInt (by omega))).mp c4
                  refine lv_iconst (v := (-1)) X.1 X.2.1 d_M_count_139 (by decide) ?_
                  exact zx_iret X hr hlk hH (Nat.le_of_ble_eq_true rfl) (Nat.le_of_ble_eq_true rfl) d_M_count_140 ⟨rfl, rfl, rfl, by unfold zs_cnt; rw [if_neg t0, if_neg t1, if_neg t2, if_neg t3, if_neg t4, if_neg t5, if_neg (by omega)]⟩
                · have c4 := mt (zn_le rfl (nI_toInt (by omega))).mpr c4
                  refine lv_iload_n X.1 X.2.1 d_M_count_121 rfl (lv_at hl 3 rfl) ?_
                  refine lv_bipush (v := nI 26) X.1 X.2.1 d_M_count_122 (by decide) ?_
                  refine lv_icmp_ge (tgt := 139) X.1 X.2.1 d_M_count_124 (by decide) (fun c5 => ?_) (fun c5 => ?_)
                  · have c5 := (zn_le (nI_toInt (by omega)) rfl).mp c5
                    refine lv_iconst (v := (-1)) X.1 X.2.1 d_M_count_139 (by decide) ?_
                    exact zx_iret X hr hlk hH (Nat.le_of_ble_eq_true rfl) (Nat.le_of_ble_eq_true rfl) d_M_count_140 ⟨rfl, rfl, rfl, by unfold zs_cnt; rw [if_neg t0, if_neg t1, if_neg t2, if_neg t3, if_neg t4, if_neg t5, if_neg (by omega)]⟩
                  · have c5 := mt (zn_le (nI_toInt (by omega)) rfl).mpr c5
                    refine lv_aload_n X.1 X.2.1 d_M_count_127 rfl (lv_at hl 2 rfl) ?_
                    refine zx_get (v := .ref (ad (23))) X hH fg_M_53 (by omega) hM.1 rfl d_M_count_128 ?_
                    refine lv_iload_n X.1 X.2.1 d_M_count_131 rfl (lv_at hl 3 rfl) ?_
                    refine lv_bipush (v := nI 10) X.1 X.2.1 d_M_count_132 (by decide) ?_
                    refine lv_isub X.1 X.2.1 d_M_count_134 ?_
                    refine zx_top (zn_sub10e (by omega)) ?_
                    refine zx_iald (j := x.toInt.toNat - 10) X hH (by omega) (show E 23 = zr_ia g 16 ev from hM.2.2.2.2.2.2.2.2.2.2.2.2.2.2.2.1) rfl (by omega) (by decide) d_M_count_135 ?_
                    refine lv_goto (tgt := 140) X.1 X.2.1 d_M_count_136 (by decide) ?_
                    exact zx_iret X hr hlk hH (Nat.le_of_ble_eq_true rfl) (Nat.le_of_ble_eq_true rfl) d_M_count_140 ⟨rfl, rfl, rfl, by unfold zs_cnt; rw [if_neg t0, if_neg t1, if_neg t2, if_neg t3, if_neg t4, if_neg t5, if_pos ⟨by omega, by omega⟩]⟩
  · have c2 := mt (zn_lt (nI_toInt (by omega)) (nI_toInt (by omega))).mpr c2
    refine lv_iload_n X.1 X.2.1 d_M_count_17 rfl (lv_at hl 1 rfl) ?_
    refine lv_aload_n X.1 X.2.1 d_M_count_18 rfl (lv_at hl 2 rfl) ?_
    refine zx_get (v := .ref (ad (11))) X hH fg_M_16 (by omega) hM.1 rfl d_M_count_19 ?_
    refine lv_iload_n X.1 X.2.1 d_M_count_22 rfl (lv_at hl 0 rfl) ?_
    refine zx_iald (j := i + 1) X hH (by omega) (show E 11 = zr_ia g 31 (zm_c rg 2) from hM.2.2.2.1) rfl (by omega) (by decide) d_M_count_23 ?_
    refine zx_top (b := nI ((rg i).1 2)) (congrArg nI (zm_c_a _ _ _)) ?_
    refine lv_if_ne (tgt := 31) X.1 X.2.1 d_M_count_24 (by decide) (fun c6 => ?_) (fun c6 => ?_)
    · have c6 := mt (zn_eq (nI_toInt (by omega)) zn_0).mpr c6
      refine lv_iconst (v := nI 0) X.1 X.2.1 d_M_count_31 (by decide) ?_
      refine lv_iadd X.1 X.2.1 d_M_count_32 ?_
      refine zx_top (nI_add _ _) ?_
      refine lv_istore_n (lv' := [(2, .int (nI ((zp_cnt (fun i => decide ((rg i).1 2 = 0)) i) + (0)))), (3, .int (nI (i + 1))), (0, .ref (ad (8))), (1, .int (x))]) X.1 X.2.1 d_M_count_33 rfl hl (by decide) rfl (fun ls hl => ?_)
      refine lv_iinc (v := nI (i + 1 + 1)) (lv' := [(3, .int (nI (i + 1 + 1))), (2, .int (nI ((zp_cnt (fun i => decide ((rg i).1 2 = 0)) i) + (0)))), (0, .ref (ad (8))), (1, .int (x))]) X.1 X.2.1 d_M_count_34 hl (k := 1) rfl (nI_add _ _) (by decide) rfl (fun ls hl => ?_)
      refine lv_goto (tgt := 9) X.1 X.2.1 d_M_count_37 (by decide) ?_
      have hz : zp_cnt (fun i => decide ((rg i).1 2 = 0)) (i + 1) = zp_cnt (fun i => decide ((rg i).1 2 = 0)) i := zp_cnt_n (fun h => by have h2 := of_decide_eq_true h; omega)
      exact ih (i + 1) _ _ _ ⟨by omega, hH, by rw [hz]; exact lv_sub hl [0, 1, 2, 3] rfl⟩ (by omega)
    · have c6 := (zn_eq (nI_toInt (by omega)) zn_0).mp c6
      refine lv_iconst (v := nI 1) X.1 X.2.1 d_M_count_27 (by decide) ?_
      refine lv_goto (tgt := 32) X.1 X.2.1 d_M_count_28 (by decide) ?_
      refine lv_iadd X.1 X.2.1 d_M_count_32 ?_
      refine zx_top (nI_add _ _) ?_
      refine lv_istore_n (lv' := [(2, .int (nI ((zp_cnt (fun i => decide ((rg i).1 2 = 0)) i) + (1)))), (3, .int (nI (i + 1))), (0, .ref (ad (8))), (1, .int (x))]) X.1 X.2.1 d_M_count_33 rfl hl (by decide) rfl (fun ls hl => ?_)
      refine lv_iinc (v := nI (i + 1 + 1)) (lv' := [(3, .int (nI (i + 1 + 1))), (2, .int (nI ((zp_cnt (fun i => decide ((rg i).1 2 = 0)) i) + (1)))), (0, .ref (ad (8))), (1, .int (x))]) X.1 X.2.1 d_M_count_34 hl (k := 1) rfl (nI_add _ _) (by decide) rfl (fun ls hl => ?_)
      refine lv_goto (tgt := 9) X.1 X.2.1 d_M_count_37 (by decide) ?_
      have hz : zp_cnt (fun i => decide ((rg i).1 2 = 0)) (i + 1) = zp_cnt (fun i => decide ((rg i).1 2 = 0)) i + 1 := zp_cnt_y (decide_eq_true (by omega))
      exact ih (i + 1) _ _ _ ⟨by omega, hH, by rw [hz]; exact lv_sub hl [0, 1, 2, 3] rfl⟩ (by omega)

set_option maxHeartbeats 4000000 in
set_option maxRecDepth 100000 in
theorem c_M_run_off (g : zw_G) (l : Launch) (N : Nat) (ad : Nat → Nat) (E : Nat → va_E) (q : Nat → Nat) (rg : zt_R) (ev sf fs fl : Nat → Nat) (hN : 25 ≤ N) (hok : zt_ok q rg ev sf) (hv : zs_inv q rg) (hM : zm_at g ad E q rg ev fs fl) (hcl : ¬ q 2 = 0) : zc_i g l y_M_run b_M_run 4 (some .int) { frames := 0, cells := 0, slots := 0, locals := 0 } [.ref (ad (8))] N ad E (fun v N1 ad1 E1 => N = N1 ∧ ad = ad1 ∧ E = E1 ∧ v = -5) := by
  refine zc_i.of (by decide) (Nat.le_of_ble_eq_true rfl) ?_
  intro p e s m below meth c ls A X hr hlk hl hH
  have hl : lv_has ls 4 [(0, .ref (ad (8)))] := hl
  obtain ⟨k0, k2, k3, k3a, k4, k4a, k5, k5a, k6, k6a⟩ := hok.1
  have hF : zm_fr E E := zm_fr.rf
  refine lv_aload_n X.1 X.2.1 d_M_run_0 rfl (lv_at hl 0 rfl) ?_
  refine lv_iconst (v := nI 0) X.1 X.2.1 d_M_run_1 (by decide) ?_
  refine zx_put X hH fp_M_59 (by omega) hM.1 (Nat.le_of_ble_eq_true rfl) rfl rfl d_M_run_2 (fun H locs hH => ?_)
  have hH : zw_H g A s.heap s N ad (va_up E 8 (zm_o ad q)) H locs := hH
  rw [← hM.1, ← zr_id] at hH
  refine lv_aload_n X.1 X.2.1 d_M_run_5 rfl (lv_at hl 0 rfl) ?_
  refine zx_get (v := .int (nI (q 2))) X hH fg_M_66 (by omega) hM.1 rfl d_M_run_6 ?_
  refine lv_if_eq (tgt := 15) X.1 X.2.1 d_M_run_9 (by decide) (fun c2 => ?_) (fun c2 => ?_)
  · have c2 := (zn_eq (nI_toInt (by omega)) zn_0).mp c2
    exfalso; omega
  · have c2 := mt (zn_eq (nI_toInt (by omega)) zn_0).mpr c2
    refine lv_bipush (v := (-5)) X.1 X.2.1 d_M_run_12 (by decide) ?_
    exact zx_iret X hr hlk hH (Nat.le_of_ble_eq_true rfl) (Nat.le_of_ble_eq_true rfl) d_M_run_14 ⟨rfl, rfl, rfl, rfl⟩

set_option maxHeartbeats 4000000 in
set_option maxRecDepth 100000 in
theorem c_M_close_off (g : zw_G) (l : Launch) (N : Nat) (ad : Nat → Nat) (E : Nat → va_E) (q : Nat → Nat) (rg : zt_R) (ev sf fs fl : Nat → Nat) (hN : 25 ≤ N) (hok : zt_ok q rg ev sf) (hv : zs_inv q rg) (hM : zm_at g ad E q rg ev fs fl) (hcl : ¬ q 2 = 0) : zc_i g l y_M_close b_M_close 3 (some .int) { frames := 0, cells := 0, slots := 0, locals := 0 } [.ref (ad (8))] N ad E (fun v N1 ad1 E1 => N = N1 ∧ ad = ad1 ∧ E = E1 ∧ v = -5) := by
  refine zc_i.of (by decide) (Nat.le_of_ble_eq_true rfl) ?_
  intro p e s m below meth c ls A X hr hlk hl hH
  have hl : lv_has ls 3 [(0, .ref (ad (8)))] := hl
  obtain ⟨k0, k2, k3, k3a, k4, k4a, k5, k5a, k6, k6a⟩ := hok.1
  have hF : zm_fr E E := zm_fr.rf
  refine lv_aload_n X.1 X.2.1 d_M_close_0 rfl (lv_at hl 0 rfl) ?_
  refine lv_iconst (v := nI 0) X.1 X.2.1 d_M_close_1 (by decide) ?_
  refine zx_put X hH fp_M_59 (by omega) hM.1 (Nat.le_of_ble_eq_true rfl) rfl rfl d_M_close_2 (fun H locs hH => ?_)
  have hH : zw_H g A s.heap s N ad (va_up E 8 (zm_o ad q)) H locs := hH
  rw [← hM.1, ← zr_id] at hH
  refine lv_aload_n X.1 X.2.1 d_M_close_5 rfl (lv_at hl 0 rfl) ?_
  refine zx_get (v := .int (nI (q 2))) X hH fg_M_66 (by omega) hM.1 rfl d_M_close_6 ?_
  refine lv_if_eq (tgt := 15) X.1 X.2.1 d_M_close_9 (by decide) (fun c2 => ?_) (fun c2 => ?_)
  · have c2 := (zn_eq (nI_toInt (by omega)) zn_0).mp c2
    exfalso; omega
  · have c2 := mt (zn_eq (nI_toInt (by omega)) zn_0).mpr c2
    refine lv_bipush (v := (-5)) X.1 X.2.1 d_M_close_12 (by decide) ?_
    exact zx_iret X hr hlk hH (Nat.le_of_ble_eq_true rfl) (Nat.le_of_ble_eq_true rfl) d_M_close_14 ⟨rfl, rfl, rfl, rfl⟩

set_option maxHeartbeats 4000000 in
set_option maxRecDepth 100000 in
theorem c_M_shutdown_off (g : zw_G) (l : Launch) (N : Nat) (ad : Nat → Nat) (E : Nat → va_E) (q : Nat → Nat) (rg : zt_R) (ev sf fs fl : Nat → Nat) (hN : 25 ≤ N) (hok : zt_ok q rg ev sf) (hv : zs_inv q rg) (hM : zm_at g ad E q rg ev fs fl) (hcl : ¬ q 2 = 0) (bq : Nat) : zc_i g l y_M_shutdown b_M_shutdown 5 (some .int) { frames := 0, cells := 0, slots := 0, locals := 0 } [.ref (ad (8)), .int (nI (bq))] N ad E (fun v N1 ad1 E1 => N = N1 ∧ ad = ad1 ∧ E = E1 ∧ v = -5) := by
  refine zc_i.of (by decide) (Nat.le_of_ble_eq_true rfl) ?_
  intro p e s m below meth c ls A X hr hlk hl hH
  have hl : lv_has ls 5 [(0, .ref (ad (8))), (1, .int (nI (bq)))] := hl
  obtain ⟨k0, k2, k3, k3a, k4, k4a, k5, k5a, k6, k6a⟩ := hok.1
  have hF : zm_fr E E := zm_fr.rf
  refine lv_aload_n X.1 X.2.1 d_M_shutdown_0 rfl (lv_at hl 0 rfl) ?_
  refine lv_iconst (v := nI 0) X.1 X.2.1 d_M_shutdown_1 (by decide) ?_
  refine zx_put X hH fp_M_59 (by omega) hM.1 (Nat.le_of_ble_eq_true rfl) rfl rfl d_M_shutdown_2 (fun H locs hH => ?_)
  have hH : zw_H g A s.heap s N ad (va_up E 8 (zm_o ad q)) H locs := hH
  rw [← hM.1, ← zr_id] at hH
  refine lv_aload_n X.1 X.2.1 d_M_shutdown_5 rfl (lv_at hl 0 rfl) ?_
  refine zx_get (v := .int (nI (q 2))) X hH fg_M_66 (by omega) hM.1 rfl d_M_shutdown_6 ?_
  refine lv_if_eq (tgt := 15) X.1 X.2.1 d_M_shutdown_9 (by decide) (fun c2 => ?_) (fun c2 => ?_)
  · have c2 := (zn_eq (nI_toInt (by omega)) zn_0).mp c2
    exfalso; omega
  · have c2 := mt (zn_eq (nI_toInt (by omega)) zn_0).mpr c2
    refine lv_bipush (v := (-5)) X.1 X.2.1 d_M_shutdown_12 (by decide) ?_
    exact zx_iret X hr hlk hH (Nat.le_of_ble_eq_true rfl) (Nat.le_of_ble_eq_true rfl) d_M_shutdown_14 ⟨rfl, rfl, rfl, rfl⟩

set_option maxHeartbeats 4000000 in
set_option maxRecDepth 100000 in
theorem c_M_close (g : zw_G) (l : Launch) (N : Nat) (ad : Nat → Nat) (E : Nat → va_E) (q : Nat → Nat) (rg : zt_R) (ev sf fs fl : Nat → Nat) (hN : 25 ≤ N) (hok : zt_ok q rg ev sf) (hv : zs_inv q rg) (hM : zm_at g ad E q rg ev fs fl) (hop : q 2 = 0) : zc_i g l y_M_close b_M_close 3 (some .int) { frames := 0, cells := 0, slots := 0, locals := 0 } [.ref (ad (8))] N ad E (fun v N1 ad1 E1 => N = N1 ∧ ad = ad1 ∧ v = nI (zp_cnt (fun i => decide ((rg i).1 2 = 0)) (q 0)) ∧ zm_at g ad E1 (va_up (va_up q 2 1) 3 0) (zp_map zp_left rg (q 0)) ev fs fl ∧ zm_fr E E1) := by
  refine zc_i.of (by decide) (Nat.le_of_ble_eq_true rfl) ?_
  intro p e s m below meth c ls A X hr hlk hl hH
  have hl : lv_has ls 3 [(0, .ref (ad (8)))] := hl
  obtain ⟨k0, k2, k3, k3a, k4, k4a, k5, k5a, k6, k6a⟩ := hok.1
  have hF : zm_fr E E := zm_fr.rf
  refine lv_aload_n X.1 X.2.1 d_M_close_0 rfl (lv_at hl 0 rfl) ?_
  refine lv_iconst (v := nI 0) X.1 X.2.1 d_M_close_1 (by decide) ?_
  refine zx_put X hH fp_M_59 (by omega) hM.1 (Nat.le_of_ble_eq_true rfl) rfl rfl d_M_close_2 (fun H locs hH => ?_)
  have hH : zw_H g A s.heap s N ad (va_up E 8 (zm_o ad q)) H locs := hH
  rw [← hM.1, ← zr_id] at hH
  refine lv_aload_n X.1 X.2.1 d_M_close_5 rfl (lv_at hl 0 rfl) ?_
  refine zx_get (v := .int (nI (q 2))) X hH fg_M_66 (by omega) hM.1 rfl d_M_close_6 ?_
  refine lv_if_eq (tgt := 15) X.1 X.2.1 d_M_close_9 (by decide) (fun c2 => ?_) (fun c2 => ?_)
  · have c2 := (zn_eq (nI_toInt (by omega)) zn_0).mp c2
    refine lv_aload_n X.1 X.2.1 d_M_close_15 rfl (lv_at hl 0 rfl) ?_
    refine lv_iconst (v := nI 1) X.1 X.2.1 d_M_close_16 (by decide) ?_
    refine zx_put X hH fp_M_66 (by omega) hM.1 (Nat.le_of_ble_eq_true rfl) rfl rfl d_M_close_17 (fun H locs hH => ?_)
    have hH : zw_H g A s.heap s N ad (va_up E 8 (zm_o ad (va_up q 2 (1)))) H locs := hH
    have hM := hM.o (va_up q 2 (1))
    have hF := hF.up (k := 8) (x := (zm_o ad (va_up q 2 (1)))) (by decide) (by decide)
    generalize va_up E 8 (zm_o ad (va_up q 2 (1))) = E3 at hH hM hF
    refine lv_aload_n X.1 X.2.1 d_M_close_20 rfl (lv_at hl 0 rfl) ?_
    refine lv_iconst (v := nI 0) X.1 X.2.1 d_M_close_21 (by decide) ?_
    refine zx_put X hH fp_M_74 (by omega) hM.1 (Nat.le_of_ble_eq_true rfl) rfl rfl d_M_close_22 (fun H locs hH => ?_)
    have hH : zw_H g A s.heap s N ad (va_up E3 8 (zm_o ad (va_up (va_up q 2 (1)) 3 (0)))) H locs := hH
    have hM := hM.o (va_up (va_up q 2 (1)) 3 (0))
    have hF := hF.up (k := 8) (x := (zm_o ad (va_up (va_up q 2 (1)) 3 (0)))) (by decide) (by decide)
    generalize va_up E3 8 (zm_o ad (va_up (va_up q 2 (1)) 3 (0))) = E4 at hH hM hF
    refine lv_iconst (v := nI 0) X.1 X.2.1 d_M_close_25 (by decide) ?_
    refine lv_istore_n (lv' := [(1, .int (nI (0))), (0, .ref (ad (8)))]) X.1 X.2.1 d_M_close_26 rfl hl (by decide) rfl (fun ls hl => ?_)
    refine lv_iconst (v := nI 1) X.1 X.2.1 d_M_close_27 (by decide) ?_
    refine lv_istore_n (lv' := [(2, .int (nI (1))), (1, .int (nI (0))), (0, .ref (ad (8)))]) X.1 X.2.1 d_M_close_28 rfl hl (by decide) rfl (fun ls hl => ?_)
    refine zx_loop (σ := Nat × (Nat → va_E)) (fun x H locs ls => x.1 ≤ q 0 ∧ zm_at g ad x.2 (va_up (va_up q 2 1) 3 0) (zp_map zp_left rg x.1) ev fs fl ∧ zm_fr E x.2 ∧ zw_H g A s.heap s N ad x.2 H locs ∧ lv_has ls 3 [(2, .int (nI (x.1 + 1))), (1, .int (nI (zp_cnt (fun i => decide ((rg i).1 2 = 0)) x.1))), (0, .ref (ad 8))]) (fun x => q 0 - x.1) (fun _ => 0) (fun _ => 0) ?_ (0, E4) _ _ _ ⟨Nat.zero_le _, by rw [zp_map_0]; exact hM, hF, hH, hl⟩
    rintro ⟨i, E9⟩ H locs ls ⟨hi, hM, hF, hH, hl⟩ ih
    dsimp only at hi hM hF hH hl ih
    have hle := zp_cnt_le (fun i => decide ((rg i).1 2 = 0)) i
    have hrs : i < q 0 → (rg i).1 2 ≤ 4 := fun h => (hok.2.1 i h).1.2.2.1
    have hM := hM.rg (zr_id (zp_map zp_left rg i) i)
    rw [zp_map_at] at hM
    refine lv_iload_n X.1 X.2.1 d_M_close_29 rfl (lv_at hl 0 rfl) ?_
    refine lv_aload_n X.1 X.2.1 d_M_close_30 rfl (lv_at hl 2 rfl) ?_
    refine zx_get (v := .int (nI (q 0))) X hH fg_M_63 (by omega) hM.1 rfl d_M_close_31 ?_
    refine lv_icmp_gt (tgt := 85) X.1 X.2.1 d_M_close_34 (by decide) (fun c21 => ?_) (fun c21 => ?_)
    · have c21 := (zn_lt (nI_toInt (by omega)) (nI_toInt (by omega))).mp c21
      refine lv_iload_n X.1 X.2.1 d_M_close_85 rfl (lv_at hl 1 rfl) ?_
      have hM := hM.rg (show va_up (zp_map zp_left rg i) i (rg i) = zp_map zp_left rg i by rw [← zp_map_at zp_left rg i]; exact (zr_id _ _).symm)
      exact zx_iret X hr hlk hH (Nat.le_of_ble_eq_true rfl) (Nat.le_of_ble_eq_true rfl) d_M_close_86 ⟨rfl, rfl, by rw [show i = q 0 by omega], by rw [show q 0 = i by omega]; exact hM, hF⟩
    · have c21 := mt (zn_lt (nI_toInt (by omega)) (nI_toInt (by omega))).mpr c21
      refine lv_iload_n X.1 X.2.1 d_M_close_37 rfl (lv_at hl 1 rfl) ?_
      refine lv_aload_n X.1 X.2.1 d_M_close_38 rfl (lv_at hl 2 rfl) ?_
      refine zx_get (v := .ref (ad (11))) X hH fg_M_16 (by omega) hM.1 rfl d_M_close_39 ?_
      refine lv_iload_n X.1 X.2.1 d_M_close_42 rfl (lv_at hl 0 rfl) ?_
      refine zx_iald (j := i + 1) X hH (by omega) (show E9 11 = zr_ia g 31 (zm_c (va_up (zp_map zp_left rg i) i (rg i)) 2) from hM.2.2.2.1) rfl (by omega) (by decide) d_M_close_43 ?_
      refine zx_top (b := nI ((rg i).1 2)) (congrArg nI (zm_c_at _ _ _ _)) ?_
      refine lv_if_ne (tgt := 51) X.1 X.2.1 d_M_close_44 (by decide) (fun c22 => ?_) (fun c22 => ?_)
      · have c22 := mt (zn_eq (nI_toInt (by omega)) zn_0).mpr c22
        refine lv_iconst (v := nI 0) X.1 X.2.1 d_M_close_51 (by decide) ?_
        refine lv_iadd X.1 X.2.1 d_M_close_52 ?_
        refine zx_top (nI_add _ _) ?_
        refine lv_istore_n (lv' := [(1, .int (nI ((zp_cnt (fun i => decide ((rg i).1 2 = 0)) i) + (0)))), (2, .int (nI (i + 1))), (0, .ref (ad (8)))]) X.1 X.2.1 d_M_close_53 rfl hl (by decide) rfl (fun ls hl => ?_)
        refine lv_aload_n X.1 X.2.1 d_M_close_54 rfl (lv_at hl 2 rfl) ?_
        refine zx_get (v := .ref (ad (11))) X hH fg_M_16 (by omega) hM.1 rfl d_M_close_55 ?_
        refine lv_iload_n X.1 X.2.1 d_M_close_58 rfl (lv_at hl 1 rfl) ?_
        refine lv_aload_n X.1 X.2.1 d_M_close_59 rfl (lv_at hl 2 rfl) ?_
        refine zx_get (v := .ref (ad (11))) X hH fg_M_16 (by omega) hM.1 rfl d_M_close_60 ?_
        refine lv_iload_n X.1 X.2.1 d_M_close_63 rfl (lv_at hl 1 rfl) ?_
        refine zx_iald (j := i + 1) X hH (by omega) (show E9 11 = zr_ia g 31 (zm_c (va_up (zp_map zp_left rg i) i (rg i)) 2) from hM.2.2.2.1) rfl (by omega) (by decide) d_M_close_64 ?_
        refine zx_top (b := nI ((rg i).1 2)) (congrArg nI (zm_c_at _ _ _ _)) ?_
        refine lv_if_ne (tgt := 72) X.1 X.2.1 d_M_close_65 (by decide) (fun c23 => ?_) (fun c23 => ?_)
        · have c23 := mt (zn_eq (nI_toInt (by omega)) zn_0).mpr c23
          refine lv_aload_n X.1 X.2.1 d_M_close_72 rfl (lv_at hl 2 rfl) ?_
          refine zx_get (v := .ref (ad (11))) X hH fg_M_16 (by omega) hM.1 rfl d_M_close_73 ?_
          refine lv_iload_n X.1 X.2.1 d_M_close_76 rfl (lv_at hl 1 rfl) ?_
          refine zx_iald (j := i + 1) X hH (by omega) (show E9 11 = zr_ia g 31 (zm_c (va_up (zp_map zp_left rg i) i (rg i)) 2) from hM.2.2.2.1) rfl (by omega) (by decide) d_M_close_77 ?_
          refine zx_top (b := nI ((rg i).1 2)) (congrArg nI (zm_c_at _ _ _ _)) ?_
          refine zx_iast (j := i + 1) (x := nI ((rg i).1 2)) X hH (by omega) (show E9 11 = zr_ia g 31 (zm_c (va_up (zp_map zp_left rg i) i (rg i)) 2) from hM.2.2.2.1) rfl (by omega) (by decide) d_M_close_78 (fun H locs hH => ?_)
          rw [zr_upd] at hH
          have hH : zw_H g A s.heap s N ad (va_up E9 11 (zr_ia g 31 (va_up (zm_c (va_up (zp_map zp_left rg i) i (rg i)) 2) (i + 1) ((rg i).1 2)))) H locs := hH
          have hM := hM.s2 ((rg i).1 2)
          have hF := hF.up (k := 11) (x := (zr_ia g 31 (va_up (zm_c (va_up (zp_map zp_left rg i) i (rg i)) 2) (i + 1) ((rg i).1 2)))) (by decide) (by decide)
          generalize va_up E9 11 (zr_ia g 31 (va_up (zm_c (va_up (zp_map zp_left rg i) i (rg i)) 2) (i + 1) ((rg i).1 2))) = E24 at hH hM hF
          have hM : zm_at g ad E24 (va_up (va_up q 2 1) 3 0) (va_up (zp_map zp_left rg i) i (va_up ((rg i).1) 2 ((rg i).1 2), (rg i).2)) ev fs fl := hM
          refine lv_iinc (v := nI (i + 1 + 1)) (lv' := [(2, .int (nI (i + 1 + 1))), (1, .int (nI ((zp_cnt (fun i => decide ((rg i).1 2 = 0)) i) + (0)))), (0, .ref (ad (8)))]) X.1 X.2.1 d_M_close_79 hl (k := 1) rfl (nI_add _ _) (by decide) rfl (fun ls hl => ?_)
          refine lv_goto (tgt := 29) X.1 X.2.1 d_M_close_82 (by decide) ?_
          have hz : zp_left (rg i) = rg i := if_neg (by omega)
          have hc : zp_cnt (fun i => decide ((rg i).1 2 = 0)) (i + 1) = zp_cnt (fun i => decide ((rg i).1 2 = 0)) i := zp_cnt_n (fun h => by have h2 := of_decide_eq_true h; omega)
          rw [zm_left_same, show va_up (zp_map zp_left rg i) i (rg i) = zp_map zp_left rg (i + 1) by rw [zp_map_s, hz]] at hM
          exact ih (i + 1, E24) _ _ _ ⟨by omega, hM, hF, hH, by rw [hc]; exact lv_sub hl [0, 1, 2] rfl⟩ (by show q 0 - (i + 1) < q 0 - i; omega)
        · have c23 := (zn_eq (nI_toInt (by omega)) zn_0).mp c23
          refine lv_iconst (v := nI 4) X.1 X.2.1 d_M_close_68 (by decide) ?_
          refine lv_goto (tgt := 78) X.1 X.2.1 d_M_close_69 (by decide) ?_
          refine zx_iast (j := i + 1) (x := nI (4)) X hH (by omega) (show E9 11 = zr_ia g 31 (zm_c (va_up (zp_map zp_left rg i) i (rg i)) 2) from hM.2.2.2.1) rfl (by omega) (by decide) d_M_close_78 (fun H locs hH => ?_)
          rw [zr_upd] at hH
          have hH : zw_H g A s.heap s N ad (va_up E9 11 (zr_ia g 31 (va_up (zm_c (va_up (zp_map zp_left rg i) i (rg i)) 2) (i + 1) (4)))) H locs := hH
          have hM := hM.s2 (4)
          have hF := hF.up (k := 11) (x := (zr_ia g 31 (va_up (zm_c (va_up (zp_map zp_left rg i) i (rg i)) 2) (i + 1) (4)))) (by decide) (by decide)
          generalize va_up E9 11 (zr_ia g 31 (va_up (zm_c (va_up (zp_map zp_left rg i) i (rg i)) 2) (i + 1) (4))) = E25 at hH hM hF
          have hM : zm_at g ad E25 (va_up (va_up q 2 1) 3 0) (va_up (zp_map zp_left rg i) i (va_up ((rg i).1) 2 (4), (rg i).2)) ev fs fl := hM
          refine lv_iinc (v := nI (i + 1 + 1)) (lv' := [(2, .int (nI (i + 1 + 1))), (1, .int (nI ((zp_cnt (fun i => decide ((rg i).1 2 = 0)) i) + (0)))), (0, .ref (ad (8)))]) X.1 X.2.1 d_M_close_79 hl (k := 1) rfl (nI_add _ _) (by decide) rfl (fun ls hl => ?_)
          refine lv_goto (tgt := 29) X.1 X.2.1 d_M_close_82 (by decide) ?_
          exfalso; omega
      · have c22 := (zn_eq (nI_toInt (by omega)) zn_0).mp c22
        refine lv_iconst (v := nI 1) X.1 X.2.1 d_M_close_47 (by decide) ?_
        refine lv_goto (tgt := 52) X.1 X.2.1 d_M_close_48 (by decide) ?_
        refine lv_iadd X.1 X.2.1 d_M_close_52 ?_
        refine zx_top (nI_add _ _) ?_
        refine lv_istore_n (lv' := [(1, .int (nI ((zp_cnt (fun i => decide ((rg i).1 2 = 0)) i) + (1)))), (2, .int (nI (i + 1))), (0, .ref (ad (8)))]) X.1 X.2.1 d_M_close_53 rfl hl (by decide) rfl (fun ls hl => ?_)
        refine lv_aload_n X.1 X.2.1 d_M_close_54 rfl (lv_at hl 2 rfl) ?_
        refine zx_get (v := .ref (ad (11))) X hH fg_M_16 (by omega) hM.1 rfl d_M_close_55 ?_
        refine lv_iload_n X.1 X.2.1 d_M_close_58 rfl (lv_at hl 1 rfl) ?_
        refine lv_aload_n X.1 X.2.1 d_M_close_59 rfl (lv_at hl 2 rfl) ?_
        refine zx_get (v := .ref (ad (11))) X hH fg_M_16 (by omega) hM.1 rfl d_M_close_60 ?_
        refine lv_iload_n X.1 X.2.1 d_M_close_63 rfl (lv_at hl 1 rfl) ?_
        refine zx_iald (j := i + 1) X hH (by omega) (show E9 11 = zr_ia g 31 (zm_c (va_up (zp_map zp_left rg i) i (rg i)) 2) from hM.2.2.2.1) rfl (by omega) (by decide) d_M_close_64 ?_
        refine zx_top (b := nI ((rg i).1 2)) (congrArg nI (zm_c_at _ _ _ _)) ?_
        refine lv_if_ne (tgt := 72) X.1 X.2.1 d_M_close_65 (by decide) (fun c26 => ?_) (fun c26 => ?_)
        · have c26 := mt (zn_eq (nI_toInt (by omega)) zn_0).mpr c26
          refine lv_aload_n X.1 X.2.1 d_M_close_72 rfl (lv_at hl 2 rfl) ?_
          refine zx_get (v := .ref (ad (11))) X hH fg_M_16 (by omega) hM.1 rfl d_M_close_73 ?_
          refine lv_iload_n X.1 X.2.1 d_M_close_76 rfl (lv_at hl 1 rfl) ?_
          refine zx_iald (j := i + 1) X hH (by omega) (show E9 11 = zr_ia g 31 (zm_c (va_up (zp_map zp_left rg i) i (rg i)) 2) from hM.2.2.2.1) rfl (by omega) (by decide) d_M_close_77 ?_
          refine zx_top (b := nI ((rg i).1 2)) (congrArg nI (zm_c_at _ _ _ _)) ?_
          refine zx_iast (j := i + 1) (x := nI ((rg i).1 2)) X hH (by omega) (show E9 11 = zr_ia g 31 (zm_c (va_up (zp_map zp_left rg i) i (rg i)) 2) from hM.2.2.2.1) rfl (by omega) (by decide) d_M_close_78 (fun H locs hH => ?_)
          rw [zr_upd] at hH
          have hH : zw_H g A s.heap s N ad (va_up E9 11 (zr_ia g 31 (va_up (zm_c (va_up (zp_map zp_left rg i) i (rg i)) 2) (i + 1) ((rg i).1 2)))) H locs := hH
          have hM := hM.s2 ((rg i).1 2)
          have hF := hF.up (k := 11) (x := (zr_ia g 31 (va_up (zm_c (va_up (zp_map zp_left rg i) i (rg i)) 2) (i + 1) ((rg i).1 2)))) (by decide) (by decide)
          generalize va_up E9 11 (zr_ia g 31 (va_up (zm_c (va_up (zp_map zp_left rg i) i (rg i)) 2) (i + 1) ((rg i).1 2))) = E27 at hH hM hF
          have hM : zm_at g ad E27 (va_up (va_up q 2 1) 3 0) (va_up (zp_map zp_left rg i) i (va_up ((rg i).1) 2 ((rg i).1 2), (rg i).2)) ev fs fl := hM
          refine lv_iinc (v := nI (i + 1 + 1)) (lv' := [(2, .int (nI (i + 1 + 1))), (1, .int (nI ((zp_cnt (fun i => decide ((rg i).1 2 = 0)) i) + (1)))), (0, .ref (ad (8)))]) X.1 X.2.1 d_M_close_79 hl (k := 1) rfl (nI_add _ _) (by decide) rfl (fun ls hl => ?_)
          refine lv_goto (tgt := 29) X.1 X.2.1 d_M_close_82 (by decide) ?_
          exfalso; omega
        · have c26 := (zn_eq (nI_toInt (by omega)) zn_0).mp c26
          refine lv_iconst (v := nI 4) X.1 X.2.1 d_M_close_68 (by decide) ?_
          refine lv_goto (tgt := 78) X.1 X.2.1 d_M_close_69 (by decide) ?_
          refine zx_iast (j := i + 1) (x := nI (4)) X hH (by omega) (show E9 11 = zr_ia g 31 (zm_c (va_up (zp_map zp_left rg i) i (rg i)) 2) from hM.2.2.2.1) rfl (by omega) (by decide) d_M_close_78 (fun H locs hH => ?_)
          rw [zr_upd] at hH
          have hH : zw_H g A s.heap s N ad (va_up E9 11 (zr_ia g 31 (va_up (zm_c (va_up (zp_map zp_left rg i) i (rg i)) 2) (i + 1) (4)))) H locs := hH
          have hM := hM.s2 (4)
          have hF := hF.up (k := 11) (x := (zr_ia g 31 (va_up (zm_c (va_up (zp_map zp_left rg i) i (rg i)) 2) (i + 1) (4)))) (by decide) (by decide)
          generalize va_up E9 11 (zr_ia g 31 (va_up (zm_c (va_up (zp_map zp_left rg i) i (rg i)) 2) (i + 1) (4))) = E28 at hH hM hF
          have hM : zm_at g ad E28 (va_up (va_up q 2 1) 3 0) (va_up (zp_map zp_left rg i) i (va_up ((rg i).1) 2 (4), (rg i).2)) ev fs fl := hM
          refine lv_iinc (v := nI (i + 1 + 1)) (lv' := [(2, .int (nI (i + 1 + 1))), (1, .int (nI ((zp_cnt (fun i => decide ((rg i).1 2 = 0)) i) + (1)))), (0, .ref (ad (8)))]) X.1 X.2.1 d_M_close_79 hl (k := 1) rfl (nI_add _ _) (by decide) rfl (fun ls hl => ?_)
          refine lv_goto (tgt := 29) X.1 X.2.1 d_M_close_82 (by decide) ?_
          have hz : zp_left (rg i) = (va_up (rg i).1 2 4, (rg i).2) := if_pos (by omega)
          have hc : zp_cnt (fun i => decide ((rg i).1 2 = 0)) (i + 1) = zp_cnt (fun i => decide ((rg i).1 2 = 0)) i + 1 := zp_cnt_y (decide_eq_true (by omega))
          rw [← hz, ← zp_map_s] at hM
          exact ih (i + 1, E28) _ _ _ ⟨by omega, hM, hF, hH, by rw [hc]; exact lv_sub hl [0, 1, 2] rfl⟩ (by show q 0 - (i + 1) < q 0 - i; omega)
  · have c2 := mt (zn_eq (nI_toInt (by omega)) zn_0).mpr c2
    refine lv_bipush (v := (-5)) X.1 X.2.1 d_M_close_12 (by decide) ?_
    exfalso; omega
