set_option maxHeartbeats 4000000 in
set_option maxRecDepth 100000 in
theorem c_M_run (g : zw_G) (l : Launch) (N : Nat) (ad : Nat → Nat) (E : Nat → va_E) (q : Nat → Nat) (rg : zt_R) (ev sf fs fl : Nat → Nat) (hN : 25 ≤ N) (hok : zt_ok q rg ev sf) (hv : zs_inv q rg) (hM : zm_at g ad E q rg ev fs fl) (lf : Nat → Nat) (hfs : ∀ j, j < q 3 → fs j = sf j) (hfl : ∀ j, j < q 5 → fl j = lf j) (hop : q 2 = 0) : zc_i g l y_M_run b_M_run 4 (some .int) { frames := 3, cells := 0, slots := 0, locals := 120 } [.ref (ad (8))] N ad E (fun v N1 ad1 E1 => N = N1 ∧ ad = ad1 ∧ v = nI (zp_runs sf (q 3) 0 (q, rg, ev, lf) 0).2 ∧ (∃ fl1, zm_at g ad E1 (va_up (zp_runs sf (q 3) 0 (q, rg, ev, lf) 0).1.1 3 0) (zp_runs sf (q 3) 0 (q, rg, ev, lf) 0).1.2.1 (zp_runs sf (q 3) 0 (q, rg, ev, lf) 0).1.2.2.1 fs fl1 ∧ ∀ j, j < (zp_runs sf (q 3) 0 (q, rg, ev, lf) 0).1.1 5 → fl1 j = (zp_runs sf (q 3) 0 (q, rg, ev, lf) 0).1.2.2.2 j) ∧ zm_fr E E1) := by
  refine zc_i.of (by decide) (Nat.le_of_ble_eq_true rfl) ?_
  intro p e s m below meth c ls A X hr hlk hl hH
  have hl : lv_has ls 4 [(0, .ref (ad (8)))] := hl
  obtain ⟨k0, k2, k3, k3a, k4, k4a, k5, k5a, k6, k6a⟩ := hok.1
  have hF : zm_fr E E := zm_fr.rf
  refine lv_aload_n X.1 X.2.1 d_M_run_0 rfl (lv_at hl 0 rfl) ?_
  refine lv_iconst (v := nI 0) X.1 X.2.1 d_M_run_1 (by decide) ?_
  refine zx_put X hH fp_M_59 (by omega) hM.1 (Nat.le_of_ble_eq_true rfl) rfl rfl d_M_run_2 (fun H locs hH => ?_)
  have hH : zw_H g A s.heap s N ad (va_up E 8 (zm_o ad q)) H locs := hH
  rw [← hM.1, ← zr_id] at hH
  refine lv_aload_n X.1 X.2.1 d_M_run_5 rfl (lv_at hl 0 rfl) ?_
  refine zx_get (v := .int (nI (q 2))) X hH fg_M_66 (by omega) hM.1 rfl d_M_run_6 ?_
  refine lv_if_eq (tgt := 15) X.1 X.2.1 d_M_run_9 (by decide) (fun c2 => ?_) (fun c2 => ?_)
  · have c2 := (zn_eq (nI_toInt (by omega)) zn_0).mp c2
    refine lv_iconst (v := nI 0) X.1 X.2.1 d_M_run_15 (by decide) ?_
    refine lv_istore_n (lv' := [(1, .int (nI (0))), (0, .ref (ad (8)))]) X.1 X.2.1 d_M_run_16 rfl hl (by decide) rfl (fun ls hl => ?_)
    refine lv_iconst (v := nI 0) X.1 X.2.1 d_M_run_17 (by decide) ?_
    refine lv_istore_n (lv' := [(2, .int (nI (0))), (1, .int (nI (0))), (0, .ref (ad (8)))]) X.1 X.2.1 d_M_run_18 rfl hl (by decide) rfl (fun ls hl => ?_)
    refine zx_loop (σ := Nat × zp_T × Nat × (Nat → va_E) × (Nat → Nat)) (fun x H locs ls => x.1 ≤ q 3 ∧ x.2.1.1 0 = q 0 ∧ x.2.1.1 3 = q 3 ∧ zm_at g ad x.2.2.2.1 x.2.1.1 x.2.1.2.1 x.2.1.2.2.1 fs x.2.2.2.2 ∧ zt_ok x.2.1.1 x.2.1.2.1 x.2.1.2.2.1 sf ∧ zs_inv x.2.1.1 x.2.1.2.1 ∧ (∀ j, j < x.2.1.1 5 → x.2.2.2.2 j = x.2.1.2.2.2 j) ∧ zm_fr E x.2.2.2.1 ∧ zp_runs sf (q 3) 0 (q, rg, ev, lf) 0 = zp_runs sf (q 3 - x.1) x.1 x.2.1 x.2.2.1 ∧ zw_H g A s.heap s N ad x.2.2.2.1 H locs ∧ lv_has ls 4 [(2, .int (nI x.1)), (1, .int (nI x.2.2.1)), (0, .ref (ad 8))]) (fun x => q 3 - x.1) (fun _ => 0) (fun _ => 0) ?_ (0, (q, rg, ev, lf), 0, E, fl) _ _ _ ⟨Nat.zero_le _, rfl, rfl, hM, hok, hv, hfl, hF, rfl, hH, hl⟩
    rintro ⟨k, ⟨q1, rg1, ev1, lf1⟩, cn, E1, fl1⟩ H locs ls ⟨hi, hq0, hq3, hM, hok1, hv1, hfl1, hF, hT9, hH, hl⟩ ih
    dsimp only at hi hq0 hq3 hM hok1 hv1 hfl1 hF hT9 hH hl ih ⊢
    obtain ⟨j0, j2, j3, j3a, j4, j4a, j5, j5a, j6, j6a⟩ := hok1.1
    refine lv_iload_n X.1 X.2.1 d_M_run_19 rfl (lv_at hl 0 rfl) ?_
    refine lv_aload_n X.1 X.2.1 d_M_run_20 rfl (lv_at hl 2 rfl) ?_
    refine zx_get (v := .int (nI (q1 3))) X hH fg_M_74 (by omega) hM.1 rfl d_M_run_21 ?_
    refine lv_icmp_ge (tgt := 75) X.1 X.2.1 d_M_run_24 (by decide) (fun c21 => ?_) (fun c21 => ?_)
    · have c21 := (zn_le (nI_toInt (by omega)) (nI_toInt (by omega))).mp c21
      refine lv_aload_n X.1 X.2.1 d_M_run_75 rfl (lv_at hl 2 rfl) ?_
      refine lv_iconst (v := nI 0) X.1 X.2.1 d_M_run_76 (by decide) ?_
      have hz : zp_runs sf (q 3) 0 (q, rg, ev, lf) 0 = ((q1, rg1, ev1, lf1), cn) := by rw [hT9, show q 3 - k = 0 by omega]; rfl
      refine zx_put X hH fp_M_74 (by omega) hM.1 (Nat.le_of_ble_eq_true rfl) rfl rfl d_M_run_77 (fun H locs hH => ?_)
      have hH : zw_H g A s.heap s N ad (va_up E1 8 (zm_o ad (va_up q1 3 (0)))) H locs := hH
      have hM := hM.o (va_up q1 3 (0))
      have hF := hF.up (k := 8) (x := (zm_o ad (va_up q1 3 (0)))) (by decide) (by decide)
      generalize va_up E1 8 (zm_o ad (va_up q1 3 (0))) = E22 at hH hM hF
      refine lv_iload_n X.1 X.2.1 d_M_run_80 rfl (lv_at hl 1 rfl) ?_
      exact zx_iret X hr hlk hH (Nat.le_of_ble_eq_true rfl) (Nat.le_of_ble_eq_true rfl) d_M_run_81 ⟨rfl, rfl, by rw [hz], by rw [hz]; exact ⟨fl1, hM, hfl1⟩, hF⟩
    · have c21 := mt (zn_le (nI_toInt (by omega)) (nI_toInt (by omega))).mpr c21
      refine lv_aload_n X.1 X.2.1 d_M_run_27 rfl (lv_at hl 2 rfl) ?_
      refine lv_aload_n X.1 X.2.1 d_M_run_28 rfl (lv_at hl 2 rfl) ?_
      refine zx_get (v := .ref (ad (22))) X hH fg_M_50 (by omega) hM.1 rfl d_M_run_29 ?_
      refine lv_iload_n X.1 X.2.1 d_M_run_32 rfl (lv_at hl 0 rfl) ?_
      have hsk := hok1.2.2.2 k (by omega)
      have hfk := hfs k (by omega)
      refine zx_iald (j := k) X hH (by omega) (show E1 22 = zr_ia g 600 fs from hM.2.2.2.2.2.2.2.2.2.2.2.2.2.2.1) rfl (by omega) (by decide) d_M_run_33 ?_
      refine zx_top (b := nI (sf k - 1 + 1)) (congrArg nI (by omega)) ?_
      obtain ⟨G, hG⟩ : ∃ G, zp_give (q1, rg1, ev1, lf1) (sf k - 1) = G := ⟨_, rfl⟩
      obtain ⟨g0, g1, g2, g3, g4, g6⟩ := zp_give_fix (q1, rg1, ev1, lf1) (sf k - 1)
      have gl := zp_give_le (q1, rg1, ev1, lf1) (sf k - 1)
      have gi : sf k - 1 < q1 0 := by omega
      have gok := zt_ok.give (lf := lf1) hok1 gi
      have gv := zs_inv.give (lf := lf1) hok1 hv1 gi
      rw [hG] at g0 g1 g2 g3 g4 g6 gl gok gv
      dsimp only at g0 g1 g2 g3 g4 g6
      have hro := hok1.2.1 (sf k - 1) gi
      obtain ⟨u0, u5, u3⟩ := hv1.1 (sf k - 1) gi
      have kq := hok1.1
      refine zx_calli (zx_runV (As := [.int (nI (sf k - 1 + 1))]) (rest := []) X hH mv_M_94 ((c_M_goes g l N ad E1 q1 rg1 ev1 fs fl1 (sf k - 1) (rg1 (sf k - 1)) hN (by omega) hro (hM.rg (zr_id rg1 (sf k - 1))) hok1.2.2.1 u3 u5 (by omega)) _) (by omega) hM.1 rfl ⟨Nat.le_of_ble_eq_true rfl, Nat.le_of_ble_eq_true rfl⟩ rfl hl rfl (Nat.le_of_ble_eq_true rfl) d_M_run_34 ⟨Nat.le_of_ble_eq_true rfl, Nat.le_of_ble_eq_true rfl⟩) hH (fun r N2 ad2 E9 H locs hq hH => ?_)
      obtain ⟨rfl, rfl, rfl, hM, hF2⟩ := hq
      obtain ⟨gt, fl2, hM, hfl2⟩ := zm_give (lf := lf1) hok1 hv1 gi hfl1 hM
      rw [hG] at gt hM hfl2
      refine zx_top (b := nI G.1) (by rw [gt]) ?_
      have hF := hF.tr hF2
      refine lv_istore_n (lv' := [(3, .int (nI (G.1))), (2, .int (nI (k))), (1, .int (nI (cn))), (0, .ref (ad (8)))]) X.1 X.2.1 d_M_run_37 rfl hl (by decide) rfl (fun ls hl => ?_)
      refine lv_iload_n X.1 X.2.1 d_M_run_38 rfl (lv_at hl 2 rfl) ?_
      refine lv_iload_n X.1 X.2.1 d_M_run_39 rfl (lv_at hl 0 rfl) ?_
      refine lv_iconst (v := nI 1) X.1 X.2.1 d_M_run_40 (by decide) ?_
      refine lv_icmp_ne (tgt := 48) X.1 X.2.1 d_M_run_41 (by decide) (fun c23 => ?_) (fun c23 => ?_)
      · have c23 := mt (zn_eq (nI_toInt (by omega)) (nI_toInt (by omega))).mpr c23
        refine lv_iconst (v := nI 0) X.1 X.2.1 d_M_run_48 (by decide) ?_
        refine lv_iadd X.1 X.2.1 d_M_run_49 ?_
        refine zx_top (nI_add _ _) ?_
        refine lv_istore_n (lv' := [(1, .int (nI ((cn) + (0)))), (3, .int (nI (G.1))), (2, .int (nI (k))), (0, .ref (ad (8)))]) X.1 X.2.1 d_M_run_50 rfl hl (by decide) rfl (fun ls hl => ?_)
        refine lv_aload_n X.1 X.2.1 d_M_run_51 rfl (lv_at hl 3 rfl) ?_
        refine lv_dup X.1 X.2.1 d_M_run_52 rfl ?_
        refine zx_get (v := .int (nI (G.2.1 1))) X hH fg_M_98 (by omega) hM.1 rfl d_M_run_53 ?_
        refine lv_iload_n X.1 X.2.1 d_M_run_56 rfl (lv_at hl 1 rfl) ?_
        refine lv_if_ne (tgt := 64) X.1 X.2.1 d_M_run_57 (by decide) (fun c24 => ?_) (fun c24 => ?_)
        · have c24 := mt (zn_eq (nI_toInt (by omega)) zn_0).mpr c24
          refine lv_iconst (v := nI 0) X.1 X.2.1 d_M_run_64 (by decide) ?_
          refine lv_iadd X.1 X.2.1 d_M_run_65 ?_
          refine zx_top (nI_add _ _) ?_
          refine zx_put X hH fp_M_98 (by omega) hM.1 (Nat.le_of_ble_eq_true rfl) rfl rfl d_M_run_66 (fun H locs hH => ?_)
          have hH : zw_H g A s.heap s N ad (va_up E9 8 (zm_o ad (va_up G.2.1 1 ((G.2.1 1) + (0))))) H locs := hH
          have hM := hM.o (va_up G.2.1 1 ((G.2.1 1) + (0)))
          have hF := hF.up (k := 8) (x := (zm_o ad (va_up G.2.1 1 ((G.2.1 1) + (0))))) (by decide) (by decide)
          generalize va_up E9 8 (zm_o ad (va_up G.2.1 1 ((G.2.1 1) + (0)))) = E25 at hH hM hF
          refine lv_iinc (v := nI (k + 1)) (lv' := [(2, .int (nI (k + 1))), (1, .int (nI ((cn) + (0)))), (3, .int (nI (G.1))), (0, .ref (ad (8)))]) X.1 X.2.1 d_M_run_69 hl (k := 2) rfl (nI_add _ _) (by decide) rfl (fun ls hl => ?_)
          refine lv_goto (tgt := 19) X.1 X.2.1 d_M_run_72 (by decide) ?_
          have hz : zp_runs sf (q 3) 0 (q, rg, ev, lf) 0 = zp_runs sf (q 3 - (k + 1)) (k + 1) G.2 (cn) := by rw [hT9, show q 3 - k = (q 3 - (k + 1)) + 1 by omega, zp_runs_2 (by rw [hG]; omega) (by rw [hG]; omega), hG]
          exact ih (k + 1, G.2, cn, E25, fl2) _ _ _ ⟨by omega, by show G.2.1 0 = q 0; omega, by show G.2.1 3 = q 3; omega, hM.q rfl rfl rfl rfl rfl, gok, gv, hfl2, hF, hz, hH, lv_sub hl [0, 1, 3] rfl⟩ (by show q 3 - (k + 1) < q 3 - k; omega)
        · have c24 := (zn_eq (nI_toInt (by omega)) zn_0).mp c24
          refine lv_iconst (v := nI 1) X.1 X.2.1 d_M_run_60 (by decide) ?_
          refine lv_goto (tgt := 65) X.1 X.2.1 d_M_run_61 (by decide) ?_
          refine lv_iadd X.1 X.2.1 d_M_run_65 ?_
          refine zx_top (nI_add _ _) ?_
          refine zx_put X hH fp_M_98 (by omega) hM.1 (Nat.le_of_ble_eq_true rfl) rfl rfl d_M_run_66 (fun H locs hH => ?_)
          have hH : zw_H g A s.heap s N ad (va_up E9 8 (zm_o ad (va_up G.2.1 1 ((G.2.1 1) + (1))))) H locs := hH
          have hM := hM.o (va_up G.2.1 1 ((G.2.1 1) + (1)))
          have hF := hF.up (k := 8) (x := (zm_o ad (va_up G.2.1 1 ((G.2.1 1) + (1))))) (by decide) (by decide)
          generalize va_up E9 8 (zm_o ad (va_up G.2.1 1 ((G.2.1 1) + (1)))) = E26 at hH hM hF
          refine lv_iinc (v := nI (k + 1)) (lv' := [(2, .int (nI (k + 1))), (1, .int (nI ((cn) + (0)))), (3, .int (nI (G.1))), (0, .ref (ad (8)))]) X.1 X.2.1 d_M_run_69 hl (k := 2) rfl (nI_add _ _) (by decide) rfl (fun ls hl => ?_)
          refine lv_goto (tgt := 19) X.1 X.2.1 d_M_run_72 (by decide) ?_
          have hz : zp_runs sf (q 3) 0 (q, rg, ev, lf) 0 = zp_runs sf (q 3 - (k + 1)) (k + 1) (va_up G.2.1 1 (G.2.1 1 + 1), G.2.2) (cn) := by rw [hT9, show q 3 - k = (q 3 - (k + 1)) + 1 by omega, zp_runs_0 (by rw [hG]; omega), hG]
          exact ih (k + 1, (va_up G.2.1 1 (G.2.1 1 + 1), G.2.2), cn, E26, fl2) _ _ _ ⟨by omega, by show G.2.1 0 = q 0; omega, by show G.2.1 3 = q 3; omega, hM, gok.num _, gv.q rfl rfl, hfl2, hF, hz, hH, lv_sub hl [0, 1, 3] rfl⟩ (by show q 3 - (k + 1) < q 3 - k; omega)
      · have c23 := (zn_eq (nI_toInt (by omega)) (nI_toInt (by omega))).mp c23
        refine lv_iconst (v := nI 1) X.1 X.2.1 d_M_run_44 (by decide) ?_
        refine lv_goto (tgt := 49) X.1 X.2.1 d_M_run_45 (by decide) ?_
        refine lv_iadd X.1 X.2.1 d_M_run_49 ?_
        refine zx_top (nI_add _ _) ?_
        refine lv_istore_n (lv' := [(1, .int (nI ((cn) + (1)))), (3, .int (nI (G.1))), (2, .int (nI (k))), (0, .ref (ad (8)))]) X.1 X.2.1 d_M_run_50 rfl hl (by decide) rfl (fun ls hl => ?_)
        refine lv_aload_n X.1 X.2.1 d_M_run_51 rfl (lv_at hl 3 rfl) ?_
        refine lv_dup X.1 X.2.1 d_M_run_52 rfl ?_
        refine zx_get (v := .int (nI (G.2.1 1))) X hH fg_M_98 (by omega) hM.1 rfl d_M_run_53 ?_
        refine lv_iload_n X.1 X.2.1 d_M_run_56 rfl (lv_at hl 1 rfl) ?_
        refine lv_if_ne (tgt := 64) X.1 X.2.1 d_M_run_57 (by decide) (fun c27 => ?_) (fun c27 => ?_)
        · have c27 := mt (zn_eq (nI_toInt (by omega)) zn_0).mpr c27
          refine lv_iconst (v := nI 0) X.1 X.2.1 d_M_run_64 (by decide) ?_
          refine lv_iadd X.1 X.2.1 d_M_run_65 ?_
          refine zx_top (nI_add _ _) ?_
          refine zx_put X hH fp_M_98 (by omega) hM.1 (Nat.le_of_ble_eq_true rfl) rfl rfl d_M_run_66 (fun H locs hH => ?_)
          have hH : zw_H g A s.heap s N ad (va_up E9 8 (zm_o ad (va_up G.2.1 1 ((G.2.1 1) + (0))))) H locs := hH
          have hM := hM.o (va_up G.2.1 1 ((G.2.1 1) + (0)))
          have hF := hF.up (k := 8) (x := (zm_o ad (va_up G.2.1 1 ((G.2.1 1) + (0))))) (by decide) (by decide)
          generalize va_up E9 8 (zm_o ad (va_up G.2.1 1 ((G.2.1 1) + (0)))) = E28 at hH hM hF
          refine lv_iinc (v := nI (k + 1)) (lv' := [(2, .int (nI (k + 1))), (1, .int (nI ((cn) + (1)))), (3, .int (nI (G.1))), (0, .ref (ad (8)))]) X.1 X.2.1 d_M_run_69 hl (k := 2) rfl (nI_add _ _) (by decide) rfl (fun ls hl => ?_)
          refine lv_goto (tgt := 19) X.1 X.2.1 d_M_run_72 (by decide) ?_
          have hz : zp_runs sf (q 3) 0 (q, rg, ev, lf) 0 = zp_runs sf (q 3 - (k + 1)) (k + 1) G.2 (cn + 1) := by rw [hT9, show q 3 - k = (q 3 - (k + 1)) + 1 by omega, zp_runs_1 (by rw [hG]; omega), hG]
          exact ih (k + 1, G.2, cn + 1, E28, fl2) _ _ _ ⟨by omega, by show G.2.1 0 = q 0; omega, by show G.2.1 3 = q 3; omega, hM.q rfl rfl rfl rfl rfl, gok, gv, hfl2, hF, hz, hH, lv_sub hl [0, 1, 3] rfl⟩ (by show q 3 - (k + 1) < q 3 - k; omega)
        · have c27 := (zn_eq (nI_toInt (by omega)) zn_0).mp c27
          refine lv_iconst (v := nI 1) X.1 X.2.1 d_M_run_60 (by decide) ?_
          refine lv_goto (tgt := 65) X.1 X.2.1 d_M_run_61 (by decide) ?_
          refine lv_iadd X.1 X.2.1 d_M_run_65 ?_
          refine zx_top (nI_add _ _) ?_
          refine zx_put X hH fp_M_98 (by omega) hM.1 (Nat.le_of_ble_eq_true rfl) rfl rfl d_M_run_66 (fun H locs hH => ?_)
          have hH : zw_H g A s.heap s N ad (va_up E9 8 (zm_o ad (va_up G.2.1 1 ((G.2.1 1) + (1))))) H locs := hH
          have hM := hM.o (va_up G.2.1 1 ((G.2.1 1) + (1)))
          have hF := hF.up (k := 8) (x := (zm_o ad (va_up G.2.1 1 ((G.2.1 1) + (1))))) (by decide) (by decide)
          generalize va_up E9 8 (zm_o ad (va_up G.2.1 1 ((G.2.1 1) + (1)))) = E29 at hH hM hF
          refine lv_iinc (v := nI (k + 1)) (lv' := [(2, .int (nI (k + 1))), (1, .int (nI ((cn) + (1)))), (3, .int (nI (G.1))), (0, .ref (ad (8)))]) X.1 X.2.1 d_M_run_69 hl (k := 2) rfl (nI_add _ _) (by decide) rfl (fun ls hl => ?_)
          refine lv_goto (tgt := 19) X.1 X.2.1 d_M_run_72 (by decide) ?_
          exfalso; omega
  · have c2 := mt (zn_eq (nI_toInt (by omega)) zn_0).mpr c2
    refine lv_bipush (v := (-5)) X.1 X.2.1 d_M_run_12 (by decide) ?_
    exfalso; omega
