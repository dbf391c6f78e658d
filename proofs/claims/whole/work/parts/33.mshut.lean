set_option maxHeartbeats 4000000 in
set_option maxRecDepth 100000 in
theorem c_M_quick (g : zw_G) (l : Launch) (N : Nat) (ad : Nat → Nat) (E : Nat → va_E) (q : Nat → Nat) (rg : zt_R) (ev sf fs fl : Nat → Nat) (hN : 25 ≤ N) (hok : zt_ok q rg ev sf) (hv : zs_inv q rg) (hM : zm_at g ad E q rg ev fs fl) (hop : q 2 = 0) : zc_i g l y_M_shutdown b_M_shutdown 5 (some .int) { frames := 2, cells := 0, slots := 0, locals := 80 } [.ref (ad (8)), .int (nI (1))] N ad E (fun v N1 ad1 E1 => N = N1 ∧ ad = ad1 ∧ v = nI (zp_cnt (fun i => decide ((rg i).1 2 = 0 ∧ 0 < (rg i).1 3 - (rg i).1 4)) (q 0)) ∧ zm_at g ad E1 (va_up q 3 0) (zp_map zp_left rg (q 0)) ev fs fl ∧ zm_fr E E1) := by
  refine zc_i.of (by decide) (Nat.le_of_ble_eq_true rfl) ?_
  intro p e s m below meth c ls A X hr hlk hl hH
  have hl : lv_has ls 5 [(0, .ref (ad (8))), (1, .int (nI (1)))] := hl
  obtain ⟨k0, k2, k3, k3a, k4, k4a, k5, k5a, k6, k6a⟩ := hok.1
  have hF : zm_fr E E := zm_fr.rf
  refine lv_aload_n X.1 X.2.1 d_M_shutdown_0 rfl (lv_at hl 0 rfl) ?_
  refine lv_iconst (v := nI 0) X.1 X.2.1 d_M_shutdown_1 (by decide) ?_
  refine zx_put X hH fp_M_59 (by omega) hM.1 (Nat.le_of_ble_eq_true rfl) rfl rfl d_M_shutdown_2 (fun H locs hH => ?_)
  have hH : zw_H g A s.heap s N ad (va_up E 8 (zm_o ad q)) H locs := hH
  rw [← hM.1, ← zr_id] at hH
  refine lv_aload_n X.1 X.2.1 d_M_shutdown_5 rfl (lv_at hl 0 rfl) ?_
  refine zx_get (v := .int (nI (q 2))) X hH fg_M_66 (by omega) hM.1 rfl d_M_shutdown_6 ?_
  refine lv_if_eq (tgt := 15) X.1 X.2.1 d_M_shutdown_9 (by decide) (fun c2 => ?_) (fun c2 => ?_)
  · have c2 := (zn_eq (nI_toInt (by omega)) zn_0).mp c2
    refine lv_aload_n X.1 X.2.1 d_M_shutdown_15 rfl (lv_at hl 0 rfl) ?_
    refine lv_iconst (v := nI 0) X.1 X.2.1 d_M_shutdown_16 (by decide) ?_
    refine zx_put X hH fp_M_74 (by omega) hM.1 (Nat.le_of_ble_eq_true rfl) rfl rfl d_M_shutdown_17 (fun H locs hH => ?_)
    have hH : zw_H g A s.heap s N ad (va_up E 8 (zm_o ad (va_up q 3 (0)))) H locs := hH
    have hM := hM.o (va_up q 3 (0))
    have hF := hF.up (k := 8) (x := (zm_o ad (va_up q 3 (0)))) (by decide) (by decide)
    generalize va_up E 8 (zm_o ad (va_up q 3 (0))) = E3 at hH hM hF
    refine lv_iload_n X.1 X.2.1 d_M_shutdown_20 rfl (lv_at hl 1 rfl) ?_
    refine lv_if_ne (tgt := 28) X.1 X.2.1 d_M_shutdown_21 (by decide) (fun c4 => ?_) (fun c4 => ?_)
    · have c4 := mt (zn_eq (nI_toInt (by omega)) zn_0).mpr c4
      refine lv_iconst (v := nI 0) X.1 X.2.1 d_M_shutdown_28 (by decide) ?_
      refine lv_istore_n (lv' := [(2, .int (nI (0))), (0, .ref (ad (8))), (1, .int (nI (1)))]) X.1 X.2.1 d_M_shutdown_29 rfl hl (by decide) rfl (fun ls hl => ?_)
      have hl : lv_has ls 5 [(2, .int (nI 0)), (0, .ref (ad 8)), (1, .int (nI 1))] := hl
      obtain ⟨mv, hmv⟩ : ∃ x, x = 0 := ⟨0, rfl⟩
      have hl : lv_has ls 5 [(2, .int (nI mv)), (0, .ref (ad 8)), (1, .int (nI 1))] := by rw [hmv]; exact hl
      refine lv_iload_n X.1 X.2.1 d_M_shutdown_30 rfl (lv_at hl 0 rfl) ?_
      refine lv_if_eq (tgt := 85) X.1 X.2.1 d_M_shutdown_31 (by decide) (fun _ => ?_) (fun z => absurd (by rw [hmv]; rfl) z)
      have hok9 := hok
      have hv9 := hv
      refine lv_iconst (v := nI 0) X.1 X.2.1 d_M_shutdown_85 (by decide) ?_
      refine lv_istore_n (lv' := [(3, .int (nI 0)), (2, .int (nI mv)), (0, .ref (ad 8)), (1, .int (nI 1))]) X.1 X.2.1 d_M_shutdown_86 rfl hl (by decide) rfl (fun ls hl => ?_)
      refine lv_iconst (v := nI 1) X.1 X.2.1 d_M_shutdown_87 (by decide) ?_
      refine lv_istore (lv' := [(4, .int (nI 1)), (3, .int (nI 0)), (2, .int (nI mv)), (0, .ref (ad 8)), (1, .int (nI 1))]) X.1 X.2.1 d_M_shutdown_88 hl (by decide) rfl (fun ls hl => ?_)
      refine zx_loop (σ := Nat × (Nat → va_E)) (fun x H locs ls => x.1 ≤ q 0 ∧ zm_at g ad x.2 (va_up q 3 0) (zp_map zp_left rg x.1) ev fs fl ∧ zm_fr E x.2 ∧ zw_H g A s.heap s N ad x.2 H locs ∧ lv_has ls 5 [(4, .int (nI (x.1 + 1))), (3, .int (nI (zp_cnt (fun i => decide ((rg i).1 2 = 0 ∧ 0 < (rg i).1 3 - (rg i).1 4)) x.1))), (0, .ref (ad 8)), (1, .int (nI 1))]) (fun x => q 0 - x.1) (fun _ => 0) (fun _ => 0) ?_ (0, E3) _ _ _ ⟨Nat.zero_le _, by rw [zp_map_0]; exact hM, hF, hH, lv_sub hl [0, 1, 3, 4] rfl⟩
      rintro ⟨i, E7⟩ H locs ls ⟨hi, hM, hF, hH, hl⟩ ihC
      dsimp only at hi hM hF hH hl ihC
      have hle := zp_cnt_le (fun i => decide ((rg i).1 2 = 0 ∧ 0 < (rg i).1 3 - (rg i).1 4)) i
      have hM := hM.rg (zr_id (zp_map zp_left rg i) i)
      rw [zp_map_at] at hM
      refine lv_iload X.1 X.2.1 d_M_shutdown_90 (lv_at hl 0 rfl) ?_
      refine lv_aload_n X.1 X.2.1 d_M_shutdown_92 rfl (lv_at hl 2 rfl) ?_
      refine zx_get (v := .int (nI (q 0))) X hH fg_M_63 (by omega) hM.1 rfl d_M_shutdown_93 ?_
      refine lv_icmp_gt (tgt := 150) X.1 X.2.1 d_M_shutdown_96 (by decide) (fun c21 => ?_) (fun c21 => ?_)
      · have c21 := (zn_lt (nI_toInt (by omega)) (nI_toInt (by omega))).mp c21
        refine lv_iload_n X.1 X.2.1 d_M_shutdown_150 rfl (lv_at hl 1 rfl) ?_
        have hM := hM.rg (show va_up (zp_map zp_left rg i) i (rg i) = zp_map zp_left rg i by rw [← zp_map_at zp_left rg i]; exact (zr_id _ _).symm)
        have hiq : i = q 0 := by omega
        rw [hiq] at hM
        refine zx_top (b := nI (zp_cnt (fun i => decide ((rg i).1 2 = 0 ∧ 0 < (rg i).1 3 - (rg i).1 4)) (q 0))) (by rw [hiq]) ?_
        exact zx_iret X hr hlk hH (Nat.le_of_ble_eq_true rfl) (Nat.le_of_ble_eq_true rfl) d_M_shutdown_151 ⟨rfl, rfl, rfl, hM, hF⟩
      · have c21 := mt (zn_lt (nI_toInt (by omega)) (nI_toInt (by omega))).mpr c21
        have hi0 : i < q 0 := by omega
        have hro := hok9.2.1 i (by omega)
        obtain ⟨r0, r1, r2, r3, r4, r5, r7, r8, r6⟩ := hro.1
        obtain ⟨u0, u5, u3⟩ := hv9.1 i (by omega)
        refine lv_aload_n X.1 X.2.1 d_M_shutdown_99 rfl (lv_at hl 2 rfl) ?_
        refine zx_get (v := .ref (ad (11))) X hH fg_M_16 (by omega) hM.1 rfl d_M_shutdown_100 ?_
        refine lv_iload X.1 X.2.1 d_M_shutdown_103 (lv_at hl 0 rfl) ?_
        refine zx_iald (j := i + 1) X hH (by omega) (show E7 11 = zr_ia g 31 (zm_c (va_up (zp_map zp_left rg i) i (rg i)) 2) from hM.2.2.2.1) rfl (by omega) (by decide) d_M_shutdown_105 ?_
        refine zx_top (b := nI ((rg i).1 2)) (congrArg nI (zm_c_at _ _ _ _)) ?_
        refine lv_if_eq (tgt := 112) X.1 X.2.1 d_M_shutdown_106 (by decide) (fun c22 => ?_) (fun c22 => ?_)
        · have c22 := (zn_eq (nI_toInt (by omega)) zn_0).mp c22
          refine lv_iload_n X.1 X.2.1 d_M_shutdown_112 rfl (lv_at hl 3 rfl) ?_
          refine lv_if_ne (tgt := 125) X.1 X.2.1 d_M_shutdown_113 (by decide) (fun c23 => ?_) (fun c23 => ?_)
          · have c23 := mt (zn_eq (nI_toInt (by omega)) zn_0).mpr c23
            refine lv_iload_n X.1 X.2.1 d_M_shutdown_125 rfl (lv_at hl 1 rfl) ?_
            refine lv_aload_n X.1 X.2.1 d_M_shutdown_126 rfl (lv_at hl 2 rfl) ?_
            refine lv_iload X.1 X.2.1 d_M_shutdown_127 (lv_at hl 0 rfl) ?_
            refine zx_calli (zx_runV (As := [.int (nI (i + 1))]) (rest := [.int (nI (zp_cnt (fun i => decide ((rg i).1 2 = 0 ∧ 0 < (rg i).1 3 - (rg i).1 4)) i))]) X hH mv_M_101 ((c_M_leave g l N ad E7 (va_up q 3 0) (zp_map zp_left rg i) ev fs fl i (rg i) hN (by omega) hro hM) _) (by omega) hM.1 rfl ⟨Nat.le_of_ble_eq_true rfl, Nat.le_of_ble_eq_true rfl⟩ rfl hl rfl (Nat.le_of_ble_eq_true rfl) d_M_shutdown_129 ⟨Nat.le_of_ble_eq_true rfl, Nat.le_of_ble_eq_true rfl⟩) hH (fun r N1 ad1 E6 H locs hq hH => ?_)
            obtain ⟨rfl, rfl, rfl, hM, hF1⟩ := hq
            have hF := hF.tr hF1
            by_cases dl : 0 < (rg i).1 3 - (rg i).1 4
            · refine zx_top (b := nI 1) (by rw [if_pos dl]) ?_
              refine lv_iadd X.1 X.2.1 d_M_shutdown_132 ?_
              refine zx_top (nI_add _ _) ?_
              refine lv_istore_n (lv' := [(3, .int (nI ((zp_cnt (fun i => decide ((rg i).1 2 = 0 ∧ 0 < (rg i).1 3 - (rg i).1 4)) i) + (1)))), (4, .int (nI (i + 1))), (0, .ref (ad (8))), (1, .int (nI (1)))]) X.1 X.2.1 d_M_shutdown_133 rfl hl (by decide) rfl (fun ls hl => ?_)
              refine lv_goto (tgt := 144) X.1 X.2.1 d_M_shutdown_134 (by decide) ?_
              refine lv_iinc (v := nI (i + 1 + 1)) (lv' := [(4, .int (nI (i + 1 + 1))), (3, .int (nI ((zp_cnt (fun i => decide ((rg i).1 2 = 0 ∧ 0 < (rg i).1 3 - (rg i).1 4)) i) + (1)))), (0, .ref (ad (8))), (1, .int (nI (1)))]) X.1 X.2.1 d_M_shutdown_144 hl (k := 1) rfl (nI_add _ _) (by decide) rfl (fun ls hl => ?_)
              refine lv_goto (tgt := 90) X.1 X.2.1 d_M_shutdown_147 (by decide) ?_
              have hz : zp_left (rg i) = (va_up (rg i).1 2 4, (rg i).2) := if_pos (by omega)
              rw [← hz, ← zp_map_s] at hM
              have hc : zp_cnt (fun i => decide ((rg i).1 2 = 0 ∧ 0 < (rg i).1 3 - (rg i).1 4)) (i + 1) = zp_cnt (fun i => decide ((rg i).1 2 = 0 ∧ 0 < (rg i).1 3 - (rg i).1 4)) i + 1 := zp_cnt_y (decide_eq_true (by omega))
              exact ihC (i + 1, E6) _ _ _ ⟨by omega, hM, hF, hH, by rw [hc]; exact lv_sub hl [0, 1, 2, 3] rfl⟩ (by show q 0 - (i + 1) < q 0 - i; omega)
            · refine zx_top (b := nI 0) (by rw [if_neg dl]) ?_
              refine lv_iadd X.1 X.2.1 d_M_shutdown_132 ?_
              refine zx_top (nI_add _ _) ?_
              refine lv_istore_n (lv' := [(3, .int (nI ((zp_cnt (fun i => decide ((rg i).1 2 = 0 ∧ 0 < (rg i).1 3 - (rg i).1 4)) i) + (0)))), (4, .int (nI (i + 1))), (0, .ref (ad (8))), (1, .int (nI (1)))]) X.1 X.2.1 d_M_shutdown_133 rfl hl (by decide) rfl (fun ls hl => ?_)
              refine lv_goto (tgt := 144) X.1 X.2.1 d_M_shutdown_134 (by decide) ?_
              refine lv_iinc (v := nI (i + 1 + 1)) (lv' := [(4, .int (nI (i + 1 + 1))), (3, .int (nI ((zp_cnt (fun i => decide ((rg i).1 2 = 0 ∧ 0 < (rg i).1 3 - (rg i).1 4)) i) + (0)))), (0, .ref (ad (8))), (1, .int (nI (1)))]) X.1 X.2.1 d_M_shutdown_144 hl (k := 1) rfl (nI_add _ _) (by decide) rfl (fun ls hl => ?_)
              refine lv_goto (tgt := 90) X.1 X.2.1 d_M_shutdown_147 (by decide) ?_
              have hz : zp_left (rg i) = (va_up (rg i).1 2 4, (rg i).2) := if_pos (by omega)
              rw [← hz, ← zp_map_s] at hM
              have hc : zp_cnt (fun i => decide ((rg i).1 2 = 0 ∧ 0 < (rg i).1 3 - (rg i).1 4)) (i + 1) = zp_cnt (fun i => decide ((rg i).1 2 = 0 ∧ 0 < (rg i).1 3 - (rg i).1 4)) i := zp_cnt_n (fun h => by have h2 := of_decide_eq_true h; omega)
              exact ihC (i + 1, E6) _ _ _ ⟨by omega, hM, hF, hH, by rw [hc]; exact lv_sub hl [0, 1, 2, 3] rfl⟩ (by show q 0 - (i + 1) < q 0 - i; omega)
          · have c23 := (zn_eq (nI_toInt (by omega)) zn_0).mp c23
            exfalso; omega
        · have c22 := mt (zn_eq (nI_toInt (by omega)) zn_0).mpr c22
          refine lv_goto (tgt := 144) X.1 X.2.1 d_M_shutdown_109 (by decide) ?_
          refine lv_iinc (v := nI (i + 1 + 1)) (lv' := [(4, .int (nI (i + 1 + 1))), (3, .int (nI (zp_cnt (fun i => decide ((rg i).1 2 = 0 ∧ 0 < (rg i).1 3 - (rg i).1 4)) i))), (0, .ref (ad (8))), (1, .int (nI (1)))]) X.1 X.2.1 d_M_shutdown_144 hl (k := 0) rfl (nI_add _ _) (by decide) rfl (fun ls hl => ?_)
          refine lv_goto (tgt := 90) X.1 X.2.1 d_M_shutdown_147 (by decide) ?_
          have hz : zp_left (rg i) = (rg i) := if_neg (by omega)
          rw [show va_up (zp_map zp_left rg i) i (rg i) = zp_map zp_left rg (i + 1) by rw [zp_map_s, hz]] at hM
          have hc : zp_cnt (fun i => decide ((rg i).1 2 = 0 ∧ 0 < (rg i).1 3 - (rg i).1 4)) (i + 1) = zp_cnt (fun i => decide ((rg i).1 2 = 0 ∧ 0 < (rg i).1 3 - (rg i).1 4)) i := zp_cnt_n (fun h => by have h2 := of_decide_eq_true h; omega)
          exact ihC (i + 1, E7) _ _ _ ⟨by omega, hM, hF, hH, by rw [hc]; exact lv_sub hl [0, 1, 2, 3] rfl⟩ (by show q 0 - (i + 1) < q 0 - i; omega)
    · have c4 := (zn_eq (nI_toInt (by omega)) zn_0).mp c4
      exfalso; omega
  · have c2 := mt (zn_eq (nI_toInt (by omega)) zn_0).mpr c2
    refine lv_bipush (v := (-5)) X.1 X.2.1 d_M_shutdown_12 (by decide) ?_
    exfalso; omega

set_option maxHeartbeats 4000000 in
set_option maxRecDepth 100000 in
theorem c_M_slow (g : zw_G) (l : Launch) (N : Nat) (ad : Nat → Nat) (E : Nat → va_E) (q : Nat → Nat) (rg : zt_R) (ev sf fs fl : Nat → Nat) (hN : 25 ≤ N) (hok : zt_ok q rg ev sf) (hv : zs_inv q rg) (hM : zm_at g ad E q rg ev fs fl) (lf : Nat → Nat) (hfs : ∀ j, j < q 3 → fs j = sf j) (hfl : ∀ j, j < q 5 → fl j = lf j) (hop : q 2 = 0) : zc_i g l y_M_shutdown b_M_shutdown 5 (some .int) { frames := 3, cells := 0, slots := 0, locals := 120 } [.ref (ad (8)), .int (nI (0))] N ad E (fun v N1 ad1 E1 => N = N1 ∧ ad = ad1 ∧ v = nI (zp_cnt (fun i => decide (((zp_map zp_canc (zp_rnds (q 0) 3031 ((va_up q 3 0), rg, ev, lf)).2.1 (q 0)) i).1 2 = 0 ∧ 0 < ((zp_map zp_canc (zp_rnds (q 0) 3031 ((va_up q 3 0), rg, ev, lf)).2.1 (q 0)) i).1 3 - ((zp_map zp_canc (zp_rnds (q 0) 3031 ((va_up q 3 0), rg, ev, lf)).2.1 (q 0)) i).1 4)) (q 0)) ∧ (∃ fl1, zm_at g ad E1 (zp_rnds (q 0) 3031 ((va_up q 3 0), rg, ev, lf)).1 (zp_map zp_left (zp_map zp_canc (zp_rnds (q 0) 3031 ((va_up q 3 0), rg, ev, lf)).2.1 (q 0)) (q 0)) (zp_rnds (q 0) 3031 ((va_up q 3 0), rg, ev, lf)).2.2.1 fs fl1 ∧ ∀ j, j < (zp_rnds (q 0) 3031 ((va_up q 3 0), rg, ev, lf)).1 5 → fl1 j = (zp_rnds (q 0) 3031 ((va_up q 3 0), rg, ev, lf)).2.2.2 j) ∧ zm_fr E E1) := by
  refine zc_i.of (by decide) (Nat.le_of_ble_eq_true rfl) ?_
  intro p e s m below meth c ls A X hr hlk hl hH
  have hl : lv_has ls 5 [(0, .ref (ad (8))), (1, .int (nI (0)))] := hl
  obtain ⟨k0, k2, k3, k3a, k4, k4a, k5, k5a, k6, k6a⟩ := hok.1
  have hF : zm_fr E E := zm_fr.rf
  refine lv_aload_n X.1 X.2.1 d_M_shutdown_0 rfl (lv_at hl 0 rfl) ?_
  refine lv_iconst (v := nI 0) X.1 X.2.1 d_M_shutdown_1 (by decide) ?_
  refine zx_put X hH fp_M_59 (by omega) hM.1 (Nat.le_of_ble_eq_true rfl) rfl rfl d_M_shutdown_2 (fun H locs hH => ?_)
  have hH : zw_H g A s.heap s N ad (va_up E 8 (zm_o ad q)) H locs := hH
  rw [← hM.1, ← zr_id] at hH
  refine lv_aload_n X.1 X.2.1 d_M_shutdown_5 rfl (lv_at hl 0 rfl) ?_
  refine zx_get (v := .int (nI (q 2))) X hH fg_M_66 (by omega) hM.1 rfl d_M_shutdown_6 ?_
  refine lv_if_eq (tgt := 15) X.1 X.2.1 d_M_shutdown_9 (by decide) (fun c2 => ?_) (fun c2 => ?_)
  · have c2 := (zn_eq (nI_toInt (by omega)) zn_0).mp c2
    refine lv_aload_n X.1 X.2.1 d_M_shutdown_15 rfl (lv_at hl 0 rfl) ?_
    refine lv_iconst (v := nI 0) X.1 X.2.1 d_M_shutdown_16 (by decide) ?_
    refine zx_put X hH fp_M_74 (by omega) hM.1 (Nat.le_of_ble_eq_true rfl) rfl rfl d_M_shutdown_17 (fun H locs hH => ?_)
    have hH : zw_H g A s.heap s N ad (va_up E 8 (zm_o ad (va_up q 3 (0)))) H locs := hH
    have hM := hM.o (va_up q 3 (0))
    have hF := hF.up (k := 8) (x := (zm_o ad (va_up q 3 (0)))) (by decide) (by decide)
    generalize va_up E 8 (zm_o ad (va_up q 3 (0))) = E3 at hH hM hF
    refine lv_iload_n X.1 X.2.1 d_M_shutdown_20 rfl (lv_at hl 1 rfl) ?_
    refine lv_if_ne (tgt := 28) X.1 X.2.1 d_M_shutdown_21 (by decide) (fun c4 => ?_) (fun c4 => ?_)
    · have c4 := mt (zn_eq (nI_toInt (by omega)) zn_0).mpr c4
      exfalso; omega
    · have c4 := (zn_eq (nI_toInt (by omega)) zn_0).mp c4
      refine lv_iconst (v := nI 1) X.1 X.2.1 d_M_shutdown_24 (by decide) ?_
      refine lv_goto (tgt := 29) X.1 X.2.1 d_M_shutdown_25 (by decide) ?_
      refine lv_istore_n (lv' := [(2, .int (nI (1))), (0, .ref (ad (8))), (1, .int (nI (0)))]) X.1 X.2.1 d_M_shutdown_29 rfl hl (by decide) rfl (fun ls hl => ?_)
      have hmu : zp_mu rg (q 0) < 3031 := by have := zp_mu_le (rg := rg) (q 0); omega
      refine zx_loop (σ := zp_T × Nat × Nat × (Nat → va_E) × (Nat → Nat)) (fun x H locs ls => x.1.1 0 = q 0 ∧ zm_at g ad x.2.2.2.1 x.1.1 x.1.2.1 x.1.2.2.1 fs x.2.2.2.2 ∧ zt_ok x.1.1 x.1.2.1 x.1.2.2.1 sf ∧ zs_inv x.1.1 x.1.2.1 ∧ (∀ j, j < x.1.1 5 → x.2.2.2.2 j = x.1.2.2.2 j) ∧ zm_fr E x.2.2.2.1 ∧ x.2.1 ≤ 1 ∧ zp_mu x.1.2.1 (q 0) < x.2.2.1 ∧ (zp_rnds (q 0) 3031 ((va_up q 3 0), rg, ev, lf)) = (if x.2.1 = 0 then x.1 else zp_rnds (q 0) x.2.2.1 x.1) ∧ zw_H g A s.heap s N ad x.2.2.2.1 H locs ∧ lv_has ls 5 [(2, .int (nI x.2.1)), (0, .ref (ad 8)), (1, .int (nI 0))]) (fun x => if x.2.1 = 0 then 0 else zp_mu x.1.2.1 (q 0) + 1) (fun _ => 0) (fun _ => 0) ?_ (((va_up q 3 0), rg, ev, lf), 1, 3031, E3, fl) _ _ _ ⟨rfl, hM, hok.clr, hv.q rfl rfl, hfl, hF, Nat.le_refl _, hmu, (if_neg (by decide : ¬ (1 : Nat) = 0)).symm, hH, hl⟩
      rintro ⟨⟨q1, rg1, ev1, lf1⟩, mv, f, E1, fl1⟩ H locs ls ⟨hq0, hM, hok1, hv1, hfl1, hF, hmv, hmu, hT9, hH, hl⟩ ihA
      dsimp only at hq0 hM hok1 hv1 hfl1 hF hmv hmu hT9 hH hl ihA ⊢
      refine lv_iload_n X.1 X.2.1 d_M_shutdown_30 rfl (lv_at hl 0 rfl) ?_
      refine lv_if_eq (tgt := 85) X.1 X.2.1 d_M_shutdown_31 (by decide) (fun c1 => ?_) (fun c1 => ?_)
      · have hmz : mv = 0 := by have c1 := (zn_eq (nI_toInt (by omega)) zn_0).mp c1; omega
        have hok9 := hok1
        have hv9 := hv1
        refine lv_iconst (v := nI 0) X.1 X.2.1 d_M_shutdown_85 (by decide) ?_
        refine lv_istore_n (lv' := [(3, .int (nI 0)), (2, .int (nI mv)), (0, .ref (ad 8)), (1, .int (nI 0))]) X.1 X.2.1 d_M_shutdown_86 rfl hl (by decide) rfl (fun ls hl => ?_)
        refine lv_iconst (v := nI 1) X.1 X.2.1 d_M_shutdown_87 (by decide) ?_
        refine lv_istore (lv' := [(4, .int (nI 1)), (3, .int (nI 0)), (2, .int (nI mv)), (0, .ref (ad 8)), (1, .int (nI 0))]) X.1 X.2.1 d_M_shutdown_88 hl (by decide) rfl (fun ls hl => ?_)
        refine zx_loop (σ := Nat × (Nat → va_E)) (fun x H locs ls => x.1 ≤ q 0 ∧ zm_at g ad x.2 q1 (zp_map zm_fin rg1 x.1) ev1 fs fl1 ∧ zm_fr E x.2 ∧ zw_H g A s.heap s N ad x.2 H locs ∧ lv_has ls 5 [(4, .int (nI (x.1 + 1))), (3, .int (nI (zp_cnt (fun i => decide ((rg1 i).1 2 = 0 ∧ (rg1 i).2 3 ((rg1 i).1 3) = 1 ∧ 0 < (rg1 i).1 3 - (rg1 i).1 4)) x.1))), (0, .ref (ad 8)), (1, .int (nI 0))]) (fun x => q 0 - x.1) (fun _ => 0) (fun _ => 0) ?_ (0, E1) _ _ _ ⟨Nat.zero_le _, by rw [zp_map_0]; exact hM, hF, hH, lv_sub hl [0, 1, 3, 4] rfl⟩
        rintro ⟨i, E7⟩ H locs ls ⟨hi, hM, hF, hH, hl⟩ ihC
        dsimp only at hi hM hF hH hl ihC
        have hle := zp_cnt_le (fun i => decide ((rg1 i).1 2 = 0 ∧ (rg1 i).2 3 ((rg1 i).1 3) = 1 ∧ 0 < (rg1 i).1 3 - (rg1 i).1 4)) i
        have hM := hM.rg (zr_id (zp_map zm_fin rg1 i) i)
        rw [zp_map_at] at hM
        refine lv_iload X.1 X.2.1 d_M_shutdown_90 (lv_at hl 0 rfl) ?_
        refine lv_aload_n X.1 X.2.1 d_M_shutdown_92 rfl (lv_at hl 2 rfl) ?_
        refine zx_get (v := .int (nI (q1 0))) X hH fg_M_63 (by omega) hM.1 rfl d_M_shutdown_93 ?_
        refine lv_icmp_gt (tgt := 150) X.1 X.2.1 d_M_shutdown_96 (by decide) (fun c21 => ?_) (fun c21 => ?_)
        · have c21 := (zn_lt (nI_toInt (by omega)) (nI_toInt (by omega))).mp c21
          refine lv_iload_n X.1 X.2.1 d_M_shutdown_150 rfl (lv_at hl 1 rfl) ?_
          have hM := hM.rg (show va_up (zp_map zm_fin rg1 i) i (rg1 i) = zp_map zm_fin rg1 i by rw [← zp_map_at zm_fin rg1 i]; exact (zr_id _ _).symm)
          have hiq : i = q 0 := by omega
          rw [hiq] at hM
          refine zx_top (b := nI (zp_cnt (fun i => decide ((rg1 i).1 2 = 0 ∧ (rg1 i).2 3 ((rg1 i).1 3) = 1 ∧ 0 < (rg1 i).1 3 - (rg1 i).1 4)) (q 0))) (by rw [hiq]) ?_
          have hz9 : (zp_rnds (q 0) 3031 ((va_up q 3 0), rg, ev, lf)) = (q1, rg1, ev1, lf1) := by rw [hT9, if_pos hmz]
          exact zx_iret X hr hlk hH (Nat.le_of_ble_eq_true rfl) (Nat.le_of_ble_eq_true rfl) d_M_shutdown_151 ⟨rfl, rfl, by rw [hz9, zm_cnt_fin], by rw [hz9, zm_map_fin]; exact ⟨fl1, hM, hfl1⟩, hF⟩
        · have c21 := mt (zn_lt (nI_toInt (by omega)) (nI_toInt (by omega))).mpr c21
          have hi0 : i < q 0 := by omega
          have hro := hok9.2.1 i (by omega)
          obtain ⟨r0, r1, r2, r3, r4, r5, r7, r8, r6⟩ := hro.1
          obtain ⟨u0, u5, u3⟩ := hv9.1 i (by omega)
          refine lv_aload_n X.1 X.2.1 d_M_shutdown_99 rfl (lv_at hl 2 rfl) ?_
          refine zx_get (v := .ref (ad (11))) X hH fg_M_16 (by omega) hM.1 rfl d_M_shutdown_100 ?_
          refine lv_iload X.1 X.2.1 d_M_shutdown_103 (lv_at hl 0 rfl) ?_
          refine zx_iald (j := i + 1) X hH (by omega) (show E7 11 = zr_ia g 31 (zm_c (va_up (zp_map zm_fin rg1 i) i (rg1 i)) 2) from hM.2.2.2.1) rfl (by omega) (by decide) d_M_shutdown_105 ?_
          refine zx_top (b := nI ((rg1 i).1 2)) (congrArg nI (zm_c_at _ _ _ _)) ?_
          refine lv_if_eq (tgt := 112) X.1 X.2.1 d_M_shutdown_106 (by decide) (fun c22 => ?_) (fun c22 => ?_)
          · have c22 := (zn_eq (nI_toInt (by omega)) zn_0).mp c22
            refine lv_iload_n X.1 X.2.1 d_M_shutdown_112 rfl (lv_at hl 3 rfl) ?_
            refine lv_if_ne (tgt := 125) X.1 X.2.1 d_M_shutdown_113 (by decide) (fun c23 => ?_) (fun c23 => ?_)
            · have c23 := mt (zn_eq (nI_toInt (by omega)) zn_0).mpr c23
              exfalso; omega
            · have c23 := (zn_eq (nI_toInt (by omega)) zn_0).mp c23
              refine lv_aload_n X.1 X.2.1 d_M_shutdown_116 rfl (lv_at hl 2 rfl) ?_
              refine lv_iload X.1 X.2.1 d_M_shutdown_117 (lv_at hl 0 rfl) ?_
              refine zx_calli (zx_runV (As := [.int (nI (i + 1))]) (rest := []) X hH mv_M_81 ((c_M_isBetween g l N ad E7 q1 (zp_map zm_fin rg1 i) ev1 fs fl1 i (rg1 i) hN (by omega) hro hM u3) _) (by omega) hM.1 rfl ⟨Nat.le_of_ble_eq_true rfl, Nat.le_of_ble_eq_true rfl⟩ rfl hl rfl (Nat.le_of_ble_eq_true rfl) d_M_shutdown_119 ⟨Nat.le_of_ble_eq_true rfl, Nat.le_of_ble_eq_true rfl⟩) hH (fun r N1 ad1 E1 H locs hq hH => ?_)
              obtain ⟨rfl, rfl, rfl, rfl⟩ := hq
              by_cases d24 : (rg1 i).2 3 ((rg1 i).1 3) = 1
              · refine zx_top (b := nI 1) (by rw [if_pos d24]) ?_
                refine lv_if_eq (tgt := 137) X.1 X.2.1 d_M_shutdown_122 (by decide) (fun z => ?_) (fun z => ?_)
                · exact absurd z (by decide)
                · clear z
                  refine lv_iload_n X.1 X.2.1 d_M_shutdown_125 rfl (lv_at hl 1 rfl) ?_
                  refine lv_aload_n X.1 X.2.1 d_M_shutdown_126 rfl (lv_at hl 2 rfl) ?_
                  refine lv_iload X.1 X.2.1 d_M_shutdown_127 (lv_at hl 0 rfl) ?_
                  refine zx_calli (zx_runV (As := [.int (nI (i + 1))]) (rest := [.int (nI (zp_cnt (fun i => decide ((rg1 i).1 2 = 0 ∧ (rg1 i).2 3 ((rg1 i).1 3) = 1 ∧ 0 < (rg1 i).1 3 - (rg1 i).1 4)) i))]) X hH mv_M_101 ((c_M_leave g l N ad E7 q1 (zp_map zm_fin rg1 i) ev1 fs fl1 i (rg1 i) hN (by omega) hro hM) _) (by omega) hM.1 rfl ⟨Nat.le_of_ble_eq_true rfl, Nat.le_of_ble_eq_true rfl⟩ rfl hl rfl (Nat.le_of_ble_eq_true rfl) d_M_shutdown_129 ⟨Nat.le_of_ble_eq_true rfl, Nat.le_of_ble_eq_true rfl⟩) hH (fun r N1 ad1 E6 H locs hq hH => ?_)
                  obtain ⟨rfl, rfl, rfl, hM, hF1⟩ := hq
                  have hF := hF.tr hF1
                  by_cases dl : 0 < (rg1 i).1 3 - (rg1 i).1 4
                  · refine zx_top (b := nI 1) (by rw [if_pos dl]) ?_
                    refine lv_iadd X.1 X.2.1 d_M_shutdown_132 ?_
                    refine zx_top (nI_add _ _) ?_
                    refine lv_istore_n (lv' := [(3, .int (nI ((zp_cnt (fun i => decide ((rg1 i).1 2 = 0 ∧ (rg1 i).2 3 ((rg1 i).1 3) = 1 ∧ 0 < (rg1 i).1 3 - (rg1 i).1 4)) i) + (1)))), (4, .int (nI (i + 1))), (0, .ref (ad (8))), (1, .int (nI (0)))]) X.1 X.2.1 d_M_shutdown_133 rfl hl (by decide) rfl (fun ls hl => ?_)
                    refine lv_goto (tgt := 144) X.1 X.2.1 d_M_shutdown_134 (by decide) ?_
                    refine lv_iinc (v := nI (i + 1 + 1)) (lv' := [(4, .int (nI (i + 1 + 1))), (3, .int (nI ((zp_cnt (fun i => decide ((rg1 i).1 2 = 0 ∧ (rg1 i).2 3 ((rg1 i).1 3) = 1 ∧ 0 < (rg1 i).1 3 - (rg1 i).1 4)) i) + (1)))), (0, .ref (ad (8))), (1, .int (nI (0)))]) X.1 X.2.1 d_M_shutdown_144 hl (k := 1) rfl (nI_add _ _) (by decide) rfl (fun ls hl => ?_)
                    refine lv_goto (tgt := 90) X.1 X.2.1 d_M_shutdown_147 (by decide) ?_
                    have hz : zm_fin (rg1 i) = (va_up (rg1 i).1 2 4, (rg1 i).2) := by unfold zm_fin; rw [if_pos (by omega), if_pos (by omega)]
                    rw [← hz, ← zp_map_s] at hM
                    have hc : zp_cnt (fun i => decide ((rg1 i).1 2 = 0 ∧ (rg1 i).2 3 ((rg1 i).1 3) = 1 ∧ 0 < (rg1 i).1 3 - (rg1 i).1 4)) (i + 1) = zp_cnt (fun i => decide ((rg1 i).1 2 = 0 ∧ (rg1 i).2 3 ((rg1 i).1 3) = 1 ∧ 0 < (rg1 i).1 3 - (rg1 i).1 4)) i + 1 := zp_cnt_y (decide_eq_true (by omega))
                    exact ihC (i + 1, E6) _ _ _ ⟨by omega, hM, hF, hH, by rw [hc]; exact lv_sub hl [0, 1, 2, 3] rfl⟩ (by show q 0 - (i + 1) < q 0 - i; omega)
                  · refine zx_top (b := nI 0) (by rw [if_neg dl]) ?_
                    refine lv_iadd X.1 X.2.1 d_M_shutdown_132 ?_
                    refine zx_top (nI_add _ _) ?_
                    refine lv_istore_n (lv' := [(3, .int (nI ((zp_cnt (fun i => decide ((rg1 i).1 2 = 0 ∧ (rg1 i).2 3 ((rg1 i).1 3) = 1 ∧ 0 < (rg1 i).1 3 - (rg1 i).1 4)) i) + (0)))), (4, .int (nI (i + 1))), (0, .ref (ad (8))), (1, .int (nI (0)))]) X.1 X.2.1 d_M_shutdown_133 rfl hl (by decide) rfl (fun ls hl => ?_)
                    refine lv_goto (tgt := 144) X.1 X.2.1 d_M_shutdown_134 (by decide) ?_
                    refine lv_iinc (v := nI (i + 1 + 1)) (lv' := [(4, .int (nI (i + 1 + 1))), (3, .int (nI ((zp_cnt (fun i => decide ((rg1 i).1 2 = 0 ∧ (rg1 i).2 3 ((rg1 i).1 3) = 1 ∧ 0 < (rg1 i).1 3 - (rg1 i).1 4)) i) + (0)))), (0, .ref (ad (8))), (1, .int (nI (0)))]) X.1 X.2.1 d_M_shutdown_144 hl (k := 1) rfl (nI_add _ _) (by decide) rfl (fun ls hl => ?_)
                    refine lv_goto (tgt := 90) X.1 X.2.1 d_M_shutdown_147 (by decide) ?_
                    have hz : zm_fin (rg1 i) = (va_up (rg1 i).1 2 4, (rg1 i).2) := by unfold zm_fin; rw [if_pos (by omega), if_pos (by omega)]
                    rw [← hz, ← zp_map_s] at hM
                    have hc : zp_cnt (fun i => decide ((rg1 i).1 2 = 0 ∧ (rg1 i).2 3 ((rg1 i).1 3) = 1 ∧ 0 < (rg1 i).1 3 - (rg1 i).1 4)) (i + 1) = zp_cnt (fun i => decide ((rg1 i).1 2 = 0 ∧ (rg1 i).2 3 ((rg1 i).1 3) = 1 ∧ 0 < (rg1 i).1 3 - (rg1 i).1 4)) i := zp_cnt_n (fun h => by have h2 := of_decide_eq_true h; omega)
                    exact ihC (i + 1, E6) _ _ _ ⟨by omega, hM, hF, hH, by rw [hc]; exact lv_sub hl [0, 1, 2, 3] rfl⟩ (by show q 0 - (i + 1) < q 0 - i; omega)
              · refine zx_top (b := nI 0) (by rw [if_neg d24]) ?_
                refine lv_if_eq (tgt := 137) X.1 X.2.1 d_M_shutdown_122 (by decide) (fun z => ?_) (fun z => ?_)
                · clear z
                  refine lv_aload_n X.1 X.2.1 d_M_shutdown_137 rfl (lv_at hl 2 rfl) ?_
                  refine lv_iload X.1 X.2.1 d_M_shutdown_138 (lv_at hl 0 rfl) ?_
                  refine lv_iconst (v := nI 3) X.1 X.2.1 d_M_shutdown_140 (by decide) ?_
                  refine zx_callv (zx_runV (As := [.int (nI (i + 1)), .int (nI (3))]) (rest := []) X hH mv_M_84 ((c_M_end g l N ad E7 q1 (zp_map zm_fin rg1 i) ev1 fs fl1 i (rg1 i) hN (by omega) r4 hM 3 (by decide)) _) (by omega) hM.1 rfl ⟨Nat.le_of_ble_eq_true rfl, Nat.le_of_ble_eq_true rfl⟩ rfl hl rfl (Nat.le_of_ble_eq_true rfl) d_M_shutdown_141 ⟨Nat.le_of_ble_eq_true rfl, Nat.le_of_ble_eq_true rfl⟩) hH (fun N1 ad1 E6 H locs hq hH => ?_)
                  obtain ⟨rfl, rfl, hM, hF1⟩ := hq
                  have hF := hF.tr hF1
                  rw [zm_end_back (by decide)] at hM
                  refine lv_iinc (v := nI (i + 1 + 1)) (lv' := [(4, .int (nI (i + 1 + 1))), (3, .int (nI (zp_cnt (fun i => decide ((rg1 i).1 2 = 0 ∧ (rg1 i).2 3 ((rg1 i).1 3) = 1 ∧ 0 < (rg1 i).1 3 - (rg1 i).1 4)) i))), (0, .ref (ad (8))), (1, .int (nI (0)))]) X.1 X.2.1 d_M_shutdown_144 hl (k := 0) rfl (nI_add _ _) (by decide) rfl (fun ls hl => ?_)
                  refine lv_goto (tgt := 90) X.1 X.2.1 d_M_shutdown_147 (by decide) ?_
                  have hz : zm_fin (rg1 i) = (zp_back (rg1 i).1 3, (rg1 i).2) := by unfold zm_fin; rw [if_pos (by omega), if_neg (by omega)]
                  rw [← hz, ← zp_map_s] at hM
                  have hc : zp_cnt (fun i => decide ((rg1 i).1 2 = 0 ∧ (rg1 i).2 3 ((rg1 i).1 3) = 1 ∧ 0 < (rg1 i).1 3 - (rg1 i).1 4)) (i + 1) = zp_cnt (fun i => decide ((rg1 i).1 2 = 0 ∧ (rg1 i).2 3 ((rg1 i).1 3) = 1 ∧ 0 < (rg1 i).1 3 - (rg1 i).1 4)) i := zp_cnt_n (fun h => by have h2 := of_decide_eq_true h; omega)
                  exact ihC (i + 1, E6) _ _ _ ⟨by omega, hM, hF, hH, by rw [hc]; exact lv_sub hl [0, 1, 2, 3] rfl⟩ (by show q 0 - (i + 1) < q 0 - i; omega)
                · exact absurd z (by decide)
          · have c22 := mt (zn_eq (nI_toInt (by omega)) zn_0).mpr c22
            refine lv_goto (tgt := 144) X.1 X.2.1 d_M_shutdown_109 (by decide) ?_
            refine lv_iinc (v := nI (i + 1 + 1)) (lv' := [(4, .int (nI (i + 1 + 1))), (3, .int (nI (zp_cnt (fun i => decide ((rg1 i).1 2 = 0 ∧ (rg1 i).2 3 ((rg1 i).1 3) = 1 ∧ 0 < (rg1 i).1 3 - (rg1 i).1 4)) i))), (0, .ref (ad (8))), (1, .int (nI (0)))]) X.1 X.2.1 d_M_shutdown_144 hl (k := 0) rfl (nI_add _ _) (by decide) rfl (fun ls hl => ?_)
            refine lv_goto (tgt := 90) X.1 X.2.1 d_M_shutdown_147 (by decide) ?_
            have hz : zm_fin (rg1 i) = (rg1 i) := if_neg (by omega)
            rw [show va_up (zp_map zm_fin rg1 i) i (rg1 i) = zp_map zm_fin rg1 (i + 1) by rw [zp_map_s, hz]] at hM
            have hc : zp_cnt (fun i => decide ((rg1 i).1 2 = 0 ∧ (rg1 i).2 3 ((rg1 i).1 3) = 1 ∧ 0 < (rg1 i).1 3 - (rg1 i).1 4)) (i + 1) = zp_cnt (fun i => decide ((rg1 i).1 2 = 0 ∧ (rg1 i).2 3 ((rg1 i).1 3) = 1 ∧ 0 < (rg1 i).1 3 - (rg1 i).1 4)) i := zp_cnt_n (fun h => by have h2 := of_decide_eq_true h; omega)
            exact ihC (i + 1, E7) _ _ _ ⟨by omega, hM, hF, hH, by rw [hc]; exact lv_sub hl [0, 1, 2, 3] rfl⟩ (by show q 0 - (i + 1) < q 0 - i; omega)
      · have hmz : ¬ mv = 0 := by have c1 := mt (zn_eq (nI_toInt (by omega)) zn_0).mpr c1; omega
        rw [if_neg hmz] at hT9
        refine lv_iconst (v := nI 0) X.1 X.2.1 d_M_shutdown_34 (by decide) ?_
        refine lv_istore_n (lv' := [(2, .int (nI 0)), (0, .ref (ad 8)), (1, .int (nI 0))]) X.1 X.2.1 d_M_shutdown_35 rfl hl (by decide) rfl (fun ls hl => ?_)
        refine lv_iconst (v := nI 1) X.1 X.2.1 d_M_shutdown_36 (by decide) ?_
        refine lv_istore_n (lv' := [(3, .int (nI 1)), (2, .int (nI 0)), (0, .ref (ad 8)), (1, .int (nI 0))]) X.1 X.2.1 d_M_shutdown_37 rfl hl (by decide) rfl (fun ls hl => ?_)
        obtain ⟨R9, hR9⟩ : ∃ R, zp_rnd (q 0) 0 (q1, rg1, ev1, lf1) 0 = R := ⟨_, rfl⟩
        have hmr := zp_mu_rnd (sf := sf) (q 0) (q 0) 0 (q1, rg1, ev1, lf1) 0 (by omega) (by dsimp only; omega) hok1
        rw [hR9] at hmr
        dsimp only at hmr
        have hrs : (zp_rnds (q 0) 3031 ((va_up q 3 0), rg, ev, lf)) = if R9.2 = 0 then R9.1 else zp_rnds (q 0) (f - 1) R9.1 := by rw [hT9, show f = (f - 1) + 1 by omega, zp_rnds, hR9]; rfl
        have hmu0 := hmu
        refine zx_loop (σ := Nat × zp_T × Nat × (Nat → va_E) × (Nat → Nat)) (fun x H locs ls => x.1 ≤ q 0 ∧ x.2.1.1 0 = q 0 ∧ zm_at g ad x.2.2.2.1 x.2.1.1 x.2.1.2.1 x.2.1.2.2.1 fs x.2.2.2.2 ∧ zt_ok x.2.1.1 x.2.1.2.1 x.2.1.2.2.1 sf ∧ zs_inv x.2.1.1 x.2.1.2.1 ∧ (∀ j, j < x.2.1.1 5 → x.2.2.2.2 j = x.2.1.2.2.2 j) ∧ zm_fr E x.2.2.2.1 ∧ x.2.2.1 ≤ 1 ∧ R9 = zp_rnd (q 0 - x.1) x.1 x.2.1 x.2.2.1 ∧ zw_H g A s.heap s N ad x.2.2.2.1 H locs ∧ lv_has ls 5 [(3, .int (nI (x.1 + 1))), (2, .int (nI x.2.2.1)), (0, .ref (ad 8)), (1, .int (nI 0))]) (fun x => q 0 - x.1) (fun _ => 0) (fun _ => 0) ?_ (0, (q1, rg1, ev1, lf1), 0, E1, fl1) _ _ _ ⟨Nat.zero_le _, hq0, hM, hok1, hv1, hfl1, hF, Nat.zero_le _, hR9.symm, hH, hl⟩
        clear hM hok1 hv1 hfl1 hF hH hl hq0 hT9 hR9
        obtain ⟨m0, hm0⟩ : ∃ x, x = zp_mu rg1 (q 0) := ⟨_, rfl⟩
        rw [← hm0] at hmr hmu0 ihA
        clear hmu hm0
        rintro ⟨i, ⟨q1, rg1, ev1, lf1⟩, mb, E1, fl1⟩ H locs ls ⟨hi, hq0, hM, hok1, hv1, hfl1, hF, hmb, hT9, hH, hl⟩ ihB
        dsimp only at hi hq0 hM hok1 hv1 hfl1 hF hmb hT9 hH hl ihB ⊢
        refine lv_iload_n X.1 X.2.1 d_M_shutdown_38 rfl (lv_at hl 0 rfl) ?_
        refine lv_aload_n X.1 X.2.1 d_M_shutdown_39 rfl (lv_at hl 2 rfl) ?_
        refine zx_get (v := .int (nI (q1 0))) X hH fg_M_63 (by omega) hM.1 rfl d_M_shutdown_40 ?_
        refine lv_icmp_gt (tgt := 82) X.1 X.2.1 d_M_shutdown_43 (by decide) (fun c41 => ?_) (fun c41 => ?_)
        · have c41 := (zn_lt (nI_toInt (by omega)) (nI_toInt (by omega))).mp c41
          refine lv_goto (tgt := 30) X.1 X.2.1 d_M_shutdown_82 (by decide) ?_
          have hR : R9 = ((q1, rg1, ev1, lf1), mb) := by rw [hT9, show q 0 - i = 0 by omega]; rfl
          rw [hR] at hmr hrs
          dsimp only at hmr hrs
          by_cases db : mb = 0
          · exact ihA ((q1, rg1, ev1, lf1), mb, zp_mu rg1 (q 0) + 1, E1, fl1) _ _ _ ⟨hq0, hM, hok1, hv1, hfl1, hF, hmb, Nat.lt_succ_self _, (by rw [if_pos db] at hrs; rw [if_pos db]; exact hrs), hH, lv_sub hl [1, 2, 3] rfl⟩ (by show (if mb = 0 then 0 else _) < (if mv = 0 then 0 else _); rw [if_pos db, if_neg hmz]; exact Nat.succ_pos _)
          · have hlt := hmr.2 rfl db
            exact ihA ((q1, rg1, ev1, lf1), mb, f - 1, E1, fl1) _ _ _ ⟨hq0, hM, hok1, hv1, hfl1, hF, hmb, (by show zp_mu rg1 (q 0) < f - 1; omega), hrs, hH, lv_sub hl [1, 2, 3] rfl⟩ (by show (if mb = 0 then 0 else zp_mu rg1 (q 0) + 1) < (if mv = 0 then 0 else m0 + 1); rw [if_neg db, if_neg hmz]; omega)
        · have c41 := mt (zn_lt (nI_toInt (by omega)) (nI_toInt (by omega))).mpr c41
          refine lv_aload_n X.1 X.2.1 d_M_shutdown_46 rfl (lv_at hl 2 rfl) ?_
          refine lv_iload_n X.1 X.2.1 d_M_shutdown_47 rfl (lv_at hl 0 rfl) ?_
          have kq0 := hok1.1.1
          have kq5 := hok1.1.2.2.2.2.2.2.1
          obtain ⟨G, hG⟩ : ∃ G, zp_give (q1, rg1, ev1, lf1) (i) = G := ⟨_, rfl⟩
          obtain ⟨g0, g1, g2, g3, g4, g6⟩ := zp_give_fix (q1, rg1, ev1, lf1) (i)
          have gl := zp_give_le (q1, rg1, ev1, lf1) (i)
          have gi : i < q1 0 := by omega
          have gok := zt_ok.give (lf := lf1) hok1 gi
          have gv := zs_inv.give (lf := lf1) hok1 hv1 gi
          rw [hG] at g0 g1 g2 g3 g4 g6 gl gok gv
          dsimp only at g0 g1 g2 g3 g4 g6
          have hro := hok1.2.1 (i) gi
          obtain ⟨u0, u5, u3⟩ := hv1.1 (i) gi
          have kq := hok1.1
          refine zx_calli (zx_runV (As := [.int (nI (i + 1))]) (rest := []) X hH mv_M_94 ((c_M_goes g l N ad E1 q1 rg1 ev1 fs fl1 (i) (rg1 (i)) hN (by omega) hro (hM.rg (zr_id rg1 (i))) hok1.2.2.1 u3 u5 (by omega)) _) (by omega) hM.1 rfl ⟨Nat.le_of_ble_eq_true rfl, Nat.le_of_ble_eq_true rfl⟩ rfl hl rfl (Nat.le_of_ble_eq_true rfl) d_M_shutdown_48 ⟨Nat.le_of_ble_eq_true rfl, Nat.le_of_ble_eq_true rfl⟩) hH (fun r N2 ad2 E9 H locs hq hH => ?_)
          obtain ⟨rfl, rfl, rfl, hM, hF2⟩ := hq
          obtain ⟨gt, fl2, hM, hfl2⟩ := zm_give (lf := lf1) hok1 hv1 gi hfl1 hM
          rw [hG] at gt hM hfl2
          refine zx_top (b := nI G.1) (by rw [gt]) ?_
          have hF := hF.tr hF2
          have hz : R9 = zp_rnd (q 0 - (i + 1)) (i + 1) G.2 (if G.1 = 0 then mb else 1) := by rw [hT9, show q 0 - i = (q 0 - (i + 1)) + 1 by omega, zp_rnd, hG]
          refine lv_if_le (tgt := 58) X.1 X.2.1 d_M_shutdown_51 (by decide) (fun c42 => ?_) (fun c42 => ?_)
          · have c42 := (zn_le (nI_toInt (by omega)) zn_0).mp c42
            refine lv_iconst (v := nI 0) X.1 X.2.1 d_M_shutdown_58 (by decide) ?_
            refine lv_istore (lv' := [(4, .int (nI (0))), (3, .int (nI (i + 1))), (2, .int (nI (mb))), (0, .ref (ad (8))), (1, .int (nI (0)))]) X.1 X.2.1 d_M_shutdown_59 hl (by decide) rfl (fun ls hl => ?_)
            refine lv_iload_n X.1 X.2.1 d_M_shutdown_61 rfl (lv_at hl 2 rfl) ?_
            refine lv_if_ne (tgt := 70) X.1 X.2.1 d_M_shutdown_62 (by decide) (fun c43 => ?_) (fun c43 => ?_)
            · have c43 := mt (zn_eq (nI_toInt (by omega)) zn_0).mpr c43
              refine lv_iconst (v := nI 1) X.1 X.2.1 d_M_shutdown_70 (by decide) ?_
              refine lv_goto (tgt := 75) X.1 X.2.1 d_M_shutdown_71 (by decide) ?_
              refine lv_istore_n (lv' := [(2, .int (nI (1))), (4, .int (nI (0))), (3, .int (nI (i + 1))), (0, .ref (ad (8))), (1, .int (nI (0)))]) X.1 X.2.1 d_M_shutdown_75 rfl hl (by decide) rfl (fun ls hl => ?_)
              refine lv_iinc (v := nI (i + 1 + 1)) (lv' := [(3, .int (nI (i + 1 + 1))), (2, .int (nI (1))), (4, .int (nI (0))), (0, .ref (ad (8))), (1, .int (nI (0)))]) X.1 X.2.1 d_M_shutdown_76 hl (k := 2) rfl (nI_add _ _) (by decide) rfl (fun ls hl => ?_)
              refine lv_goto (tgt := 38) X.1 X.2.1 d_M_shutdown_79 (by decide) ?_
              have hb2 : (if G.1 = 0 then mb else 1) = 1 := by split <;> omega
              rw [hb2] at hz
              exact ihB (i + 1, G.2, 1, E9, fl2) _ _ _ ⟨by omega, by show G.2.1 0 = q 0; omega, hM, gok, gv, hfl2, hF, by show 1 ≤ 1; omega, hz, hH, lv_sub hl [0, 1, 3, 4] rfl⟩ (by show q 0 - (i + 1) < q 0 - i; omega)
            · have c43 := (zn_eq (nI_toInt (by omega)) zn_0).mp c43
              refine lv_iload X.1 X.2.1 d_M_shutdown_65 (lv_at hl 0 rfl) ?_
              refine lv_if_eq (tgt := 74) X.1 X.2.1 d_M_shutdown_67 (by decide) (fun c44 => ?_) (fun c44 => ?_)
              · have c44 := (zn_eq (nI_toInt (by omega)) zn_0).mp c44
                refine lv_iconst (v := nI 0) X.1 X.2.1 d_M_shutdown_74 (by decide) ?_
                refine lv_istore_n (lv' := [(2, .int (nI (0))), (4, .int (nI (0))), (3, .int (nI (i + 1))), (0, .ref (ad (8))), (1, .int (nI (0)))]) X.1 X.2.1 d_M_shutdown_75 rfl hl (by decide) rfl (fun ls hl => ?_)
                refine lv_iinc (v := nI (i + 1 + 1)) (lv' := [(3, .int (nI (i + 1 + 1))), (2, .int (nI (0))), (4, .int (nI (0))), (0, .ref (ad (8))), (1, .int (nI (0)))]) X.1 X.2.1 d_M_shutdown_76 hl (k := 2) rfl (nI_add _ _) (by decide) rfl (fun ls hl => ?_)
                refine lv_goto (tgt := 38) X.1 X.2.1 d_M_shutdown_79 (by decide) ?_
                have hb2 : (if G.1 = 0 then mb else 1) = 0 := by split <;> omega
                rw [hb2] at hz
                exact ihB (i + 1, G.2, 0, E9, fl2) _ _ _ ⟨by omega, by show G.2.1 0 = q 0; omega, hM, gok, gv, hfl2, hF, by show 0 ≤ 1; omega, hz, hH, lv_sub hl [0, 1, 3, 4] rfl⟩ (by show q 0 - (i + 1) < q 0 - i; omega)
              · have c44 := mt (zn_eq (nI_toInt (by omega)) zn_0).mpr c44
                refine lv_iconst (v := nI 1) X.1 X.2.1 d_M_shutdown_70 (by decide) ?_
                refine lv_goto (tgt := 75) X.1 X.2.1 d_M_shutdown_71 (by decide) ?_
                refine lv_istore_n (lv' := [(2, .int (nI (1))), (4, .int (nI (0))), (3, .int (nI (i + 1))), (0, .ref (ad (8))), (1, .int (nI (0)))]) X.1 X.2.1 d_M_shutdown_75 rfl hl (by decide) rfl (fun ls hl => ?_)
                refine lv_iinc (v := nI (i + 1 + 1)) (lv' := [(3, .int (nI (i + 1 + 1))), (2, .int (nI (1))), (4, .int (nI (0))), (0, .ref (ad (8))), (1, .int (nI (0)))]) X.1 X.2.1 d_M_shutdown_76 hl (k := 2) rfl (nI_add _ _) (by decide) rfl (fun ls hl => ?_)
                refine lv_goto (tgt := 38) X.1 X.2.1 d_M_shutdown_79 (by decide) ?_
                have hb2 : (if G.1 = 0 then mb else 1) = 1 := by split <;> omega
                rw [hb2] at hz
                exact ihB (i + 1, G.2, 1, E9, fl2) _ _ _ ⟨by omega, by show G.2.1 0 = q 0; omega, hM, gok, gv, hfl2, hF, by show 1 ≤ 1; omega, hz, hH, lv_sub hl [0, 1, 3, 4] rfl⟩ (by show q 0 - (i + 1) < q 0 - i; omega)
          · have c42 := mt (zn_le (nI_toInt (by omega)) zn_0).mpr c42
            refine lv_iconst (v := nI 1) X.1 X.2.1 d_M_shutdown_54 (by decide) ?_
            refine lv_goto (tgt := 59) X.1 X.2.1 d_M_shutdown_55 (by decide) ?_
            refine lv_istore (lv' := [(4, .int (nI (1))), (3, .int (nI (i + 1))), (2, .int (nI (mb))), (0, .ref (ad (8))), (1, .int (nI (0)))]) X.1 X.2.1 d_M_shutdown_59 hl (by decide) rfl (fun ls hl => ?_)
            refine lv_iload_n X.1 X.2.1 d_M_shutdown_61 rfl (lv_at hl 2 rfl) ?_
            refine lv_if_ne (tgt := 70) X.1 X.2.1 d_M_shutdown_62 (by decide) (fun c45 => ?_) (fun c45 => ?_)
            · have c45 := mt (zn_eq (nI_toInt (by omega)) zn_0).mpr c45
              refine lv_iconst (v := nI 1) X.1 X.2.1 d_M_shutdown_70 (by decide) ?_
              refine lv_goto (tgt := 75) X.1 X.2.1 d_M_shutdown_71 (by decide) ?_
              refine lv_istore_n (lv' := [(2, .int (nI (1))), (4, .int (nI (1))), (3, .int (nI (i + 1))), (0, .ref (ad (8))), (1, .int (nI (0)))]) X.1 X.2.1 d_M_shutdown_75 rfl hl (by decide) rfl (fun ls hl => ?_)
              refine lv_iinc (v := nI (i + 1 + 1)) (lv' := [(3, .int (nI (i + 1 + 1))), (2, .int (nI (1))), (4, .int (nI (1))), (0, .ref (ad (8))), (1, .int (nI (0)))]) X.1 X.2.1 d_M_shutdown_76 hl (k := 2) rfl (nI_add _ _) (by decide) rfl (fun ls hl => ?_)
              refine lv_goto (tgt := 38) X.1 X.2.1 d_M_shutdown_79 (by decide) ?_
              have hb2 : (if G.1 = 0 then mb else 1) = 1 := by split <;> omega
              rw [hb2] at hz
              exact ihB (i + 1, G.2, 1, E9, fl2) _ _ _ ⟨by omega, by show G.2.1 0 = q 0; omega, hM, gok, gv, hfl2, hF, by show 1 ≤ 1; omega, hz, hH, lv_sub hl [0, 1, 3, 4] rfl⟩ (by show q 0 - (i + 1) < q 0 - i; omega)
            · have c45 := (zn_eq (nI_toInt (by omega)) zn_0).mp c45
              refine lv_iload X.1 X.2.1 d_M_shutdown_65 (lv_at hl 0 rfl) ?_
              refine lv_if_eq (tgt := 74) X.1 X.2.1 d_M_shutdown_67 (by decide) (fun c46 => ?_) (fun c46 => ?_)
              · have c46 := (zn_eq (nI_toInt (by omega)) zn_0).mp c46
                refine lv_iconst (v := nI 0) X.1 X.2.1 d_M_shutdown_74 (by decide) ?_
                refine lv_istore_n (lv' := [(2, .int (nI (0))), (4, .int (nI (1))), (3, .int (nI (i + 1))), (0, .ref (ad (8))), (1, .int (nI (0)))]) X.1 X.2.1 d_M_shutdown_75 rfl hl (by decide) rfl (fun ls hl => ?_)
                refine lv_iinc (v := nI (i + 1 + 1)) (lv' := [(3, .int (nI (i + 1 + 1))), (2, .int (nI (0))), (4, .int (nI (1))), (0, .ref (ad (8))), (1, .int (nI (0)))]) X.1 X.2.1 d_M_shutdown_76 hl (k := 2) rfl (nI_add _ _) (by decide) rfl (fun ls hl => ?_)
                refine lv_goto (tgt := 38) X.1 X.2.1 d_M_shutdown_79 (by decide) ?_
                have hb2 : (if G.1 = 0 then mb else 1) = 0 := by split <;> omega
                rw [hb2] at hz
                exact ihB (i + 1, G.2, 0, E9, fl2) _ _ _ ⟨by omega, by show G.2.1 0 = q 0; omega, hM, gok, gv, hfl2, hF, by show 0 ≤ 1; omega, hz, hH, lv_sub hl [0, 1, 3, 4] rfl⟩ (by show q 0 - (i + 1) < q 0 - i; omega)
              · have c46 := mt (zn_eq (nI_toInt (by omega)) zn_0).mpr c46
                refine lv_iconst (v := nI 1) X.1 X.2.1 d_M_shutdown_70 (by decide) ?_
                refine lv_goto (tgt := 75) X.1 X.2.1 d_M_shutdown_71 (by decide) ?_
                refine lv_istore_n (lv' := [(2, .int (nI (1))), (4, .int (nI (1))), (3, .int (nI (i + 1))), (0, .ref (ad (8))), (1, .int (nI (0)))]) X.1 X.2.1 d_M_shutdown_75 rfl hl (by decide) rfl (fun ls hl => ?_)
                refine lv_iinc (v := nI (i + 1 + 1)) (lv' := [(3, .int (nI (i + 1 + 1))), (2, .int (nI (1))), (4, .int (nI (1))), (0, .ref (ad (8))), (1, .int (nI (0)))]) X.1 X.2.1 d_M_shutdown_76 hl (k := 2) rfl (nI_add _ _) (by decide) rfl (fun ls hl => ?_)
                refine lv_goto (tgt := 38) X.1 X.2.1 d_M_shutdown_79 (by decide) ?_
                have hb2 : (if G.1 = 0 then mb else 1) = 1 := by split <;> omega
                rw [hb2] at hz
                exact ihB (i + 1, G.2, 1, E9, fl2) _ _ _ ⟨by omega, by show G.2.1 0 = q 0; omega, hM, gok, gv, hfl2, hF, by show 1 ≤ 1; omega, hz, hH, lv_sub hl [0, 1, 3, 4] rfl⟩ (by show q 0 - (i + 1) < q 0 - i; omega)
  · have c2 := mt (zn_eq (nI_toInt (by omega)) zn_0).mpr c2
    refine lv_bipush (v := (-5)) X.1 X.2.1 d_M_shutdown_12 (by decide) ?_
    exfalso; omega
