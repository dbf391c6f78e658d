set_option maxHeartbeats 4000000 in
set_option maxRecDepth 100000 in
theorem c_X_count (g : zw_G) (l : Launch) (N : Nat) (ad : Nat → Nat) (E : Nat → va_E) (F : Nat) (q : Nat → Nat) (rg : zt_R) (ev sf lf : Nat → Nat) (hF8 : 8 ≤ F) (hN : N = F + 5 * q 0) (hT : zt_at g ad E F q rg ev sf lf) (hok : zt_ok q rg ev sf) (x : Int32) : zc_i g l y_X_count b_X_count 3 (some .int) { frames := 2, cells := 0, slots := 0, locals := 80 } [.ref (ad (0)), .int (x)] N ad E (fun v N1 ad1 E1 => N = N1 ∧ ad = ad1 ∧ E = E1 ∧ v = zs_cnt q rg ev x) := by
  refine zc_i.of (by decide) (Nat.le_of_ble_eq_true rfl) ?_
  intro p e s m below meth c ls A X hr hlk hl hH
  have hl : lv_has ls 3 [(0, .ref (ad (0))), (1, .int (x))] := hl
  obtain ⟨k0, k2, k3, k3a, k4, k4a, k5, k5a, k6, k6a⟩ := hok.1
  refine lv_iload_n X.1 X.2.1 d_X_count_0 rfl (lv_at hl 1 rfl) ?_
  by_cases t0 : x.toInt = 0
  · refine lv_tableIn (off := 39) (tgt := 40) X.1 X.2.1 d_X_count_1 (by omega) (by omega) (by rw [t0]; rfl) (by decide) ?_
    refine lv_aload_n X.1 X.2.1 d_X_count_40 rfl (lv_at hl 0 rfl) ?_
    refine zx_get (v := .int (nI (q 0))) X hH fg_X_38 (by omega) hT.1 rfl d_X_count_41 ?_
    exact zx_iret X hr hlk hH (Nat.le_of_ble_eq_true rfl) (Nat.le_of_ble_eq_true rfl) d_X_count_44 ⟨rfl, rfl, rfl, by unfold zs_cnt; rw [if_pos t0]⟩
  · skip
    by_cases t1 : x.toInt = 1
    · refine lv_tableIn (off := 44) (tgt := 45) X.1 X.2.1 d_X_count_1 (by omega) (by omega) (by rw [t1]; rfl) (by decide) ?_
      refine lv_aload_n X.1 X.2.1 d_X_count_45 rfl (lv_at hl 0 rfl) ?_
      refine zx_get (v := .ref (ad (4))) X hH fg_X_27 (by omega) hT.1 rfl d_X_count_46 ?_
      refine zx_get (v := .int (nI (q 3))) X hH fg_X_76 (by omega) hT.2.2.2.1.1 rfl d_X_count_49 ?_
      exact zx_iret X hr hlk hH (Nat.le_of_ble_eq_true rfl) (Nat.le_of_ble_eq_true rfl) d_X_count_52 ⟨rfl, rfl, rfl, by unfold zs_cnt; rw [if_neg t0, if_pos t1]⟩
    · skip
      by_cases t2 : x.toInt = 2
      · refine lv_tableIn (off := 52) (tgt := 53) X.1 X.2.1 d_X_count_1 (by omega) (by omega) (by rw [t2]; rfl) (by decide) ?_
        refine lv_aload_n X.1 X.2.1 d_X_count_53 rfl (lv_at hl 0 rfl) ?_
        refine zx_get (v := .ref (ad (6))) X hH fg_X_31 (by omega) hT.1 rfl d_X_count_54 ?_
        refine zx_get (v := .int (nI (q 5))) X hH fg_X_76 (by omega) hT.2.2.2.2.1.1 rfl d_X_count_57 ?_
        exact zx_iret X hr hlk hH (Nat.le_of_ble_eq_true rfl) (Nat.le_of_ble_eq_true rfl) d_X_count_60 ⟨rfl, rfl, rfl, by unfold zs_cnt; rw [if_neg t0, if_neg t1, if_pos t2]⟩
      · skip
        by_cases t3 : x.toInt = 3
        · refine lv_tableIn (off := 60) (tgt := 61) X.1 X.2.1 d_X_count_1 (by omega) (by omega) (by rw [t3]; rfl) (by decide) ?_
          refine lv_aload_n X.1 X.2.1 d_X_count_61 rfl (lv_at hl 0 rfl) ?_
          refine zx_calli (zx_runV (As := []) (rest := []) X hH mv_X_123 ((c_X_countGoingOn g l N ad E F q rg ev sf lf hF8 hN hT hok) _) (by omega) hT.1 rfl ⟨Nat.le_of_ble_eq_true rfl, Nat.le_of_ble_eq_true rfl⟩ rfl hl rfl (Nat.le_of_ble_eq_true rfl) d_X_count_62 ⟨Nat.le_of_ble_eq_true rfl, Nat.le_of_ble_eq_true rfl⟩) hH (fun r N1 ad1 E1 H locs hq hH => ?_)
          obtain ⟨rfl, rfl, rfl, rfl⟩ := hq
          exact zx_iret X hr hlk hH (Nat.le_of_ble_eq_true rfl) (Nat.le_of_ble_eq_true rfl) d_X_count_65 ⟨rfl, rfl, rfl, by unfold zs_cnt; rw [if_neg t0, if_neg t1, if_neg t2, if_pos t3]⟩
        · skip
          by_cases t4 : x.toInt = 4
          · refine lv_tableIn (off := 65) (tgt := 66) X.1 X.2.1 d_X_count_1 (by omega) (by omega) (by rw [t4]; rfl) (by decide) ?_
            refine lv_aload_n X.1 X.2.1 d_X_count_66 rfl (lv_at hl 0 rfl) ?_
            refine zx_get (v := .int (nI (q 1))) X hH fg_X_85 (by omega) hT.1 rfl d_X_count_67 ?_
            exact zx_iret X hr hlk hH (Nat.le_of_ble_eq_true rfl) (Nat.le_of_ble_eq_true rfl) d_X_count_70 ⟨rfl, rfl, rfl, by unfold zs_cnt; rw [if_neg t0, if_neg t1, if_neg t2, if_neg t3, if_pos t4]⟩
          · skip
            by_cases t5 : x.toInt = 5
            · refine lv_tableIn (off := 70) (tgt := 71) X.1 X.2.1 d_X_count_1 (by omega) (by omega) (by rw [t5]; rfl) (by decide) ?_
              refine lv_aload_n X.1 X.2.1 d_X_count_71 rfl (lv_at hl 0 rfl) ?_
              refine zx_get (v := .int (nI (q 2))) X hH fg_X_34 (by omega) hT.1 rfl d_X_count_72 ?_
              refine lv_if_eq (tgt := 82) X.1 X.2.1 d_X_count_75 (by decide) (fun c1 => ?_) (fun c1 => ?_)
              · have c1 := (zn_eq (nI_toInt (by omega)) zn_0).mp c1
                refine lv_iconst (v := nI 0) X.1 X.2.1 d_X_count_82 (by decide) ?_
                exact zx_iret X hr hlk hH (Nat.le_of_ble_eq_true rfl) (Nat.le_of_ble_eq_true rfl) d_X_count_83 ⟨rfl, rfl, rfl, by unfold zs_cnt; rw [if_neg t0, if_neg t1, if_neg t2, if_neg t3, if_neg t4, if_pos t5, show q 2 = 0 by omega]⟩
              · have c1 := mt (zn_eq (nI_toInt (by omega)) zn_0).mpr c1
                refine lv_iconst (v := nI 1) X.1 X.2.1 d_X_count_78 (by decide) ?_
                refine lv_goto (tgt := 83) X.1 X.2.1 d_X_count_79 (by decide) ?_
                exact zx_iret X hr hlk hH (Nat.le_of_ble_eq_true rfl) (Nat.le_of_ble_eq_true rfl) d_X_count_83 ⟨rfl, rfl, rfl, by unfold zs_cnt; rw [if_neg t0, if_neg t1, if_neg t2, if_neg t3, if_neg t4, if_pos t5, show q 2 = 1 by omega]⟩
            · skip
              refine lv_tableOut (tgt := 84) X.1 X.2.1 d_X_count_1 (by omega) (by decide) ?_
              refine lv_iload_n X.1 X.2.1 d_X_count_84 rfl (lv_at hl 1 rfl) ?_
              refine lv_bipush (v := nI 10) X.1 X.2.1 d_X_count_85 (by decide) ?_
              refine lv_isub X.1 X.2.1 d_X_count_87 ?_
              refine lv_istore_n (lv' := [(2, .int ((x) - (nI (10)))), (0, .ref (ad (0))), (1, .int (x))]) X.1 X.2.1 d_X_count_88 rfl hl (by decide) rfl (fun ls hl => ?_)
              refine lv_iload_n X.1 X.2.1 d_X_count_89 rfl (lv_at hl 0 rfl) ?_
              have hs := zn_sub10 x
              refine zx_calli (zx_runS (As := [.int ((x) - (nI (10)))]) (rest := []) X hH ms_X_52 ((c_X_isEvent g l N ad E (x - nI 10)) _) ⟨Nat.le_of_ble_eq_true rfl, Nat.le_of_ble_eq_true rfl⟩ rfl hl rfl (Nat.le_of_ble_eq_true rfl) d_X_count_90 ⟨Nat.le_of_ble_eq_true rfl, Nat.le_of_ble_eq_true rfl⟩) hH (fun r N1 ad1 E1 H locs hq hH => ?_)
              obtain ⟨rfl, rfl, rfl, rfl⟩ := hq
              by_cases d1 : 10 ≤ x.toInt ∧ x.toInt < 26
              · refine zx_top (b := nI 1) (by rw [if_pos (hs.mpr d1)]) ?_
                refine lv_if_eq (tgt := 107) X.1 X.2.1 d_X_count_93 (by decide) (fun z => absurd z (by decide)) (fun _ => ?_)
                refine lv_aload_n X.1 X.2.1 d_X_count_96 rfl (lv_at hl 1 rfl) ?_
                refine zx_get (v := .ref (ad (2))) X hH fg_X_18 (by omega) hT.1 rfl d_X_count_97 ?_
                refine lv_iload_n X.1 X.2.1 d_X_count_100 rfl (lv_at hl 0 rfl) ?_
                refine zx_top (zn_sub10e d1.1) ?_
                refine zx_calli (zx_runV (As := [.int (nI (x.toInt.toNat - 10))]) (rest := []) X hH mv_X_69 ((c_V_untaken g l N ad E 2 3 ev (by omega) (by omega) (by decide) hT.2.2.1 (x.toInt.toNat - 10) (by omega)) _) (by omega) hT.2.2.1.1 rfl ⟨Nat.le_of_ble_eq_true rfl, Nat.le_of_ble_eq_true rfl⟩ rfl hl rfl (Nat.le_of_ble_eq_true rfl) d_X_count_101 ⟨Nat.le_of_ble_eq_true rfl, Nat.le_of_ble_eq_true rfl⟩) hH (fun r N1 ad1 E1 H locs hq hH => ?_)
                obtain ⟨rfl, rfl, rfl, rfl⟩ := hq
                refine lv_goto (tgt := 108) X.1 X.2.1 d_X_count_104 (by decide) ?_
                exact zx_iret X hr hlk hH (Nat.le_of_ble_eq_true rfl) (Nat.le_of_ble_eq_true rfl) d_X_count_108 ⟨rfl, rfl, rfl, by unfold zs_cnt; rw [if_neg t0, if_neg t1, if_neg t2, if_neg t3, if_neg t4, if_neg t5, if_pos d1]⟩
              · refine zx_top (b := nI 0) (by rw [if_neg (fun z => d1 (hs.mp z))]) ?_
                refine lv_if_eq (tgt := 107) X.1 X.2.1 d_X_count_93 (by decide) (fun _ => ?_) (fun z => absurd rfl z)
                refine lv_iconst (v := (-1)) X.1 X.2.1 d_X_count_107 (by decide) ?_
                exact zx_iret X hr hlk hH (Nat.le_of_ble_eq_true rfl) (Nat.le_of_ble_eq_true rfl) d_X_count_108 ⟨rfl, rfl, rfl, by unfold zs_cnt; rw [if_neg t0, if_neg t1, if_neg t2, if_neg t3, if_neg t4, if_neg t5, if_neg d1]⟩

set_option maxHeartbeats 4000000 in
set_option maxRecDepth 100000 in
theorem c_X_run_off (g : zw_G) (l : Launch) (N : Nat) (ad : Nat → Nat) (E : Nat → va_E) (F : Nat) (q : Nat → Nat) (rg : zt_R) (ev sf lf : Nat → Nat) (hF8 : 8 ≤ F) (hN : N = F + 5 * q 0) (hT : zt_at g ad E F q rg ev sf lf) (hok : zt_ok q rg ev sf) (hcl : ¬ q 2 = 0) : zc_i g l y_X_run b_X_run 4 (some .int) { frames := 0, cells := 0, slots := 0, locals := 0 } [.ref (ad (0))] N ad E (fun v N1 ad1 E1 => N = N1 ∧ ad = ad1 ∧ E = E1 ∧ v = -5) := by
  refine zc_i.of (by decide) (Nat.le_of_ble_eq_true rfl) ?_
  intro p e s m below meth c ls A X hr hlk hl hH
  have hl : lv_has ls 4 [(0, .ref (ad (0)))] := hl
  obtain ⟨k0, k2, k3, k3a, k4, k4a, k5, k5a, k6, k6a⟩ := hok.1
  refine lv_aload_n X.1 X.2.1 d_X_run_0 rfl (lv_at hl 0 rfl) ?_
  refine zx_get (v := .int (nI (q 2))) X hH fg_X_34 (by omega) hT.1 rfl d_X_run_1 ?_
  refine lv_if_eq (tgt := 10) X.1 X.2.1 d_X_run_4 (by decide) (fun c1 => ?_) (fun c1 => ?_)
  · have c1 := (zn_eq (nI_toInt (by omega)) zn_0).mp c1
    exfalso; omega
  · have c1 := mt (zn_eq (nI_toInt (by omega)) zn_0).mpr c1
    refine lv_bipush (v := (-5)) X.1 X.2.1 d_X_run_7 (by decide) ?_
    exact zx_iret X hr hlk hH (Nat.le_of_ble_eq_true rfl) (Nat.le_of_ble_eq_true rfl) d_X_run_9 ⟨rfl, rfl, rfl, rfl⟩

set_option maxHeartbeats 4000000 in
set_option maxRecDepth 100000 in
theorem c_X_close_off (g : zw_G) (l : Launch) (N : Nat) (ad : Nat → Nat) (E : Nat → va_E) (F : Nat) (q : Nat → Nat) (rg : zt_R) (ev sf lf : Nat → Nat) (hF8 : 8 ≤ F) (hN : N = F + 5 * q 0) (hT : zt_at g ad E F q rg ev sf lf) (hok : zt_ok q rg ev sf) (hcl : ¬ q 2 = 0) : zc_i g l y_X_close b_X_close 2 (some .int) { frames := 0, cells := 0, slots := 0, locals := 0 } [.ref (ad (0))] N ad E (fun v N1 ad1 E1 => N = N1 ∧ ad = ad1 ∧ E = E1 ∧ v = -5) := by
  refine zc_i.of (by decide) (Nat.le_of_ble_eq_true rfl) ?_
  intro p e s m below meth c ls A X hr hlk hl hH
  have hl : lv_has ls 2 [(0, .ref (ad (0)))] := hl
  obtain ⟨k0, k2, k3, k3a, k4, k4a, k5, k5a, k6, k6a⟩ := hok.1
  refine lv_aload_n X.1 X.2.1 d_X_close_0 rfl (lv_at hl 0 rfl) ?_
  refine zx_get (v := .int (nI (q 2))) X hH fg_X_34 (by omega) hT.1 rfl d_X_close_1 ?_
  refine lv_if_eq (tgt := 10) X.1 X.2.1 d_X_close_4 (by decide) (fun c1 => ?_) (fun c1 => ?_)
  · have c1 := (zn_eq (nI_toInt (by omega)) zn_0).mp c1
    exfalso; omega
  · have c1 := mt (zn_eq (nI_toInt (by omega)) zn_0).mpr c1
    refine lv_bipush (v := (-5)) X.1 X.2.1 d_X_close_7 (by decide) ?_
    exact zx_iret X hr hlk hH (Nat.le_of_ble_eq_true rfl) (Nat.le_of_ble_eq_true rfl) d_X_close_9 ⟨rfl, rfl, rfl, rfl⟩

set_option maxHeartbeats 4000000 in
set_option maxRecDepth 100000 in
theorem c_X_shutdown_off (g : zw_G) (l : Launch) (N : Nat) (ad : Nat → Nat) (E : Nat → va_E) (F : Nat) (q : Nat → Nat) (rg : zt_R) (ev sf lf : Nat → Nat) (hF8 : 8 ≤ F) (hN : N = F + 5 * q 0) (hT : zt_at g ad E F q rg ev sf lf) (hok : zt_ok q rg ev sf) (hcl : ¬ q 2 = 0) (bq : Nat) : zc_i g l y_X_shutdown b_X_shutdown 3 (some .int) { frames := 0, cells := 0, slots := 0, locals := 0 } [.ref (ad (0)), .int (nI (bq))] N ad E (fun v N1 ad1 E1 => N = N1 ∧ ad = ad1 ∧ E = E1 ∧ v = -5) := by
  refine zc_i.of (by decide) (Nat.le_of_ble_eq_true rfl) ?_
  intro p e s m below meth c ls A X hr hlk hl hH
  have hl : lv_has ls 3 [(0, .ref (ad (0))), (1, .int (nI (bq)))] := hl
  obtain ⟨k0, k2, k3, k3a, k4, k4a, k5, k5a, k6, k6a⟩ := hok.1
  refine lv_aload_n X.1 X.2.1 d_X_shutdown_0 rfl (lv_at hl 0 rfl) ?_
  refine zx_get (v := .int (nI (q 2))) X hH fg_X_34 (by omega) hT.1 rfl d_X_shutdown_1 ?_
  refine lv_if_eq (tgt := 10) X.1 X.2.1 d_X_shutdown_4 (by decide) (fun c1 => ?_) (fun c1 => ?_)
  · have c1 := (zn_eq (nI_toInt (by omega)) zn_0).mp c1
    exfalso; omega
  · have c1 := mt (zn_eq (nI_toInt (by omega)) zn_0).mpr c1
    refine lv_bipush (v := (-5)) X.1 X.2.1 d_X_shutdown_7 (by decide) ?_
    exact zx_iret X hr hlk hH (Nat.le_of_ble_eq_true rfl) (Nat.le_of_ble_eq_true rfl) d_X_shutdown_9 ⟨rfl, rfl, rfl, rfl⟩

set_option maxHeartbeats 4000000 in
set_option maxRecDepth 100000 in
theorem c_X_close (g : zw_G) (l : Launch) (N : Nat) (ad : Nat → Nat) (E : Nat → va_E) (F : Nat) (q : Nat → Nat) (rg : zt_R) (ev sf lf : Nat → Nat) (hF8 : 8 ≤ F) (hN : N = F + 5 * q 0) (hT : zt_at g ad E F q rg ev sf lf) (hok : zt_ok q rg ev sf) (hop : q 2 = 0) : zc_i g l y_X_close b_X_close 2 (some .int) { frames := 3, cells := 0, slots := 0, locals := 120 } [.ref (ad (0))] N ad E (fun v N1 ad1 E1 => N = N1 ∧ ad = ad1 ∧ v = nI (zp_cnt (fun i => decide ((rg i).1 2 = 0)) (q 0)) ∧ zt_at g ad E1 F (va_up (va_up q 2 1) 3 0) (zp_map zp_left rg (q 0)) ev sf lf ∧ zt_fr E E1 F) := by
  refine zc_i.of (by decide) (Nat.le_of_ble_eq_true rfl) ?_
  intro p e s m below meth c ls A X hr hlk hl hH
  have hl : lv_has ls 2 [(0, .ref (ad (0)))] := hl
  obtain ⟨k0, k2, k3, k3a, k4, k4a, k5, k5a, k6, k6a⟩ := hok.1
  refine lv_aload_n X.1 X.2.1 d_X_close_0 rfl (lv_at hl 0 rfl) ?_
  refine zx_get (v := .int (nI (q 2))) X hH fg_X_34 (by omega) hT.1 rfl d_X_close_1 ?_
  refine lv_if_eq (tgt := 10) X.1 X.2.1 d_X_close_4 (by decide) (fun c1 => ?_) (fun c1 => ?_)
  · have c1 := (zn_eq (nI_toInt (by omega)) zn_0).mp c1
    refine lv_aload_n X.1 X.2.1 d_X_close_10 rfl (lv_at hl 0 rfl) ?_
    refine lv_iconst (v := nI 1) X.1 X.2.1 d_X_close_11 (by decide) ?_
    refine zx_put X hH fp_X_34 (by omega) hT.1 (Nat.le_of_ble_eq_true rfl) rfl rfl d_X_close_12 (fun H locs hH => ?_)
    have hH : zw_H g A s.heap s N ad (va_up E 0 (zt_o ad (va_up q 2 1))) H locs := hH
    have hT := hT.num (q1 := (va_up q 2 1)) hF8 rfl rfl rfl rfl rfl
    have hF : zt_fr E (va_up E 0 (zt_o ad (va_up q 2 1))) F := fun j a b => va_up_ne _ _ (by omega)
    generalize va_up E 0 (zt_o ad (va_up q 2 1)) = E1 at hH hT hF
    have hok1 := hok.cls
    refine lv_aload_n X.1 X.2.1 d_X_close_15 rfl (lv_at hl 0 rfl) ?_
    refine zx_get (v := .ref (ad (4))) X hH fg_X_27 (by omega) hT.1 rfl d_X_close_16 ?_
    refine zx_callv (zx_runV (As := []) (rest := []) X hH mv_X_88 ((c_O_makeEmpty g l N ad E1 4 5 600 ((va_up q 2 1) 3) ((va_up q 2 1) 4) sf (by omega) (by omega) (by decide) hok1.1.2.2.2.1 (Nat.le_trans hok1.1.2.2.2.2.2.1 (by decide)) (by decide) hT.2.2.2.1) _) (by omega) hT.2.2.2.1.1 rfl ⟨Nat.le_of_ble_eq_true rfl, Nat.le_of_ble_eq_true rfl⟩ rfl hl rfl (Nat.le_of_ble_eq_true rfl) d_X_close_19 ⟨(by dsimp only; omega), (by dsimp only; omega)⟩) hH (fun N1 ad1 E2 H locs hq hH => ?_)
    obtain ⟨rfl, rfl, hO, hf2⟩ := hq
    have hT := hT.sch (q1 := (va_up (va_up q 2 1) 3 0)) hF8 hN hO (fun _ _ _ => rfl) (fun j _ a b => hf2 j a b) rfl rfl rfl rfl rfl
    have hF := hF.tr (fun j a b => hf2 j (by omega) (by omega))
    have hok1 := hok1.clr
    refine lv_aload_n X.1 X.2.1 d_X_close_22 rfl (lv_at hl 0 rfl) ?_
    refine zx_calli (zx_runV (As := []) (rest := []) X hH mv_X_123 ((c_X_countGoingOn g l N ad E2 F (va_up (va_up q 2 1) 3 0) rg ev sf lf hF8 hN hT hok1) _) (by omega) hT.1 rfl ⟨Nat.le_of_ble_eq_true rfl, Nat.le_of_ble_eq_true rfl⟩ rfl hl rfl (Nat.le_of_ble_eq_true rfl) d_X_close_23 ⟨(by dsimp only; omega), (by dsimp only; omega)⟩) hH (fun r N1 ad1 E1 H locs hq hH => ?_)
    obtain ⟨rfl, rfl, rfl, rfl⟩ := hq
    refine lv_istore_n (lv' := [(1, .int (nI (zp_cnt (fun i => decide ((rg i).1 2 = 0)) (q 0)))), (0, .ref (ad (0)))]) X.1 X.2.1 d_X_close_26 rfl hl (by decide) rfl (fun ls hl => ?_)
    refine lv_aload_n X.1 X.2.1 d_X_close_27 rfl (lv_at hl 1 rfl) ?_
    refine zx_callv (zx_runV (As := []) (rest := []) X hH mv_X_114 ((c_X_leaveAll g l N ad E2 F (va_up (va_up q 2 1) 3 0) rg ev sf lf hF8 hN hT hok1) _) (by omega) hT.1 rfl ⟨Nat.le_of_ble_eq_true rfl, Nat.le_of_ble_eq_true rfl⟩ rfl hl rfl (Nat.le_of_ble_eq_true rfl) d_X_close_28 ⟨(by dsimp only; omega), (by dsimp only; omega)⟩) hH (fun N1 ad1 E3 H locs hq hH => ?_)
    obtain ⟨rfl, rfl, hT, hf3⟩ := hq
    have hF := hF.tr hf3
    refine lv_iload_n X.1 X.2.1 d_X_close_31 rfl (lv_at hl 0 rfl) ?_
    exact zx_iret X hr hlk hH (Nat.le_of_ble_eq_true rfl) (Nat.le_of_ble_eq_true rfl) d_X_close_32 ⟨rfl, rfl, rfl, hT, hF⟩
  · have c1 := mt (zn_eq (nI_toInt (by omega)) zn_0).mpr c1
    refine lv_bipush (v := (-5)) X.1 X.2.1 d_X_close_7 (by decide) ?_
    exfalso; omega

set_option maxHeartbeats 4000000 in
set_option maxRecDepth 100000 in
theorem c_X_quick (g : zw_G) (l : Launch) (N : Nat) (ad : Nat → Nat) (E : Nat → va_E) (F : Nat) (q : Nat → Nat) (rg : zt_R) (ev sf lf : Nat → Nat) (hF8 : 8 ≤ F) (hN : N = F + 5 * q 0) (hT : zt_at g ad E F q rg ev sf lf) (hok : zt_ok q rg ev sf) (hop : q 2 = 0) : zc_i g l y_X_shutdown b_X_shutdown 3 (some .int) { frames := 3, cells := 0, slots := 0, locals := 120 } [.ref (ad (0)), .int (nI (1))] N ad E (fun v N1 ad1 E1 => N = N1 ∧ ad = ad1 ∧ v = nI (zp_cnt (fun i => decide ((rg i).1 2 = 0 ∧ 0 < (rg i).1 3 - (rg i).1 4)) (q 0)) ∧ zt_at g ad E1 F (va_up q 3 0) (zp_map zp_left rg (q 0)) ev sf lf ∧ zt_fr E E1 F) := by
  refine zc_i.of (by decide) (Nat.le_of_ble_eq_true rfl) ?_
  intro p e s m below meth c ls A X hr hlk hl hH
  have hl : lv_has ls 3 [(0, .ref (ad (0))), (1, .int (nI (1)))] := hl
  obtain ⟨k0, k2, k3, k3a, k4, k4a, k5, k5a, k6, k6a⟩ := hok.1
  have hF : zt_fr E E F := zt_fr.rf
  have hok1 := hok
  refine lv_aload_n X.1 X.2.1 d_X_shutdown_0 rfl (lv_at hl 0 rfl) ?_
  refine zx_get (v := .int (nI (q 2))) X hH fg_X_34 (by omega) hT.1 rfl d_X_shutdown_1 ?_
  refine lv_if_eq (tgt := 10) X.1 X.2.1 d_X_shutdown_4 (by decide) (fun c1 => ?_) (fun c1 => ?_)
  · have c1 := (zn_eq (nI_toInt (by omega)) zn_0).mp c1
    refine lv_aload_n X.1 X.2.1 d_X_shutdown_10 rfl (lv_at hl 0 rfl) ?_
    refine zx_get (v := .ref (ad (4))) X hH fg_X_27 (by omega) hT.1 rfl d_X_shutdown_11 ?_
    refine zx_callv (zx_runV (As := []) (rest := []) X hH mv_X_88 ((c_O_makeEmpty g l N ad E 4 5 600 (q 3) (q 4) sf (by omega) (by omega) (by decide) hok1.1.2.2.2.1 (Nat.le_trans hok1.1.2.2.2.2.2.1 (by decide)) (by decide) hT.2.2.2.1) _) (by omega) hT.2.2.2.1.1 rfl ⟨Nat.le_of_ble_eq_true rfl, Nat.le_of_ble_eq_true rfl⟩ rfl hl rfl (Nat.le_of_ble_eq_true rfl) d_X_shutdown_14 ⟨(by dsimp only; omega), (by dsimp only; omega)⟩) hH (fun N1 ad1 E2 H locs hq hH => ?_)
    obtain ⟨rfl, rfl, hO, hf2⟩ := hq
    have hT := hT.sch (q1 := (va_up q 3 0)) hF8 hN hO (fun _ _ _ => rfl) (fun j _ a b => hf2 j a b) rfl rfl rfl rfl rfl
    have hF := hF.tr (fun j a b => hf2 j (by omega) (by omega))
    have hok1 := hok1.clr
    refine lv_iload_n X.1 X.2.1 d_X_shutdown_17 rfl (lv_at hl 1 rfl) ?_
    refine lv_if_ne (tgt := 29) X.1 X.2.1 d_X_shutdown_18 (by decide) (fun c2 => ?_) (fun c2 => ?_)
    · have c2 := mt (zn_eq (nI_toInt (by omega)) zn_0).mpr c2
      refine lv_aload_n X.1 X.2.1 d_X_shutdown_29 rfl (lv_at hl 0 rfl) ?_
      refine zx_calli (zx_runV (As := []) (rest := []) X hH mv_X_110 ((c_X_countOpenUnits g l N ad E2 F (va_up q 3 0) rg ev sf lf hF8 hN hT hok1) _) (by omega) hT.1 rfl ⟨Nat.le_of_ble_eq_true rfl, Nat.le_of_ble_eq_true rfl⟩ rfl hl rfl (Nat.le_of_ble_eq_true rfl) d_X_shutdown_30 ⟨(by dsimp only; omega), (by dsimp only; omega)⟩) hH (fun r N1 ad1 E1 H locs hq hH => ?_)
      obtain ⟨rfl, rfl, rfl, rfl⟩ := hq
      refine lv_istore_n (lv' := [(2, .int (nI (zp_cnt (fun i => decide ((rg i).1 2 = 0 ∧ 0 < (rg i).1 3 - (rg i).1 4)) (q 0)))), (0, .ref (ad (0))), (1, .int (nI (1)))]) X.1 X.2.1 d_X_shutdown_33 rfl hl (by decide) rfl (fun ls hl => ?_)
      refine lv_aload_n X.1 X.2.1 d_X_shutdown_34 rfl (lv_at hl 1 rfl) ?_
      refine zx_callv (zx_runV (As := []) (rest := []) X hH mv_X_114 ((c_X_leaveAll g l N ad E2 F (va_up q 3 0) rg ev sf lf hF8 hN hT hok1) _) (by omega) hT.1 rfl ⟨Nat.le_of_ble_eq_true rfl, Nat.le_of_ble_eq_true rfl⟩ rfl hl rfl (Nat.le_of_ble_eq_true rfl) d_X_shutdown_35 ⟨(by dsimp only; omega), (by dsimp only; omega)⟩) hH (fun N1 ad1 E3 H locs hq hH => ?_)
      obtain ⟨rfl, rfl, hT, hf3⟩ := hq
      have hF := hF.tr hf3
      refine lv_iload_n X.1 X.2.1 d_X_shutdown_38 rfl (lv_at hl 0 rfl) ?_
      exact zx_iret X hr hlk hH (Nat.le_of_ble_eq_true rfl) (Nat.le_of_ble_eq_true rfl) d_X_shutdown_39 ⟨rfl, rfl, rfl, hT, hF⟩
    · have c2 := (zn_eq (nI_toInt (by omega)) zn_0).mp c2
      exfalso; omega
  · have c1 := mt (zn_eq (nI_toInt (by omega)) zn_0).mpr c1
    refine lv_bipush (v := (-5)) X.1 X.2.1 d_X_shutdown_7 (by decide) ?_
    exfalso; omega

set_option maxHeartbeats 4000000 in
set_option maxRecDepth 100000 in
theorem c_X_slow (g : zw_G) (l : Launch) (N : Nat) (ad : Nat → Nat) (E : Nat → va_E) (F : Nat) (q : Nat → Nat) (rg : zt_R) (ev sf lf : Nat → Nat) (hF8 : 8 ≤ F) (hN : N = F + 5 * q 0) (hT : zt_at g ad E F q rg ev sf lf) (hok : zt_ok q rg ev sf) (hop : q 2 = 0) (kc ks : Nat) (hkc : (zp_rnds (q 0) 3031 ((va_up q 3 0), rg, ev, lf)).1 6 ≤ q 6 + kc) (hks : 2 * (zp_rnds (q 0) 3031 ((va_up q 3 0), rg, ev, lf)).1 6 ≤ 2 * q 6 + ks) : zc_i g l y_X_shutdown b_X_shutdown 3 (some .int) { frames := 7, cells := kc, slots := ks, locals := 280 } [.ref (ad (0)), .int (nI (0))] N ad E (fun v N1 ad1 E1 => N = N1 ∧ (∀ k, k ≠ 7 → k < N → ad1 k = ad k) ∧ v = nI (zp_cnt (fun i => decide (((zp_map zp_canc (zp_rnds (q 0) 3031 ((va_up q 3 0), rg, ev, lf)).2.1 (q 0)) i).1 2 = 0 ∧ 0 < ((zp_map zp_canc (zp_rnds (q 0) 3031 ((va_up q 3 0), rg, ev, lf)).2.1 (q 0)) i).1 3 - ((zp_map zp_canc (zp_rnds (q 0) 3031 ((va_up q 3 0), rg, ev, lf)).2.1 (q 0)) i).1 4)) (q 0)) ∧ zt_at g ad1 E1 F (zp_rnds (q 0) 3031 ((va_up q 3 0), rg, ev, lf)).1 (zp_map zp_left (zp_map zp_canc (zp_rnds (q 0) 3031 ((va_up q 3 0), rg, ev, lf)).2.1 (q 0)) (q 0)) (zp_rnds (q 0) 3031 ((va_up q 3 0), rg, ev, lf)).2.2.1 sf (zp_rnds (q 0) 3031 ((va_up q 3 0), rg, ev, lf)).2.2.2 ∧ zt_fr E E1 F) := by
  refine zc_i.of (by decide) (Nat.le_of_ble_eq_true rfl) ?_
  intro p e s m below meth c ls A X hr hlk hl hH
  have hl : lv_has ls 3 [(0, .ref (ad (0))), (1, .int (nI (0)))] := hl
  obtain ⟨k0, k2, k3, k3a, k4, k4a, k5, k5a, k6, k6a⟩ := hok.1
  have hF : zt_fr E E F := zt_fr.rf
  have hok1 := hok
  refine lv_aload_n X.1 X.2.1 d_X_shutdown_0 rfl (lv_at hl 0 rfl) ?_
  refine zx_get (v := .int (nI (q 2))) X hH fg_X_34 (by omega) hT.1 rfl d_X_shutdown_1 ?_
  refine lv_if_eq (tgt := 10) X.1 X.2.1 d_X_shutdown_4 (by decide) (fun c1 => ?_) (fun c1 => ?_)
  · have c1 := (zn_eq (nI_toInt (by omega)) zn_0).mp c1
    refine lv_aload_n X.1 X.2.1 d_X_shutdown_10 rfl (lv_at hl 0 rfl) ?_
    refine zx_get (v := .ref (ad (4))) X hH fg_X_27 (by omega) hT.1 rfl d_X_shutdown_11 ?_
    refine zx_callv (zx_runV (As := []) (rest := []) X hH mv_X_88 ((c_O_makeEmpty g l N ad E 4 5 600 (q 3) (q 4) sf (by omega) (by omega) (by decide) hok1.1.2.2.2.1 (Nat.le_trans hok1.1.2.2.2.2.2.1 (by decide)) (by decide) hT.2.2.2.1) _) (by omega) hT.2.2.2.1.1 rfl ⟨Nat.le_of_ble_eq_true rfl, Nat.le_of_ble_eq_true rfl⟩ rfl hl rfl (Nat.le_of_ble_eq_true rfl) d_X_shutdown_14 ⟨(by dsimp only; omega), (by dsimp only; omega)⟩) hH (fun N1 ad1 E2 H locs hq hH => ?_)
    obtain ⟨rfl, rfl, hO, hf2⟩ := hq
    have hT := hT.sch (q1 := (va_up q 3 0)) hF8 hN hO (fun _ _ _ => rfl) (fun j _ a b => hf2 j a b) rfl rfl rfl rfl rfl
    have hF := hF.tr (fun j a b => hf2 j (by omega) (by omega))
    have hok1 := hok1.clr
    refine lv_iload_n X.1 X.2.1 d_X_shutdown_17 rfl (lv_at hl 1 rfl) ?_
    refine lv_if_ne (tgt := 29) X.1 X.2.1 d_X_shutdown_18 (by decide) (fun c2 => ?_) (fun c2 => ?_)
    · have c2 := mt (zn_eq (nI_toInt (by omega)) zn_0).mpr c2
      exfalso; omega
    · have c2 := (zn_eq (nI_toInt (by omega)) zn_0).mp c2
      refine lv_aload_n X.1 X.2.1 d_X_shutdown_21 rfl (lv_at hl 0 rfl) ?_
      obtain ⟨G, hG⟩ : ∃ G, (zp_rnds (q 0) 3031 ((va_up q 3 0), rg, ev, lf)) = G := ⟨_, rfl⟩
      obtain ⟨g0, g1, g2, g3, g4, g6⟩ := zp_rnds_fix (q 0) 3031 ((va_up q 3 0), rg, ev, lf)
      have gok := zt_ok.rnds (sf := sf) (q 0) 3031 ((va_up q 3 0), rg, ev, lf) (Nat.le_refl _) hok1
      rw [hG] at g0 g1 g2 g3 g4 g6 gok hkc hks
      have g0 : G.1 0 = q 0 := g0
      have g6 : q 6 ≤ G.1 6 := g6
      refine zx_callv (zx_runV (As := []) (rest := []) X hH mv_X_104 ((c_X_giveRounds g l N ad E2 F (va_up q 3 0) rg ev sf lf hF8 hN hT hok1 (G.1 6 - q 6) (2 * (G.1 6 - q 6)) (by show ((zp_rnds (q 0) 3031 ((va_up q 3 0), rg, ev, lf))).1 6 ≤ q 6 + _; rw [hG]; omega) (by show 2 * ((zp_rnds (q 0) 3031 ((va_up q 3 0), rg, ev, lf))).1 6 ≤ 2 * q 6 + _; rw [hG]; omega)) _) (by omega) hT.1 rfl ⟨Nat.le_of_ble_eq_true rfl, Nat.le_of_ble_eq_true rfl⟩ rfl hl rfl (Nat.le_of_ble_eq_true rfl) d_X_shutdown_22 ⟨(by dsimp only; omega), (by dsimp only; omega)⟩) hH (fun N1 ad2 E3 H locs hq hH => ?_)
      obtain ⟨rfl, ha, hT, hf3⟩ := hq
      have hT : zt_at g ad2 E3 F ((zp_rnds (q 0) 3031 ((va_up q 3 0), rg, ev, lf))).1 ((zp_rnds (q 0) 3031 ((va_up q 3 0), rg, ev, lf))).2.1 ((zp_rnds (q 0) 3031 ((va_up q 3 0), rg, ev, lf))).2.2.1 sf ((zp_rnds (q 0) 3031 ((va_up q 3 0), rg, ev, lf))).2.2.2 := hT
      rw [hG] at hT
      have hF := hF.tr hf3
      have hN1 : N = F + 5 * G.1 0 := by rw [g0]; exact hN
      rw [← ha 0 (by decide) (by omega)] at hl
      refine W.cs (cells' := G.1 6 - q 6) (slots' := 2 * (G.1 6 - q 6)) (by dsimp only; omega) (by dsimp only; omega) ?_
      refine lv_aload_n X.1 X.2.1 d_X_shutdown_25 rfl (lv_at hl 0 rfl) ?_
      refine zx_callv (zx_runV (As := []) (rest := []) X hH mv_X_107 ((c_X_cancelThoseThatMay g l N ad2 E3 F G.1 G.2.1 G.2.2.1 sf G.2.2.2 hF8 hN1 hT gok) _) (by omega) hT.1 rfl ⟨Nat.le_of_ble_eq_true rfl, Nat.le_of_ble_eq_true rfl⟩ rfl hl rfl (Nat.le_of_ble_eq_true rfl) d_X_shutdown_26 ⟨(by dsimp only; omega), (by dsimp only; omega)⟩) hH (fun N1 ad1 E4 H locs hq hH => ?_)
      obtain ⟨rfl, rfl, hT, hf4⟩ := hq
      have hF := hF.tr hf4
      have gok2 := gok.map (fun _ h => zr_ok.canc h) (G.1 0)
      refine lv_aload_n X.1 X.2.1 d_X_shutdown_29 rfl (lv_at hl 0 rfl) ?_
      refine zx_calli (zx_runV (As := []) (rest := []) X hH mv_X_110 ((c_X_countOpenUnits g l N ad2 E4 F G.1 (zp_map zp_canc G.2.1 (G.1 0)) G.2.2.1 sf G.2.2.2 hF8 hN1 hT gok2) _) (by omega) hT.1 rfl ⟨Nat.le_of_ble_eq_true rfl, Nat.le_of_ble_eq_true rfl⟩ rfl hl rfl (Nat.le_of_ble_eq_true rfl) d_X_shutdown_30 ⟨(by dsimp only; omega), (by dsimp only; omega)⟩) hH (fun r N1 ad1 E1 H locs hq hH => ?_)
      obtain ⟨rfl, rfl, rfl, rfl⟩ := hq
      refine lv_istore_n (lv' := [(2, .int (nI (zp_cnt (fun i => decide (((zp_map zp_canc G.2.1 (G.1 0)) i).1 2 = 0 ∧ 0 < ((zp_map zp_canc G.2.1 (G.1 0)) i).1 3 - ((zp_map zp_canc G.2.1 (G.1 0)) i).1 4)) (G.1 0)))), (0, .ref (ad2 (0))), (1, .int (nI (0)))]) X.1 X.2.1 d_X_shutdown_33 rfl hl (by decide) rfl (fun ls hl => ?_)
      refine lv_aload_n X.1 X.2.1 d_X_shutdown_34 rfl (lv_at hl 1 rfl) ?_
      refine zx_callv (zx_runV (As := []) (rest := []) X hH mv_X_114 ((c_X_leaveAll g l N ad2 E4 F G.1 (zp_map zp_canc G.2.1 (G.1 0)) G.2.2.1 sf G.2.2.2 hF8 hN1 hT gok2) _) (by omega) hT.1 rfl ⟨Nat.le_of_ble_eq_true rfl, Nat.le_of_ble_eq_true rfl⟩ rfl hl rfl (Nat.le_of_ble_eq_true rfl) d_X_shutdown_35 ⟨(by dsimp only; omega), (by dsimp only; omega)⟩) hH (fun N1 ad1 E5 H locs hq hH => ?_)
      obtain ⟨rfl, rfl, hT, hf5⟩ := hq
      have hF := hF.tr hf5
      refine lv_iload_n X.1 X.2.1 d_X_shutdown_38 rfl (lv_at hl 0 rfl) ?_
      rw [g0] at hT
      refine zx_top (b := nI (zp_cnt (fun i => decide (((zp_map zp_canc G.2.1 (q 0)) i).1 2 = 0 ∧ 0 < ((zp_map zp_canc G.2.1 (q 0)) i).1 3 - ((zp_map zp_canc G.2.1 (q 0)) i).1 4)) (q 0))) (by rw [g0]) ?_
      exact zx_iret X hr hlk hH (by dsimp only; omega) (by dsimp only; omega) d_X_shutdown_39 ⟨rfl, ha, by rw [hG], by rw [hG]; exact hT, hF⟩
  · have c1 := mt (zn_eq (nI_toInt (by omega)) zn_0).mpr c1
    refine lv_bipush (v := (-5)) X.1 X.2.1 d_X_shutdown_7 (by decide) ?_
    exfalso; omega
