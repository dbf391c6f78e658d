set_option maxHeartbeats 4000000 in
set_option maxRecDepth 100000 in
theorem c_X_countGoingOn (g : zw_G) (l : Launch) (N : Nat) (ad : Nat → Nat) (E : Nat → va_E) (F : Nat) (q : Nat → Nat) (rg : zt_R) (ev sf lf : Nat → Nat) (hF8 : 8 ≤ F) (hN : N = F + 5 * q 0) (hT : zt_at g ad E F q rg ev sf lf) (hok : zt_ok q rg ev sf) : zc_i g l y_X_countGoingOn b_X_countGoingOn 4 (some .int) { frames := 1, cells := 0, slots := 0, locals := 40 } [.ref (ad (0))] N ad E (fun v N1 ad1 E1 => N = N1 ∧ ad = ad1 ∧ E = E1 ∧ v = nI (zp_cnt (fun i => decide ((rg i).1 2 = 0)) (q 0))) := by
  refine zc_i.of (by decide) (Nat.le_of_ble_eq_true rfl) ?_
  intro p e s m below meth c ls A X hr hlk hl hH
  have hl : lv_has ls 4 [(0, .ref (ad (0)))] := hl
  obtain ⟨k0, k2, k3, k3a, k4, k4a, k5, k5a, k6, k6a⟩ := hok.1
  refine lv_iconst (v := nI 0) X.1 X.2.1 d_X_countGoingOn_0 (by decide) ?_
  refine lv_istore_n (lv' := [(1, .int (nI (0))), (0, .ref (ad (0)))]) X.1 X.2.1 d_X_countGoingOn_1 rfl hl (by decide) rfl (fun ls hl => ?_)
  refine lv_iconst (v := nI 1) X.1 X.2.1 d_X_countGoingOn_2 (by decide) ?_
  refine lv_istore_n (lv' := [(2, .int (nI (1))), (1, .int (nI (0))), (0, .ref (ad (0)))]) X.1 X.2.1 d_X_countGoingOn_3 rfl hl (by decide) rfl (fun ls hl => ?_)
  refine zx_loop (σ := Nat) (fun i H locs ls => i ≤ q 0 ∧ zw_H g A s.heap s N ad E H locs ∧ lv_has ls 4 [(2, .int (nI (i + 1))), (1, .int (nI (zp_cnt (fun i => decide ((rg i).1 2 = 0)) i))), (0, .ref (ad 0))]) (fun i => q 0 - i) (fun _ => 0) (fun _ => 0) ?_ 0 _ _ _ ⟨Nat.zero_le _, hH, hl⟩
  intro i H locs ls ⟨hi, hH, hl⟩ ih
  have hle := zp_cnt_le (fun i => decide ((rg i).1 2 = 0)) i
  refine lv_iload_n X.1 X.2.1 d_X_countGoingOn_4 rfl (lv_at hl 0 rfl) ?_
  refine lv_aload_n X.1 X.2.1 d_X_countGoingOn_5 rfl (lv_at hl 2 rfl) ?_
  refine zx_get (v := .int (nI (q 0))) X hH fg_X_38 (by omega) hT.1 rfl d_X_countGoingOn_6 ?_
  refine lv_icmp_gt (tgt := 38) X.1 X.2.1 d_X_countGoingOn_9 (by decide) (fun c1 => ?_) (fun c1 => ?_)
  · have c1 := (zn_lt (nI_toInt (by omega)) (nI_toInt (by omega))).mp c1
    refine lv_iload_n X.1 X.2.1 d_X_countGoingOn_38 rfl (lv_at hl 1 rfl) ?_
    exact zx_iret X hr hlk hH (Nat.le_of_ble_eq_true rfl) (Nat.le_of_ble_eq_true rfl) d_X_countGoingOn_39 ⟨rfl, rfl, rfl, by rw [show i = q 0 by omega]⟩
  · have c1 := mt (zn_lt (nI_toInt (by omega)) (nI_toInt (by omega))).mpr c1
    refine lv_aload_n X.1 X.2.1 d_X_countGoingOn_12 rfl (lv_at hl 2 rfl) ?_
    refine lv_iload_n X.1 X.2.1 d_X_countGoingOn_13 rfl (lv_at hl 0 rfl) ?_
    refine zx_callq (zx_runV (As := [.int (nI (i + 1))]) (rest := []) X hH mv_X_45 ((c_X_find g l N ad E F q rg ev sf lf hF8 hN hT hok (nI (i + 1))) _) (by omega) hT.1 rfl ⟨Nat.le_of_ble_eq_true rfl, Nat.le_of_ble_eq_true rfl⟩ rfl hl rfl (Nat.le_of_ble_eq_true rfl) d_X_countGoingOn_14 ⟨Nat.le_of_ble_eq_true rfl, Nat.le_of_ble_eq_true rfl⟩) hH (fun r N1 ad1 E1 H locs hq hH => ?_)
    obtain ⟨rfl, rfl, rfl, hv⟩ := hq
    have ee := nI_toInt (n := i + 1) (by omega)
    rw [if_pos (by omega), show (nI (i + 1)).toInt.toNat - 1 = i by omega] at hv
    subst hv
    have hi0 : i < q 0 := by omega
    have hR := hT.2.2.2.2.2 i hi0
    have hro := hok.2.1 i hi0
    obtain ⟨r0, r1, r2, r3, r4, r5, r7, r8, r6⟩ := hro.1
    refine W.eq (g2 := F0 m 17 ls ([.ref (ad (F + 5 * i))])) rfl ?_
    refine lv_astore_n (lv' := [(3, .ref (ad (F + 5 * i))), (2, .int (nI (i + 1))), (1, .int (nI (zp_cnt (fun i => decide ((rg i).1 2 = 0)) i))), (0, .ref (ad (0)))]) X.1 X.2.1 d_X_countGoingOn_17 rfl hl (by decide) rfl (fun ls hl => ?_)
    refine lv_aload_n X.1 X.2.1 d_X_countGoingOn_18 rfl (lv_at hl 0 rfl) ?_
    refine lv_ifnull X.1 X.2.1 d_X_countGoingOn_19 ?_
    refine lv_aload_n X.1 X.2.1 d_X_countGoingOn_22 rfl (lv_at hl 0 rfl) ?_
    refine zx_calli (zx_runV (As := []) (rest := []) X hH mv_X_91 ((c_R_goesOn g l N ad E (F + 5 * i) (rg i).1 (rg i).2 (by omega) hR hro) _) (by omega) hR.1 rfl ⟨Nat.le_of_ble_eq_true rfl, Nat.le_of_ble_eq_true rfl⟩ rfl hl rfl (Nat.le_of_ble_eq_true rfl) d_X_countGoingOn_23 ⟨Nat.le_of_ble_eq_true rfl, Nat.le_of_ble_eq_true rfl⟩) hH (fun r N1 ad1 E1 H locs hq hH => ?_)
    obtain ⟨rfl, rfl, rfl, rfl⟩ := hq
    by_cases d2 : (rg i).1 2 = 0
    · refine zx_top (b := nI 1) (by rw [if_pos d2]) ?_
      refine lv_if_eq (tgt := 32) X.1 X.2.1 d_X_countGoingOn_26 (by decide) (fun z => ?_) (fun z => ?_)
      · exact absurd z (by decide)
      · clear z
        refine lv_iinc (v := nI (zp_cnt (fun i => decide ((rg i).1 2 = 0)) i + 1)) (lv' := [(1, .int (nI (zp_cnt (fun i => decide ((rg i).1 2 = 0)) i + 1))), (3, .ref (ad (F + 5 * i))), (2, .int (nI (i + 1))), (0, .ref (ad (0)))]) X.1 X.2.1 d_X_countGoingOn_29 hl (k := 2) rfl (nI_add _ _) (by decide) rfl (fun ls hl => ?_)
        refine lv_iinc (v := nI (i + 1 + 1)) (lv' := [(2, .int (nI (i + 1 + 1))), (1, .int (nI (zp_cnt (fun i => decide ((rg i).1 2 = 0)) i + 1))), (3, .ref (ad (F + 5 * i))), (0, .ref (ad (0)))]) X.1 X.2.1 d_X_countGoingOn_32 hl (k := 2) rfl (nI_add _ _) (by decide) rfl (fun ls hl => ?_)
        refine lv_goto (tgt := 4) X.1 X.2.1 d_X_countGoingOn_35 (by decide) ?_
        have hz : zp_cnt (fun i => decide ((rg i).1 2 = 0)) (i + 1) = zp_cnt (fun i => decide ((rg i).1 2 = 0)) i + 1 := zp_cnt_y (decide_eq_true (by omega))
        exact ih (i + 1) _ _ _ ⟨by omega, hH, by rw [hz]; exact lv_sub hl [0, 1, 3] rfl⟩ (by omega)
    · refine zx_top (b := nI 0) (by rw [if_neg d2]) ?_
      refine lv_if_eq (tgt := 32) X.1 X.2.1 d_X_countGoingOn_26 (by decide) (fun z => ?_) (fun z => ?_)
      · clear z
        refine lv_iinc (v := nI (i + 1 + 1)) (lv' := [(2, .int (nI (i + 1 + 1))), (3, .ref (ad (F + 5 * i))), (1, .int (nI (zp_cnt (fun i => decide ((rg i).1 2 = 0)) i))), (0, .ref (ad (0)))]) X.1 X.2.1 d_X_countGoingOn_32 hl (k := 1) rfl (nI_add _ _) (by decide) rfl (fun ls hl => ?_)
        refine lv_goto (tgt := 4) X.1 X.2.1 d_X_countGoingOn_35 (by decide) ?_
        have hz : zp_cnt (fun i => decide ((rg i).1 2 = 0)) (i + 1) = zp_cnt (fun i => decide ((rg i).1 2 = 0)) i := zp_cnt_n (fun h => by have h2 := of_decide_eq_true h; omega)
        exact ih (i + 1) _ _ _ ⟨by omega, hH, by rw [hz]; exact lv_sub hl [0, 2, 3] rfl⟩ (by omega)
      · exact absurd z (by decide)

set_option maxHeartbeats 4000000 in
set_option maxRecDepth 100000 in
theorem c_X_countOpenUnits (g : zw_G) (l : Launch) (N : Nat) (ad : Nat → Nat) (E : Nat → va_E) (F : Nat) (q : Nat → Nat) (rg : zt_R) (ev sf lf : Nat → Nat) (hF8 : 8 ≤ F) (hN : N = F + 5 * q 0) (hT : zt_at g ad E F q rg ev sf lf) (hok : zt_ok q rg ev sf) : zc_i g l y_X_countOpenUnits b_X_countOpenUnits 4 (some .int) { frames := 1, cells := 0, slots := 0, locals := 40 } [.ref (ad (0))] N ad E (fun v N1 ad1 E1 => N = N1 ∧ ad = ad1 ∧ E = E1 ∧ v = nI (zp_cnt (fun i => decide ((rg i).1 2 = 0 ∧ 0 < (rg i).1 3 - (rg i).1 4)) (q 0))) := by
  refine zc_i.of (by decide) (Nat.le_of_ble_eq_true rfl) ?_
  intro p e s m below meth c ls A X hr hlk hl hH
  have hl : lv_has ls 4 [(0, .ref (ad (0)))] := hl
  obtain ⟨k0, k2, k3, k3a, k4, k4a, k5, k5a, k6, k6a⟩ := hok.1
  refine lv_iconst (v := nI 0) X.1 X.2.1 d_X_countOpenUnits_0 (by decide) ?_
  refine lv_istore_n (lv' := [(1, .int (nI (0))), (0, .ref (ad (0)))]) X.1 X.2.1 d_X_countOpenUnits_1 rfl hl (by decide) rfl (fun ls hl => ?_)
  refine lv_iconst (v := nI 1) X.1 X.2.1 d_X_countOpenUnits_2 (by decide) ?_
  refine lv_istore_n (lv' := [(2, .int (nI (1))), (1, .int (nI (0))), (0, .ref (ad (0)))]) X.1 X.2.1 d_X_countOpenUnits_3 rfl hl (by decide) rfl (fun ls hl => ?_)
  refine zx_loop (σ := Nat) (fun i H locs ls => i ≤ q 0 ∧ zw_H g A s.heap s N ad E H locs ∧ lv_has ls 4 [(2, .int (nI (i + 1))), (1, .int (nI (zp_cnt (fun i => decide ((rg i).1 2 = 0 ∧ 0 < (rg i).1 3 - (rg i).1 4)) i))), (0, .ref (ad 0))]) (fun i => q 0 - i) (fun _ => 0) (fun _ => 0) ?_ 0 _ _ _ ⟨Nat.zero_le _, hH, hl⟩
  intro i H locs ls ⟨hi, hH, hl⟩ ih
  have hle := zp_cnt_le (fun i => decide ((rg i).1 2 = 0 ∧ 0 < (rg i).1 3 - (rg i).1 4)) i
  refine lv_iload_n X.1 X.2.1 d_X_countOpenUnits_4 rfl (lv_at hl 0 rfl) ?_
  refine lv_aload_n X.1 X.2.1 d_X_countOpenUnits_5 rfl (lv_at hl 2 rfl) ?_
  refine zx_get (v := .int (nI (q 0))) X hH fg_X_38 (by omega) hT.1 rfl d_X_countOpenUnits_6 ?_
  refine lv_icmp_gt (tgt := 45) X.1 X.2.1 d_X_countOpenUnits_9 (by decide) (fun c1 => ?_) (fun c1 => ?_)
  · have c1 := (zn_lt (nI_toInt (by omega)) (nI_toInt (by omega))).mp c1
    refine lv_iload_n X.1 X.2.1 d_X_countOpenUnits_45 rfl (lv_at hl 1 rfl) ?_
    exact zx_iret X hr hlk hH (Nat.le_of_ble_eq_true rfl) (Nat.le_of_ble_eq_true rfl) d_X_countOpenUnits_46 ⟨rfl, rfl, rfl, by rw [show i = q 0 by omega]⟩
  · have c1 := mt (zn_lt (nI_toInt (by omega)) (nI_toInt (by omega))).mpr c1
    refine lv_aload_n X.1 X.2.1 d_X_countOpenUnits_12 rfl (lv_at hl 2 rfl) ?_
    refine lv_iload_n X.1 X.2.1 d_X_countOpenUnits_13 rfl (lv_at hl 0 rfl) ?_
    refine zx_callq (zx_runV (As := [.int (nI (i + 1))]) (rest := []) X hH mv_X_45 ((c_X_find g l N ad E F q rg ev sf lf hF8 hN hT hok (nI (i + 1))) _) (by omega) hT.1 rfl ⟨Nat.le_of_ble_eq_true rfl, Nat.le_of_ble_eq_true rfl⟩ rfl hl rfl (Nat.le_of_ble_eq_true rfl) d_X_countOpenUnits_14 ⟨Nat.le_of_ble_eq_true rfl, Nat.le_of_ble_eq_true rfl⟩) hH (fun r N1 ad1 E1 H locs hq hH => ?_)
    obtain ⟨rfl, rfl, rfl, hv⟩ := hq
    have ee := nI_toInt (n := i + 1) (by omega)
    rw [if_pos (by omega), show (nI (i + 1)).toInt.toNat - 1 = i by omega] at hv
    subst hv
    have hi0 : i < q 0 := by omega
    have hR := hT.2.2.2.2.2 i hi0
    have hro := hok.2.1 i hi0
    obtain ⟨r0, r1, r2, r3, r4, r5, r7, r8, r6⟩ := hro.1
    refine W.eq (g2 := F0 m 17 ls ([.ref (ad (F + 5 * i))])) rfl ?_
    refine lv_astore_n (lv' := [(3, .ref (ad (F + 5 * i))), (2, .int (nI (i + 1))), (1, .int (nI (zp_cnt (fun i => decide ((rg i).1 2 = 0 ∧ 0 < (rg i).1 3 - (rg i).1 4)) i))), (0, .ref (ad (0)))]) X.1 X.2.1 d_X_countOpenUnits_17 rfl hl (by decide) rfl (fun ls hl => ?_)
    refine lv_aload_n X.1 X.2.1 d_X_countOpenUnits_18 rfl (lv_at hl 0 rfl) ?_
    refine lv_ifnull X.1 X.2.1 d_X_countOpenUnits_19 ?_
    refine lv_aload_n X.1 X.2.1 d_X_countOpenUnits_22 rfl (lv_at hl 0 rfl) ?_
    refine zx_calli (zx_runV (As := []) (rest := []) X hH mv_X_91 ((c_R_goesOn g l N ad E (F + 5 * i) (rg i).1 (rg i).2 (by omega) hR hro) _) (by omega) hR.1 rfl ⟨Nat.le_of_ble_eq_true rfl, Nat.le_of_ble_eq_true rfl⟩ rfl hl rfl (Nat.le_of_ble_eq_true rfl) d_X_countOpenUnits_23 ⟨Nat.le_of_ble_eq_true rfl, Nat.le_of_ble_eq_true rfl⟩) hH (fun r N1 ad1 E1 H locs hq hH => ?_)
    obtain ⟨rfl, rfl, rfl, rfl⟩ := hq
    by_cases d2 : (rg i).1 2 = 0
    · refine zx_top (b := nI 1) (by rw [if_pos d2]) ?_
      refine lv_if_eq (tgt := 39) X.1 X.2.1 d_X_countOpenUnits_26 (by decide) (fun z => ?_) (fun z => ?_)
      · exact absurd z (by decide)
      · clear z
        refine lv_aload_n X.1 X.2.1 d_X_countOpenUnits_29 rfl (lv_at hl 0 rfl) ?_
        refine zx_calli (zx_runV (As := []) (rest := []) X hH mv_X_142 ((c_R_openSteps g l N ad E (F + 5 * i) (rg i).1 (rg i).2 (by omega) hR hro) _) (by omega) hR.1 rfl ⟨Nat.le_of_ble_eq_true rfl, Nat.le_of_ble_eq_true rfl⟩ rfl hl rfl (Nat.le_of_ble_eq_true rfl) d_X_countOpenUnits_30 ⟨Nat.le_of_ble_eq_true rfl, Nat.le_of_ble_eq_true rfl⟩) hH (fun r N1 ad1 E1 H locs hq hH => ?_)
        obtain ⟨rfl, rfl, rfl, rfl⟩ := hq
        refine lv_if_le (tgt := 39) X.1 X.2.1 d_X_countOpenUnits_33 (by decide) (fun c3 => ?_) (fun c3 => ?_)
        · have c3 := (zn_le (nI_toInt (by omega)) zn_0).mp c3
          refine lv_iinc (v := nI (i + 1 + 1)) (lv' := [(2, .int (nI (i + 1 + 1))), (3, .ref (ad (F + 5 * i))), (1, .int (nI (zp_cnt (fun i => decide ((rg i).1 2 = 0 ∧ 0 < (rg i).1 3 - (rg i).1 4)) i))), (0, .ref (ad (0)))]) X.1 X.2.1 d_X_countOpenUnits_39 hl (k := 1) rfl (nI_add _ _) (by decide) rfl (fun ls hl => ?_)
          refine lv_goto (tgt := 4) X.1 X.2.1 d_X_countOpenUnits_42 (by decide) ?_
          have hz : zp_cnt (fun i => decide ((rg i).1 2 = 0 ∧ 0 < (rg i).1 3 - (rg i).1 4)) (i + 1) = zp_cnt (fun i => decide ((rg i).1 2 = 0 ∧ 0 < (rg i).1 3 - (rg i).1 4)) i := zp_cnt_n (fun h => by have h2 := of_decide_eq_true h; omega)
          exact ih (i + 1) _ _ _ ⟨by omega, hH, by rw [hz]; exact lv_sub hl [0, 2, 3] rfl⟩ (by omega)
        · have c3 := mt (zn_le (nI_toInt (by omega)) zn_0).mpr c3
          refine lv_iinc (v := nI (zp_cnt (fun i => decide ((rg i).1 2 = 0 ∧ 0 < (rg i).1 3 - (rg i).1 4)) i + 1)) (lv' := [(1, .int (nI (zp_cnt (fun i => decide ((rg i).1 2 = 0 ∧ 0 < (rg i).1 3 - (rg i).1 4)) i + 1))), (3, .ref (ad (F + 5 * i))), (2, .int (nI (i + 1))), (0, .ref (ad (0)))]) X.1 X.2.1 d_X_countOpenUnits_36 hl (k := 2) rfl (nI_add _ _) (by decide) rfl (fun ls hl => ?_)
          refine lv_iinc (v := nI (i + 1 + 1)) (lv' := [(2, .int (nI (i + 1 + 1))), (1, .int (nI (zp_cnt (fun i => decide ((rg i).1 2 = 0 ∧ 0 < (rg i).1 3 - (rg i).1 4)) i + 1))), (3, .ref (ad (F + 5 * i))), (0, .ref (ad (0)))]) X.1 X.2.1 d_X_countOpenUnits_39 hl (k := 2) rfl (nI_add _ _) (by decide) rfl (fun ls hl => ?_)
          refine lv_goto (tgt := 4) X.1 X.2.1 d_X_countOpenUnits_42 (by decide) ?_
          have hz : zp_cnt (fun i => decide ((rg i).1 2 = 0 ∧ 0 < (rg i).1 3 - (rg i).1 4)) (i + 1) = zp_cnt (fun i => decide ((rg i).1 2 = 0 ∧ 0 < (rg i).1 3 - (rg i).1 4)) i + 1 := zp_cnt_y (decide_eq_true (by omega))
          exact ih (i + 1) _ _ _ ⟨by omega, hH, by rw [hz]; exact lv_sub hl [0, 1, 3] rfl⟩ (by omega)
    · refine zx_top (b := nI 0) (by rw [if_neg d2]) ?_
      refine lv_if_eq (tgt := 39) X.1 X.2.1 d_X_countOpenUnits_26 (by decide) (fun z => ?_) (fun z => ?_)
      · clear z
        refine lv_iinc (v := nI (i + 1 + 1)) (lv' := [(2, .int (nI (i + 1 + 1))), (3, .ref (ad (F + 5 * i))), (1, .int (nI (zp_cnt (fun i => decide ((rg i).1 2 = 0 ∧ 0 < (rg i).1 3 - (rg i).1 4)) i))), (0, .ref (ad (0)))]) X.1 X.2.1 d_X_countOpenUnits_39 hl (k := 1) rfl (nI_add _ _) (by decide) rfl (fun ls hl => ?_)
        refine lv_goto (tgt := 4) X.1 X.2.1 d_X_countOpenUnits_42 (by decide) ?_
        have hz : zp_cnt (fun i => decide ((rg i).1 2 = 0 ∧ 0 < (rg i).1 3 - (rg i).1 4)) (i + 1) = zp_cnt (fun i => decide ((rg i).1 2 = 0 ∧ 0 < (rg i).1 3 - (rg i).1 4)) i := zp_cnt_n (fun h => by have h2 := of_decide_eq_true h; omega)
        exact ih (i + 1) _ _ _ ⟨by omega, hH, by rw [hz]; exact lv_sub hl [0, 2, 3] rfl⟩ (by omega)
      · exact absurd z (by decide)

set_option maxHeartbeats 4000000 in
set_option maxRecDepth 100000 in
theorem c_X_leaveAll (g : zw_G) (l : Launch) (N : Nat) (ad : Nat → Nat) (E : Nat → va_E) (F : Nat) (q : Nat → Nat) (rg : zt_R) (ev sf lf : Nat → Nat) (hF8 : 8 ≤ F) (hN : N = F + 5 * q 0) (hT : zt_at g ad E F q rg ev sf lf) (hok : zt_ok q rg ev sf) : zc_v g l y_X_leaveAll b_X_leaveAll 3 { frames := 2, cells := 0, slots := 0, locals := 80 } [.ref (ad (0))] N ad E (fun N1 ad1 E1 => N = N1 ∧ ad = ad1 ∧ zt_at g ad E1 F q (zp_map zp_left rg (q 0)) ev sf lf ∧ zt_fr E E1 F) := by
  refine zc_v.of (by decide) (Nat.le_of_ble_eq_true rfl) ?_
  intro p e s m below meth c ls A X hr hlk hnm hl hH
  have hl : lv_has ls 3 [(0, .ref (ad (0)))] := hl
  obtain ⟨k0, k2, k3, k3a, k4, k4a, k5, k5a, k6, k6a⟩ := hok.1
  refine lv_iconst (v := nI 1) X.1 X.2.1 d_X_leaveAll_0 (by decide) ?_
  refine lv_istore_n (lv' := [(1, .int (nI (1))), (0, .ref (ad (0)))]) X.1 X.2.1 d_X_leaveAll_1 rfl hl (by decide) rfl (fun ls hl => ?_)
  refine zx_loop (σ := Nat × (Nat → va_E)) (fun x H locs ls => x.1 ≤ q 0 ∧ zt_at g ad x.2 F q (zp_map zp_left rg x.1) ev sf lf ∧ zt_fr E x.2 F ∧ zw_H g A s.heap s N ad x.2 H locs ∧ lv_has ls 3 [(1, .int (nI (x.1 + 1))), (0, .ref (ad 0))]) (fun x => q 0 - x.1) (fun _ => 0) (fun _ => 0) ?_ (0, E) _ _ _ ⟨Nat.zero_le _, by rw [zp_map_0]; exact hT, zt_fr.rf, hH, hl⟩
  rintro ⟨i, E1⟩ H locs ls ⟨hi, hT, hF, hH, hl⟩ ih
  dsimp only at hi hT hF hH hl ih
  have hok1 := (hok.map (fun _ h => zr_ok.left h) i)
  refine lv_iload_n X.1 X.2.1 d_X_leaveAll_2 rfl (lv_at hl 0 rfl) ?_
  refine lv_aload_n X.1 X.2.1 d_X_leaveAll_3 rfl (lv_at hl 1 rfl) ?_
  refine zx_get (v := .int (nI (q 0))) X hH fg_X_38 (by omega) hT.1 rfl d_X_leaveAll_4 ?_
  refine lv_icmp_gt (tgt := 38) X.1 X.2.1 d_X_leaveAll_7 (by decide) (fun c1 => ?_) (fun c1 => ?_)
  · have c1 := (zn_lt (nI_toInt (by omega)) (nI_toInt (by omega))).mp c1
    exact zx_vret X hr hlk hH (Nat.le_of_ble_eq_true rfl) (Nat.le_of_ble_eq_true rfl) d_X_leaveAll_38 ⟨rfl, rfl, by rw [show q 0 = i by omega]; exact hT, hF⟩
  · have c1 := mt (zn_lt (nI_toInt (by omega)) (nI_toInt (by omega))).mpr c1
    refine lv_aload_n X.1 X.2.1 d_X_leaveAll_10 rfl (lv_at hl 1 rfl) ?_
    refine lv_iload_n X.1 X.2.1 d_X_leaveAll_11 rfl (lv_at hl 0 rfl) ?_
    refine zx_callq (zx_runV (As := [.int (nI (i + 1))]) (rest := []) X hH mv_X_45 ((c_X_find g l N ad E1 F q (zp_map zp_left rg i) ev sf lf hF8 hN hT hok1 (nI (i + 1))) _) (by omega) hT.1 rfl ⟨Nat.le_of_ble_eq_true rfl, Nat.le_of_ble_eq_true rfl⟩ rfl hl rfl (Nat.le_of_ble_eq_true rfl) d_X_leaveAll_12 ⟨Nat.le_of_ble_eq_true rfl, Nat.le_of_ble_eq_true rfl⟩) hH (fun r N1 ad1 E1 H locs hq hH => ?_)
    obtain ⟨rfl, rfl, rfl, hv⟩ := hq
    have ee := nI_toInt (n := i + 1) (by omega)
    rw [if_pos (by omega), show (nI (i + 1)).toInt.toNat - 1 = i by omega] at hv
    subst hv
    have hi0 : i < q 0 := by omega
    have hR := hT.2.2.2.2.2 i hi0
    have hro := hok1.2.1 i hi0
    rw [zp_map_at] at hR hro
    obtain ⟨r0, r1, r2, r3, r4, r5, r7, r8, r6⟩ := hro.1
    refine W.eq (g2 := F0 m 15 ls ([.ref (ad (F + 5 * i))])) rfl ?_
    refine lv_astore_n (lv' := [(2, .ref (ad (F + 5 * i))), (1, .int (nI (i + 1))), (0, .ref (ad (0)))]) X.1 X.2.1 d_X_leaveAll_15 rfl hl (by decide) rfl (fun ls hl => ?_)
    refine lv_aload_n X.1 X.2.1 d_X_leaveAll_16 rfl (lv_at hl 0 rfl) ?_
    refine lv_ifnull X.1 X.2.1 d_X_leaveAll_17 ?_
    refine lv_aload_n X.1 X.2.1 d_X_leaveAll_20 rfl (lv_at hl 0 rfl) ?_
    refine zx_calli (zx_runV (As := []) (rest := []) X hH mv_X_91 ((c_R_goesOn g l N ad E1 (F + 5 * i) (rg i).1 (rg i).2 (by omega) hR hro) _) (by omega) hR.1 rfl ⟨Nat.le_of_ble_eq_true rfl, Nat.le_of_ble_eq_true rfl⟩ rfl hl rfl (Nat.le_of_ble_eq_true rfl) d_X_leaveAll_21 ⟨Nat.le_of_ble_eq_true rfl, Nat.le_of_ble_eq_true rfl⟩) hH (fun r N1 ad1 E1 H locs hq hH => ?_)
    obtain ⟨rfl, rfl, rfl, rfl⟩ := hq
    by_cases d2 : (rg i).1 2 = 0
    · refine zx_top (b := nI 1) (by rw [if_pos d2]) ?_
      refine lv_if_eq (tgt := 32) X.1 X.2.1 d_X_leaveAll_24 (by decide) (fun z => ?_) (fun z => ?_)
      · exact absurd z (by decide)
      · clear z
        refine lv_aload_n X.1 X.2.1 d_X_leaveAll_27 rfl (lv_at hl 0 rfl) ?_
        refine lv_iconst (v := nI 4) X.1 X.2.1 d_X_leaveAll_28 (by decide) ?_
        refine zx_put X hH fp_X_120 (by omega) hR.1 (Nat.le_of_ble_eq_true rfl) rfl rfl d_X_leaveAll_29 (fun H locs hH => ?_)
        have hH : zw_H g A s.heap s N ad (va_up E1 (F + 5 * i) (zr_o ad (F + 5 * i) (va_up (rg i).1 2 4))) H locs := hH
        have hR := hR.sc (va_up (rg i).1 2 4)
        have hf : zr_fr E1 (va_up E1 (F + 5 * i) (zr_o ad (F + 5 * i) (va_up (rg i).1 2 4))) (F + 5 * i) := zr_fr.rf.up (by omega) (by omega)
        generalize va_up E1 (F + 5 * i) (zr_o ad (F + 5 * i) (va_up (rg i).1 2 4)) = E2 at hH hR hf
        refine lv_iinc (v := nI (i + 1 + 1)) (lv' := [(1, .int (nI (i + 1 + 1))), (2, .ref (ad (F + 5 * i))), (0, .ref (ad (0)))]) X.1 X.2.1 d_X_leaveAll_32 hl (k := 1) rfl (nI_add _ _) (by decide) rfl (fun ls hl => ?_)
        refine lv_goto (tgt := 2) X.1 X.2.1 d_X_leaveAll_35 (by decide) ?_
        have hz : zp_left (rg i) = (va_up (rg i).1 2 4, (rg i).2) := if_pos (by omega)
        have hT := (hT.reg0 (r := (va_up (rg i).1 2 4, (rg i).2)) hF8 hi0 hR hf)
        rw [← hz, ← zp_map_s] at hT
        exact ih (i + 1, E2) _ _ _ ⟨by omega, hT, hF.tr hf.t, hH, lv_sub hl [0, 2] rfl⟩ (by show q 0 - (i + 1) < q 0 - i; omega)
    · refine zx_top (b := nI 0) (by rw [if_neg d2]) ?_
      refine lv_if_eq (tgt := 32) X.1 X.2.1 d_X_leaveAll_24 (by decide) (fun z => ?_) (fun z => ?_)
      · clear z
        refine lv_iinc (v := nI (i + 1 + 1)) (lv' := [(1, .int (nI (i + 1 + 1))), (2, .ref (ad (F + 5 * i))), (0, .ref (ad (0)))]) X.1 X.2.1 d_X_leaveAll_32 hl (k := 1) rfl (nI_add _ _) (by decide) rfl (fun ls hl => ?_)
        refine lv_goto (tgt := 2) X.1 X.2.1 d_X_leaveAll_35 (by decide) ?_
        have hz : zp_left (rg i) = rg i := if_neg (by omega)
        rw [← zp_map_same hz] at hT
        exact ih (i + 1, E1) _ _ _ ⟨by omega, hT, hF, hH, lv_sub hl [0, 2] rfl⟩ (by show q 0 - (i + 1) < q 0 - i; omega)
      · exact absurd z (by decide)

set_option maxHeartbeats 4000000 in
set_option maxRecDepth 100000 in
theorem c_X_cancelThoseThatMay (g : zw_G) (l : Launch) (N : Nat) (ad : Nat → Nat) (E : Nat → va_E) (F : Nat) (q : Nat → Nat) (rg : zt_R) (ev sf lf : Nat → Nat) (hF8 : 8 ≤ F) (hN : N = F + 5 * q 0) (hT : zt_at g ad E F q rg ev sf lf) (hok : zt_ok q rg ev sf) : zc_v g l y_X_cancelThoseThatMay b_X_cancelThoseThatMay 3 { frames := 2, cells := 0, slots := 0, locals := 80 } [.ref (ad (0))] N ad E (fun N1 ad1 E1 => N = N1 ∧ ad = ad1 ∧ zt_at g ad E1 F q (zp_map zp_canc rg (q 0)) ev sf lf ∧ zt_fr E E1 F) := by
  refine zc_v.of (by decide) (Nat.le_of_ble_eq_true rfl) ?_
  intro p e s m below meth c ls A X hr hlk hnm hl hH
  have hl : lv_has ls 3 [(0, .ref (ad (0)))] := hl
  obtain ⟨k0, k2, k3, k3a, k4, k4a, k5, k5a, k6, k6a⟩ := hok.1
  refine lv_iconst (v := nI 1) X.1 X.2.1 d_X_cancelThoseThatMay_0 (by decide) ?_
  refine lv_istore_n (lv' := [(1, .int (nI (1))), (0, .ref (ad (0)))]) X.1 X.2.1 d_X_cancelThoseThatMay_1 rfl hl (by decide) rfl (fun ls hl => ?_)
  refine zx_loop (σ := Nat × (Nat → va_E)) (fun x H locs ls => x.1 ≤ q 0 ∧ zt_at g ad x.2 F q (zp_map zp_canc rg x.1) ev sf lf ∧ zt_fr E x.2 F ∧ zw_H g A s.heap s N ad x.2 H locs ∧ lv_has ls 3 [(1, .int (nI (x.1 + 1))), (0, .ref (ad 0))]) (fun x => q 0 - x.1) (fun _ => 0) (fun _ => 0) ?_ (0, E) _ _ _ ⟨Nat.zero_le _, by rw [zp_map_0]; exact hT, zt_fr.rf, hH, hl⟩
  rintro ⟨i, E1⟩ H locs ls ⟨hi, hT, hF, hH, hl⟩ ih
  dsimp only at hi hT hF hH hl ih
  have hok1 := (hok.map (fun _ h => zr_ok.canc h) i)
  refine lv_iload_n X.1 X.2.1 d_X_cancelThoseThatMay_2 rfl (lv_at hl 0 rfl) ?_
  refine lv_aload_n X.1 X.2.1 d_X_cancelThoseThatMay_3 rfl (lv_at hl 1 rfl) ?_
  refine zx_get (v := .int (nI (q 0))) X hH fg_X_38 (by omega) hT.1 rfl d_X_cancelThoseThatMay_4 ?_
  refine lv_icmp_gt (tgt := 45) X.1 X.2.1 d_X_cancelThoseThatMay_7 (by decide) (fun c1 => ?_) (fun c1 => ?_)
  · have c1 := (zn_lt (nI_toInt (by omega)) (nI_toInt (by omega))).mp c1
    exact zx_vret X hr hlk hH (Nat.le_of_ble_eq_true rfl) (Nat.le_of_ble_eq_true rfl) d_X_cancelThoseThatMay_45 ⟨rfl, rfl, by rw [show q 0 = i by omega]; exact hT, hF⟩
  · have c1 := mt (zn_lt (nI_toInt (by omega)) (nI_toInt (by omega))).mpr c1
    refine lv_aload_n X.1 X.2.1 d_X_cancelThoseThatMay_10 rfl (lv_at hl 1 rfl) ?_
    refine lv_iload_n X.1 X.2.1 d_X_cancelThoseThatMay_11 rfl (lv_at hl 0 rfl) ?_
    refine zx_callq (zx_runV (As := [.int (nI (i + 1))]) (rest := []) X hH mv_X_45 ((c_X_find g l N ad E1 F q (zp_map zp_canc rg i) ev sf lf hF8 hN hT hok1 (nI (i + 1))) _) (by omega) hT.1 rfl ⟨Nat.le_of_ble_eq_true rfl, Nat.le_of_ble_eq_true rfl⟩ rfl hl rfl (Nat.le_of_ble_eq_true rfl) d_X_cancelThoseThatMay_12 ⟨Nat.le_of_ble_eq_true rfl, Nat.le_of_ble_eq_true rfl⟩) hH (fun r N1 ad1 E1 H locs hq hH => ?_)
    obtain ⟨rfl, rfl, rfl, hv⟩ := hq
    have ee := nI_toInt (n := i + 1) (by omega)
    rw [if_pos (by omega), show (nI (i + 1)).toInt.toNat - 1 = i by omega] at hv
    subst hv
    have hi0 : i < q 0 := by omega
    have hR := hT.2.2.2.2.2 i hi0
    have hro := hok1.2.1 i hi0
    rw [zp_map_at] at hR hro
    obtain ⟨r0, r1, r2, r3, r4, r5, r7, r8, r6⟩ := hro.1
    refine W.eq (g2 := F0 m 15 ls ([.ref (ad (F + 5 * i))])) rfl ?_
    refine lv_astore_n (lv' := [(2, .ref (ad (F + 5 * i))), (1, .int (nI (i + 1))), (0, .ref (ad (0)))]) X.1 X.2.1 d_X_cancelThoseThatMay_15 rfl hl (by decide) rfl (fun ls hl => ?_)
    refine lv_aload_n X.1 X.2.1 d_X_cancelThoseThatMay_16 rfl (lv_at hl 0 rfl) ?_
    refine lv_ifnull X.1 X.2.1 d_X_cancelThoseThatMay_17 ?_
    refine lv_aload_n X.1 X.2.1 d_X_cancelThoseThatMay_20 rfl (lv_at hl 0 rfl) ?_
    refine zx_calli (zx_runV (As := []) (rest := []) X hH mv_X_91 ((c_R_goesOn g l N ad E1 (F + 5 * i) (rg i).1 (rg i).2 (by omega) hR hro) _) (by omega) hR.1 rfl ⟨Nat.le_of_ble_eq_true rfl, Nat.le_of_ble_eq_true rfl⟩ rfl hl rfl (Nat.le_of_ble_eq_true rfl) d_X_cancelThoseThatMay_21 ⟨Nat.le_of_ble_eq_true rfl, Nat.le_of_ble_eq_true rfl⟩) hH (fun r N1 ad1 E1 H locs hq hH => ?_)
    obtain ⟨rfl, rfl, rfl, rfl⟩ := hq
    by_cases d2 : (rg i).1 2 = 0
    · refine zx_top (b := nI 1) (by rw [if_pos d2]) ?_
      refine lv_if_eq (tgt := 39) X.1 X.2.1 d_X_cancelThoseThatMay_24 (by decide) (fun z => ?_) (fun z => ?_)
      · exact absurd z (by decide)
      · clear z
        refine lv_aload_n X.1 X.2.1 d_X_cancelThoseThatMay_27 rfl (lv_at hl 0 rfl) ?_
        refine zx_calli (zx_runV (As := []) (rest := []) X hH mv_X_136 ((c_R_isInside g l N ad E1 (F + 5 * i) (rg i).1 (rg i).2 (by omega) hR hro) _) (by omega) hR.1 rfl ⟨Nat.le_of_ble_eq_true rfl, Nat.le_of_ble_eq_true rfl⟩ rfl hl rfl (Nat.le_of_ble_eq_true rfl) d_X_cancelThoseThatMay_28 ⟨Nat.le_of_ble_eq_true rfl, Nat.le_of_ble_eq_true rfl⟩) hH (fun r N1 ad1 E1 H locs hq hH => ?_)
        obtain ⟨rfl, rfl, rfl, rfl⟩ := hq
        by_cases d3 : (rg i).2 3 ((rg i).1 3) = 1
        · refine zx_top (b := nI 1) (by rw [if_pos d3]) ?_
          refine lv_if_ne (tgt := 39) X.1 X.2.1 d_X_cancelThoseThatMay_31 (by decide) (fun z => ?_) (fun z => ?_)
          · clear z
            refine lv_iinc (v := nI (i + 1 + 1)) (lv' := [(1, .int (nI (i + 1 + 1))), (2, .ref (ad (F + 5 * i))), (0, .ref (ad (0)))]) X.1 X.2.1 d_X_cancelThoseThatMay_39 hl (k := 1) rfl (nI_add _ _) (by decide) rfl (fun ls hl => ?_)
            refine lv_goto (tgt := 2) X.1 X.2.1 d_X_cancelThoseThatMay_42 (by decide) ?_
            have hz : zp_canc (rg i) = rg i := if_neg (by omega)
            rw [← zp_map_same hz] at hT
            exact ih (i + 1, E1) _ _ _ ⟨by omega, hT, hF, hH, lv_sub hl [0, 2] rfl⟩ (by show q 0 - (i + 1) < q 0 - i; omega)
          · exact absurd z (by decide)
        · refine zx_top (b := nI 0) (by rw [if_neg d3]) ?_
          refine lv_if_ne (tgt := 39) X.1 X.2.1 d_X_cancelThoseThatMay_31 (by decide) (fun z => ?_) (fun z => ?_)
          · exact absurd z (by decide)
          · clear z
            refine lv_aload_n X.1 X.2.1 d_X_cancelThoseThatMay_34 rfl (lv_at hl 0 rfl) ?_
            refine lv_iconst (v := nI 3) X.1 X.2.1 d_X_cancelThoseThatMay_35 (by decide) ?_
            refine zx_callv (zx_runV (As := [.int (nI (3))]) (rest := []) X hH mv_X_139 ((c_R_backOut g l N ad E1 (F + 5 * i) (rg i).1 (rg i).2 (by omega) hR hro 3) _) (by omega) hR.1 rfl ⟨Nat.le_of_ble_eq_true rfl, Nat.le_of_ble_eq_true rfl⟩ rfl hl rfl (Nat.le_of_ble_eq_true rfl) d_X_cancelThoseThatMay_36 ⟨Nat.le_of_ble_eq_true rfl, Nat.le_of_ble_eq_true rfl⟩) hH (fun N1 ad1 E2 H locs hq hH => ?_)
            obtain ⟨rfl, rfl, hR, hf⟩ := hq
            refine lv_iinc (v := nI (i + 1 + 1)) (lv' := [(1, .int (nI (i + 1 + 1))), (2, .ref (ad (F + 5 * i))), (0, .ref (ad (0)))]) X.1 X.2.1 d_X_cancelThoseThatMay_39 hl (k := 1) rfl (nI_add _ _) (by decide) rfl (fun ls hl => ?_)
            refine lv_goto (tgt := 2) X.1 X.2.1 d_X_cancelThoseThatMay_42 (by decide) ?_
            have hz : zp_canc (rg i) = (zp_back (rg i).1 3, (rg i).2) := if_pos ⟨by omega, by omega⟩
            have hT := (hT.reg0 (r := (zp_back (rg i).1 3, (rg i).2)) hF8 hi0 hR hf)
            rw [← hz, ← zp_map_s] at hT
            exact ih (i + 1, E2) _ _ _ ⟨by omega, hT, hF.tr hf.t, hH, lv_sub hl [0, 2] rfl⟩ (by show q 0 - (i + 1) < q 0 - i; omega)
    · refine zx_top (b := nI 0) (by rw [if_neg d2]) ?_
      refine lv_if_eq (tgt := 39) X.1 X.2.1 d_X_cancelThoseThatMay_24 (by decide) (fun z => ?_) (fun z => ?_)
      · clear z
        refine lv_iinc (v := nI (i + 1 + 1)) (lv' := [(1, .int (nI (i + 1 + 1))), (2, .ref (ad (F + 5 * i))), (0, .ref (ad (0)))]) X.1 X.2.1 d_X_cancelThoseThatMay_39 hl (k := 1) rfl (nI_add _ _) (by decide) rfl (fun ls hl => ?_)
        refine lv_goto (tgt := 2) X.1 X.2.1 d_X_cancelThoseThatMay_42 (by decide) ?_
        have hz : zp_canc (rg i) = rg i := if_neg (by omega)
        rw [← zp_map_same hz] at hT
        exact ih (i + 1, E1) _ _ _ ⟨by omega, hT, hF, hH, lv_sub hl [0, 2] rfl⟩ (by show q 0 - (i + 1) < q 0 - i; omega)
      · exact absurd z (by decide)
