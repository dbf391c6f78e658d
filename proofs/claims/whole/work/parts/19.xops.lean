theorem zt_at.evs {g : zw_G} {ad : Nat → Nat} {E : Nat → va_E} {F : Nat} {q : Nat → Nat} {rg : zt_R} {ev sf lf : Nat → Nat} (h : zt_at g ad E F q rg ev sf lf) (hF : 8 ≤ F) (ev1 : Nat → Nat) : zt_at g ad (va_up E 3 (zr_ia g 16 ev1)) F q rg ev1 sf lf := by
  obtain ⟨h0, h1, h2, h3, h4, h5⟩ := h
  have f : ∀ k, k ≠ 3 → va_up E 3 (zr_ia g 16 ev1) k = E k := fun k hk => va_up_ne _ _ hk
  exact ⟨by rw [f 0 (by omega)]; exact h0, by rw [f 1 (by omega)]; exact h1, h2.up (by decide) ev1, ⟨by rw [f 4 (by omega)]; exact h3.1, by rw [f 5 (by omega)]; exact h3.2⟩, ⟨by rw [f 6 (by omega)]; exact h4.1, by rw [f 7 (by omega)]; exact h4.2⟩, fun i hi => (h5 i hi).keep (fun k a b => f k (by omega))⟩
set_option maxHeartbeats 4000000 in
set_option maxRecDepth 100000 in
theorem c_X_waits (g : zw_G) (l : Launch) (N : Nat) (ad : Nat → Nat) (E : Nat → va_E) (F : Nat) (q : Nat → Nat) (rg : zt_R) (ev sf lf : Nat → Nat) (hF8 : 8 ≤ F) (hN : N = F + 5 * q 0) (hT : zt_at g ad E F q rg ev sf lf) (hok : zt_ok q rg ev sf) (x y z : Int32) : zc_i g l y_X_waits b_X_waits 5 (some .int) { frames := 3, cells := 0, slots := 0, locals := 120 } [.ref (ad (0)), .int (x), .int (y), .int (z)] N ad E (fun v N1 ad1 E1 => N = N1 ∧ ad = ad1 ∧ v = (zs_waits q rg x y z).1 ∧ zt_at g ad E1 F q (zs_waits q rg x y z).2 ev sf lf ∧ zt_fr E E1 F) := by
  refine zc_i.of (by decide) (Nat.le_of_ble_eq_true rfl) ?_
  intro p e s m below meth c ls A X hr hlk hl hH
  have hl : lv_has ls 5 [(0, .ref (ad (0))), (1, .int (x)), (2, .int (y)), (3, .int (z))] := hl
  obtain ⟨k0, k2, k3, k3a, k4, k4a, k5, k5a, k6, k6a⟩ := hok.1
  refine lv_aload_n X.1 X.2.1 d_X_waits_0 rfl (lv_at hl 0 rfl) ?_
  refine lv_iload_n X.1 X.2.1 d_X_waits_1 rfl (lv_at hl 1 rfl) ?_
  refine zx_callq (zx_runV (As := [.int (x)]) (rest := []) X hH mv_X_45 ((c_X_find g l N ad E F q rg ev sf lf hF8 hN hT hok (x)) _) (by omega) hT.1 rfl ⟨Nat.le_of_ble_eq_true rfl, Nat.le_of_ble_eq_true rfl⟩ rfl hl rfl (Nat.le_of_ble_eq_true rfl) d_X_waits_2 ⟨Nat.le_of_ble_eq_true rfl, Nat.le_of_ble_eq_true rfl⟩) hH (fun r N1 ad1 E1 H locs hq hH => ?_)
  obtain ⟨rfl, rfl, rfl, hv⟩ := hq
  by_cases d1 : 1 ≤ (x).toInt ∧ (x).toInt ≤ (q 0 : Int)
  · obtain ⟨i, hi⟩ : ∃ i, i = (x).toInt.toNat - 1 := ⟨_, rfl⟩
    rw [if_pos d1, ← hi] at hv
    subst hv
    have hi0 : i < q 0 := by omega
    have hR := hT.2.2.2.2.2 i hi0
    have hro := hok.2.1 i hi0
    obtain ⟨r0, r1, r2, r3, r4, r5, r7, r8, r6⟩ := hro.1
    refine W.eq (g2 := F0 m 5 ls ([.ref (ad (F + 5 * (i)))])) rfl ?_
    refine lv_astore (lv' := [(4, .ref (ad (F + 5 * (i)))), (0, .ref (ad (0))), (1, .int (x)), (2, .int (y)), (3, .int (z))]) X.1 X.2.1 d_X_waits_5 hl (by decide) rfl (fun ls hl => ?_)
    refine lv_aload X.1 X.2.1 d_X_waits_7 (lv_at hl 0 rfl) ?_
    refine lv_ifnonnull (tgt := 15) X.1 X.2.1 d_X_waits_9 (by decide) ?_
    refine lv_iload_n X.1 X.2.1 d_X_waits_15 rfl (lv_at hl 3 rfl) ?_
    refine lv_iconst (v := nI 1) X.1 X.2.1 d_X_waits_16 (by decide) ?_
    refine lv_icmp_lt (tgt := 36) X.1 X.2.1 d_X_waits_17 (by decide) (fun c2 => ?_) (fun c2 => ?_)
    · have c2 := (zn_lt rfl (nI_toInt (by omega))).mp c2
      refine lv_bipush (v := (-4)) X.1 X.2.1 d_X_waits_36 (by decide) ?_
      exact zx_iret X hr hlk hH (Nat.le_of_ble_eq_true rfl) (Nat.le_of_ble_eq_true rfl) d_X_waits_38 ⟨rfl, rfl, by rw [zs_waits_bad d1 hi (by omega)], by rw [zs_waits_bad d1 hi (by omega)]; exact hT, zt_fr.rf⟩
    · have c2 := mt (zn_lt rfl (nI_toInt (by omega))).mpr c2
      refine lv_iload_n X.1 X.2.1 d_X_waits_20 rfl (lv_at hl 3 rfl) ?_
      refine lv_aload X.1 X.2.1 d_X_waits_21 (lv_at hl 0 rfl) ?_
      refine zx_get (v := .int (nI ((rg (i)).1 0))) X hH fg_X_49 (by omega) hR.1 rfl d_X_waits_23 ?_
      refine lv_icmp_gt (tgt := 36) X.1 X.2.1 d_X_waits_26 (by decide) (fun c3 => ?_) (fun c3 => ?_)
      · have c3 := (zn_lt (nI_toInt (by omega)) rfl).mp c3
        refine lv_bipush (v := (-4)) X.1 X.2.1 d_X_waits_36 (by decide) ?_
        exact zx_iret X hr hlk hH (Nat.le_of_ble_eq_true rfl) (Nat.le_of_ble_eq_true rfl) d_X_waits_38 ⟨rfl, rfl, by rw [zs_waits_bad d1 hi (by omega)], by rw [zs_waits_bad d1 hi (by omega)]; exact hT, zt_fr.rf⟩
      · have c3 := mt (zn_lt (nI_toInt (by omega)) rfl).mpr c3
        refine lv_iload_n X.1 X.2.1 d_X_waits_29 rfl (lv_at hl 4 rfl) ?_
        refine zx_calli (zx_runS (As := [.int (z)]) (rest := []) X hH ms_X_52 ((c_X_isEvent g l N ad E (z)) _) ⟨Nat.le_of_ble_eq_true rfl, Nat.le_of_ble_eq_true rfl⟩ rfl hl rfl (Nat.le_of_ble_eq_true rfl) d_X_waits_30 ⟨Nat.le_of_ble_eq_true rfl, Nat.le_of_ble_eq_true rfl⟩) hH (fun r N1 ad1 E1 H locs hq hH => ?_)
        obtain ⟨rfl, rfl, rfl, rfl⟩ := hq
        by_cases d4 : 0 ≤ (z).toInt ∧ (z).toInt < 16
        · refine zx_top (b := nI 1) (by rw [if_pos d4]) ?_
          refine lv_if_ne (tgt := 39) X.1 X.2.1 d_X_waits_33 (by decide) (fun z => ?_) (fun z => ?_)
          · clear z
            refine lv_aload X.1 X.2.1 d_X_waits_39 (lv_at hl 0 rfl) ?_
            refine lv_iload_n X.1 X.2.1 d_X_waits_41 rfl (lv_at hl 3 rfl) ?_
            have hy : y = nI y.toInt.toNat := zn_nat (by omega)
            refine zx_top hy ?_
            refine zx_calli (zx_runV (As := [.int (nI (y.toInt.toNat))]) (rest := []) X hH mv_X_56 ((c_R_isAheadOf g l N ad E (F + 5 * i) (rg i).1 (rg i).2 (by omega) hR hro y.toInt.toNat (by omega)) _) (by omega) hR.1 rfl ⟨Nat.le_of_ble_eq_true rfl, Nat.le_of_ble_eq_true rfl⟩ rfl hl rfl (Nat.le_of_ble_eq_true rfl) d_X_waits_42 ⟨Nat.le_of_ble_eq_true rfl, Nat.le_of_ble_eq_true rfl⟩) hH (fun r N1 ad1 E1 H locs hq hH => ?_)
            obtain ⟨rfl, rfl, rfl, rfl⟩ := hq
            by_cases d5 : (rg i).1 2 = 0 ∧ (rg i).1 3 < y.toInt.toNat
            · refine zx_top (b := nI 1) (by rw [if_pos d5]) ?_
              refine lv_if_ne (tgt := 51) X.1 X.2.1 d_X_waits_45 (by decide) (fun z => ?_) (fun z => ?_)
              · clear z
                refine lv_aload X.1 X.2.1 d_X_waits_51 (lv_at hl 0 rfl) ?_
                refine lv_iload_n X.1 X.2.1 d_X_waits_53 rfl (lv_at hl 3 rfl) ?_
                refine lv_iload_n X.1 X.2.1 d_X_waits_54 rfl (lv_at hl 4 rfl) ?_
                have hz9 : z = nI z.toInt.toNat := zn_nat (by omega)
                refine zx_top hz9 ?_
                refine zx_top2 hy ?_
                refine zx_calli (zx_runV (As := [.int (nI (y.toInt.toNat)), .int (nI (z.toInt.toNat))]) (rest := []) X hH mv_X_59 ((c_R_addWait g l N ad E (F + 5 * i) (rg i).1 (rg i).2 (by omega) hR hro y.toInt.toNat z.toInt.toNat) _) (by omega) hR.1 rfl ⟨Nat.le_of_ble_eq_true rfl, Nat.le_of_ble_eq_true rfl⟩ rfl hl rfl (Nat.le_of_ble_eq_true rfl) d_X_waits_55 ⟨Nat.le_of_ble_eq_true rfl, Nat.le_of_ble_eq_true rfl⟩) hH (fun r N1 ad1 E1 H locs hq hH => ?_)
                obtain ⟨rfl, rfl, hq⟩ := hq
                rcases hq with ⟨z1, rfl, rfl⟩ | ⟨z1, rfl, hR, hf⟩
                · refine lv_if_eq (tgt := 69) X.1 X.2.1 d_X_waits_58 (by decide) (fun _ => ?_) (fun z => absurd rfl z)
                  refine lv_iconst (v := (-1)) X.1 X.2.1 d_X_waits_69 (by decide) ?_
                  exact zx_iret X hr hlk hH (Nat.le_of_ble_eq_true rfl) (Nat.le_of_ble_eq_true rfl) d_X_waits_70 ⟨rfl, rfl, by rw [zs_waits_full d1 hi ⟨by omega, by omega, by omega, by omega⟩ ⟨by omega, by omega⟩ (by omega)], by rw [zs_waits_full d1 hi ⟨by omega, by omega, by omega, by omega⟩ ⟨by omega, by omega⟩ (by omega)]; exact hT, zt_fr.rf⟩
                · refine lv_if_eq (tgt := 69) X.1 X.2.1 d_X_waits_58 (by decide) (fun z => absurd z (by decide)) (fun _ => ?_)
                  refine lv_aload X.1 X.2.1 d_X_waits_61 (lv_at hl 0 rfl) ?_
                  refine zx_get (v := .int (nI ((rg i).1 8 + 1))) X hH fg_X_63 (by omega) hR.1 rfl d_X_waits_63 ?_
                  refine lv_goto (tgt := 70) X.1 X.2.1 d_X_waits_66 (by decide) ?_
                  exact zx_iret X hr hlk hH (Nat.le_of_ble_eq_true rfl) (Nat.le_of_ble_eq_true rfl) d_X_waits_70 ⟨rfl, rfl, by rw [zs_waits_ok d1 hi ⟨by omega, by omega, by omega, by omega⟩ ⟨by omega, by omega⟩ (by omega)], by rw [zs_waits_ok d1 hi ⟨by omega, by omega, by omega, by omega⟩ ⟨by omega, by omega⟩ (by omega)]; exact (hT.reg0 (r := (va_up (rg i).1 8 ((rg i).1 8 + 1), va_up (va_up (rg i).2 0 (va_up ((rg i).2 0) ((rg i).1 8) y.toInt.toNat)) 1 (va_up ((rg i).2 1) ((rg i).1 8) z.toInt.toNat))) hF8 hi0 hR hf), hf.t⟩
              · exact absurd z (by decide)
            · refine zx_top (b := nI 0) (by rw [if_neg d5]) ?_
              refine lv_if_ne (tgt := 51) X.1 X.2.1 d_X_waits_45 (by decide) (fun z => ?_) (fun z => ?_)
              · exact absurd z (by decide)
              · clear z
                refine lv_bipush (v := (-5)) X.1 X.2.1 d_X_waits_48 (by decide) ?_
                exact zx_iret X hr hlk hH (Nat.le_of_ble_eq_true rfl) (Nat.le_of_ble_eq_true rfl) d_X_waits_50 ⟨rfl, rfl, by rw [zs_waits_late d1 hi ⟨by omega, by omega, by omega, by omega⟩ (by omega)], by rw [zs_waits_late d1 hi ⟨by omega, by omega, by omega, by omega⟩ (by omega)]; exact hT, zt_fr.rf⟩
          · exact absurd z (by decide)
        · refine zx_top (b := nI 0) (by rw [if_neg d4]) ?_
          refine lv_if_ne (tgt := 39) X.1 X.2.1 d_X_waits_33 (by decide) (fun z => ?_) (fun z => ?_)
          · exact absurd z (by decide)
          · clear z
            refine lv_bipush (v := (-4)) X.1 X.2.1 d_X_waits_36 (by decide) ?_
            exact zx_iret X hr hlk hH (Nat.le_of_ble_eq_true rfl) (Nat.le_of_ble_eq_true rfl) d_X_waits_38 ⟨rfl, rfl, by rw [zs_waits_bad d1 hi (by omega)], by rw [zs_waits_bad d1 hi (by omega)]; exact hT, zt_fr.rf⟩
  · rw [if_neg d1] at hv
    subst hv
    refine W.eq (g2 := F0 m 5 ls ([.null])) rfl ?_
    refine lv_astoreN (lv' := [(4, .null), (0, .ref (ad (0))), (1, .int (x)), (2, .int (y)), (3, .int (z))]) X.1 X.2.1 d_X_waits_5 hl (by decide) rfl (fun ls hl => ?_)
    refine lv_aloadN X.1 X.2.1 d_X_waits_7 (lv_at hl 0 rfl) ?_
    refine lv_ifnonnullN X.1 X.2.1 d_X_waits_9 ?_
    refine lv_bipush (v := (-2)) X.1 X.2.1 d_X_waits_12 (by decide) ?_
    exact zx_iret X hr hlk hH (Nat.le_of_ble_eq_true rfl) (Nat.le_of_ble_eq_true rfl) d_X_waits_14 ⟨rfl, rfl, by rw [zs_waits_no d1], by rw [zs_waits_no d1]; exact hT, zt_fr.rf⟩

set_option maxHeartbeats 4000000 in
set_option maxRecDepth 100000 in
theorem c_X_decision (g : zw_G) (l : Launch) (N : Nat) (ad : Nat → Nat) (E : Nat → va_E) (F : Nat) (q : Nat → Nat) (rg : zt_R) (ev sf lf : Nat → Nat) (hF8 : 8 ≤ F) (hN : N = F + 5 * q 0) (hT : zt_at g ad E F q rg ev sf lf) (hok : zt_ok q rg ev sf) (hst : ∀ i, i < q 0 → 1 ≤ (rg i).1 0) (x y : Int32) : zc_i g l y_X_decision b_X_decision 4 (some .int) { frames := 3, cells := 0, slots := 0, locals := 120 } [.ref (ad (0)), .int (x), .int (y)] N ad E (fun v N1 ad1 E1 => N = N1 ∧ ad = ad1 ∧ v = (zs_dec q rg x y).1 ∧ zt_at g ad E1 F q (zs_dec q rg x y).2 ev sf lf ∧ zt_fr E E1 F) := by
  refine zc_i.of (by decide) (Nat.le_of_ble_eq_true rfl) ?_
  intro p e s m below meth c ls A X hr hlk hl hH
  have hl : lv_has ls 4 [(0, .ref (ad (0))), (1, .int (x)), (2, .int (y))] := hl
  obtain ⟨k0, k2, k3, k3a, k4, k4a, k5, k5a, k6, k6a⟩ := hok.1
  refine lv_aload_n X.1 X.2.1 d_X_decision_0 rfl (lv_at hl 0 rfl) ?_
  refine lv_iload_n X.1 X.2.1 d_X_decision_1 rfl (lv_at hl 1 rfl) ?_
  refine zx_callq (zx_runV (As := [.int (x)]) (rest := []) X hH mv_X_45 ((c_X_find g l N ad E F q rg ev sf lf hF8 hN hT hok (x)) _) (by omega) hT.1 rfl ⟨Nat.le_of_ble_eq_true rfl, Nat.le_of_ble_eq_true rfl⟩ rfl hl rfl (Nat.le_of_ble_eq_true rfl) d_X_decision_2 ⟨Nat.le_of_ble_eq_true rfl, Nat.le_of_ble_eq_true rfl⟩) hH (fun r N1 ad1 E1 H locs hq hH => ?_)
  obtain ⟨rfl, rfl, rfl, hv⟩ := hq
  by_cases d1 : 1 ≤ (x).toInt ∧ (x).toInt ≤ (q 0 : Int)
  · obtain ⟨i, hi⟩ : ∃ i, i = (x).toInt.toNat - 1 := ⟨_, rfl⟩
    rw [if_pos d1, ← hi] at hv
    subst hv
    have hi0 : i < q 0 := by omega
    have hR := hT.2.2.2.2.2 i hi0
    have hro := hok.2.1 i hi0
    obtain ⟨r0, r1, r2, r3, r4, r5, r7, r8, r6⟩ := hro.1
    have hs1 := hst i hi0
    refine W.eq (g2 := F0 m 5 ls ([.ref (ad (F + 5 * (i)))])) rfl ?_
    refine lv_astore_n (lv' := [(3, .ref (ad (F + 5 * (i)))), (0, .ref (ad (0))), (1, .int (x)), (2, .int (y))]) X.1 X.2.1 d_X_decision_5 rfl hl (by decide) rfl (fun ls hl => ?_)
    refine lv_aload_n X.1 X.2.1 d_X_decision_6 rfl (lv_at hl 0 rfl) ?_
    refine lv_ifnonnull (tgt := 13) X.1 X.2.1 d_X_decision_7 (by decide) ?_
    refine lv_iload_n X.1 X.2.1 d_X_decision_13 rfl (lv_at hl 3 rfl) ?_
    refine lv_iconst (v := nI 1) X.1 X.2.1 d_X_decision_14 (by decide) ?_
    refine lv_icmp_lt (tgt := 28) X.1 X.2.1 d_X_decision_15 (by decide) (fun c2 => ?_) (fun c2 => ?_)
    · have c2 := (zn_lt rfl (nI_toInt (by omega))).mp c2
      refine lv_bipush (v := (-4)) X.1 X.2.1 d_X_decision_28 (by decide) ?_
      exact zx_iret X hr hlk hH (Nat.le_of_ble_eq_true rfl) (Nat.le_of_ble_eq_true rfl) d_X_decision_30 ⟨rfl, rfl, by rw [zs_dec_bad d1 hi (by omega)], by rw [zs_dec_bad d1 hi (by omega)]; exact hT, zt_fr.rf⟩
    · have c2 := mt (zn_lt rfl (nI_toInt (by omega))).mpr c2
      refine lv_iload_n X.1 X.2.1 d_X_decision_18 rfl (lv_at hl 3 rfl) ?_
      refine lv_aload_n X.1 X.2.1 d_X_decision_19 rfl (lv_at hl 0 rfl) ?_
      refine zx_get (v := .int (nI ((rg (i)).1 0))) X hH fg_X_49 (by omega) hR.1 rfl d_X_decision_20 ?_
      refine lv_iconst (v := nI 1) X.1 X.2.1 d_X_decision_23 (by decide) ?_
      refine lv_isub X.1 X.2.1 d_X_decision_24 ?_
      refine zx_top (pk_sub (by omega)) ?_
      refine lv_icmp_le (tgt := 31) X.1 X.2.1 d_X_decision_25 (by decide) (fun c3 => ?_) (fun c3 => ?_)
      · have c3 := (zn_le rfl (nI_toInt (by omega))).mp c3
        refine lv_aload_n X.1 X.2.1 d_X_decision_31 rfl (lv_at hl 0 rfl) ?_
        refine lv_iload_n X.1 X.2.1 d_X_decision_32 rfl (lv_at hl 3 rfl) ?_
        have hy : y = nI y.toInt.toNat := zn_nat (by omega)
        refine zx_top hy ?_
        refine zx_calli (zx_runV (As := [.int (nI (y.toInt.toNat))]) (rest := []) X hH mv_X_56 ((c_R_isAheadOf g l N ad E (F + 5 * i) (rg i).1 (rg i).2 (by omega) hR hro y.toInt.toNat (by omega)) _) (by omega) hR.1 rfl ⟨Nat.le_of_ble_eq_true rfl, Nat.le_of_ble_eq_true rfl⟩ rfl hl rfl (Nat.le_of_ble_eq_true rfl) d_X_decision_33 ⟨Nat.le_of_ble_eq_true rfl, Nat.le_of_ble_eq_true rfl⟩) hH (fun r N1 ad1 E1 H locs hq hH => ?_)
        obtain ⟨rfl, rfl, rfl, rfl⟩ := hq
        by_cases d4 : (rg i).1 2 = 0 ∧ (rg i).1 3 < y.toInt.toNat
        · refine zx_top (b := nI 1) (by rw [if_pos d4]) ?_
          refine lv_if_ne (tgt := 42) X.1 X.2.1 d_X_decision_36 (by decide) (fun z => ?_) (fun z => ?_)
          · clear z
            refine lv_aload_n X.1 X.2.1 d_X_decision_42 rfl (lv_at hl 0 rfl) ?_
            refine lv_iload_n X.1 X.2.1 d_X_decision_43 rfl (lv_at hl 3 rfl) ?_
            refine zx_top hy ?_
            refine zx_calli (zx_runV (As := [.int (nI (y.toInt.toNat))]) (rest := []) X hH mv_X_117 ((c_R_addDecision g l N ad E (F + 5 * i) (rg i).1 (rg i).2 (by omega) hR hro y.toInt.toNat (by omega) (by omega)) _) (by omega) hR.1 rfl ⟨Nat.le_of_ble_eq_true rfl, Nat.le_of_ble_eq_true rfl⟩ rfl hl rfl (Nat.le_of_ble_eq_true rfl) d_X_decision_44 ⟨Nat.le_of_ble_eq_true rfl, Nat.le_of_ble_eq_true rfl⟩) hH (fun r N1 ad1 E1 H locs hq hH => ?_)
            obtain ⟨rfl, rfl, hq⟩ := hq
            rcases hq with ⟨z1, rfl, rfl⟩ | ⟨z1, rfl, hR, hf⟩
            · refine lv_if_eq (tgt := 54) X.1 X.2.1 d_X_decision_47 (by decide) (fun _ => ?_) (fun z => absurd rfl z)
              refine lv_iconst (v := nI 0) X.1 X.2.1 d_X_decision_54 (by decide) ?_
              exact zx_iret X hr hlk hH (Nat.le_of_ble_eq_true rfl) (Nat.le_of_ble_eq_true rfl) d_X_decision_55 ⟨rfl, rfl, by rw [zs_dec_was d1 hi ⟨by omega, by omega⟩ ⟨by omega, by omega⟩ z1], by rw [zs_dec_was d1 hi ⟨by omega, by omega⟩ ⟨by omega, by omega⟩ z1]; exact hT, zt_fr.rf⟩
            · refine lv_if_eq (tgt := 54) X.1 X.2.1 d_X_decision_47 (by decide) (fun z => absurd z (by decide)) (fun _ => ?_)
              refine lv_iconst (v := nI 1) X.1 X.2.1 d_X_decision_50 (by decide) ?_
              refine lv_goto (tgt := 55) X.1 X.2.1 d_X_decision_51 (by decide) ?_
              exact zx_iret X hr hlk hH (Nat.le_of_ble_eq_true rfl) (Nat.le_of_ble_eq_true rfl) d_X_decision_55 ⟨rfl, rfl, by rw [zs_dec_ok d1 hi ⟨by omega, by omega⟩ ⟨by omega, by omega⟩ z1], by rw [zs_dec_ok d1 hi ⟨by omega, by omega⟩ ⟨by omega, by omega⟩ z1]; exact (hT.reg0 (r := ((rg i).1, va_up (rg i).2 3 (va_up (va_up ((rg i).2 3) y.toInt.toNat 1) (y.toInt.toNat + 1) 2))) hF8 hi0 (hR.arr (bx_uu _ _ _ _)) hf), hf.t⟩
          · exact absurd z (by decide)
        · refine zx_top (b := nI 0) (by rw [if_neg d4]) ?_
          refine lv_if_ne (tgt := 42) X.1 X.2.1 d_X_decision_36 (by decide) (fun z => ?_) (fun z => ?_)
          · exact absurd z (by decide)
          · clear z
            refine lv_bipush (v := (-5)) X.1 X.2.1 d_X_decision_39 (by decide) ?_
            exact zx_iret X hr hlk hH (Nat.le_of_ble_eq_true rfl) (Nat.le_of_ble_eq_true rfl) d_X_decision_41 ⟨rfl, rfl, by rw [zs_dec_late d1 hi ⟨by omega, by omega⟩ (by omega)], by rw [zs_dec_late d1 hi ⟨by omega, by omega⟩ (by omega)]; exact hT, zt_fr.rf⟩
      · have c3 := mt (zn_le rfl (nI_toInt (by omega))).mpr c3
        refine lv_bipush (v := (-4)) X.1 X.2.1 d_X_decision_28 (by decide) ?_
        exact zx_iret X hr hlk hH (Nat.le_of_ble_eq_true rfl) (Nat.le_of_ble_eq_true rfl) d_X_decision_30 ⟨rfl, rfl, by rw [zs_dec_bad d1 hi (by omega)], by rw [zs_dec_bad d1 hi (by omega)]; exact hT, zt_fr.rf⟩
  · rw [if_neg d1] at hv
    subst hv
    refine W.eq (g2 := F0 m 5 ls ([.null])) rfl ?_
    refine lv_astore_nN (lv' := [(3, .null), (0, .ref (ad (0))), (1, .int (x)), (2, .int (y))]) X.1 X.2.1 d_X_decision_5 rfl hl (by decide) rfl (fun ls hl => ?_)
    refine lv_aload_nN X.1 X.2.1 d_X_decision_6 rfl (lv_at hl 0 rfl) ?_
    refine lv_ifnonnullN X.1 X.2.1 d_X_decision_7 ?_
    refine lv_bipush (v := (-2)) X.1 X.2.1 d_X_decision_10 (by decide) ?_
    exact zx_iret X hr hlk hH (Nat.le_of_ble_eq_true rfl) (Nat.le_of_ble_eq_true rfl) d_X_decision_12 ⟨rfl, rfl, by rw [zs_dec_no d1], by rw [zs_dec_no d1]; exact hT, zt_fr.rf⟩

set_option maxHeartbeats 4000000 in
set_option maxRecDepth 100000 in
theorem c_X_cancel (g : zw_G) (l : Launch) (N : Nat) (ad : Nat → Nat) (E : Nat → va_E) (F : Nat) (q : Nat → Nat) (rg : zt_R) (ev sf lf : Nat → Nat) (hF8 : 8 ≤ F) (hN : N = F + 5 * q 0) (hT : zt_at g ad E F q rg ev sf lf) (hok : zt_ok q rg ev sf) (x : Int32) : zc_i g l y_X_cancel b_X_cancel 3 (some .boolean) { frames := 1, cells := 0, slots := 0, locals := 40 } [.ref (ad (0)), .int (x)] N ad E (fun v N1 ad1 E1 => N = N1 ∧ ad = ad1 ∧ v = (zs_can q rg x).1 ∧ zt_at g ad E1 F q (zs_can q rg x).2 ev sf lf ∧ zt_fr E E1 F) := by
  refine zc_i.of (by decide) (Nat.le_of_ble_eq_true rfl) ?_
  intro p e s m below meth c ls A X hr hlk hl hH
  have hl : lv_has ls 3 [(0, .ref (ad (0))), (1, .int (x))] := hl
  obtain ⟨k0, k2, k3, k3a, k4, k4a, k5, k5a, k6, k6a⟩ := hok.1
  refine lv_aload_n X.1 X.2.1 d_X_cancel_0 rfl (lv_at hl 0 rfl) ?_
  refine lv_iload_n X.1 X.2.1 d_X_cancel_1 rfl (lv_at hl 1 rfl) ?_
  refine zx_callq (zx_runV (As := [.int (x)]) (rest := []) X hH mv_X_45 ((c_X_find g l N ad E F q rg ev sf lf hF8 hN hT hok (x)) _) (by omega) hT.1 rfl ⟨Nat.le_of_ble_eq_true rfl, Nat.le_of_ble_eq_true rfl⟩ rfl hl rfl (Nat.le_of_ble_eq_true rfl) d_X_cancel_2 ⟨Nat.le_of_ble_eq_true rfl, Nat.le_of_ble_eq_true rfl⟩) hH (fun r N1 ad1 E1 H locs hq hH => ?_)
  obtain ⟨rfl, rfl, rfl, hv⟩ := hq
  by_cases d1 : 1 ≤ (x).toInt ∧ (x).toInt ≤ (q 0 : Int)
  · obtain ⟨i, hi⟩ : ∃ i, i = (x).toInt.toNat - 1 := ⟨_, rfl⟩
    rw [if_pos d1, ← hi] at hv
    subst hv
    have hi0 : i < q 0 := by omega
    have hR := hT.2.2.2.2.2 i hi0
    have hro := hok.2.1 i hi0
    obtain ⟨r0, r1, r2, r3, r4, r5, r7, r8, r6⟩ := hro.1
    refine W.eq (g2 := F0 m 5 ls ([.ref (ad (F + 5 * (i)))])) rfl ?_
    refine lv_astore_n (lv' := [(2, .ref (ad (F + 5 * (i)))), (0, .ref (ad (0))), (1, .int (x))]) X.1 X.2.1 d_X_cancel_5 rfl hl (by decide) rfl (fun ls hl => ?_)
    refine lv_aload_n X.1 X.2.1 d_X_cancel_6 rfl (lv_at hl 1 rfl) ?_
    refine zx_get (v := .int (nI (q 2))) X hH fg_X_34 (by omega) hT.1 rfl d_X_cancel_7 ?_
    refine lv_if_ne (tgt := 31) X.1 X.2.1 d_X_cancel_10 (by decide) (fun c2 => ?_) (fun c2 => ?_)
    · have c2 := mt (zn_eq (nI_toInt (by omega)) zn_0).mpr c2
      refine lv_iconst (v := nI 0) X.1 X.2.1 d_X_cancel_31 (by decide) ?_
      exact zx_zret X hr hlk hH (Nat.le_of_ble_eq_true rfl) (Nat.le_of_ble_eq_true rfl) d_X_cancel_32 rfl ⟨rfl, rfl, by rw [zs_can_a (by omega)], by rw [zs_can_a (by omega)]; exact hT, zt_fr.rf⟩
    · have c2 := (zn_eq (nI_toInt (by omega)) zn_0).mp c2
      refine lv_aload_n X.1 X.2.1 d_X_cancel_13 rfl (lv_at hl 0 rfl) ?_
      refine lv_ifnull X.1 X.2.1 d_X_cancel_14 ?_
      refine lv_aload_n X.1 X.2.1 d_X_cancel_17 rfl (lv_at hl 0 rfl) ?_
      refine zx_calli (zx_runV (As := []) (rest := []) X hH mv_X_91 ((c_R_goesOn g l N ad E (F + 5 * i) (rg i).1 (rg i).2 (by omega) hR hro) _) (by omega) hR.1 rfl ⟨Nat.le_of_ble_eq_true rfl, Nat.le_of_ble_eq_true rfl⟩ rfl hl rfl (Nat.le_of_ble_eq_true rfl) d_X_cancel_18 ⟨Nat.le_of_ble_eq_true rfl, Nat.le_of_ble_eq_true rfl⟩) hH (fun r N1 ad1 E1 H locs hq hH => ?_)
      obtain ⟨rfl, rfl, rfl, rfl⟩ := hq
      by_cases d3 : (rg i).1 2 = 0
      · refine zx_top (b := nI 1) (by rw [if_pos d3]) ?_
        refine lv_if_eq (tgt := 31) X.1 X.2.1 d_X_cancel_21 (by decide) (fun z => ?_) (fun z => ?_)
        · exact absurd z (by decide)
        · clear z
          refine lv_aload_n X.1 X.2.1 d_X_cancel_24 rfl (lv_at hl 0 rfl) ?_
          refine zx_get (v := .int (nI ((rg (i)).1 7))) X hH fg_X_95 (by omega) hR.1 rfl d_X_cancel_25 ?_
          refine lv_if_eq (tgt := 33) X.1 X.2.1 d_X_cancel_28 (by decide) (fun c4 => ?_) (fun c4 => ?_)
          · have c4 := (zn_eq (nI_toInt (by omega)) zn_0).mp c4
            refine lv_aload_n X.1 X.2.1 d_X_cancel_33 rfl (lv_at hl 0 rfl) ?_
            refine lv_iconst (v := nI 1) X.1 X.2.1 d_X_cancel_34 (by decide) ?_
            refine zx_put X hH fp_X_95 (by omega) hR.1 (Nat.le_of_ble_eq_true rfl) rfl rfl d_X_cancel_35 (fun H locs hH => ?_)
            have hH : zw_H g A s.heap s N ad (va_up E (F + 5 * i) (zr_o ad (F + 5 * i) (va_up (rg i).1 7 1))) H locs := hH
            have hR := hR.sc (va_up (rg i).1 7 1)
            have hf : zr_fr E (va_up E (F + 5 * i) (zr_o ad (F + 5 * i) (va_up (rg i).1 7 1))) (F + 5 * i) := zr_fr.rf.up (by omega) (by omega)
            refine lv_iconst (v := nI 1) X.1 X.2.1 d_X_cancel_38 (by decide) ?_
            exact zx_zret X hr hlk hH (Nat.le_of_ble_eq_true rfl) (Nat.le_of_ble_eq_true rfl) d_X_cancel_39 rfl ⟨rfl, rfl, by rw [zs_can_ok hi ⟨by omega, by omega, by omega⟩ ⟨by omega, by omega⟩], by rw [zs_can_ok hi ⟨by omega, by omega, by omega⟩ ⟨by omega, by omega⟩]; exact (hT.reg0 (r := (va_up (rg i).1 7 1, (rg i).2)) hF8 hi0 hR hf), hf.t⟩
          · have c4 := mt (zn_eq (nI_toInt (by omega)) zn_0).mpr c4
            refine lv_iconst (v := nI 0) X.1 X.2.1 d_X_cancel_31 (by decide) ?_
            exact zx_zret X hr hlk hH (Nat.le_of_ble_eq_true rfl) (Nat.le_of_ble_eq_true rfl) d_X_cancel_32 rfl ⟨rfl, rfl, by rw [zs_can_b hi (by omega)], by rw [zs_can_b hi (by omega)]; exact hT, zt_fr.rf⟩
      · refine zx_top (b := nI 0) (by rw [if_neg d3]) ?_
        refine lv_if_eq (tgt := 31) X.1 X.2.1 d_X_cancel_21 (by decide) (fun z => ?_) (fun z => ?_)
        · clear z
          refine lv_iconst (v := nI 0) X.1 X.2.1 d_X_cancel_31 (by decide) ?_
          exact zx_zret X hr hlk hH (Nat.le_of_ble_eq_true rfl) (Nat.le_of_ble_eq_true rfl) d_X_cancel_32 rfl ⟨rfl, rfl, by rw [zs_can_b hi (by omega)], by rw [zs_can_b hi (by omega)]; exact hT, zt_fr.rf⟩
        · exact absurd z (by decide)
  · rw [if_neg d1] at hv
    subst hv
    refine W.eq (g2 := F0 m 5 ls ([.null])) rfl ?_
    refine lv_astore_nN (lv' := [(2, .null), (0, .ref (ad (0))), (1, .int (x))]) X.1 X.2.1 d_X_cancel_5 rfl hl (by decide) rfl (fun ls hl => ?_)
    refine lv_aload_n X.1 X.2.1 d_X_cancel_6 rfl (lv_at hl 1 rfl) ?_
    refine zx_get (v := .int (nI (q 2))) X hH fg_X_34 (by omega) hT.1 rfl d_X_cancel_7 ?_
    refine lv_if_ne (tgt := 31) X.1 X.2.1 d_X_cancel_10 (by decide) (fun c5 => ?_) (fun c5 => ?_)
    · have c5 := mt (zn_eq (nI_toInt (by omega)) zn_0).mpr c5
      refine lv_iconst (v := nI 0) X.1 X.2.1 d_X_cancel_31 (by decide) ?_
      exact zx_zret X hr hlk hH (Nat.le_of_ble_eq_true rfl) (Nat.le_of_ble_eq_true rfl) d_X_cancel_32 rfl ⟨rfl, rfl, by rw [zs_can_a (by omega)], by rw [zs_can_a (by omega)]; exact hT, zt_fr.rf⟩
    · have c5 := (zn_eq (nI_toInt (by omega)) zn_0).mp c5
      refine lv_aload_nN X.1 X.2.1 d_X_cancel_13 rfl (lv_at hl 0 rfl) ?_
      refine lv_ifnullN (tgt := 31) X.1 X.2.1 d_X_cancel_14 (by decide) ?_
      refine lv_iconst (v := nI 0) X.1 X.2.1 d_X_cancel_31 (by decide) ?_
      exact zx_zret X hr hlk hH (Nat.le_of_ble_eq_true rfl) (Nat.le_of_ble_eq_true rfl) d_X_cancel_32 rfl ⟨rfl, rfl, by rw [zs_can_a (by omega)], by rw [zs_can_a (by omega)]; exact hT, zt_fr.rf⟩

set_option maxHeartbeats 4000000 in
set_option maxRecDepth 100000 in
theorem c_X_post (g : zw_G) (l : Launch) (N : Nat) (ad : Nat → Nat) (E : Nat → va_E) (F : Nat) (q : Nat → Nat) (rg : zt_R) (ev sf lf : Nat → Nat) (hF8 : 8 ≤ F) (hN : N = F + 5 * q 0) (hT : zt_at g ad E F q rg ev sf lf) (hok : zt_ok q rg ev sf) (x : Int32) : zc_i g l y_X_post b_X_post 2 (some .int) { frames := 2, cells := 0, slots := 0, locals := 80 } [.ref (ad (0)), .int (x)] N ad E (fun v N1 ad1 E1 => N = N1 ∧ ad = ad1 ∧ v = (zs_post q ev x).1 ∧ zt_at g ad E1 F q rg (zs_post q ev x).2 sf lf ∧ zt_fr E E1 F) := by
  refine zc_i.of (by decide) (Nat.le_of_ble_eq_true rfl) ?_
  intro p e s m below meth c ls A X hr hlk hl hH
  have hl : lv_has ls 2 [(0, .ref (ad (0))), (1, .int (x))] := hl
  obtain ⟨k0, k2, k3, k3a, k4, k4a, k5, k5a, k6, k6a⟩ := hok.1
  refine lv_iload_n X.1 X.2.1 d_X_post_0 rfl (lv_at hl 1 rfl) ?_
  refine zx_calli (zx_runS (As := [.int (x)]) (rest := []) X hH ms_X_52 ((c_X_isEvent g l N ad E (x)) _) ⟨Nat.le_of_ble_eq_true rfl, Nat.le_of_ble_eq_true rfl⟩ rfl hl rfl (Nat.le_of_ble_eq_true rfl) d_X_post_1 ⟨Nat.le_of_ble_eq_true rfl, Nat.le_of_ble_eq_true rfl⟩) hH (fun r N1 ad1 E1 H locs hq hH => ?_)
  obtain ⟨rfl, rfl, rfl, rfl⟩ := hq
  by_cases d1 : 0 ≤ (x).toInt ∧ (x).toInt < 16
  · refine zx_top (b := nI 1) (by rw [if_pos d1]) ?_
    refine lv_if_ne (tgt := 10) X.1 X.2.1 d_X_post_4 (by decide) (fun z => ?_) (fun z => ?_)
    · clear z
      refine lv_aload_n X.1 X.2.1 d_X_post_10 rfl (lv_at hl 0 rfl) ?_
      refine zx_get (v := .int (nI (q 2))) X hH fg_X_34 (by omega) hT.1 rfl d_X_post_11 ?_
      refine lv_if_eq (tgt := 20) X.1 X.2.1 d_X_post_14 (by decide) (fun c2 => ?_) (fun c2 => ?_)
      · have c2 := (zn_eq (nI_toInt (by omega)) zn_0).mp c2
        refine lv_aload_n X.1 X.2.1 d_X_post_20 rfl (lv_at hl 0 rfl) ?_
        refine zx_get (v := .ref (ad (2))) X hH fg_X_18 (by omega) hT.1 rfl d_X_post_21 ?_
        refine lv_iload_n X.1 X.2.1 d_X_post_24 rfl (lv_at hl 1 rfl) ?_
        have hx9 : x = nI x.toInt.toNat := zn_nat (by omega)
        refine zx_top hx9 ?_
        refine zx_callv (zx_runV (As := [.int (nI (x.toInt.toNat))]) (rest := []) X hH mv_X_66 ((c_V_addPosting g l N ad E 2 3 ev (by omega) (by omega) (by decide) hT.2.2.1 x.toInt.toNat (by omega) (hok.2.2.1 _)) _) (by omega) hT.2.2.1.1 rfl ⟨Nat.le_of_ble_eq_true rfl, Nat.le_of_ble_eq_true rfl⟩ rfl hl rfl (Nat.le_of_ble_eq_true rfl) d_X_post_25 ⟨Nat.le_of_ble_eq_true rfl, Nat.le_of_ble_eq_true rfl⟩) hH (fun N1 ad1 E1 H locs hq hH => ?_)
        obtain ⟨rfl, rfl, rfl⟩ := hq
        have hT : zt_at g ad (va_up E 3 (zr_ia g 16 (va_up ev x.toInt.toNat (ev x.toInt.toNat + 1)))) F q rg (va_up ev x.toInt.toNat (ev x.toInt.toNat + 1)) sf lf := hT.evs hF8 _
        have hf : zt_fr E (va_up E 3 (zr_ia g 16 (va_up ev x.toInt.toNat (ev x.toInt.toNat + 1)))) F := fun j a b => va_up_ne _ _ (by omega)
        generalize va_up E 3 (zr_ia g 16 (va_up ev x.toInt.toNat (ev x.toInt.toNat + 1))) = E2 at hH hT hf
        refine lv_aload_n X.1 X.2.1 d_X_post_28 rfl (lv_at hl 0 rfl) ?_
        refine zx_get (v := .ref (ad (2))) X hH fg_X_18 (by omega) hT.1 rfl d_X_post_29 ?_
        refine lv_iload_n X.1 X.2.1 d_X_post_32 rfl (lv_at hl 1 rfl) ?_
        refine zx_top hx9 ?_
        refine zx_calli (zx_runV (As := [.int (nI (x.toInt.toNat))]) (rest := []) X hH mv_X_69 ((c_V_untaken g l N ad E2 2 3 (va_up ev x.toInt.toNat (ev x.toInt.toNat + 1)) (by omega) (by omega) (by decide) hT.2.2.1 x.toInt.toNat (by omega)) _) (by omega) hT.2.2.1.1 rfl ⟨Nat.le_of_ble_eq_true rfl, Nat.le_of_ble_eq_true rfl⟩ rfl hl rfl (Nat.le_of_ble_eq_true rfl) d_X_post_33 ⟨Nat.le_of_ble_eq_true rfl, Nat.le_of_ble_eq_true rfl⟩) hH (fun r N1 ad1 E1 H locs hq hH => ?_)
        obtain ⟨rfl, rfl, rfl, rfl⟩ := hq
        exact zx_iret X hr hlk hH (Nat.le_of_ble_eq_true rfl) (Nat.le_of_ble_eq_true rfl) d_X_post_36 ⟨rfl, rfl, by rw [zs_post_ok ⟨by omega, by omega⟩ (by omega), va_up_self], by rw [zs_post_ok ⟨by omega, by omega⟩ (by omega)]; exact hT, hf⟩
      · have c2 := mt (zn_eq (nI_toInt (by omega)) zn_0).mpr c2
        refine lv_bipush (v := (-5)) X.1 X.2.1 d_X_post_17 (by decide) ?_
        exact zx_iret X hr hlk hH (Nat.le_of_ble_eq_true rfl) (Nat.le_of_ble_eq_true rfl) d_X_post_19 ⟨rfl, rfl, by rw [zs_post_off ⟨by omega, by omega⟩ (by omega)], by rw [zs_post_off ⟨by omega, by omega⟩ (by omega)]; exact hT, zt_fr.rf⟩
    · exact absurd z (by decide)
  · refine zx_top (b := nI 0) (by rw [if_neg d1]) ?_
    refine lv_if_ne (tgt := 10) X.1 X.2.1 d_X_post_4 (by decide) (fun z => ?_) (fun z => ?_)
    · exact absurd z (by decide)
    · clear z
      refine lv_bipush (v := (-4)) X.1 X.2.1 d_X_post_7 (by decide) ?_
      exact zx_iret X hr hlk hH (Nat.le_of_ble_eq_true rfl) (Nat.le_of_ble_eq_true rfl) d_X_post_9 ⟨rfl, rfl, by rw [zs_post_bad (by omega)], by rw [zs_post_bad (by omega)]; exact hT, zt_fr.rf⟩

set_option maxHeartbeats 4000000 in
set_option maxRecDepth 100000 in
theorem c_X_turn (g : zw_G) (l : Launch) (N : Nat) (ad : Nat → Nat) (E : Nat → va_E) (F : Nat) (q : Nat → Nat) (rg : zt_R) (ev sf lf : Nat → Nat) (hF8 : 8 ≤ F) (hN : N = F + 5 * q 0) (hT : zt_at g ad E F q rg ev sf lf) (hok : zt_ok q rg ev sf) (x : Int32) (kc ks : Nat) (hkc : (zs_turn q sf x).1 4 ≤ q 4 + kc) (hks : 2 * (zs_turn q sf x).1 4 ≤ 2 * q 4 + ks) : zc_v g l y_X_turn b_X_turn 2 { frames := 4, cells := kc, slots := ks, locals := 160 } [.ref (ad (0)), .int (x)] N ad E (fun N1 ad1 E1 => N = N1 ∧ (∀ k, k ≠ 5 → k < N → ad1 k = ad k) ∧ zt_at g ad1 E1 F (zs_turn q sf x).1 rg ev (zs_turn q sf x).2 lf ∧ zt_fr E E1 F) := by
  refine zc_v.of (by decide) (Nat.le_of_ble_eq_true rfl) ?_
  intro p e s m below meth c ls A X hr hlk hnm hl hH
  have hl : lv_has ls 2 [(0, .ref (ad (0))), (1, .int (x))] := hl
  obtain ⟨k0, k2, k3, k3a, k4, k4a, k5, k5a, k6, k6a⟩ := hok.1
  refine lv_aload_n X.1 X.2.1 d_X_turn_0 rfl (lv_at hl 0 rfl) ?_
  refine zx_get (v := .int (nI (q 2))) X hH fg_X_34 (by omega) hT.1 rfl d_X_turn_1 ?_
  refine lv_if_ne (tgt := 15) X.1 X.2.1 d_X_turn_4 (by decide) (fun c1 => ?_) (fun c1 => ?_)
  · have c1 := mt (zn_eq (nI_toInt (by omega)) zn_0).mpr c1
    exact zx_vret X hr hlk hH (by dsimp only; omega) (by dsimp only; omega) d_X_turn_15 ⟨rfl, fun _ _ _ => rfl, by rw [zs_turn_no (by omega)]; exact hT, zt_fr.rf⟩
  · have c1 := (zn_eq (nI_toInt (by omega)) zn_0).mp c1
    refine lv_aload_n X.1 X.2.1 d_X_turn_7 rfl (lv_at hl 0 rfl) ?_
    refine lv_iload_n X.1 X.2.1 d_X_turn_8 rfl (lv_at hl 1 rfl) ?_
    refine zx_callq (zx_runV (As := [.int (x)]) (rest := []) X hH mv_X_45 ((c_X_find g l N ad E F q rg ev sf lf hF8 hN hT hok (x)) _) (by omega) hT.1 rfl ⟨Nat.le_of_ble_eq_true rfl, Nat.le_of_ble_eq_true rfl⟩ rfl hl rfl (Nat.le_of_ble_eq_true rfl) d_X_turn_9 ⟨Nat.le_of_ble_eq_true rfl, Nat.le_of_ble_eq_true rfl⟩) hH (fun r N1 ad1 E1 H locs hq hH => ?_)
    obtain ⟨rfl, rfl, rfl, hv⟩ := hq
    by_cases d2 : 1 ≤ (x).toInt ∧ (x).toInt ≤ (q 0 : Int)
    · obtain ⟨i, hi⟩ : ∃ i, i = (x).toInt.toNat - 1 := ⟨_, rfl⟩
      rw [if_pos d2, ← hi] at hv
      subst hv
      have hi0 : i < q 0 := by omega
      have hR := hT.2.2.2.2.2 i hi0
      have hro := hok.2.1 i hi0
      obtain ⟨r0, r1, r2, r3, r4, r5, r7, r8, r6⟩ := hro.1
      refine W.eq (g2 := F0 m 12 ls ([.ref (ad (F + 5 * (i)))])) rfl ?_
      refine lv_ifnonnull (tgt := 16) X.1 X.2.1 d_X_turn_12 (by decide) ?_
      refine lv_aload_n X.1 X.2.1 d_X_turn_16 rfl (lv_at hl 0 rfl) ?_
      refine zx_get (v := .ref (ad (4))) X hH fg_X_27 (by omega) hT.1 rfl d_X_turn_17 ?_
      refine lv_iload_n X.1 X.2.1 d_X_turn_20 rfl (lv_at hl 1 rfl) ?_
      have hx9 : x = nI x.toInt.toNat := zn_nat (by omega)
      refine zx_top hx9 ?_
      have hz9 := zs_turn_yes (q := q) (sf := sf) (x := x) ⟨by omega, by omega, by omega⟩
      by_cases t1 : 600 ≤ q 3
      · have hz := zp_sch_full (q := q) (sf := sf) (v := x.toInt.toNat) t1
        rw [← hz9] at hz
        refine zx_callv (zx_runV (As := [.int (nI (x.toInt.toNat))]) (rest := []) X hH mv_X_73 ((c_O_append_full g l N ad E 4 5 600 (q 3) (q 4) sf (by omega) (by omega) (by decide) (by omega) (by omega) (by decide) hT.2.2.2.1 (x.toInt.toNat) (by omega)) _) (by omega) hT.2.2.2.1.1 rfl ⟨Nat.le_of_ble_eq_true rfl, Nat.le_of_ble_eq_true rfl⟩ rfl hl rfl (Nat.le_of_ble_eq_true rfl) d_X_turn_21 ⟨(by dsimp only; omega), (by dsimp only; omega)⟩) hH (fun N1 ad1 E2 H locs hq hH => ?_)
        obtain ⟨rfl, rfl, rfl⟩ := hq
        exact zx_vret X hr hlk hH (by dsimp only; omega) (by dsimp only; omega) d_X_turn_24 ⟨rfl, fun _ _ _ => rfl, by rw [hz]; exact hT, zt_fr.rf⟩
      · by_cases t2 : q 4 ≤ q 3
        · have hz := zp_sch_grow (q := q) (sf := sf) (v := x.toInt.toNat) t1 t2
          rw [← hz9] at hz
          rw [hz] at hkc hks
          have hkc : 2 * q 4 ≤ q 4 + kc := hkc
          have hks : 2 * (2 * q 4) ≤ 2 * q 4 + ks := hks
          refine zx_callv (zx_runV (As := [.int (nI (x.toInt.toNat))]) (rest := []) X hH mv_X_73 ((c_O_append_grow g l N ad E 4 5 600 (q 3) (q 4) sf (by omega) (by omega) (by decide) (by omega) (by omega) (by decide) hT.2.2.2.1 (x.toInt.toNat) (by omega) (by omega) (by omega)) _) (by omega) hT.2.2.2.1.1 rfl ⟨Nat.le_of_ble_eq_true rfl, Nat.le_of_ble_eq_true rfl⟩ rfl hl rfl (Nat.le_of_ble_eq_true rfl) d_X_turn_21 ⟨(by dsimp only; omega), (by dsimp only; omega)⟩) hH (fun N1 ad1 E2 H locs hq hH => ?_)
          obtain ⟨rfl, ha, hO, he⟩ := hq
          have hT2 := hT.sch (q1 := va_up (va_up q 4 (2 * q 4)) 3 (q 3 + 1)) hF8 hN hO ha he rfl rfl rfl rfl rfl
          exact zx_vret X hr hlk hH (by dsimp only; omega) (by dsimp only; omega) d_X_turn_24 ⟨rfl, ha, by rw [hz]; exact hT2, fun k a b => he k (by omega) (by omega) (by omega)⟩
        · have hz := zp_sch_room (q := q) (sf := sf) (v := x.toInt.toNat) t1 t2
          rw [← hz9] at hz
          refine zx_callv (zx_runV (As := [.int (nI (x.toInt.toNat))]) (rest := []) X hH mv_X_73 ((c_O_append_room g l N ad E 4 5 600 (q 3) (q 4) sf (by omega) (by omega) (by decide) (by omega) (by omega) (by decide) hT.2.2.2.1 (x.toInt.toNat) (by omega) (by omega)) _) (by omega) hT.2.2.2.1.1 rfl ⟨Nat.le_of_ble_eq_true rfl, Nat.le_of_ble_eq_true rfl⟩ rfl hl rfl (Nat.le_of_ble_eq_true rfl) d_X_turn_21 ⟨(by dsimp only; omega), (by dsimp only; omega)⟩) hH (fun N1 ad1 E2 H locs hq hH => ?_)
          obtain ⟨rfl, rfl, hO, hf2⟩ := hq
          have hT2 := hT.sch (q1 := va_up q 3 (q 3 + 1)) hF8 hN hO (fun _ _ _ => rfl) (fun k _ a b => hf2 k a b) rfl rfl rfl rfl rfl
          exact zx_vret X hr hlk hH (by dsimp only; omega) (by dsimp only; omega) d_X_turn_24 ⟨rfl, fun _ _ _ => rfl, by rw [hz]; exact hT2, fun k a b => hf2 k (by omega) (by omega)⟩
    · rw [if_neg d2] at hv
      subst hv
      refine W.eq (g2 := F0 m 12 ls ([.null])) rfl ?_
      refine lv_ifnonnullN X.1 X.2.1 d_X_turn_12 ?_
      exact zx_vret X hr hlk hH (by dsimp only; omega) (by dsimp only; omega) d_X_turn_15 ⟨rfl, fun _ _ _ => rfl, by rw [zs_turn_no (by omega)]; exact hT, zt_fr.rf⟩
