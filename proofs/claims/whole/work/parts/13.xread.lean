set_option maxHeartbeats 4000000 in
set_option maxRecDepth 100000 in
theorem c_X_find (g : zw_G) (l : Launch) (N : Nat) (ad : Nat → Nat) (E : Nat → va_E) (F : Nat) (q : Nat → Nat) (rg : zt_R) (ev sf lf : Nat → Nat) (hF8 : 8 ≤ F) (hN : N = F + 5 * q 0) (hT : zt_at g ad E F q rg ev sf lf) (hok : zt_ok q rg ev sf) (x : Int32) : zc_q g l y_X_find b_X_find 2 (some (.object "RegionThreads$Region")) { frames := 0, cells := 0, slots := 0, locals := 0 } [.ref (ad (0)), .int (x)] N ad E (fun v N1 ad1 E1 => N = N1 ∧ ad = ad1 ∧ E = E1 ∧ v = if 1 ≤ x.toInt ∧ x.toInt ≤ (q 0 : Int) then some (ad (F + 5 * (x.toInt.toNat - 1))) else none) := by
  refine zc_q.of (by decide) (Nat.le_of_ble_eq_true rfl) ?_
  intro p e s m below meth c ls A X hr hlk hl hH
  have hl : lv_has ls 2 [(0, .ref (ad (0))), (1, .int (x))] := hl
  obtain ⟨k0, k2, k3, k3a, k4, k4a, k5, k5a, k6, k6a⟩ := hok.1
  refine lv_iload_n X.1 X.2.1 d_X_find_0 rfl (lv_at hl 1 rfl) ?_
  refine lv_iconst (v := nI 1) X.1 X.2.1 d_X_find_1 (by decide) ?_
  refine lv_icmp_lt (tgt := 19) X.1 X.2.1 d_X_find_2 (by decide) (fun c1 => ?_) (fun c1 => ?_)
  · have c1 := (zn_lt rfl (nI_toInt (by omega))).mp c1
    refine lv_null X.1 X.2.1 d_X_find_19 ?_
    exact zx_aret (v := none) X hr (Or.inl ⟨_, rfl⟩) hlk hH rfl (Nat.le_of_ble_eq_true rfl) (Nat.le_of_ble_eq_true rfl) d_X_find_20 ⟨rfl, rfl, rfl, (by rw [if_neg (by omega)])⟩
  · have c1 := mt (zn_lt rfl (nI_toInt (by omega))).mpr c1
    refine lv_iload_n X.1 X.2.1 d_X_find_5 rfl (lv_at hl 1 rfl) ?_
    refine lv_aload_n X.1 X.2.1 d_X_find_6 rfl (lv_at hl 0 rfl) ?_
    refine zx_get (v := .int (nI (q 0))) X hH fg_X_38 (by omega) hT.1 rfl d_X_find_7 ?_
    refine lv_icmp_gt (tgt := 19) X.1 X.2.1 d_X_find_10 (by decide) (fun c2 => ?_) (fun c2 => ?_)
    · have c2 := (zn_lt (nI_toInt (by omega)) rfl).mp c2
      refine lv_null X.1 X.2.1 d_X_find_19 ?_
      exact zx_aret (v := none) X hr (Or.inl ⟨_, rfl⟩) hlk hH rfl (Nat.le_of_ble_eq_true rfl) (Nat.le_of_ble_eq_true rfl) d_X_find_20 ⟨rfl, rfl, rfl, (by rw [if_neg (by omega)])⟩
    · have c2 := mt (zn_lt (nI_toInt (by omega)) rfl).mpr c2
      refine lv_iload_n X.1 X.2.1 d_X_find_13 rfl (lv_at hl 1 rfl) ?_
      refine lv_bipush (v := nI 30) X.1 X.2.1 d_X_find_14 (by decide) ?_
      refine lv_icmp_le (tgt := 21) X.1 X.2.1 d_X_find_16 (by decide) (fun c3 => ?_) (fun c3 => ?_)
      · have c3 := (zn_le rfl (nI_toInt (by omega))).mp c3
        refine lv_aload_n X.1 X.2.1 d_X_find_21 rfl (lv_at hl 0 rfl) ?_
        refine zx_get (v := .ref (ad (1))) X hH fg_X_11 (by omega) hT.1 rfl d_X_find_22 ?_
        refine lv_iload_n X.1 X.2.1 d_X_find_25 rfl (lv_at hl 1 rfl) ?_
        refine lv_iconst (v := nI 1) X.1 X.2.1 d_X_find_26 (by decide) ?_
        refine lv_isub X.1 X.2.1 d_X_find_27 ?_
        refine zx_aald (j := x.toInt.toNat - 1) X hH (by omega) hT.2.1 (zn_pred (by omega)) (by omega) (by decide) d_X_find_28 ?_
        exact zx_aret X hr (Or.inl ⟨_, rfl⟩) hlk hH rfl (Nat.le_of_ble_eq_true rfl) (Nat.le_of_ble_eq_true rfl) d_X_find_29 ⟨rfl, rfl, rfl, (by rw [if_pos (by omega), if_pos (by omega)])⟩
      · have c3 := mt (zn_le rfl (nI_toInt (by omega))).mpr c3
        exfalso; omega

set_option maxHeartbeats 4000000 in
set_option maxRecDepth 100000 in
theorem c_X_cleaned (g : zw_G) (l : Launch) (N : Nat) (ad : Nat → Nat) (E : Nat → va_E) (F : Nat) (q : Nat → Nat) (rg : zt_R) (ev sf lf : Nat → Nat) (hF8 : 8 ≤ F) (hN : N = F + 5 * q 0) (hT : zt_at g ad E F q rg ev sf lf) (hok : zt_ok q rg ev sf) (x : Int32) : zc_i g l y_X_cleaned b_X_cleaned 3 (some .int) { frames := 1, cells := 0, slots := 0, locals := 40 } [.ref (ad (0)), .int (x)] N ad E (fun v N1 ad1 E1 => N = N1 ∧ ad = ad1 ∧ E = E1 ∧ v = if 1 ≤ x.toInt ∧ x.toInt ≤ (q 0 : Int) then nI ((rg (x.toInt.toNat - 1)).1 6) else -2) := by
  refine zc_i.of (by decide) (Nat.le_of_ble_eq_true rfl) ?_
  intro p e s m below meth c ls A X hr hlk hl hH
  have hl : lv_has ls 3 [(0, .ref (ad (0))), (1, .int (x))] := hl
  obtain ⟨k0, k2, k3, k3a, k4, k4a, k5, k5a, k6, k6a⟩ := hok.1
  refine lv_aload_n X.1 X.2.1 d_X_cleaned_0 rfl (lv_at hl 0 rfl) ?_
  refine lv_iload_n X.1 X.2.1 d_X_cleaned_1 rfl (lv_at hl 1 rfl) ?_
  refine zx_callq (zx_runV (As := [.int (x)]) (rest := []) X hH mv_X_45 ((c_X_find g l N ad E F q rg ev sf lf hF8 hN hT hok (x)) _) (by omega) hT.1 rfl ⟨Nat.le_of_ble_eq_true rfl, Nat.le_of_ble_eq_true rfl⟩ rfl hl rfl (Nat.le_of_ble_eq_true rfl) d_X_cleaned_2 ⟨Nat.le_of_ble_eq_true rfl, Nat.le_of_ble_eq_true rfl⟩) hH (fun r N1 ad1 E1 H locs hq hH => ?_)
  obtain ⟨rfl, rfl, rfl, hv⟩ := hq
  by_cases d1 : 1 ≤ (x).toInt ∧ (x).toInt ≤ (q 0 : Int)
  · obtain ⟨i, hi⟩ : ∃ i, i = (x).toInt.toNat - 1 := ⟨_, rfl⟩
    rw [if_pos d1, ← hi] at hv
    subst hv
    have hi0 : i < q 0 := by omega
    have hR := hT.2.2.2.2.2 i hi0
    have hro := hok.2.1 i hi0
    obtain ⟨r0, r1, r2, r3, r4, r5, r7, r8, r6⟩ := hro.1
    refine W.eq (g2 := F0 m 5 ls ([.ref (ad (F + 5 * (i)))])) rfl ?_
    refine lv_astore_n (lv' := [(2, .ref (ad (F + 5 * (i)))), (0, .ref (ad (0))), (1, .int (x))]) X.1 X.2.1 d_X_cleaned_5 rfl hl (by decide) rfl (fun ls hl => ?_)
    refine lv_aload_n X.1 X.2.1 d_X_cleaned_6 rfl (lv_at hl 0 rfl) ?_
    refine lv_ifnonnull (tgt := 15) X.1 X.2.1 d_X_cleaned_7 (by decide) ?_
    refine lv_aload_n X.1 X.2.1 d_X_cleaned_15 rfl (lv_at hl 0 rfl) ?_
    refine zx_get (v := .int (nI ((rg (i)).1 6))) X hH fg_X_98 (by omega) hR.1 rfl d_X_cleaned_16 ?_
    exact zx_iret X hr hlk hH (Nat.le_of_ble_eq_true rfl) (Nat.le_of_ble_eq_true rfl) d_X_cleaned_19 ⟨rfl, rfl, rfl, (by rw [if_pos d1, hi])⟩
  · rw [if_neg d1] at hv
    subst hv
    refine W.eq (g2 := F0 m 5 ls ([.null])) rfl ?_
    refine lv_astore_nN (lv' := [(2, .null), (0, .ref (ad (0))), (1, .int (x))]) X.1 X.2.1 d_X_cleaned_5 rfl hl (by decide) rfl (fun ls hl => ?_)
    refine lv_aload_nN X.1 X.2.1 d_X_cleaned_6 rfl (lv_at hl 0 rfl) ?_
    refine lv_ifnonnullN X.1 X.2.1 d_X_cleaned_7 ?_
    refine lv_bipush (v := (-2)) X.1 X.2.1 d_X_cleaned_10 (by decide) ?_
    refine lv_goto (tgt := 19) X.1 X.2.1 d_X_cleaned_12 (by decide) ?_
    exact zx_iret X hr hlk hH (Nat.le_of_ble_eq_true rfl) (Nat.le_of_ble_eq_true rfl) d_X_cleaned_19 ⟨rfl, rfl, rfl, (by rw [if_neg d1])⟩

set_option maxHeartbeats 4000000 in
set_option maxRecDepth 100000 in
theorem c_X_backed (g : zw_G) (l : Launch) (N : Nat) (ad : Nat → Nat) (E : Nat → va_E) (F : Nat) (q : Nat → Nat) (rg : zt_R) (ev sf lf : Nat → Nat) (hF8 : 8 ≤ F) (hN : N = F + 5 * q 0) (hT : zt_at g ad E F q rg ev sf lf) (hok : zt_ok q rg ev sf) (x : Int32) : zc_i g l y_X_backed b_X_backed 3 (some .int) { frames := 1, cells := 0, slots := 0, locals := 40 } [.ref (ad (0)), .int (x)] N ad E (fun v N1 ad1 E1 => N = N1 ∧ ad = ad1 ∧ E = E1 ∧ v = if 1 ≤ x.toInt ∧ x.toInt ≤ (q 0 : Int) then nI ((rg (x.toInt.toNat - 1)).1 5) else -2) := by
  refine zc_i.of (by decide) (Nat.le_of_ble_eq_true rfl) ?_
  intro p e s m below meth c ls A X hr hlk hl hH
  have hl : lv_has ls 3 [(0, .ref (ad (0))), (1, .int (x))] := hl
  obtain ⟨k0, k2, k3, k3a, k4, k4a, k5, k5a, k6, k6a⟩ := hok.1
  refine lv_aload_n X.1 X.2.1 d_X_backed_0 rfl (lv_at hl 0 rfl) ?_
  refine lv_iload_n X.1 X.2.1 d_X_backed_1 rfl (lv_at hl 1 rfl) ?_
  refine zx_callq (zx_runV (As := [.int (x)]) (rest := []) X hH mv_X_45 ((c_X_find g l N ad E F q rg ev sf lf hF8 hN hT hok (x)) _) (by omega) hT.1 rfl ⟨Nat.le_of_ble_eq_true rfl, Nat.le_of_ble_eq_true rfl⟩ rfl hl rfl (Nat.le_of_ble_eq_true rfl) d_X_backed_2 ⟨Nat.le_of_ble_eq_true rfl, Nat.le_of_ble_eq_true rfl⟩) hH (fun r N1 ad1 E1 H locs hq hH => ?_)
  obtain ⟨rfl, rfl, rfl, hv⟩ := hq
  by_cases d1 : 1 ≤ (x).toInt ∧ (x).toInt ≤ (q 0 : Int)
  · obtain ⟨i, hi⟩ : ∃ i, i = (x).toInt.toNat - 1 := ⟨_, rfl⟩
    rw [if_pos d1, ← hi] at hv
    subst hv
    have hi0 : i < q 0 := by omega
    have hR := hT.2.2.2.2.2 i hi0
    have hro := hok.2.1 i hi0
    obtain ⟨r0, r1, r2, r3, r4, r5, r7, r8, r6⟩ := hro.1
    refine W.eq (g2 := F0 m 5 ls ([.ref (ad (F + 5 * (i)))])) rfl ?_
    refine lv_astore_n (lv' := [(2, .ref (ad (F + 5 * (i)))), (0, .ref (ad (0))), (1, .int (x))]) X.1 X.2.1 d_X_backed_5 rfl hl (by decide) rfl (fun ls hl => ?_)
    refine lv_aload_n X.1 X.2.1 d_X_backed_6 rfl (lv_at hl 0 rfl) ?_
    refine lv_ifnonnull (tgt := 15) X.1 X.2.1 d_X_backed_7 (by decide) ?_
    refine lv_aload_n X.1 X.2.1 d_X_backed_15 rfl (lv_at hl 0 rfl) ?_
    refine zx_get (v := .int (nI ((rg (i)).1 5))) X hH fg_X_101 (by omega) hR.1 rfl d_X_backed_16 ?_
    exact zx_iret X hr hlk hH (Nat.le_of_ble_eq_true rfl) (Nat.le_of_ble_eq_true rfl) d_X_backed_19 ⟨rfl, rfl, rfl, (by rw [if_pos d1, hi])⟩
  · rw [if_neg d1] at hv
    subst hv
    refine W.eq (g2 := F0 m 5 ls ([.null])) rfl ?_
    refine lv_astore_nN (lv' := [(2, .null), (0, .ref (ad (0))), (1, .int (x))]) X.1 X.2.1 d_X_backed_5 rfl hl (by decide) rfl (fun ls hl => ?_)
    refine lv_aload_nN X.1 X.2.1 d_X_backed_6 rfl (lv_at hl 0 rfl) ?_
    refine lv_ifnonnullN X.1 X.2.1 d_X_backed_7 ?_
    refine lv_bipush (v := (-2)) X.1 X.2.1 d_X_backed_10 (by decide) ?_
    refine lv_goto (tgt := 19) X.1 X.2.1 d_X_backed_12 (by decide) ?_
    exact zx_iret X hr hlk hH (Nat.le_of_ble_eq_true rfl) (Nat.le_of_ble_eq_true rfl) d_X_backed_19 ⟨rfl, rfl, rfl, (by rw [if_neg d1])⟩

set_option maxHeartbeats 4000000 in
set_option maxRecDepth 100000 in
theorem c_X_finished (g : zw_G) (l : Launch) (N : Nat) (ad : Nat → Nat) (E : Nat → va_E) (F : Nat) (q : Nat → Nat) (rg : zt_R) (ev sf lf : Nat → Nat) (hF8 : 8 ≤ F) (hN : N = F + 5 * q 0) (hT : zt_at g ad E F q rg ev sf lf) (hok : zt_ok q rg ev sf) (x : Int32) : zc_i g l y_X_finished b_X_finished 3 (some .int) { frames := 1, cells := 0, slots := 0, locals := 40 } [.ref (ad (0)), .int (x)] N ad E (fun v N1 ad1 E1 => N = N1 ∧ ad = ad1 ∧ E = E1 ∧ v = if 1 ≤ x.toInt ∧ x.toInt ≤ (q 0 : Int) then nI ((rg (x.toInt.toNat - 1)).1 2) else -2) := by
  refine zc_i.of (by decide) (Nat.le_of_ble_eq_true rfl) ?_
  intro p e s m below meth c ls A X hr hlk hl hH
  have hl : lv_has ls 3 [(0, .ref (ad (0))), (1, .int (x))] := hl
  obtain ⟨k0, k2, k3, k3a, k4, k4a, k5, k5a, k6, k6a⟩ := hok.1
  refine lv_aload_n X.1 X.2.1 d_X_finished_0 rfl (lv_at hl 0 rfl) ?_
  refine lv_iload_n X.1 X.2.1 d_X_finished_1 rfl (lv_at hl 1 rfl) ?_
  refine zx_callq (zx_runV (As := [.int (x)]) (rest := []) X hH mv_X_45 ((c_X_find g l N ad E F q rg ev sf lf hF8 hN hT hok (x)) _) (by omega) hT.1 rfl ⟨Nat.le_of_ble_eq_true rfl, Nat.le_of_ble_eq_true rfl⟩ rfl hl rfl (Nat.le_of_ble_eq_true rfl) d_X_finished_2 ⟨Nat.le_of_ble_eq_true rfl, Nat.le_of_ble_eq_true rfl⟩) hH (fun r N1 ad1 E1 H locs hq hH => ?_)
  obtain ⟨rfl, rfl, rfl, hv⟩ := hq
  by_cases d1 : 1 ≤ (x).toInt ∧ (x).toInt ≤ (q 0 : Int)
  · obtain ⟨i, hi⟩ : ∃ i, i = (x).toInt.toNat - 1 := ⟨_, rfl⟩
    rw [if_pos d1, ← hi] at hv
    subst hv
    have hi0 : i < q 0 := by omega
    have hR := hT.2.2.2.2.2 i hi0
    have hro := hok.2.1 i hi0
    obtain ⟨r0, r1, r2, r3, r4, r5, r7, r8, r6⟩ := hro.1
    refine W.eq (g2 := F0 m 5 ls ([.ref (ad (F + 5 * (i)))])) rfl ?_
    refine lv_astore_n (lv' := [(2, .ref (ad (F + 5 * (i)))), (0, .ref (ad (0))), (1, .int (x))]) X.1 X.2.1 d_X_finished_5 rfl hl (by decide) rfl (fun ls hl => ?_)
    refine lv_aload_n X.1 X.2.1 d_X_finished_6 rfl (lv_at hl 0 rfl) ?_
    refine lv_ifnonnull (tgt := 15) X.1 X.2.1 d_X_finished_7 (by decide) ?_
    refine lv_aload_n X.1 X.2.1 d_X_finished_15 rfl (lv_at hl 0 rfl) ?_
    refine zx_get (v := .int (nI ((rg (i)).1 2))) X hH fg_X_120 (by omega) hR.1 rfl d_X_finished_16 ?_
    exact zx_iret X hr hlk hH (Nat.le_of_ble_eq_true rfl) (Nat.le_of_ble_eq_true rfl) d_X_finished_19 ⟨rfl, rfl, rfl, (by rw [if_pos d1, hi])⟩
  · rw [if_neg d1] at hv
    subst hv
    refine W.eq (g2 := F0 m 5 ls ([.null])) rfl ?_
    refine lv_astore_nN (lv' := [(2, .null), (0, .ref (ad (0))), (1, .int (x))]) X.1 X.2.1 d_X_finished_5 rfl hl (by decide) rfl (fun ls hl => ?_)
    refine lv_aload_nN X.1 X.2.1 d_X_finished_6 rfl (lv_at hl 0 rfl) ?_
    refine lv_ifnonnullN X.1 X.2.1 d_X_finished_7 ?_
    refine lv_bipush (v := (-2)) X.1 X.2.1 d_X_finished_10 (by decide) ?_
    refine lv_goto (tgt := 19) X.1 X.2.1 d_X_finished_12 (by decide) ?_
    exact zx_iret X hr hlk hH (Nat.le_of_ble_eq_true rfl) (Nat.le_of_ble_eq_true rfl) d_X_finished_19 ⟨rfl, rfl, rfl, (by rw [if_neg d1])⟩

set_option maxHeartbeats 4000000 in
set_option maxRecDepth 100000 in
theorem c_X_done (g : zw_G) (l : Launch) (N : Nat) (ad : Nat → Nat) (E : Nat → va_E) (F : Nat) (q : Nat → Nat) (rg : zt_R) (ev sf lf : Nat → Nat) (hF8 : 8 ≤ F) (hN : N = F + 5 * q 0) (hT : zt_at g ad E F q rg ev sf lf) (hok : zt_ok q rg ev sf) (x : Int32) : zc_i g l y_X_done b_X_done 3 (some .int) { frames := 1, cells := 0, slots := 0, locals := 40 } [.ref (ad (0)), .int (x)] N ad E (fun v N1 ad1 E1 => N = N1 ∧ ad = ad1 ∧ E = E1 ∧ v = if 1 ≤ x.toInt ∧ x.toInt ≤ (q 0 : Int) then nI ((rg (x.toInt.toNat - 1)).1 3) else -2) := by
  refine zc_i.of (by decide) (Nat.le_of_ble_eq_true rfl) ?_
  intro p e s m below meth c ls A X hr hlk hl hH
  have hl : lv_has ls 3 [(0, .ref (ad (0))), (1, .int (x))] := hl
  obtain ⟨k0, k2, k3, k3a, k4, k4a, k5, k5a, k6, k6a⟩ := hok.1
  refine lv_aload_n X.1 X.2.1 d_X_done_0 rfl (lv_at hl 0 rfl) ?_
  refine lv_iload_n X.1 X.2.1 d_X_done_1 rfl (lv_at hl 1 rfl) ?_
  refine zx_callq (zx_runV (As := [.int (x)]) (rest := []) X hH mv_X_45 ((c_X_find g l N ad E F q rg ev sf lf hF8 hN hT hok (x)) _) (by omega) hT.1 rfl ⟨Nat.le_of_ble_eq_true rfl, Nat.le_of_ble_eq_true rfl⟩ rfl hl rfl (Nat.le_of_ble_eq_true rfl) d_X_done_2 ⟨Nat.le_of_ble_eq_true rfl, Nat.le_of_ble_eq_true rfl⟩) hH (fun r N1 ad1 E1 H locs hq hH => ?_)
  obtain ⟨rfl, rfl, rfl, hv⟩ := hq
  by_cases d1 : 1 ≤ (x).toInt ∧ (x).toInt ≤ (q 0 : Int)
  · obtain ⟨i, hi⟩ : ∃ i, i = (x).toInt.toNat - 1 := ⟨_, rfl⟩
    rw [if_pos d1, ← hi] at hv
    subst hv
    have hi0 : i < q 0 := by omega
    have hR := hT.2.2.2.2.2 i hi0
    have hro := hok.2.1 i hi0
    obtain ⟨r0, r1, r2, r3, r4, r5, r7, r8, r6⟩ := hro.1
    refine W.eq (g2 := F0 m 5 ls ([.ref (ad (F + 5 * (i)))])) rfl ?_
    refine lv_astore_n (lv' := [(2, .ref (ad (F + 5 * (i)))), (0, .ref (ad (0))), (1, .int (x))]) X.1 X.2.1 d_X_done_5 rfl hl (by decide) rfl (fun ls hl => ?_)
    refine lv_aload_n X.1 X.2.1 d_X_done_6 rfl (lv_at hl 0 rfl) ?_
    refine lv_ifnonnull (tgt := 15) X.1 X.2.1 d_X_done_7 (by decide) ?_
    refine lv_aload_n X.1 X.2.1 d_X_done_15 rfl (lv_at hl 0 rfl) ?_
    refine zx_get (v := .int (nI ((rg (i)).1 3))) X hH fg_X_126 (by omega) hR.1 rfl d_X_done_16 ?_
    exact zx_iret X hr hlk hH (Nat.le_of_ble_eq_true rfl) (Nat.le_of_ble_eq_true rfl) d_X_done_19 ⟨rfl, rfl, rfl, (by rw [if_pos d1, hi])⟩
  · rw [if_neg d1] at hv
    subst hv
    refine W.eq (g2 := F0 m 5 ls ([.null])) rfl ?_
    refine lv_astore_nN (lv' := [(2, .null), (0, .ref (ad (0))), (1, .int (x))]) X.1 X.2.1 d_X_done_5 rfl hl (by decide) rfl (fun ls hl => ?_)
    refine lv_aload_nN X.1 X.2.1 d_X_done_6 rfl (lv_at hl 0 rfl) ?_
    refine lv_ifnonnullN X.1 X.2.1 d_X_done_7 ?_
    refine lv_bipush (v := (-2)) X.1 X.2.1 d_X_done_10 (by decide) ?_
    refine lv_goto (tgt := 19) X.1 X.2.1 d_X_done_12 (by decide) ?_
    exact zx_iret X hr hlk hH (Nat.le_of_ble_eq_true rfl) (Nat.le_of_ble_eq_true rfl) d_X_done_19 ⟨rfl, rfl, rfl, (by rw [if_neg d1])⟩

set_option maxHeartbeats 4000000 in
set_option maxRecDepth 100000 in
theorem c_X_log (g : zw_G) (l : Launch) (N : Nat) (ad : Nat → Nat) (E : Nat → va_E) (F : Nat) (q : Nat → Nat) (rg : zt_R) (ev sf lf : Nat → Nat) (hF8 : 8 ≤ F) (hN : N = F + 5 * q 0) (hT : zt_at g ad E F q rg ev sf lf) (hok : zt_ok q rg ev sf) (x : Int32) : zc_i g l y_X_log b_X_log 2 (some .int) { frames := 1, cells := 0, slots := 0, locals := 40 } [.ref (ad (0)), .int (x)] N ad E (fun v N1 ad1 E1 => N = N1 ∧ ad = ad1 ∧ E = E1 ∧ v = nI (if 0 ≤ x.toInt ∧ x.toInt < (q 5 : Int) then lf x.toInt.toNat else 0)) := by
  refine zc_i.of (by decide) (Nat.le_of_ble_eq_true rfl) ?_
  intro p e s m below meth c ls A X hr hlk hl hH
  have hl : lv_has ls 2 [(0, .ref (ad (0))), (1, .int (x))] := hl
  obtain ⟨k0, k2, k3, k3a, k4, k4a, k5, k5a, k6, k6a⟩ := hok.1
  refine lv_aload_n X.1 X.2.1 d_X_log_0 rfl (lv_at hl 0 rfl) ?_
  refine zx_get (v := .ref (ad (6))) X hH fg_X_31 (by omega) hT.1 rfl d_X_log_1 ?_
  refine lv_iload_n X.1 X.2.1 d_X_log_4 rfl (lv_at hl 1 rfl) ?_
  refine zx_calli (zx_runV (As := [.int (x)]) (rest := []) X hH mv_X_79 ((c_O_at g l N ad E 6 7 3000 (q 5) (q 6) lf (by omega) (by omega) (by decide) (by omega) (by omega) (by decide) hT.2.2.2.2.1 x) _) (by omega) hT.2.2.2.2.1.1 rfl ⟨Nat.le_of_ble_eq_true rfl, Nat.le_of_ble_eq_true rfl⟩ rfl hl rfl (Nat.le_of_ble_eq_true rfl) d_X_log_5 ⟨Nat.le_of_ble_eq_true rfl, Nat.le_of_ble_eq_true rfl⟩) hH (fun r N1 ad1 E1 H locs hq hH => ?_)
  obtain ⟨rfl, rfl, rfl, rfl⟩ := hq
  exact zx_iret X hr hlk hH (Nat.le_of_ble_eq_true rfl) (Nat.le_of_ble_eq_true rfl) d_X_log_8 ⟨rfl, rfl, rfl, rfl⟩
