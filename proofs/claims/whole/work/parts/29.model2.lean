set_option maxHeartbeats 4000000 in
set_option maxRecDepth 100000 in
theorem c_M_cleaned (g : zw_G) (l : Launch) (N : Nat) (ad : Nat → Nat) (E : Nat → va_E) (q : Nat → Nat) (rg : zt_R) (ev sf fs fl : Nat → Nat) (hN : 25 ≤ N) (hok : zt_ok q rg ev sf) (hv : zs_inv q rg) (hM : zm_at g ad E q rg ev fs fl) (x : Int32) : zc_i g l y_M_cleaned b_M_cleaned 2 (some .int) { frames := 1, cells := 0, slots := 0, locals := 40 } [.ref (ad (8)), .int (x)] N ad E (fun v N1 ad1 E1 => N = N1 ∧ ad = ad1 ∧ E = E1 ∧ v = if 1 ≤ x.toInt ∧ x.toInt ≤ (q 0 : Int) then nI ((rg (x.toInt.toNat - 1)).1 6) else -2) := by
  refine zc_i.of (by decide) (Nat.le_of_ble_eq_true rfl) ?_
  intro p e s m below meth c ls A X hr hlk hl hH
  have hl : lv_has ls 2 [(0, .ref (ad (8))), (1, .int (x))] := hl
  obtain ⟨k0, k2, k3, k3a, k4, k4a, k5, k5a, k6, k6a⟩ := hok.1
  have hF : zm_fr E E := zm_fr.rf
  refine lv_aload_n X.1 X.2.1 d_M_cleaned_0 rfl (lv_at hl 0 rfl) ?_
  refine lv_iconst (v := nI 0) X.1 X.2.1 d_M_cleaned_1 (by decide) ?_
  refine zx_put X hH fp_M_59 (by omega) hM.1 (Nat.le_of_ble_eq_true rfl) rfl rfl d_M_cleaned_2 (fun H locs hH => ?_)
  have hH : zw_H g A s.heap s N ad (va_up E 8 (zm_o ad q)) H locs := hH
  rw [← hM.1, ← zr_id] at hH
  refine lv_aload_n X.1 X.2.1 d_M_cleaned_5 rfl (lv_at hl 0 rfl) ?_
  refine lv_iload_n X.1 X.2.1 d_M_cleaned_6 rfl (lv_at hl 1 rfl) ?_
  refine zx_calli (zx_runV (As := [.int (x)]) (rest := []) X hH mv_M_70 ((c_M_isRegion g l N ad E q rg ev fs fl hN (by omega) hM x) _) (by omega) hM.1 rfl ⟨Nat.le_of_ble_eq_true rfl, Nat.le_of_ble_eq_true rfl⟩ rfl hl rfl (Nat.le_of_ble_eq_true rfl) d_M_cleaned_7 ⟨Nat.le_of_ble_eq_true rfl, Nat.le_of_ble_eq_true rfl⟩) hH (fun r N1 ad1 E1 H locs hq hH => ?_)
  obtain ⟨rfl, rfl, rfl, rfl⟩ := hq
  by_cases d1 : 1 ≤ x.toInt ∧ x.toInt ≤ (q 0 : Int)
  · refine zx_top (b := nI 1) (by rw [if_pos d1]) ?_
    refine lv_if_eq (tgt := 22) X.1 X.2.1 d_M_cleaned_10 (by decide) (fun z => absurd z (by decide)) (fun _ => ?_)
    obtain ⟨i, hi⟩ : ∃ i, i = x.toInt.toNat - 1 := ⟨_, rfl⟩
    have hi0 : i < q 0 := by omega
    have hx9 : x = nI (i + 1) := zn_of (by omega)
    have hro := hok.2.1 i hi0
    obtain ⟨r0, r1, r2, r3, r4, r5, r7, r8, r6⟩ := hro.1
    obtain ⟨v0, v5, v3⟩ := hv.1 i hi0
    rw [hx9] at hl
    have hM := hM.rg (zr_id rg i)
    refine lv_aload_n X.1 X.2.1 d_M_cleaned_13 rfl (lv_at hl 0 rfl) ?_
    refine zx_get (v := .ref (ad (14))) X hH fg_M_25 (by omega) hM.1 rfl d_M_cleaned_14 ?_
    refine lv_iload_n X.1 X.2.1 d_M_cleaned_17 rfl (lv_at hl 1 rfl) ?_
    refine zx_iald (j := i + 1) X hH (by omega) (show E 14 = zr_ia g 31 (zm_c (va_up rg i (rg i)) 6) from hM.2.2.2.2.2.2.1) rfl (by omega) (by decide) d_M_cleaned_18 ?_
    refine zx_top (b := nI ((rg i).1 6)) (congrArg nI (zm_c_at _ _ _ _)) ?_
    refine lv_goto (tgt := 24) X.1 X.2.1 d_M_cleaned_19 (by decide) ?_
    exact zx_iret X hr hlk hH (Nat.le_of_ble_eq_true rfl) (Nat.le_of_ble_eq_true rfl) d_M_cleaned_24 ⟨rfl, rfl, rfl, (by rw [if_pos d1, hi])⟩
  · refine zx_top (b := nI 0) (by rw [if_neg d1]) ?_
    refine lv_if_eq (tgt := 22) X.1 X.2.1 d_M_cleaned_10 (by decide) (fun _ => ?_) (fun z => absurd rfl z)
    refine lv_bipush (v := (-2)) X.1 X.2.1 d_M_cleaned_22 (by decide) ?_
    exact zx_iret X hr hlk hH (Nat.le_of_ble_eq_true rfl) (Nat.le_of_ble_eq_true rfl) d_M_cleaned_24 ⟨rfl, rfl, rfl, (by rw [if_neg d1])⟩

set_option maxHeartbeats 4000000 in
set_option maxRecDepth 100000 in
theorem c_M_backed (g : zw_G) (l : Launch) (N : Nat) (ad : Nat → Nat) (E : Nat → va_E) (q : Nat → Nat) (rg : zt_R) (ev sf fs fl : Nat → Nat) (hN : 25 ≤ N) (hok : zt_ok q rg ev sf) (hv : zs_inv q rg) (hM : zm_at g ad E q rg ev fs fl) (x : Int32) : zc_i g l y_M_backed b_M_backed 2 (some .int) { frames := 1, cells := 0, slots := 0, locals := 40 } [.ref (ad (8)), .int (x)] N ad E (fun v N1 ad1 E1 => N = N1 ∧ ad = ad1 ∧ E = E1 ∧ v = if 1 ≤ x.toInt ∧ x.toInt ≤ (q 0 : Int) then nI ((rg (x.toInt.toNat - 1)).1 5) else -2) := by
  refine zc_i.of (by decide) (Nat.le_of_ble_eq_true rfl) ?_
  intro p e s m below meth c ls A X hr hlk hl hH
  have hl : lv_has ls 2 [(0, .ref (ad (8))), (1, .int (x))] := hl
  obtain ⟨k0, k2, k3, k3a, k4, k4a, k5, k5a, k6, k6a⟩ := hok.1
  have hF : zm_fr E E := zm_fr.rf
  refine lv_aload_n X.1 X.2.1 d_M_backed_0 rfl (lv_at hl 0 rfl) ?_
  refine lv_iconst (v := nI 0) X.1 X.2.1 d_M_backed_1 (by decide) ?_
  refine zx_put X hH fp_M_59 (by omega) hM.1 (Nat.le_of_ble_eq_true rfl) rfl rfl d_M_backed_2 (fun H locs hH => ?_)
  have hH : zw_H g A s.heap s N ad (va_up E 8 (zm_o ad q)) H locs := hH
  rw [← hM.1, ← zr_id] at hH
  refine lv_aload_n X.1 X.2.1 d_M_backed_5 rfl (lv_at hl 0 rfl) ?_
  refine lv_iload_n X.1 X.2.1 d_M_backed_6 rfl (lv_at hl 1 rfl) ?_
  refine zx_calli (zx_runV (As := [.int (x)]) (rest := []) X hH mv_M_70 ((c_M_isRegion g l N ad E q rg ev fs fl hN (by omega) hM x) _) (by omega) hM.1 rfl ⟨Nat.le_of_ble_eq_true rfl, Nat.le_of_ble_eq_true rfl⟩ rfl hl rfl (Nat.le_of_ble_eq_true rfl) d_M_backed_7 ⟨Nat.le_of_ble_eq_true rfl, Nat.le_of_ble_eq_true rfl⟩) hH (fun r N1 ad1 E1 H locs hq hH => ?_)
  obtain ⟨rfl, rfl, rfl, rfl⟩ := hq
  by_cases d1 : 1 ≤ x.toInt ∧ x.toInt ≤ (q 0 : Int)
  · refine zx_top (b := nI 1) (by rw [if_pos d1]) ?_
    refine lv_if_eq (tgt := 22) X.1 X.2.1 d_M_backed_10 (by decide) (fun z => absurd z (by decide)) (fun _ => ?_)
    obtain ⟨i, hi⟩ : ∃ i, i = x.toInt.toNat - 1 := ⟨_, rfl⟩
    have hi0 : i < q 0 := by omega
    have hx9 : x = nI (i + 1) := zn_of (by omega)
    have hro := hok.2.1 i hi0
    obtain ⟨r0, r1, r2, r3, r4, r5, r7, r8, r6⟩ := hro.1
    obtain ⟨v0, v5, v3⟩ := hv.1 i hi0
    rw [hx9] at hl
    have hM := hM.rg (zr_id rg i)
    refine lv_aload_n X.1 X.2.1 d_M_backed_13 rfl (lv_at hl 0 rfl) ?_
    refine zx_get (v := .ref (ad (15))) X hH fg_M_28 (by omega) hM.1 rfl d_M_backed_14 ?_
    refine lv_iload_n X.1 X.2.1 d_M_backed_17 rfl (lv_at hl 1 rfl) ?_
    refine zx_iald (j := i + 1) X hH (by omega) (show E 15 = zr_ia g 31 (zm_c (va_up rg i (rg i)) 5) from hM.2.2.2.2.2.2.2.1) rfl (by omega) (by decide) d_M_backed_18 ?_
    refine zx_top (b := nI ((rg i).1 5)) (congrArg nI (zm_c_at _ _ _ _)) ?_
    refine lv_goto (tgt := 24) X.1 X.2.1 d_M_backed_19 (by decide) ?_
    exact zx_iret X hr hlk hH (Nat.le_of_ble_eq_true rfl) (Nat.le_of_ble_eq_true rfl) d_M_backed_24 ⟨rfl, rfl, rfl, (by rw [if_pos d1, hi])⟩
  · refine zx_top (b := nI 0) (by rw [if_neg d1]) ?_
    refine lv_if_eq (tgt := 22) X.1 X.2.1 d_M_backed_10 (by decide) (fun _ => ?_) (fun z => absurd rfl z)
    refine lv_bipush (v := (-2)) X.1 X.2.1 d_M_backed_22 (by decide) ?_
    exact zx_iret X hr hlk hH (Nat.le_of_ble_eq_true rfl) (Nat.le_of_ble_eq_true rfl) d_M_backed_24 ⟨rfl, rfl, rfl, (by rw [if_neg d1])⟩

set_option maxHeartbeats 4000000 in
set_option maxRecDepth 100000 in
theorem c_M_finished (g : zw_G) (l : Launch) (N : Nat) (ad : Nat → Nat) (E : Nat → va_E) (q : Nat → Nat) (rg : zt_R) (ev sf fs fl : Nat → Nat) (hN : 25 ≤ N) (hok : zt_ok q rg ev sf) (hv : zs_inv q rg) (hM : zm_at g ad E q rg ev fs fl) (x : Int32) : zc_i g l y_M_finished b_M_finished 2 (some .int) { frames := 1, cells := 0, slots := 0, locals := 40 } [.ref (ad (8)), .int (x)] N ad E (fun v N1 ad1 E1 => N = N1 ∧ ad = ad1 ∧ E = E1 ∧ v = if 1 ≤ x.toInt ∧ x.toInt ≤ (q 0 : Int) then nI ((rg (x.toInt.toNat - 1)).1 2) else -2) := by
  refine zc_i.of (by decide) (Nat.le_of_ble_eq_true rfl) ?_
  intro p e s m below meth c ls A X hr hlk hl hH
  have hl : lv_has ls 2 [(0, .ref (ad (8))), (1, .int (x))] := hl
  obtain ⟨k0, k2, k3, k3a, k4, k4a, k5, k5a, k6, k6a⟩ := hok.1
  have hF : zm_fr E E := zm_fr.rf
  refine lv_aload_n X.1 X.2.1 d_M_finished_0 rfl (lv_at hl 0 rfl) ?_
  refine lv_iconst (v := nI 0) X.1 X.2.1 d_M_finished_1 (by decide) ?_
  refine zx_put X hH fp_M_59 (by omega) hM.1 (Nat.le_of_ble_eq_true rfl) rfl rfl d_M_finished_2 (fun H locs hH => ?_)
  have hH : zw_H g A s.heap s N ad (va_up E 8 (zm_o ad q)) H locs := hH
  rw [← hM.1, ← zr_id] at hH
  refine lv_aload_n X.1 X.2.1 d_M_finished_5 rfl (lv_at hl 0 rfl) ?_
  refine lv_iload_n X.1 X.2.1 d_M_finished_6 rfl (lv_at hl 1 rfl) ?_
  refine zx_calli (zx_runV (As := [.int (x)]) (rest := []) X hH mv_M_70 ((c_M_isRegion g l N ad E q rg ev fs fl hN (by omega) hM x) _) (by omega) hM.1 rfl ⟨Nat.le_of_ble_eq_true rfl, Nat.le_of_ble_eq_true rfl⟩ rfl hl rfl (Nat.le_of_ble_eq_true rfl) d_M_finished_7 ⟨Nat.le_of_ble_eq_true rfl, Nat.le_of_ble_eq_true rfl⟩) hH (fun r N1 ad1 E1 H locs hq hH => ?_)
  obtain ⟨rfl, rfl, rfl, rfl⟩ := hq
  by_cases d1 : 1 ≤ x.toInt ∧ x.toInt ≤ (q 0 : Int)
  · refine zx_top (b := nI 1) (by rw [if_pos d1]) ?_
    refine lv_if_eq (tgt := 22) X.1 X.2.1 d_M_finished_10 (by decide) (fun z => absurd z (by decide)) (fun _ => ?_)
    obtain ⟨i, hi⟩ : ∃ i, i = x.toInt.toNat - 1 := ⟨_, rfl⟩
    have hi0 : i < q 0 := by omega
    have hx9 : x = nI (i + 1) := zn_of (by omega)
    have hro := hok.2.1 i hi0
    obtain ⟨r0, r1, r2, r3, r4, r5, r7, r8, r6⟩ := hro.1
    obtain ⟨v0, v5, v3⟩ := hv.1 i hi0
    rw [hx9] at hl
    have hM := hM.rg (zr_id rg i)
    refine lv_aload_n X.1 X.2.1 d_M_finished_13 rfl (lv_at hl 0 rfl) ?_
    refine zx_get (v := .ref (ad (11))) X hH fg_M_16 (by omega) hM.1 rfl d_M_finished_14 ?_
    refine lv_iload_n X.1 X.2.1 d_M_finished_17 rfl (lv_at hl 1 rfl) ?_
    refine zx_iald (j := i + 1) X hH (by omega) (show E 11 = zr_ia g 31 (zm_c (va_up rg i (rg i)) 2) from hM.2.2.2.1) rfl (by omega) (by decide) d_M_finished_18 ?_
    refine zx_top (b := nI ((rg i).1 2)) (congrArg nI (zm_c_at _ _ _ _)) ?_
    refine lv_goto (tgt := 24) X.1 X.2.1 d_M_finished_19 (by decide) ?_
    exact zx_iret X hr hlk hH (Nat.le_of_ble_eq_true rfl) (Nat.le_of_ble_eq_true rfl) d_M_finished_24 ⟨rfl, rfl, rfl, (by rw [if_pos d1, hi])⟩
  · refine zx_top (b := nI 0) (by rw [if_neg d1]) ?_
    refine lv_if_eq (tgt := 22) X.1 X.2.1 d_M_finished_10 (by decide) (fun _ => ?_) (fun z => absurd rfl z)
    refine lv_bipush (v := (-2)) X.1 X.2.1 d_M_finished_22 (by decide) ?_
    exact zx_iret X hr hlk hH (Nat.le_of_ble_eq_true rfl) (Nat.le_of_ble_eq_true rfl) d_M_finished_24 ⟨rfl, rfl, rfl, (by rw [if_neg d1])⟩

set_option maxHeartbeats 4000000 in
set_option maxRecDepth 100000 in
theorem c_M_done (g : zw_G) (l : Launch) (N : Nat) (ad : Nat → Nat) (E : Nat → va_E) (q : Nat → Nat) (rg : zt_R) (ev sf fs fl : Nat → Nat) (hN : 25 ≤ N) (hok : zt_ok q rg ev sf) (hv : zs_inv q rg) (hM : zm_at g ad E q rg ev fs fl) (x : Int32) : zc_i g l y_M_done b_M_done 2 (some .int) { frames := 1, cells := 0, slots := 0, locals := 40 } [.ref (ad (8)), .int (x)] N ad E (fun v N1 ad1 E1 => N = N1 ∧ ad = ad1 ∧ E = E1 ∧ v = if 1 ≤ x.toInt ∧ x.toInt ≤ (q 0 : Int) then nI ((rg (x.toInt.toNat - 1)).1 3) else -2) := by
  refine zc_i.of (by decide) (Nat.le_of_ble_eq_true rfl) ?_
  intro p e s m below meth c ls A X hr hlk hl hH
  have hl : lv_has ls 2 [(0, .ref (ad (8))), (1, .int (x))] := hl
  obtain ⟨k0, k2, k3, k3a, k4, k4a, k5, k5a, k6, k6a⟩ := hok.1
  have hF : zm_fr E E := zm_fr.rf
  refine lv_aload_n X.1 X.2.1 d_M_done_0 rfl (lv_at hl 0 rfl) ?_
  refine lv_iconst (v := nI 0) X.1 X.2.1 d_M_done_1 (by decide) ?_
  refine zx_put X hH fp_M_59 (by omega) hM.1 (Nat.le_of_ble_eq_true rfl) rfl rfl d_M_done_2 (fun H locs hH => ?_)
  have hH : zw_H g A s.heap s N ad (va_up E 8 (zm_o ad q)) H locs := hH
  rw [← hM.1, ← zr_id] at hH
  refine lv_aload_n X.1 X.2.1 d_M_done_5 rfl (lv_at hl 0 rfl) ?_
  refine lv_iload_n X.1 X.2.1 d_M_done_6 rfl (lv_at hl 1 rfl) ?_
  refine zx_calli (zx_runV (As := [.int (x)]) (rest := []) X hH mv_M_70 ((c_M_isRegion g l N ad E q rg ev fs fl hN (by omega) hM x) _) (by omega) hM.1 rfl ⟨Nat.le_of_ble_eq_true rfl, Nat.le_of_ble_eq_true rfl⟩ rfl hl rfl (Nat.le_of_ble_eq_true rfl) d_M_done_7 ⟨Nat.le_of_ble_eq_true rfl, Nat.le_of_ble_eq_true rfl⟩) hH (fun r N1 ad1 E1 H locs hq hH => ?_)
  obtain ⟨rfl, rfl, rfl, rfl⟩ := hq
  by_cases d1 : 1 ≤ x.toInt ∧ x.toInt ≤ (q 0 : Int)
  · refine zx_top (b := nI 1) (by rw [if_pos d1]) ?_
    refine lv_if_eq (tgt := 22) X.1 X.2.1 d_M_done_10 (by decide) (fun z => absurd z (by decide)) (fun _ => ?_)
    obtain ⟨i, hi⟩ : ∃ i, i = x.toInt.toNat - 1 := ⟨_, rfl⟩
    have hi0 : i < q 0 := by omega
    have hx9 : x = nI (i + 1) := zn_of (by omega)
    have hro := hok.2.1 i hi0
    obtain ⟨r0, r1, r2, r3, r4, r5, r7, r8, r6⟩ := hro.1
    obtain ⟨v0, v5, v3⟩ := hv.1 i hi0
    rw [hx9] at hl
    have hM := hM.rg (zr_id rg i)
    refine lv_aload_n X.1 X.2.1 d_M_done_13 rfl (lv_at hl 0 rfl) ?_
    refine zx_get (v := .ref (ad (12))) X hH fg_M_19 (by omega) hM.1 rfl d_M_done_14 ?_
    refine lv_iload_n X.1 X.2.1 d_M_done_17 rfl (lv_at hl 1 rfl) ?_
    refine zx_iald (j := i + 1) X hH (by omega) (show E 12 = zr_ia g 31 (zm_c (va_up rg i (rg i)) 3) from hM.2.2.2.2.1) rfl (by omega) (by decide) d_M_done_18 ?_
    refine zx_top (b := nI ((rg i).1 3)) (congrArg nI (zm_c_at _ _ _ _)) ?_
    refine lv_goto (tgt := 24) X.1 X.2.1 d_M_done_19 (by decide) ?_
    exact zx_iret X hr hlk hH (Nat.le_of_ble_eq_true rfl) (Nat.le_of_ble_eq_true rfl) d_M_done_24 ⟨rfl, rfl, rfl, (by rw [if_pos d1, hi])⟩
  · refine zx_top (b := nI 0) (by rw [if_neg d1]) ?_
    refine lv_if_eq (tgt := 22) X.1 X.2.1 d_M_done_10 (by decide) (fun _ => ?_) (fun z => absurd rfl z)
    refine lv_bipush (v := (-2)) X.1 X.2.1 d_M_done_22 (by decide) ?_
    exact zx_iret X hr hlk hH (Nat.le_of_ble_eq_true rfl) (Nat.le_of_ble_eq_true rfl) d_M_done_24 ⟨rfl, rfl, rfl, (by rw [if_neg d1])⟩

set_option maxHeartbeats 4000000 in
set_option maxRecDepth 100000 in
theorem c_M_log (g : zw_G) (l : Launch) (N : Nat) (ad : Nat → Nat) (E : Nat → va_E) (q : Nat → Nat) (rg : zt_R) (ev sf fs fl : Nat → Nat) (hN : 25 ≤ N) (hok : zt_ok q rg ev sf) (hv : zs_inv q rg) (hM : zm_at g ad E q rg ev fs fl) (x : Int32) : zc_i g l y_M_log b_M_log 2 (some .int) { frames := 0, cells := 0, slots := 0, locals := 0 } [.ref (ad (8)), .int (x)] N ad E (fun v N1 ad1 E1 => N = N1 ∧ ad = ad1 ∧ E = E1 ∧ v = nI (if 0 ≤ x.toInt ∧ x.toInt < (q 5 : Int) then fl x.toInt.toNat else 0)) := by
  refine zc_i.of (by decide) (Nat.le_of_ble_eq_true rfl) ?_
  intro p e s m below meth c ls A X hr hlk hl hH
  have hl : lv_has ls 2 [(0, .ref (ad (8))), (1, .int (x))] := hl
  obtain ⟨k0, k2, k3, k3a, k4, k4a, k5, k5a, k6, k6a⟩ := hok.1
  have hF : zm_fr E E := zm_fr.rf
  refine lv_aload_n X.1 X.2.1 d_M_log_0 rfl (lv_at hl 0 rfl) ?_
  refine lv_iconst (v := nI 0) X.1 X.2.1 d_M_log_1 (by decide) ?_
  refine zx_put X hH fp_M_59 (by omega) hM.1 (Nat.le_of_ble_eq_true rfl) rfl rfl d_M_log_2 (fun H locs hH => ?_)
  have hH : zw_H g A s.heap s N ad (va_up E 8 (zm_o ad q)) H locs := hH
  rw [← hM.1, ← zr_id] at hH
  refine lv_iload_n X.1 X.2.1 d_M_log_5 rfl (lv_at hl 1 rfl) ?_
  refine lv_if_lt (tgt := 26) X.1 X.2.1 d_M_log_6 (by decide) (fun c2 => ?_) (fun c2 => ?_)
  · have c2 := (zn_lt rfl zn_0).mp c2
    refine lv_iconst (v := nI 0) X.1 X.2.1 d_M_log_26 (by decide) ?_
    exact zx_iret X hr hlk hH (Nat.le_of_ble_eq_true rfl) (Nat.le_of_ble_eq_true rfl) d_M_log_27 ⟨rfl, rfl, rfl, (by first | rfl | (rw [if_pos (by omega)]) | (rw [if_neg (by omega)]))⟩
  · have c2 := mt (zn_lt rfl zn_0).mpr c2
    refine lv_iload_n X.1 X.2.1 d_M_log_9 rfl (lv_at hl 1 rfl) ?_
    refine lv_aload_n X.1 X.2.1 d_M_log_10 rfl (lv_at hl 0 rfl) ?_
    refine zx_get (v := .int (nI (q 5))) X hH fg_M_91 (by omega) hM.1 rfl d_M_log_11 ?_
    refine lv_icmp_ge (tgt := 26) X.1 X.2.1 d_M_log_14 (by decide) (fun c3 => ?_) (fun c3 => ?_)
    · have c3 := (zn_le (nI_toInt (by omega)) rfl).mp c3
      refine lv_iconst (v := nI 0) X.1 X.2.1 d_M_log_26 (by decide) ?_
      exact zx_iret X hr hlk hH (Nat.le_of_ble_eq_true rfl) (Nat.le_of_ble_eq_true rfl) d_M_log_27 ⟨rfl, rfl, rfl, (by first | rfl | (rw [if_pos (by omega)]) | (rw [if_neg (by omega)]))⟩
    · have c3 := mt (zn_le (nI_toInt (by omega)) rfl).mpr c3
      refine lv_aload_n X.1 X.2.1 d_M_log_17 rfl (lv_at hl 0 rfl) ?_
      refine zx_get (v := .ref (ad (24))) X hH fg_M_56 (by omega) hM.1 rfl d_M_log_18 ?_
      refine lv_iload_n X.1 X.2.1 d_M_log_21 rfl (lv_at hl 1 rfl) ?_
      refine zx_iald (j := x.toInt.toNat) X hH (by omega) (show E 24 = zr_ia g 3100 fl from hM.2.2.2.2.2.2.2.2.2.2.2.2.2.2.2.2) (zn_nat (by omega)) (by omega) (by decide) d_M_log_22 ?_
      refine lv_goto (tgt := 27) X.1 X.2.1 d_M_log_23 (by decide) ?_
      exact zx_iret X hr hlk hH (Nat.le_of_ble_eq_true rfl) (Nat.le_of_ble_eq_true rfl) d_M_log_27 ⟨rfl, rfl, rfl, (by first | rfl | (rw [if_pos (by omega)]) | (rw [if_neg (by omega)]))⟩

set_option maxHeartbeats 4000000 in
set_option maxRecDepth 100000 in
theorem c_M_waits (g : zw_G) (l : Launch) (N : Nat) (ad : Nat → Nat) (E : Nat → va_E) (q : Nat → Nat) (rg : zt_R) (ev sf fs fl : Nat → Nat) (hN : 25 ≤ N) (hok : zt_ok q rg ev sf) (hv : zs_inv q rg) (hM : zm_at g ad E q rg ev fs fl) (x y z : Int32) : zc_i g l y_M_waits b_M_waits 4 (some .int) { frames := 1, cells := 0, slots := 0, locals := 40 } [.ref (ad (8)), .int (x), .int (y), .int (z)] N ad E (fun v N1 ad1 E1 => N = N1 ∧ ad = ad1 ∧ v = (zs_waits q rg x y z).1 ∧ zm_at g ad E1 q (zs_waits q rg x y z).2 ev fs fl ∧ zm_fr E E1) := by
  refine zc_i.of (by decide) (Nat.le_of_ble_eq_true rfl) ?_
  intro p e s m below meth c ls A X hr hlk hl hH
  have hl : lv_has ls 4 [(0, .ref (ad (8))), (1, .int (x)), (2, .int (y)), (3, .int (z))] := hl
  obtain ⟨k0, k2, k3, k3a, k4, k4a, k5, k5a, k6, k6a⟩ := hok.1
  have hF : zm_fr E E := zm_fr.rf
  refine lv_aload_n X.1 X.2.1 d_M_waits_0 rfl (lv_at hl 0 rfl) ?_
  refine lv_iconst (v := nI 0) X.1 X.2.1 d_M_waits_1 (by decide) ?_
  refine zx_put X hH fp_M_59 (by omega) hM.1 (Nat.le_of_ble_eq_true rfl) rfl rfl d_M_waits_2 (fun H locs hH => ?_)
  have hH : zw_H g A s.heap s N ad (va_up E 8 (zm_o ad q)) H locs := hH
  rw [← hM.1, ← zr_id] at hH
  refine lv_aload_n X.1 X.2.1 d_M_waits_5 rfl (lv_at hl 0 rfl) ?_
  refine lv_iload_n X.1 X.2.1 d_M_waits_6 rfl (lv_at hl 1 rfl) ?_
  refine zx_calli (zx_runV (As := [.int (x)]) (rest := []) X hH mv_M_70 ((c_M_isRegion g l N ad E q rg ev fs fl hN (by omega) hM x) _) (by omega) hM.1 rfl ⟨Nat.le_of_ble_eq_true rfl, Nat.le_of_ble_eq_true rfl⟩ rfl hl rfl (Nat.le_of_ble_eq_true rfl) d_M_waits_7 ⟨Nat.le_of_ble_eq_true rfl, Nat.le_of_ble_eq_true rfl⟩) hH (fun r N1 ad1 E1 H locs hq hH => ?_)
  obtain ⟨rfl, rfl, rfl, rfl⟩ := hq
  by_cases d1 : 1 ≤ x.toInt ∧ x.toInt ≤ (q 0 : Int)
  · refine zx_top (b := nI 1) (by rw [if_pos d1]) ?_
    refine lv_if_ne (tgt := 16) X.1 X.2.1 d_M_waits_10 (by decide) (fun _ => ?_) (fun z => absurd z (by decide))
    obtain ⟨i, hi⟩ : ∃ i, i = x.toInt.toNat - 1 := ⟨_, rfl⟩
    have hi0 : i < q 0 := by omega
    have hx9 : x = nI (i + 1) := zn_of (by omega)
    have hro := hok.2.1 i hi0
    obtain ⟨r0, r1, r2, r3, r4, r5, r7, r8, r6⟩ := hro.1
    obtain ⟨v0, v5, v3⟩ := hv.1 i hi0
    rw [hx9] at hl
    have hM := hM.rg (zr_id rg i)
    refine lv_iload_n X.1 X.2.1 d_M_waits_16 rfl (lv_at hl 2 rfl) ?_
    refine lv_iconst (v := nI 1) X.1 X.2.1 d_M_waits_17 (by decide) ?_
    refine lv_icmp_lt (tgt := 41) X.1 X.2.1 d_M_waits_18 (by decide) (fun c2 => ?_) (fun c2 => ?_)
    · have c2 := (zn_lt rfl (nI_toInt (by omega))).mp c2
      refine lv_bipush (v := (-4)) X.1 X.2.1 d_M_waits_41 (by decide) ?_
      exact zx_iret X hr hlk hH (Nat.le_of_ble_eq_true rfl) (Nat.le_of_ble_eq_true rfl) d_M_waits_43 ⟨rfl, rfl, by rw [zs_waits_bad d1 hi (by omega)], by rw [zs_waits_bad d1 hi (by omega)]; exact hM.rg (zr_id rg i).symm, hF⟩
    · have c2 := mt (zn_lt rfl (nI_toInt (by omega))).mpr c2
      refine lv_iload_n X.1 X.2.1 d_M_waits_21 rfl (lv_at hl 2 rfl) ?_
      refine lv_aload_n X.1 X.2.1 d_M_waits_22 rfl (lv_at hl 0 rfl) ?_
      refine zx_get (v := .ref (ad (9))) X hH fg_M_7 (by omega) hM.1 rfl d_M_waits_23 ?_
      refine lv_iload_n X.1 X.2.1 d_M_waits_26 rfl (lv_at hl 1 rfl) ?_
      refine zx_iald (j := i + 1) X hH (by omega) (show E 9 = zr_ia g 31 (zm_c (va_up rg i (rg i)) 0) from hM.2.1) rfl (by omega) (by decide) d_M_waits_27 ?_
      refine zx_top (b := nI ((rg i).1 0)) (congrArg nI (zm_c_at _ _ _ _)) ?_
      refine lv_icmp_gt (tgt := 41) X.1 X.2.1 d_M_waits_28 (by decide) (fun c3 => ?_) (fun c3 => ?_)
      · have c3 := (zn_lt (nI_toInt (by omega)) rfl).mp c3
        refine lv_bipush (v := (-4)) X.1 X.2.1 d_M_waits_41 (by decide) ?_
        exact zx_iret X hr hlk hH (Nat.le_of_ble_eq_true rfl) (Nat.le_of_ble_eq_true rfl) d_M_waits_43 ⟨rfl, rfl, by rw [zs_waits_bad d1 hi (by omega)], by rw [zs_waits_bad d1 hi (by omega)]; exact hM.rg (zr_id rg i).symm, hF⟩
      · have c3 := mt (zn_lt (nI_toInt (by omega)) rfl).mpr c3
        refine lv_iload_n X.1 X.2.1 d_M_waits_31 rfl (lv_at hl 3 rfl) ?_
        refine lv_if_lt (tgt := 41) X.1 X.2.1 d_M_waits_32 (by decide) (fun c4 => ?_) (fun c4 => ?_)
        · have c4 := (zn_lt rfl zn_0).mp c4
          refine lv_bipush (v := (-4)) X.1 X.2.1 d_M_waits_41 (by decide) ?_
          exact zx_iret X hr hlk hH (Nat.le_of_ble_eq_true rfl) (Nat.le_of_ble_eq_true rfl) d_M_waits_43 ⟨rfl, rfl, by rw [zs_waits_bad d1 hi (by omega)], by rw [zs_waits_bad d1 hi (by omega)]; exact hM.rg (zr_id rg i).symm, hF⟩
        · have c4 := mt (zn_lt rfl zn_0).mpr c4
          refine lv_iload_n X.1 X.2.1 d_M_waits_35 rfl (lv_at hl 3 rfl) ?_
          refine lv_bipush (v := nI 15) X.1 X.2.1 d_M_waits_36 (by decide) ?_
          refine lv_icmp_le (tgt := 44) X.1 X.2.1 d_M_waits_38 (by decide) (fun c5 => ?_) (fun c5 => ?_)
          · have c5 := (zn_le rfl (nI_toInt (by omega))).mp c5
            refine lv_aload_n X.1 X.2.1 d_M_waits_44 rfl (lv_at hl 0 rfl) ?_
            refine zx_get (v := .ref (ad (12))) X hH fg_M_19 (by omega) hM.1 rfl d_M_waits_45 ?_
            refine lv_iload_n X.1 X.2.1 d_M_waits_48 rfl (lv_at hl 1 rfl) ?_
            refine zx_iald (j := i + 1) X hH (by omega) (show E 12 = zr_ia g 31 (zm_c (va_up rg i (rg i)) 3) from hM.2.2.2.2.1) rfl (by omega) (by decide) d_M_waits_49 ?_
            refine zx_top (b := nI ((rg i).1 3)) (congrArg nI (zm_c_at _ _ _ _)) ?_
            refine lv_iload_n X.1 X.2.1 d_M_waits_50 rfl (lv_at hl 2 rfl) ?_
            refine lv_icmp_ge (tgt := 63) X.1 X.2.1 d_M_waits_51 (by decide) (fun c6 => ?_) (fun c6 => ?_)
            · have c6 := (zn_le rfl (nI_toInt (by omega))).mp c6
              refine lv_bipush (v := (-5)) X.1 X.2.1 d_M_waits_63 (by decide) ?_
              exact zx_iret X hr hlk hH (Nat.le_of_ble_eq_true rfl) (Nat.le_of_ble_eq_true rfl) d_M_waits_65 ⟨rfl, rfl, by rw [zs_waits_late d1 hi ⟨by omega, by omega, by omega, by omega⟩ (by omega)], by rw [zs_waits_late d1 hi ⟨by omega, by omega, by omega, by omega⟩ (by omega)]; exact hM.rg (zr_id rg i).symm, hF⟩
            · have c6 := mt (zn_le rfl (nI_toInt (by omega))).mpr c6
              refine lv_aload_n X.1 X.2.1 d_M_waits_54 rfl (lv_at hl 0 rfl) ?_
              refine zx_get (v := .ref (ad (11))) X hH fg_M_16 (by omega) hM.1 rfl d_M_waits_55 ?_
              refine lv_iload_n X.1 X.2.1 d_M_waits_58 rfl (lv_at hl 1 rfl) ?_
              refine zx_iald (j := i + 1) X hH (by omega) (show E 11 = zr_ia g 31 (zm_c (va_up rg i (rg i)) 2) from hM.2.2.2.1) rfl (by omega) (by decide) d_M_waits_59 ?_
              refine zx_top (b := nI ((rg i).1 2)) (congrArg nI (zm_c_at _ _ _ _)) ?_
              refine lv_if_eq (tgt := 66) X.1 X.2.1 d_M_waits_60 (by decide) (fun c7 => ?_) (fun c7 => ?_)
              · have c7 := (zn_eq (nI_toInt (by omega)) zn_0).mp c7
                refine lv_aload_n X.1 X.2.1 d_M_waits_66 rfl (lv_at hl 0 rfl) ?_
                refine zx_get (v := .ref (ad (16))) X hH fg_M_31 (by omega) hM.1 rfl d_M_waits_67 ?_
                refine lv_iload_n X.1 X.2.1 d_M_waits_70 rfl (lv_at hl 1 rfl) ?_
                refine zx_iald (j := i + 1) X hH (by omega) (show E 16 = zr_ia g 31 (zm_c (va_up rg i (rg i)) 8) from hM.2.2.2.2.2.2.2.2.1) rfl (by omega) (by decide) d_M_waits_71 ?_
                refine zx_top (b := nI ((rg i).1 8)) (congrArg nI (zm_c_at _ _ _ _)) ?_
                refine lv_bipush (v := nI 20) X.1 X.2.1 d_M_waits_72 (by decide) ?_
                refine lv_icmp_ne (tgt := 79) X.1 X.2.1 d_M_waits_74 (by decide) (fun c8 => ?_) (fun c8 => ?_)
                · have c8 := mt (zn_eq (nI_toInt (by omega)) (nI_toInt (by omega))).mpr c8
                  refine lv_aload_n X.1 X.2.1 d_M_waits_79 rfl (lv_at hl 0 rfl) ?_
                  refine zx_get (v := .ref (ad (20))) X hH fg_M_44 (by omega) hM.1 rfl d_M_waits_80 ?_
                  refine lv_bipush (v := nI 20) X.1 X.2.1 d_M_waits_83 (by decide) ?_
                  refine lv_iload_n X.1 X.2.1 d_M_waits_85 rfl (lv_at hl 1 rfl) ?_
                  refine lv_imul X.1 X.2.1 d_M_waits_86 ?_
                  refine zx_top (pk_mul _ _) ?_
                  refine lv_bipush (v := nI 20) X.1 X.2.1 d_M_waits_87 (by decide) ?_
                  refine lv_isub X.1 X.2.1 d_M_waits_89 ?_
                  refine zx_top (pk_sub (by omega)) ?_
                  refine lv_aload_n X.1 X.2.1 d_M_waits_90 rfl (lv_at hl 0 rfl) ?_
                  refine zx_get (v := .ref (ad (16))) X hH fg_M_31 (by omega) hM.1 rfl d_M_waits_91 ?_
                  refine lv_iload_n X.1 X.2.1 d_M_waits_94 rfl (lv_at hl 1 rfl) ?_
                  refine zx_iald (j := i + 1) X hH (by omega) (show E 16 = zr_ia g 31 (zm_c (va_up rg i (rg i)) 8) from hM.2.2.2.2.2.2.2.2.1) rfl (by omega) (by decide) d_M_waits_95 ?_
                  refine zx_top (b := nI ((rg i).1 8)) (congrArg nI (zm_c_at _ _ _ _)) ?_
                  refine lv_iadd X.1 X.2.1 d_M_waits_96 ?_
                  refine zx_top (nI_add _ _) ?_
                  refine lv_iload_n X.1 X.2.1 d_M_waits_97 rfl (lv_at hl 2 rfl) ?_
                  refine zx_top (zn_nat (x := y) (by omega)) ?_
                  refine zx_iast (j := 20 * i + (rg i).1 8) X hH (by omega) (show E 20 = zr_ia g 620 (zm_w (va_up rg i (rg i)) 0) from hM.2.2.2.2.2.2.2.2.2.2.2.2.1) (congrArg nI (by omega)) (by omega) (by decide) d_M_waits_98 (fun H locs hH => ?_)
                  rw [zr_upd] at hH
                  have hH : zw_H g A s.heap s N ad (va_up E 20 (zr_ia g 620 (va_up (zm_w (va_up rg i (rg i)) 0) (20 * i + (rg i).1 8) (y.toInt.toNat)))) H locs := hH
                  have hM := hM.w0 (m := (rg i).1 8) (by omega) (y.toInt.toNat)
                  have hF := hF.up (k := 20) (x := (zr_ia g 620 (va_up (zm_w (va_up rg i (rg i)) 0) (20 * i + (rg i).1 8) (y.toInt.toNat)))) (by decide) (by decide)
                  generalize va_up E 20 (zr_ia g 620 (va_up (zm_w (va_up rg i (rg i)) 0) (20 * i + (rg i).1 8) (y.toInt.toNat))) = E9 at hH hM hF
                  have hM : zm_at g ad E9 q (va_up rg i ((rg i).1, va_up ((rg i).2) 0 (va_up ((rg i).2 0) ((rg i).1 8) (y.toInt.toNat)))) ev fs fl := hM
                  refine lv_aload_n X.1 X.2.1 d_M_waits_99 rfl (lv_at hl 0 rfl) ?_
                  refine zx_get (v := .ref (ad (21))) X hH fg_M_47 (by omega) hM.1 rfl d_M_waits_100 ?_
                  refine lv_bipush (v := nI 20) X.1 X.2.1 d_M_waits_103 (by decide) ?_
                  refine lv_iload_n X.1 X.2.1 d_M_waits_105 rfl (lv_at hl 1 rfl) ?_
                  refine lv_imul X.1 X.2.1 d_M_waits_106 ?_
                  refine zx_top (pk_mul _ _) ?_
                  refine lv_bipush (v := nI 20) X.1 X.2.1 d_M_waits_107 (by decide) ?_
                  refine lv_isub X.1 X.2.1 d_M_waits_109 ?_
                  refine zx_top (pk_sub (by omega)) ?_
                  refine lv_aload_n X.1 X.2.1 d_M_waits_110 rfl (lv_at hl 0 rfl) ?_
                  refine zx_get (v := .ref (ad (16))) X hH fg_M_31 (by omega) hM.1 rfl d_M_waits_111 ?_
                  refine lv_iload_n X.1 X.2.1 d_M_waits_114 rfl (lv_at hl 1 rfl) ?_
                  refine zx_iald (j := i + 1) X hH (by omega) (show E9 16 = zr_ia g 31 (zm_c (va_up rg i ((rg i).1, va_up ((rg i).2) 0 (va_up ((rg i).2 0) ((rg i).1 8) (y.toInt.toNat)))) 8) from hM.2.2.2.2.2.2.2.2.1) rfl (by omega) (by decide) d_M_waits_115 ?_
                  refine zx_top (b := nI ((rg i).1 8)) (congrArg nI (zm_c_at _ _ _ _)) ?_
                  refine lv_iadd X.1 X.2.1 d_M_waits_116 ?_
                  refine zx_top (nI_add _ _) ?_
                  refine lv_iload_n X.1 X.2.1 d_M_waits_117 rfl (lv_at hl 3 rfl) ?_
                  refine zx_top (zn_nat (x := z) (by omega)) ?_
                  refine zx_iast (j := 20 * i + (rg i).1 8) X hH (by omega) (show E9 21 = zr_ia g 620 (zm_w (va_up rg i ((rg i).1, va_up ((rg i).2) 0 (va_up ((rg i).2 0) ((rg i).1 8) (y.toInt.toNat)))) 1) from hM.2.2.2.2.2.2.2.2.2.2.2.2.2.1) (congrArg nI (by omega)) (by omega) (by decide) d_M_waits_118 (fun H locs hH => ?_)
                  rw [zr_upd] at hH
                  have hH : zw_H g A s.heap s N ad (va_up E9 21 (zr_ia g 620 (va_up (zm_w (va_up rg i ((rg i).1, va_up ((rg i).2) 0 (va_up ((rg i).2 0) ((rg i).1 8) (y.toInt.toNat)))) 1) (20 * i + (rg i).1 8) (z.toInt.toNat)))) H locs := hH
                  have hM := hM.w1 (m := (rg i).1 8) (by omega) (z.toInt.toNat)
                  have hF := hF.up (k := 21) (x := (zr_ia g 620 (va_up (zm_w (va_up rg i ((rg i).1, va_up ((rg i).2) 0 (va_up ((rg i).2 0) ((rg i).1 8) (y.toInt.toNat)))) 1) (20 * i + (rg i).1 8) (z.toInt.toNat)))) (by decide) (by decide)
                  generalize va_up E9 21 (zr_ia g 620 (va_up (zm_w (va_up rg i ((rg i).1, va_up ((rg i).2) 0 (va_up ((rg i).2 0) ((rg i).1 8) (y.toInt.toNat)))) 1) (20 * i + (rg i).1 8) (z.toInt.toNat))) = E10 at hH hM hF
                  have hM : zm_at g ad E10 q (va_up rg i ((rg i).1, va_up (va_up ((rg i).2) 0 (va_up ((rg i).2 0) ((rg i).1 8) (y.toInt.toNat))) 1 (va_up ((rg i).2 1) ((rg i).1 8) (z.toInt.toNat)))) ev fs fl := hM
                  refine lv_aload_n X.1 X.2.1 d_M_waits_119 rfl (lv_at hl 0 rfl) ?_
                  refine zx_get (v := .ref (ad (16))) X hH fg_M_31 (by omega) hM.1 rfl d_M_waits_120 ?_
                  refine lv_iload_n X.1 X.2.1 d_M_waits_123 rfl (lv_at hl 1 rfl) ?_
                  refine lv_dup2_11 X.1 X.2.1 d_M_waits_124 rfl rfl ?_
                  refine zx_iald (j := i + 1) X hH (by omega) (show E10 16 = zr_ia g 31 (zm_c (va_up rg i ((rg i).1, va_up (va_up ((rg i).2) 0 (va_up ((rg i).2 0) ((rg i).1 8) (y.toInt.toNat))) 1 (va_up ((rg i).2 1) ((rg i).1 8) (z.toInt.toNat)))) 8) from hM.2.2.2.2.2.2.2.2.1) rfl (by omega) (by decide) d_M_waits_125 ?_
                  refine zx_top (b := nI ((rg i).1 8)) (congrArg nI (zm_c_at _ _ _ _)) ?_
                  refine lv_iconst (v := nI 1) X.1 X.2.1 d_M_waits_126 (by decide) ?_
                  refine lv_iadd X.1 X.2.1 d_M_waits_127 ?_
                  refine zx_top (nI_add _ _) ?_
                  refine zx_iast (j := i + 1) (x := nI (((rg i).1 8) + (1))) X hH (by omega) (show E10 16 = zr_ia g 31 (zm_c (va_up rg i ((rg i).1, va_up (va_up ((rg i).2) 0 (va_up ((rg i).2 0) ((rg i).1 8) (y.toInt.toNat))) 1 (va_up ((rg i).2 1) ((rg i).1 8) (z.toInt.toNat)))) 8) from hM.2.2.2.2.2.2.2.2.1) rfl (by omega) (by decide) d_M_waits_128 (fun H locs hH => ?_)
                  rw [zr_upd] at hH
                  have hH : zw_H g A s.heap s N ad (va_up E10 16 (zr_ia g 31 (va_up (zm_c (va_up rg i ((rg i).1, va_up (va_up ((rg i).2) 0 (va_up ((rg i).2 0) ((rg i).1 8) (y.toInt.toNat))) 1 (va_up ((rg i).2 1) ((rg i).1 8) (z.toInt.toNat)))) 8) (i + 1) (((rg i).1 8) + (1))))) H locs := hH
                  have hM := hM.s8 (((rg i).1 8) + (1))
                  have hF := hF.up (k := 16) (x := (zr_ia g 31 (va_up (zm_c (va_up rg i ((rg i).1, va_up (va_up ((rg i).2) 0 (va_up ((rg i).2 0) ((rg i).1 8) (y.toInt.toNat))) 1 (va_up ((rg i).2 1) ((rg i).1 8) (z.toInt.toNat)))) 8) (i + 1) (((rg i).1 8) + (1))))) (by decide) (by decide)
                  generalize va_up E10 16 (zr_ia g 31 (va_up (zm_c (va_up rg i ((rg i).1, va_up (va_up ((rg i).2) 0 (va_up ((rg i).2 0) ((rg i).1 8) (y.toInt.toNat))) 1 (va_up ((rg i).2 1) ((rg i).1 8) (z.toInt.toNat)))) 8) (i + 1) (((rg i).1 8) + (1)))) = E11 at hH hM hF
                  have hM : zm_at g ad E11 q (va_up rg i (va_up ((rg i).1) 8 (((rg i).1 8) + (1)), va_up (va_up ((rg i).2) 0 (va_up ((rg i).2 0) ((rg i).1 8) (y.toInt.toNat))) 1 (va_up ((rg i).2 1) ((rg i).1 8) (z.toInt.toNat)))) ev fs fl := hM
                  refine lv_aload_n X.1 X.2.1 d_M_waits_129 rfl (lv_at hl 0 rfl) ?_
                  refine zx_get (v := .ref (ad (16))) X hH fg_M_31 (by omega) hM.1 rfl d_M_waits_130 ?_
                  refine lv_iload_n X.1 X.2.1 d_M_waits_133 rfl (lv_at hl 1 rfl) ?_
                  refine zx_iald (j := i + 1) X hH (by omega) (show E11 16 = zr_ia g 31 (zm_c (va_up rg i (va_up ((rg i).1) 8 (((rg i).1 8) + (1)), va_up (va_up ((rg i).2) 0 (va_up ((rg i).2 0) ((rg i).1 8) (y.toInt.toNat))) 1 (va_up ((rg i).2 1) ((rg i).1 8) (z.toInt.toNat)))) 8) from hM.2.2.2.2.2.2.2.2.1) rfl (by omega) (by decide) d_M_waits_134 ?_
                  refine zx_top (b := nI (((rg i).1 8) + (1))) (congrArg nI (zm_c_at _ _ _ _)) ?_
                  exact zx_iret X hr hlk hH (Nat.le_of_ble_eq_true rfl) (Nat.le_of_ble_eq_true rfl) d_M_waits_135 ⟨rfl, rfl, by rw [zs_waits_ok d1 hi ⟨by omega, by omega, by omega, by omega⟩ ⟨by omega, by omega⟩ (by omega)], by rw [zs_waits_ok d1 hi ⟨by omega, by omega, by omega, by omega⟩ ⟨by omega, by omega⟩ (by omega)]; exact hM, hF⟩
                · have c8 := (zn_eq (nI_toInt (by omega)) (nI_toInt (by omega))).mp c8
                  refine lv_iconst (v := (-1)) X.1 X.2.1 d_M_waits_77 (by decide) ?_
                  exact zx_iret X hr hlk hH (Nat.le_of_ble_eq_true rfl) (Nat.le_of_ble_eq_true rfl) d_M_waits_78 ⟨rfl, rfl, by rw [zs_waits_full d1 hi ⟨by omega, by omega, by omega, by omega⟩ ⟨by omega, by omega⟩ (by omega)], by rw [zs_waits_full d1 hi ⟨by omega, by omega, by omega, by omega⟩ ⟨by omega, by omega⟩ (by omega)]; exact hM.rg (zr_id rg i).symm, hF⟩
              · have c7 := mt (zn_eq (nI_toInt (by omega)) zn_0).mpr c7
                refine lv_bipush (v := (-5)) X.1 X.2.1 d_M_waits_63 (by decide) ?_
                exact zx_iret X hr hlk hH (Nat.le_of_ble_eq_true rfl) (Nat.le_of_ble_eq_true rfl) d_M_waits_65 ⟨rfl, rfl, by rw [zs_waits_late d1 hi ⟨by omega, by omega, by omega, by omega⟩ (by omega)], by rw [zs_waits_late d1 hi ⟨by omega, by omega, by omega, by omega⟩ (by omega)]; exact hM.rg (zr_id rg i).symm, hF⟩
          · have c5 := mt (zn_le rfl (nI_toInt (by omega))).mpr c5
            refine lv_bipush (v := (-4)) X.1 X.2.1 d_M_waits_41 (by decide) ?_
            exact zx_iret X hr hlk hH (Nat.le_of_ble_eq_true rfl) (Nat.le_of_ble_eq_true rfl) d_M_waits_43 ⟨rfl, rfl, by rw [zs_waits_bad d1 hi (by omega)], by rw [zs_waits_bad d1 hi (by omega)]; exact hM.rg (zr_id rg i).symm, hF⟩
  · refine zx_top (b := nI 0) (by rw [if_neg d1]) ?_
    refine lv_if_ne (tgt := 16) X.1 X.2.1 d_M_waits_10 (by decide) (fun z => absurd rfl z) (fun _ => ?_)
    refine lv_bipush (v := (-2)) X.1 X.2.1 d_M_waits_13 (by decide) ?_
    exact zx_iret X hr hlk hH (Nat.le_of_ble_eq_true rfl) (Nat.le_of_ble_eq_true rfl) d_M_waits_15 ⟨rfl, rfl, by rw [zs_waits_no d1], by rw [zs_waits_no d1]; exact hM, hF⟩

set_option maxHeartbeats 4000000 in
set_option maxRecDepth 100000 in
theorem c_M_decision (g : zw_G) (l : Launch) (N : Nat) (ad : Nat → Nat) (E : Nat → va_E) (q : Nat → Nat) (rg : zt_R) (ev sf fs fl : Nat → Nat) (hN : 25 ≤ N) (hok : zt_ok q rg ev sf) (hv : zs_inv q rg) (hM : zm_at g ad E q rg ev fs fl) (x y : Int32) : zc_i g l y_M_decision b_M_decision 3 (some .int) { frames := 1, cells := 0, slots := 0, locals := 40 } [.ref (ad (8)), .int (x), .int (y)] N ad E (fun v N1 ad1 E1 => N = N1 ∧ ad = ad1 ∧ v = (zs_dec q rg x y).1 ∧ zm_at g ad E1 q (zs_dec q rg x y).2 ev fs fl ∧ zm_fr E E1) := by
  refine zc_i.of (by decide) (Nat.le_of_ble_eq_true rfl) ?_
  intro p e s m below meth c ls A X hr hlk hl hH
  have hl : lv_has ls 3 [(0, .ref (ad (8))), (1, .int (x)), (2, .int (y))] := hl
  obtain ⟨k0, k2, k3, k3a, k4, k4a, k5, k5a, k6, k6a⟩ := hok.1
  have hF : zm_fr E E := zm_fr.rf
  refine lv_aload_n X.1 X.2.1 d_M_decision_0 rfl (lv_at hl 0 rfl) ?_
  refine lv_iconst (v := nI 0) X.1 X.2.1 d_M_decision_1 (by decide) ?_
  refine zx_put X hH fp_M_59 (by omega) hM.1 (Nat.le_of_ble_eq_true rfl) rfl rfl d_M_decision_2 (fun H locs hH => ?_)
  have hH : zw_H g A s.heap s N ad (va_up E 8 (zm_o ad q)) H locs := hH
  rw [← hM.1, ← zr_id] at hH
  refine lv_aload_n X.1 X.2.1 d_M_decision_5 rfl (lv_at hl 0 rfl) ?_
  refine lv_iload_n X.1 X.2.1 d_M_decision_6 rfl (lv_at hl 1 rfl) ?_
  refine zx_calli (zx_runV (As := [.int (x)]) (rest := []) X hH mv_M_70 ((c_M_isRegion g l N ad E q rg ev fs fl hN (by omega) hM x) _) (by omega) hM.1 rfl ⟨Nat.le_of_ble_eq_true rfl, Nat.le_of_ble_eq_true rfl⟩ rfl hl rfl (Nat.le_of_ble_eq_true rfl) d_M_decision_7 ⟨Nat.le_of_ble_eq_true rfl, Nat.le_of_ble_eq_true rfl⟩) hH (fun r N1 ad1 E1 H locs hq hH => ?_)
  obtain ⟨rfl, rfl, rfl, rfl⟩ := hq
  by_cases d1 : 1 ≤ x.toInt ∧ x.toInt ≤ (q 0 : Int)
  · refine zx_top (b := nI 1) (by rw [if_pos d1]) ?_
    refine lv_if_ne (tgt := 16) X.1 X.2.1 d_M_decision_10 (by decide) (fun _ => ?_) (fun z => absurd z (by decide))
    obtain ⟨i, hi⟩ : ∃ i, i = x.toInt.toNat - 1 := ⟨_, rfl⟩
    have hi0 : i < q 0 := by omega
    have hx9 : x = nI (i + 1) := zn_of (by omega)
    have hro := hok.2.1 i hi0
    obtain ⟨r0, r1, r2, r3, r4, r5, r7, r8, r6⟩ := hro.1
    obtain ⟨v0, v5, v3⟩ := hv.1 i hi0
    rw [hx9] at hl
    have hM := hM.rg (zr_id rg i)
    refine lv_iload_n X.1 X.2.1 d_M_decision_16 rfl (lv_at hl 2 rfl) ?_
    refine lv_iconst (v := nI 1) X.1 X.2.1 d_M_decision_17 (by decide) ?_
    refine lv_icmp_lt (tgt := 31) X.1 X.2.1 d_M_decision_18 (by decide) (fun c2 => ?_) (fun c2 => ?_)
    · have c2 := (zn_lt rfl (nI_toInt (by omega))).mp c2
      refine lv_bipush (v := (-4)) X.1 X.2.1 d_M_decision_31 (by decide) ?_
      exact zx_iret X hr hlk hH (Nat.le_of_ble_eq_true rfl) (Nat.le_of_ble_eq_true rfl) d_M_decision_33 ⟨rfl, rfl, by rw [zs_dec_bad d1 hi (by omega)], by rw [zs_dec_bad d1 hi (by omega)]; exact hM.rg (zr_id rg i).symm, hF⟩
    · have c2 := mt (zn_lt rfl (nI_toInt (by omega))).mpr c2
      refine lv_iload_n X.1 X.2.1 d_M_decision_21 rfl (lv_at hl 2 rfl) ?_
      refine lv_aload_n X.1 X.2.1 d_M_decision_22 rfl (lv_at hl 0 rfl) ?_
      refine zx_get (v := .ref (ad (9))) X hH fg_M_7 (by omega) hM.1 rfl d_M_decision_23 ?_
      refine lv_iload_n X.1 X.2.1 d_M_decision_26 rfl (lv_at hl 1 rfl) ?_
      refine zx_iald (j := i + 1) X hH (by omega) (show E 9 = zr_ia g 31 (zm_c (va_up rg i (rg i)) 0) from hM.2.1) rfl (by omega) (by decide) d_M_decision_27 ?_
      refine zx_top (b := nI ((rg i).1 0)) (congrArg nI (zm_c_at _ _ _ _)) ?_
      refine lv_icmp_lt (tgt := 34) X.1 X.2.1 d_M_decision_28 (by decide) (fun c3 => ?_) (fun c3 => ?_)
      · have c3 := (zn_lt rfl (nI_toInt (by omega))).mp c3
        refine lv_aload_n X.1 X.2.1 d_M_decision_34 rfl (lv_at hl 0 rfl) ?_
        refine zx_get (v := .ref (ad (12))) X hH fg_M_19 (by omega) hM.1 rfl d_M_decision_35 ?_
        refine lv_iload_n X.1 X.2.1 d_M_decision_38 rfl (lv_at hl 1 rfl) ?_
        refine zx_iald (j := i + 1) X hH (by omega) (show E 12 = zr_ia g 31 (zm_c (va_up rg i (rg i)) 3) from hM.2.2.2.2.1) rfl (by omega) (by decide) d_M_decision_39 ?_
        refine zx_top (b := nI ((rg i).1 3)) (congrArg nI (zm_c_at _ _ _ _)) ?_
        refine lv_iload_n X.1 X.2.1 d_M_decision_40 rfl (lv_at hl 2 rfl) ?_
        refine lv_icmp_ge (tgt := 53) X.1 X.2.1 d_M_decision_41 (by decide) (fun c4 => ?_) (fun c4 => ?_)
        · have c4 := (zn_le rfl (nI_toInt (by omega))).mp c4
          refine lv_bipush (v := (-5)) X.1 X.2.1 d_M_decision_53 (by decide) ?_
          exact zx_iret X hr hlk hH (Nat.le_of_ble_eq_true rfl) (Nat.le_of_ble_eq_true rfl) d_M_decision_55 ⟨rfl, rfl, by rw [zs_dec_late d1 hi ⟨by omega, by omega⟩ (by omega)], by rw [zs_dec_late d1 hi ⟨by omega, by omega⟩ (by omega)]; exact hM.rg (zr_id rg i).symm, hF⟩
        · have c4 := mt (zn_le rfl (nI_toInt (by omega))).mpr c4
          refine lv_aload_n X.1 X.2.1 d_M_decision_44 rfl (lv_at hl 0 rfl) ?_
          refine zx_get (v := .ref (ad (11))) X hH fg_M_16 (by omega) hM.1 rfl d_M_decision_45 ?_
          refine lv_iload_n X.1 X.2.1 d_M_decision_48 rfl (lv_at hl 1 rfl) ?_
          refine zx_iald (j := i + 1) X hH (by omega) (show E 11 = zr_ia g 31 (zm_c (va_up rg i (rg i)) 2) from hM.2.2.2.1) rfl (by omega) (by decide) d_M_decision_49 ?_
          refine zx_top (b := nI ((rg i).1 2)) (congrArg nI (zm_c_at _ _ _ _)) ?_
          refine lv_if_eq (tgt := 56) X.1 X.2.1 d_M_decision_50 (by decide) (fun c5 => ?_) (fun c5 => ?_)
          · have c5 := (zn_eq (nI_toInt (by omega)) zn_0).mp c5
            refine lv_aload_n X.1 X.2.1 d_M_decision_56 rfl (lv_at hl 0 rfl) ?_
            refine zx_get (v := .ref (ad (19))) X hH fg_M_41 (by omega) hM.1 rfl d_M_decision_57 ?_
            refine lv_iload_n X.1 X.2.1 d_M_decision_60 rfl (lv_at hl 1 rfl) ?_
            have k9 := hro.2.2.2.2 y.toInt.toNat
            have k10 := hro.2.2.2.2 (y.toInt.toNat + 1)
            refine lv_iload_n X.1 X.2.1 d_M_decision_61 rfl (lv_at hl 2 rfl) ?_
            refine zx_top (zn_nat (x := y) (by omega)) ?_
            refine zx_calli (zx_runS (As := [.int (nI (i + 1)), .int (nI (y.toInt.toNat))]) (rest := [.ref (ad (19))]) X hH ms_M_77 ((c_M_of g l N ad E (i + 1) (y.toInt.toNat)) _) ⟨Nat.le_of_ble_eq_true rfl, Nat.le_of_ble_eq_true rfl⟩ rfl hl rfl (Nat.le_of_ble_eq_true rfl) d_M_decision_62 ⟨Nat.le_of_ble_eq_true rfl, Nat.le_of_ble_eq_true rfl⟩) hH (fun r N1 ad1 E1 H locs hq hH => ?_)
            obtain ⟨rfl, rfl, rfl, rfl⟩ := hq
            refine zx_iald (j := 101 * (i + 1) + (y.toInt.toNat)) X hH (by omega) (show E 19 = zr_ia g 3131 (zm_d (va_up rg i (rg i))) from hM.2.2.2.2.2.2.2.2.2.2.2.1) rfl (by omega) (by decide) d_M_decision_65 ?_
            refine zx_top (b := nI ((rg i).2 3 (y.toInt.toNat))) (congrArg nI (zm_d_at _ _ _ (by omega))) ?_
            refine lv_aload_n X.1 X.2.1 d_M_decision_66 rfl (lv_at hl 0 rfl) ?_
            refine zx_get (v := .ref (ad (19))) X hH fg_M_41 (by omega) hM.1 rfl d_M_decision_67 ?_
            refine lv_iload_n X.1 X.2.1 d_M_decision_70 rfl (lv_at hl 1 rfl) ?_
            refine lv_iload_n X.1 X.2.1 d_M_decision_71 rfl (lv_at hl 2 rfl) ?_
            refine zx_top (zn_nat (x := y) (by omega)) ?_
            refine lv_iconst (v := nI 1) X.1 X.2.1 d_M_decision_72 (by decide) ?_
            refine lv_iadd X.1 X.2.1 d_M_decision_73 ?_
            refine zx_top (nI_add _ _) ?_
            refine zx_calli (zx_runS (As := [.int (nI (i + 1)), .int (nI ((y.toInt.toNat) + (1)))]) (rest := [.ref (ad (19)), .int (nI ((rg i).2 3 (y.toInt.toNat)))]) X hH ms_M_77 ((c_M_of g l N ad E (i + 1) ((y.toInt.toNat) + (1))) _) ⟨Nat.le_of_ble_eq_true rfl, Nat.le_of_ble_eq_true rfl⟩ rfl hl rfl (Nat.le_of_ble_eq_true rfl) d_M_decision_74 ⟨Nat.le_of_ble_eq_true rfl, Nat.le_of_ble_eq_true rfl⟩) hH (fun r N1 ad1 E1 H locs hq hH => ?_)
            obtain ⟨rfl, rfl, rfl, rfl⟩ := hq
            refine zx_iald (j := 101 * (i + 1) + (y.toInt.toNat + 1)) X hH (by omega) (show E 19 = zr_ia g 3131 (zm_d (va_up rg i (rg i))) from hM.2.2.2.2.2.2.2.2.2.2.2.1) rfl (by omega) (by decide) d_M_decision_77 ?_
            refine zx_top (b := nI ((rg i).2 3 (y.toInt.toNat + 1))) (congrArg nI (zm_d_at _ _ _ (by omega))) ?_
            refine lv_iadd X.1 X.2.1 d_M_decision_78 ?_
            refine zx_top (nI_add _ _) ?_
            refine lv_if_le (tgt := 84) X.1 X.2.1 d_M_decision_79 (by decide) (fun c6 => ?_) (fun c6 => ?_)
            · have c6 := (zn_le (nI_toInt (by omega)) zn_0).mp c6
              refine lv_aload_n X.1 X.2.1 d_M_decision_84 rfl (lv_at hl 0 rfl) ?_
              refine zx_get (v := .ref (ad (19))) X hH fg_M_41 (by omega) hM.1 rfl d_M_decision_85 ?_
              refine lv_iload_n X.1 X.2.1 d_M_decision_88 rfl (lv_at hl 1 rfl) ?_
              refine lv_iload_n X.1 X.2.1 d_M_decision_89 rfl (lv_at hl 2 rfl) ?_
              refine zx_top (zn_nat (x := y) (by omega)) ?_
              refine zx_calli (zx_runS (As := [.int (nI (i + 1)), .int (nI (y.toInt.toNat))]) (rest := [.ref (ad (19))]) X hH ms_M_77 ((c_M_of g l N ad E (i + 1) (y.toInt.toNat)) _) ⟨Nat.le_of_ble_eq_true rfl, Nat.le_of_ble_eq_true rfl⟩ rfl hl rfl (Nat.le_of_ble_eq_true rfl) d_M_decision_90 ⟨Nat.le_of_ble_eq_true rfl, Nat.le_of_ble_eq_true rfl⟩) hH (fun r N1 ad1 E1 H locs hq hH => ?_)
              obtain ⟨rfl, rfl, rfl, rfl⟩ := hq
              refine lv_iconst (v := nI 1) X.1 X.2.1 d_M_decision_93 (by decide) ?_
              refine zx_iast (j := 101 * (i + 1) + (y.toInt.toNat)) X hH (by omega) (show E 19 = zr_ia g 3131 (zm_d (va_up rg i (rg i))) from hM.2.2.2.2.2.2.2.2.2.2.2.1) rfl (by omega) (by decide) d_M_decision_94 (fun H locs hH => ?_)
              rw [zr_upd] at hH
              have hH : zw_H g A s.heap s N ad (va_up E 19 (zr_ia g 3131 (va_up (zm_d (va_up rg i (rg i))) (101 * (i + 1) + (y.toInt.toNat)) (1)))) H locs := hH
              have hM := hM.d (m := y.toInt.toNat) (by omega) (1)
              have hF := hF.up (k := 19) (x := (zr_ia g 3131 (va_up (zm_d (va_up rg i (rg i))) (101 * (i + 1) + (y.toInt.toNat)) (1)))) (by decide) (by decide)
              generalize va_up E 19 (zr_ia g 3131 (va_up (zm_d (va_up rg i (rg i))) (101 * (i + 1) + (y.toInt.toNat)) (1))) = E7 at hH hM hF
              have hM : zm_at g ad E7 q (va_up rg i ((rg i).1, va_up ((rg i).2) 3 (va_up ((rg i).2 3) (y.toInt.toNat) (1)))) ev fs fl := hM
              refine lv_aload_n X.1 X.2.1 d_M_decision_95 rfl (lv_at hl 0 rfl) ?_
              refine zx_get (v := .ref (ad (19))) X hH fg_M_41 (by omega) hM.1 rfl d_M_decision_96 ?_
              refine lv_iload_n X.1 X.2.1 d_M_decision_99 rfl (lv_at hl 1 rfl) ?_
              refine lv_iload_n X.1 X.2.1 d_M_decision_100 rfl (lv_at hl 2 rfl) ?_
              refine zx_top (zn_nat (x := y) (by omega)) ?_
              refine lv_iconst (v := nI 1) X.1 X.2.1 d_M_decision_101 (by decide) ?_
              refine lv_iadd X.1 X.2.1 d_M_decision_102 ?_
              refine zx_top (nI_add _ _) ?_
              refine zx_calli (zx_runS (As := [.int (nI (i + 1)), .int (nI ((y.toInt.toNat) + (1)))]) (rest := [.ref (ad (19))]) X hH ms_M_77 ((c_M_of g l N ad E7 (i + 1) ((y.toInt.toNat) + (1))) _) ⟨Nat.le_of_ble_eq_true rfl, Nat.le_of_ble_eq_true rfl⟩ rfl hl rfl (Nat.le_of_ble_eq_true rfl) d_M_decision_103 ⟨Nat.le_of_ble_eq_true rfl, Nat.le_of_ble_eq_true rfl⟩) hH (fun r N1 ad1 E1 H locs hq hH => ?_)
              obtain ⟨rfl, rfl, rfl, rfl⟩ := hq
              refine lv_iconst (v := nI 2) X.1 X.2.1 d_M_decision_106 (by decide) ?_
              refine zx_iast (j := 101 * (i + 1) + (y.toInt.toNat + 1)) X hH (by omega) (show E7 19 = zr_ia g 3131 (zm_d (va_up rg i ((rg i).1, va_up ((rg i).2) 3 (va_up ((rg i).2 3) (y.toInt.toNat) (1))))) from hM.2.2.2.2.2.2.2.2.2.2.2.1) rfl (by omega) (by decide) d_M_decision_107 (fun H locs hH => ?_)
              rw [zr_upd] at hH
              have hH : zw_H g A s.heap s N ad (va_up E7 19 (zr_ia g 3131 (va_up (zm_d (va_up rg i ((rg i).1, va_up ((rg i).2) 3 (va_up ((rg i).2 3) (y.toInt.toNat) (1))))) (101 * (i + 1) + (y.toInt.toNat + 1)) (2)))) H locs := hH
              have hM := hM.d (m := y.toInt.toNat + 1) (by omega) (2)
              have hF := hF.up (k := 19) (x := (zr_ia g 3131 (va_up (zm_d (va_up rg i ((rg i).1, va_up ((rg i).2) 3 (va_up ((rg i).2 3) (y.toInt.toNat) (1))))) (101 * (i + 1) + (y.toInt.toNat + 1)) (2)))) (by decide) (by decide)
              generalize va_up E7 19 (zr_ia g 3131 (va_up (zm_d (va_up rg i ((rg i).1, va_up ((rg i).2) 3 (va_up ((rg i).2 3) (y.toInt.toNat) (1))))) (101 * (i + 1) + (y.toInt.toNat + 1)) (2))) = E8 at hH hM hF
              have hM : zm_at g ad E8 q (va_up rg i ((rg i).1, va_up (va_up ((rg i).2) 3 (va_up ((rg i).2 3) (y.toInt.toNat) (1))) 3 (va_up (va_up ((rg i).2 3) (y.toInt.toNat) (1)) (y.toInt.toNat + 1) (2)))) ev fs fl := hM
              refine lv_iconst (v := nI 1) X.1 X.2.1 d_M_decision_108 (by decide) ?_
              exact zx_iret X hr hlk hH (Nat.le_of_ble_eq_true rfl) (Nat.le_of_ble_eq_true rfl) d_M_decision_109 ⟨rfl, rfl, by rw [zs_dec_ok d1 hi ⟨by omega, by omega⟩ ⟨by omega, by omega⟩ ⟨by omega, by omega⟩], by rw [zs_dec_ok d1 hi ⟨by omega, by omega⟩ ⟨by omega, by omega⟩ ⟨by omega, by omega⟩]; exact hM.rg (congrArg (fun z => va_up rg i ((rg i).1, z)) (bx_uu _ _ _ _)), hF⟩
            · have c6 := mt (zn_le (nI_toInt (by omega)) zn_0).mpr c6
              refine lv_iconst (v := nI 0) X.1 X.2.1 d_M_decision_82 (by decide) ?_
              exact zx_iret X hr hlk hH (Nat.le_of_ble_eq_true rfl) (Nat.le_of_ble_eq_true rfl) d_M_decision_83 ⟨rfl, rfl, by rw [zs_dec_was d1 hi ⟨by omega, by omega⟩ ⟨by omega, by omega⟩ (by omega)], by rw [zs_dec_was d1 hi ⟨by omega, by omega⟩ ⟨by omega, by omega⟩ (by omega)]; exact hM.rg (zr_id rg i).symm, hF⟩
          · have c5 := mt (zn_eq (nI_toInt (by omega)) zn_0).mpr c5
            refine lv_bipush (v := (-5)) X.1 X.2.1 d_M_decision_53 (by decide) ?_
            exact zx_iret X hr hlk hH (Nat.le_of_ble_eq_true rfl) (Nat.le_of_ble_eq_true rfl) d_M_decision_55 ⟨rfl, rfl, by rw [zs_dec_late d1 hi ⟨by omega, by omega⟩ (by omega)], by rw [zs_dec_late d1 hi ⟨by omega, by omega⟩ (by omega)]; exact hM.rg (zr_id rg i).symm, hF⟩
      · have c3 := mt (zn_lt rfl (nI_toInt (by omega))).mpr c3
        refine lv_bipush (v := (-4)) X.1 X.2.1 d_M_decision_31 (by decide) ?_
        exact zx_iret X hr hlk hH (Nat.le_of_ble_eq_true rfl) (Nat.le_of_ble_eq_true rfl) d_M_decision_33 ⟨rfl, rfl, by rw [zs_dec_bad d1 hi (by omega)], by rw [zs_dec_bad d1 hi (by omega)]; exact hM.rg (zr_id rg i).symm, hF⟩
  · refine zx_top (b := nI 0) (by rw [if_neg d1]) ?_
    refine lv_if_ne (tgt := 16) X.1 X.2.1 d_M_decision_10 (by decide) (fun z => absurd rfl z) (fun _ => ?_)
    refine lv_bipush (v := (-2)) X.1 X.2.1 d_M_decision_13 (by decide) ?_
    exact zx_iret X hr hlk hH (Nat.le_of_ble_eq_true rfl) (Nat.le_of_ble_eq_true rfl) d_M_decision_15 ⟨rfl, rfl, by rw [zs_dec_no d1], by rw [zs_dec_no d1]; exact hM, hF⟩

set_option maxHeartbeats 4000000 in
set_option maxRecDepth 100000 in
theorem c_M_cancel (g : zw_G) (l : Launch) (N : Nat) (ad : Nat → Nat) (E : Nat → va_E) (q : Nat → Nat) (rg : zt_R) (ev sf fs fl : Nat → Nat) (hN : 25 ≤ N) (hok : zt_ok q rg ev sf) (hv : zs_inv q rg) (hM : zm_at g ad E q rg ev fs fl) (x : Int32) : zc_i g l y_M_cancel b_M_cancel 2 (some .boolean) { frames := 1, cells := 0, slots := 0, locals := 40 } [.ref (ad (8)), .int (x)] N ad E (fun v N1 ad1 E1 => N = N1 ∧ ad = ad1 ∧ v = (zs_can q rg x).1 ∧ zm_at g ad E1 q (zs_can q rg x).2 ev fs fl ∧ zm_fr E E1) := by
  refine zc_i.of (by decide) (Nat.le_of_ble_eq_true rfl) ?_
  intro p e s m below meth c ls A X hr hlk hl hH
  have hl : lv_has ls 2 [(0, .ref (ad (8))), (1, .int (x))] := hl
  obtain ⟨k0, k2, k3, k3a, k4, k4a, k5, k5a, k6, k6a⟩ := hok.1
  have hF : zm_fr E E := zm_fr.rf
  refine lv_aload_n X.1 X.2.1 d_M_cancel_0 rfl (lv_at hl 0 rfl) ?_
  refine lv_iconst (v := nI 0) X.1 X.2.1 d_M_cancel_1 (by decide) ?_
  refine zx_put X hH fp_M_59 (by omega) hM.1 (Nat.le_of_ble_eq_true rfl) rfl rfl d_M_cancel_2 (fun H locs hH => ?_)
  have hH : zw_H g A s.heap s N ad (va_up E 8 (zm_o ad q)) H locs := hH
  rw [← hM.1, ← zr_id] at hH
  refine lv_aload_n X.1 X.2.1 d_M_cancel_5 rfl (lv_at hl 0 rfl) ?_
  refine zx_get (v := .int (nI (q 2))) X hH fg_M_66 (by omega) hM.1 rfl d_M_cancel_6 ?_
  refine lv_if_ne (tgt := 38) X.1 X.2.1 d_M_cancel_9 (by decide) (fun c2 => ?_) (fun c2 => ?_)
  · have c2 := mt (zn_eq (nI_toInt (by omega)) zn_0).mpr c2
    refine lv_iconst (v := nI 0) X.1 X.2.1 d_M_cancel_38 (by decide) ?_
    exact zx_zret X hr hlk hH (Nat.le_of_ble_eq_true rfl) (Nat.le_of_ble_eq_true rfl) d_M_cancel_39 rfl ⟨rfl, rfl, by rw [zs_can_a (by omega)], by rw [zs_can_a (by omega)]; exact hM, hF⟩
  · have c2 := (zn_eq (nI_toInt (by omega)) zn_0).mp c2
    refine lv_aload_n X.1 X.2.1 d_M_cancel_12 rfl (lv_at hl 0 rfl) ?_
    refine lv_iload_n X.1 X.2.1 d_M_cancel_13 rfl (lv_at hl 1 rfl) ?_
    refine zx_calli (zx_runV (As := [.int (x)]) (rest := []) X hH mv_M_70 ((c_M_isRegion g l N ad E q rg ev fs fl hN (by omega) hM x) _) (by omega) hM.1 rfl ⟨Nat.le_of_ble_eq_true rfl, Nat.le_of_ble_eq_true rfl⟩ rfl hl rfl (Nat.le_of_ble_eq_true rfl) d_M_cancel_14 ⟨Nat.le_of_ble_eq_true rfl, Nat.le_of_ble_eq_true rfl⟩) hH (fun r N1 ad1 E1 H locs hq hH => ?_)
    obtain ⟨rfl, rfl, rfl, rfl⟩ := hq
    by_cases d1 : 1 ≤ x.toInt ∧ x.toInt ≤ (q 0 : Int)
    · refine zx_top (b := nI 1) (by rw [if_pos d1]) ?_
      refine lv_if_eq (tgt := 38) X.1 X.2.1 d_M_cancel_17 (by decide) (fun z => absurd z (by decide)) (fun _ => ?_)
      obtain ⟨i, hi⟩ : ∃ i, i = x.toInt.toNat - 1 := ⟨_, rfl⟩
      have hi0 : i < q 0 := by omega
      have hx9 : x = nI (i + 1) := zn_of (by omega)
      have hro := hok.2.1 i hi0
      obtain ⟨r0, r1, r2, r3, r4, r5, r7, r8, r6⟩ := hro.1
      obtain ⟨v0, v5, v3⟩ := hv.1 i hi0
      rw [hx9] at hl
      have hM := hM.rg (zr_id rg i)
      refine lv_aload_n X.1 X.2.1 d_M_cancel_20 rfl (lv_at hl 0 rfl) ?_
      refine zx_get (v := .ref (ad (11))) X hH fg_M_16 (by omega) hM.1 rfl d_M_cancel_21 ?_
      refine lv_iload_n X.1 X.2.1 d_M_cancel_24 rfl (lv_at hl 1 rfl) ?_
      refine zx_iald (j := i + 1) X hH (by omega) (show E 11 = zr_ia g 31 (zm_c (va_up rg i (rg i)) 2) from hM.2.2.2.1) rfl (by omega) (by decide) d_M_cancel_25 ?_
      refine zx_top (b := nI ((rg i).1 2)) (congrArg nI (zm_c_at _ _ _ _)) ?_
      refine lv_if_ne (tgt := 38) X.1 X.2.1 d_M_cancel_26 (by decide) (fun c3 => ?_) (fun c3 => ?_)
      · have c3 := mt (zn_eq (nI_toInt (by omega)) zn_0).mpr c3
        refine lv_iconst (v := nI 0) X.1 X.2.1 d_M_cancel_38 (by decide) ?_
        exact zx_zret X hr hlk hH (Nat.le_of_ble_eq_true rfl) (Nat.le_of_ble_eq_true rfl) d_M_cancel_39 rfl ⟨rfl, rfl, by rw [zs_can_b hi (by omega)], by rw [zs_can_b hi (by omega)]; exact hM.rg (zr_id rg i).symm, hF⟩
      · have c3 := (zn_eq (nI_toInt (by omega)) zn_0).mp c3
        refine lv_aload_n X.1 X.2.1 d_M_cancel_29 rfl (lv_at hl 0 rfl) ?_
        refine zx_get (v := .ref (ad (17))) X hH fg_M_34 (by omega) hM.1 rfl d_M_cancel_30 ?_
        refine lv_iload_n X.1 X.2.1 d_M_cancel_33 rfl (lv_at hl 1 rfl) ?_
        refine zx_zald (j := i + 1) X hH (by omega) (show E 17 = zr_za g 31 (zm_c (va_up rg i (rg i)) 7) from hM.2.2.2.2.2.2.2.2.2.1) rfl (by omega) (by decide) d_M_cancel_34 ?_
        refine zx_top (b := nI ((rg i).1 7)) (congrArg nI (zm_c_at _ _ _ _)) ?_
        refine lv_if_eq (tgt := 40) X.1 X.2.1 d_M_cancel_35 (by decide) (fun c4 => ?_) (fun c4 => ?_)
        · have c4 := (zn_eq (nI_toInt (by omega)) zn_0).mp c4
          refine lv_aload_n X.1 X.2.1 d_M_cancel_40 rfl (lv_at hl 0 rfl) ?_
          refine zx_get (v := .ref (ad (17))) X hH fg_M_34 (by omega) hM.1 rfl d_M_cancel_41 ?_
          refine lv_iload_n X.1 X.2.1 d_M_cancel_44 rfl (lv_at hl 1 rfl) ?_
          refine lv_iconst (v := nI 1) X.1 X.2.1 d_M_cancel_45 (by decide) ?_
          refine zx_zast (j := i + 1) (x := nI (1)) X hH (by omega) (show E 17 = zr_za g 31 (zm_c (va_up rg i (rg i)) 7) from hM.2.2.2.2.2.2.2.2.2.1) rfl (by omega) (by decide) (by decide) d_M_cancel_46 (fun H locs hH => ?_)
          rw [zr_upd] at hH
          have hH : zw_H g A s.heap s N ad (va_up E 17 (zr_za g 31 (va_up (zm_c (va_up rg i (rg i)) 7) (i + 1) (1)))) H locs := hH
          have hM := hM.s7 (1)
          have hF := hF.up (k := 17) (x := (zr_za g 31 (va_up (zm_c (va_up rg i (rg i)) 7) (i + 1) (1)))) (by decide) (by decide)
          generalize va_up E 17 (zr_za g 31 (va_up (zm_c (va_up rg i (rg i)) 7) (i + 1) (1))) = E5 at hH hM hF
          have hM : zm_at g ad E5 q (va_up rg i (va_up ((rg i).1) 7 (1), (rg i).2)) ev fs fl := hM
          refine lv_iconst (v := nI 1) X.1 X.2.1 d_M_cancel_47 (by decide) ?_
          exact zx_zret X hr hlk hH (Nat.le_of_ble_eq_true rfl) (Nat.le_of_ble_eq_true rfl) d_M_cancel_48 rfl ⟨rfl, rfl, by rw [zs_can_ok hi ⟨by omega, by omega, by omega⟩ ⟨by omega, by omega⟩], by rw [zs_can_ok hi ⟨by omega, by omega, by omega⟩ ⟨by omega, by omega⟩]; exact hM, hF⟩
        · have c4 := mt (zn_eq (nI_toInt (by omega)) zn_0).mpr c4
          refine lv_iconst (v := nI 0) X.1 X.2.1 d_M_cancel_38 (by decide) ?_
          exact zx_zret X hr hlk hH (Nat.le_of_ble_eq_true rfl) (Nat.le_of_ble_eq_true rfl) d_M_cancel_39 rfl ⟨rfl, rfl, by rw [zs_can_b hi (by omega)], by rw [zs_can_b hi (by omega)]; exact hM.rg (zr_id rg i).symm, hF⟩
    · refine zx_top (b := nI 0) (by rw [if_neg d1]) ?_
      refine lv_if_eq (tgt := 38) X.1 X.2.1 d_M_cancel_17 (by decide) (fun _ => ?_) (fun z => absurd rfl z)
      refine lv_iconst (v := nI 0) X.1 X.2.1 d_M_cancel_38 (by decide) ?_
      exact zx_zret X hr hlk hH (Nat.le_of_ble_eq_true rfl) (Nat.le_of_ble_eq_true rfl) d_M_cancel_39 rfl ⟨rfl, rfl, by rw [zs_can_a (by omega)], by rw [zs_can_a (by omega)]; exact hM, hF⟩

set_option maxHeartbeats 4000000 in
set_option maxRecDepth 100000 in
theorem c_M_post (g : zw_G) (l : Launch) (N : Nat) (ad : Nat → Nat) (E : Nat → va_E) (q : Nat → Nat) (rg : zt_R) (ev sf fs fl : Nat → Nat) (hN : 25 ≤ N) (hok : zt_ok q rg ev sf) (hv : zs_inv q rg) (hM : zm_at g ad E q rg ev fs fl) (x : Int32) : zc_i g l y_M_post b_M_post 2 (some .int) { frames := 0, cells := 0, slots := 0, locals := 0 } [.ref (ad (8)), .int (x)] N ad E (fun v N1 ad1 E1 => N = N1 ∧ ad = ad1 ∧ v = (zs_post q ev x).1 ∧ zm_at g ad E1 q rg (zs_post q ev x).2 fs fl ∧ zm_fr E E1) := by
  refine zc_i.of (by decide) (Nat.le_of_ble_eq_true rfl) ?_
  intro p e s m below meth c ls A X hr hlk hl hH
  have hl : lv_has ls 2 [(0, .ref (ad (8))), (1, .int (x))] := hl
  obtain ⟨k0, k2, k3, k3a, k4, k4a, k5, k5a, k6, k6a⟩ := hok.1
  have hF : zm_fr E E := zm_fr.rf
  refine lv_aload_n X.1 X.2.1 d_M_post_0 rfl (lv_at hl 0 rfl) ?_
  refine lv_iconst (v := nI 0) X.1 X.2.1 d_M_post_1 (by decide) ?_
  refine zx_put X hH fp_M_59 (by omega) hM.1 (Nat.le_of_ble_eq_true rfl) rfl rfl d_M_post_2 (fun H locs hH => ?_)
  have hH : zw_H g A s.heap s N ad (va_up E 8 (zm_o ad q)) H locs := hH
  rw [← hM.1, ← zr_id] at hH
  refine lv_iload_n X.1 X.2.1 d_M_post_5 rfl (lv_at hl 1 rfl) ?_
  refine lv_if_lt (tgt := 15) X.1 X.2.1 d_M_post_6 (by decide) (fun c2 => ?_) (fun c2 => ?_)
  · have c2 := (zn_lt rfl zn_0).mp c2
    refine lv_bipush (v := (-4)) X.1 X.2.1 d_M_post_15 (by decide) ?_
    exact zx_iret X hr hlk hH (Nat.le_of_ble_eq_true rfl) (Nat.le_of_ble_eq_true rfl) d_M_post_17 ⟨rfl, rfl, by rw [zs_post_bad (by omega)], by rw [zs_post_bad (by omega)]; exact hM, hF⟩
  · have c2 := mt (zn_lt rfl zn_0).mpr c2
    refine lv_iload_n X.1 X.2.1 d_M_post_9 rfl (lv_at hl 1 rfl) ?_
    refine lv_bipush (v := nI 15) X.1 X.2.1 d_M_post_10 (by decide) ?_
    refine lv_icmp_le (tgt := 18) X.1 X.2.1 d_M_post_12 (by decide) (fun c3 => ?_) (fun c3 => ?_)
    · have c3 := (zn_le rfl (nI_toInt (by omega))).mp c3
      refine lv_aload_n X.1 X.2.1 d_M_post_18 rfl (lv_at hl 0 rfl) ?_
      refine zx_get (v := .int (nI (q 2))) X hH fg_M_66 (by omega) hM.1 rfl d_M_post_19 ?_
      refine lv_if_eq (tgt := 28) X.1 X.2.1 d_M_post_22 (by decide) (fun c4 => ?_) (fun c4 => ?_)
      · have c4 := (zn_eq (nI_toInt (by omega)) zn_0).mp c4
        refine lv_aload_n X.1 X.2.1 d_M_post_28 rfl (lv_at hl 0 rfl) ?_
        refine zx_get (v := .ref (ad (23))) X hH fg_M_53 (by omega) hM.1 rfl d_M_post_29 ?_
        refine lv_iload_n X.1 X.2.1 d_M_post_32 rfl (lv_at hl 1 rfl) ?_
        refine zx_top (zn_nat (x := x) (by omega)) ?_
        refine lv_dup2_11 X.1 X.2.1 d_M_post_33 rfl rfl ?_
        refine zx_iald (j := x.toInt.toNat) X hH (by omega) (show E 23 = zr_ia g 16 ev from hM.2.2.2.2.2.2.2.2.2.2.2.2.2.2.2.1) rfl (by omega) (by decide) d_M_post_34 ?_
        refine lv_iconst (v := nI 1) X.1 X.2.1 d_M_post_35 (by decide) ?_
        refine lv_iadd X.1 X.2.1 d_M_post_36 ?_
        refine zx_top (nI_add _ _) ?_
        refine zx_iast (j := x.toInt.toNat) (x := nI (ev x.toInt.toNat + 1)) X hH (by omega) (show E 23 = zr_ia g 16 ev from hM.2.2.2.2.2.2.2.2.2.2.2.2.2.2.2.1) rfl (by omega) (by decide) d_M_post_37 (fun H locs hH => ?_)
        rw [zr_upd] at hH
        have hH : zw_H g A s.heap s N ad (va_up E 23 (zr_ia g 16 (va_up ev x.toInt.toNat (ev x.toInt.toNat + 1)))) H locs := hH
        have hM := hM.ev (va_up ev x.toInt.toNat (ev x.toInt.toNat + 1))
        have hF := hF.up (k := 23) (x := (zr_ia g 16 (va_up ev x.toInt.toNat (ev x.toInt.toNat + 1)))) (by decide) (by decide)
        generalize va_up E 23 (zr_ia g 16 (va_up ev x.toInt.toNat (ev x.toInt.toNat + 1))) = E5 at hH hM hF
        refine lv_aload_n X.1 X.2.1 d_M_post_38 rfl (lv_at hl 0 rfl) ?_
        refine zx_get (v := .ref (ad (23))) X hH fg_M_53 (by omega) hM.1 rfl d_M_post_39 ?_
        refine lv_iload_n X.1 X.2.1 d_M_post_42 rfl (lv_at hl 1 rfl) ?_
        refine zx_top (zn_nat (x := x) (by omega)) ?_
        refine zx_iald (j := x.toInt.toNat) X hH (by omega) (show E5 23 = zr_ia g 16 (va_up ev x.toInt.toNat (ev x.toInt.toNat + 1)) from hM.2.2.2.2.2.2.2.2.2.2.2.2.2.2.2.1) rfl (by omega) (by decide) d_M_post_43 ?_
        exact zx_iret X hr hlk hH (Nat.le_of_ble_eq_true rfl) (Nat.le_of_ble_eq_true rfl) d_M_post_44 ⟨rfl, rfl, by rw [zs_post_ok ⟨by omega, by omega⟩ (by omega), va_up_self], by rw [zs_post_ok ⟨by omega, by omega⟩ (by omega)]; exact hM, hF⟩
      · have c4 := mt (zn_eq (nI_toInt (by omega)) zn_0).mpr c4
        refine lv_bipush (v := (-5)) X.1 X.2.1 d_M_post_25 (by decide) ?_
        exact zx_iret X hr hlk hH (Nat.le_of_ble_eq_true rfl) (Nat.le_of_ble_eq_true rfl) d_M_post_27 ⟨rfl, rfl, by rw [zs_post_off ⟨by omega, by omega⟩ (by omega)], by rw [zs_post_off ⟨by omega, by omega⟩ (by omega)]; exact hM, hF⟩
    · have c3 := mt (zn_le rfl (nI_toInt (by omega))).mpr c3
      refine lv_bipush (v := (-4)) X.1 X.2.1 d_M_post_15 (by decide) ?_
      exact zx_iret X hr hlk hH (Nat.le_of_ble_eq_true rfl) (Nat.le_of_ble_eq_true rfl) d_M_post_17 ⟨rfl, rfl, by rw [zs_post_bad (by omega)], by rw [zs_post_bad (by omega)]; exact hM, hF⟩
