theorem zm_c_0 (j : Nat) : zm_c (fun _ => (fun _ => 0, fun _ _ => 0)) j = fun _ => 0 := by funext k; unfold zm_c; split <;> rfl
theorem zm_w_0 (a : Nat) : zm_w (fun _ => (fun _ => 0, fun _ _ => 0)) a = fun _ => 0 := rfl
theorem zm_d_0 : zm_d (fun _ => (fun _ => 0, fun _ _ => 0)) = fun _ => 0 := by funext k; unfold zm_d; split <;> rfl
set_option maxHeartbeats 4000000 in
set_option maxRecDepth 100000 in
theorem c_M_init (g : zw_G) (l : Launch) (ad : Nat → Nat) (E : Nat → va_E) (c_8 : E 8 = .inr (4, [.int (nI 0), .int (nI 0), .int (nI 0), .int (nI 0), .int (nI 0), .int (nI 0), .null, .null, .null, .null, .null, .null, .null, .null, .null, .null, .null, .null, .null, .null, .null, .null])) : zc_v g l y_M_init b_M_init 1 { frames := 1, cells := 16, slots := 8986, locals := 40 } [.ref (ad 8)] 9 ad E (fun N1 ad1 E1 => 25 = N1 ∧ (∀ k, k < 9 → ad1 k = ad k) ∧ zm_at g ad1 E1 zp_q0 (fun _ => (fun _ => 0, fun _ _ => 0)) (fun _ => 0) (fun _ => 0) (fun _ => 0) ∧ ∀ k, k < 8 → E1 k = E k) := by
  refine zc_v.of (by decide) (Nat.le_of_ble_eq_true rfl) ?_
  intro p e s m below meth c ls A X hr hlk hnm hl hH
  have hl : lv_has ls 1 [(0, .ref (ad 8))] := hl
  refine lv_aload_n X.1 X.2.1 d_M_init_0 rfl (lv_at hl 0 rfl) ?_
  refine zx_obj X hl zj_M (Nat.le_of_ble_eq_true rfl) (Nat.le_of_ble_eq_true rfl) d_M_init_1 ?_
  refine lv_aload_n X.1 X.2.1 d_M_init_4 rfl (lv_at hl 0 rfl) ?_
  refine lv_bipush (v := nI 31) X.1 X.2.1 d_M_init_5 (by decide) ?_
  refine zx_newi (j := 31) X hH zw_arrI rfl (by decide) (by dsimp only; omega) (by dsimp only; omega) d_M_init_7 (fun q0 H hH => ?_)
  have hH : zw_H g A s.heap s (9 + 1) (va_up ad (9) q0) (va_up E (9) (zr_ia g 31 (fun _ => 0))) H _ := hH
  obtain ⟨ad1, had1⟩ : ∃ x, x = va_up ad (9) q0 := ⟨_, rfl⟩
  obtain ⟨E1, hE1⟩ : ∃ x, x = va_up E (9) (zr_ia g 31 (fun _ => 0)) := ⟨_, rfl⟩
  rw [← had1, ← hE1] at hH
  have a_1 : ∀ k, k < 9 → ad1 k = ad k := fun k hk => by rw [had1]; exact va_up_ne _ _ (by omega)
  have e_1 : ∀ k, k ≠ 9 → E1 k = E k := fun k hk => by rw [hE1]; exact va_up_ne _ _ hk
  have n_1 : E1 (9) = (zr_ia g 31 (fun _ => 0)) := by rw [hE1]; exact va_up_self _ _ _
  refine W.eq (g2 := F0 m 9 ls [.ref (ad1 (9)), .ref (ad1 (8))]) (by rw [had1, va_up_ne _ _ (show 8 ≠ 9 by omega)]) ?_
  rw [← a_1 (8) (by omega)] at hl
  have c_8 := (e_1 (8) (by omega)).trans c_8
  have c_9 := n_1
  refine zx_putF X hH fp_M_7 hnm rfl (by omega) c_8 (Nat.le_of_ble_eq_true rfl) rfl rfl d_M_init_9 (fun H locs hH => ?_)
  have hH : zw_H g A s.heap s (10) ad1 (va_up E1 (8) (.inr (4, [.int (nI 0), .int (nI 0), .int (nI 0), .int (nI 0), .int (nI 0), .int (nI 0), .ref (ad1 9), .null, .null, .null, .null, .null, .null, .null, .null, .null, .null, .null, .null, .null, .null, .null]))) H locs := hH
  obtain ⟨E2, hE2⟩ : ∃ x, x = va_up E1 (8) (.inr (4, [.int (nI 0), .int (nI 0), .int (nI 0), .int (nI 0), .int (nI 0), .int (nI 0), .ref (ad1 9), .null, .null, .null, .null, .null, .null, .null, .null, .null, .null, .null, .null, .null, .null, .null])) := ⟨_, rfl⟩
  rw [← hE2] at hH
  have e_2 : ∀ k, k ≠ 8 → E2 k = E1 k := fun k hk => by rw [hE2]; exact va_up_ne _ _ hk
  have c_8 : E2 (8) = (.inr (4, [.int (nI 0), .int (nI 0), .int (nI 0), .int (nI 0), .int (nI 0), .int (nI 0), .ref (ad1 9), .null, .null, .null, .null, .null, .null, .null, .null, .null, .null, .null, .null, .null, .null, .null])) := by rw [hE2]; exact va_up_self _ _ _
  have c_9 := (e_2 (9) (by omega)).trans c_9
  refine lv_aload_n X.1 X.2.1 d_M_init_12 rfl (lv_at hl 0 rfl) ?_
  refine lv_bipush (v := nI 31) X.1 X.2.1 d_M_init_13 (by decide) ?_
  refine zx_newi (j := 31) X hH zw_arrI rfl (by decide) (by dsimp only; omega) (by dsimp only; omega) d_M_init_15 (fun q0 H hH => ?_)
  have hH : zw_H g A s.heap s (10 + 1) (va_up ad1 (10) q0) (va_up E2 (10) (zr_ia g 31 (fun _ => 0))) H _ := hH
  obtain ⟨ad3, had3⟩ : ∃ x, x = va_up ad1 (10) q0 := ⟨_, rfl⟩
  obtain ⟨E3, hE3⟩ : ∃ x, x = va_up E2 (10) (zr_ia g 31 (fun _ => 0)) := ⟨_, rfl⟩
  rw [← had3, ← hE3] at hH
  have a_3 : ∀ k, k < 10 → ad3 k = ad1 k := fun k hk => by rw [had3]; exact va_up_ne _ _ (by omega)
  have e_3 : ∀ k, k ≠ 10 → E3 k = E2 k := fun k hk => by rw [hE3]; exact va_up_ne _ _ hk
  have n_3 : E3 (10) = (zr_ia g 31 (fun _ => 0)) := by rw [hE3]; exact va_up_self _ _ _
  refine W.eq (g2 := F0 m 17 ls [.ref (ad3 (10)), .ref (ad3 (8))]) (by rw [had3, va_up_ne _ _ (show 8 ≠ 10 by omega)]) ?_
  rw [← a_3 (8) (by omega)] at hl
  have c_8 := (e_3 (8) (by omega)).trans c_8
  have c_9 := (e_3 (9) (by omega)).trans c_9
  have c_10 := n_3
  have c_8 : E3 8 = (.inr (4, [.int (nI 0), .int (nI 0), .int (nI 0), .int (nI 0), .int (nI 0), .int (nI 0), .ref (ad3 9), .null, .null, .null, .null, .null, .null, .null, .null, .null, .null, .null, .null, .null, .null, .null])) := by rw [a_3 9 (by omega)]; exact c_8
  refine zx_putF X hH fp_M_13 hnm rfl (by omega) c_8 (Nat.le_of_ble_eq_true rfl) rfl rfl d_M_init_17 (fun H locs hH => ?_)
  have hH : zw_H g A s.heap s (11) ad3 (va_up E3 (8) (.inr (4, [.int (nI 0), .int (nI 0), .int (nI 0), .int (nI 0), .int (nI 0), .int (nI 0), .ref (ad3 9), .ref (ad3 10), .null, .null, .null, .null, .null, .null, .null, .null, .null, .null, .null, .null, .null, .null]))) H locs := hH
  obtain ⟨E4, hE4⟩ : ∃ x, x = va_up E3 (8) (.inr (4, [.int (nI 0), .int (nI 0), .int (nI 0), .int (nI 0), .int (nI 0), .int (nI 0), .ref (ad3 9), .ref (ad3 10), .null, .null, .null, .null, .null, .null, .null, .null, .null, .null, .null, .null, .null, .null])) := ⟨_, rfl⟩
  rw [← hE4] at hH
  have e_4 : ∀ k, k ≠ 8 → E4 k = E3 k := fun k hk => by rw [hE4]; exact va_up_ne _ _ hk
  have c_8 : E4 (8) = (.inr (4, [.int (nI 0), .int (nI 0), .int (nI 0), .int (nI 0), .int (nI 0), .int (nI 0), .ref (ad3 9), .ref (ad3 10), .null, .null, .null, .null, .null, .null, .null, .null, .null, .null, .null, .null, .null, .null])) := by rw [hE4]; exact va_up_self _ _ _
  have c_9 := (e_4 (9) (by omega)).trans c_9
  have c_10 := (e_4 (10) (by omega)).trans c_10
  refine lv_aload_n X.1 X.2.1 d_M_init_20 rfl (lv_at hl 0 rfl) ?_
  refine lv_bipush (v := nI 31) X.1 X.2.1 d_M_init_21 (by decide) ?_
  refine zx_newi (j := 31) X hH zw_arrI rfl (by decide) (by dsimp only; omega) (by dsimp only; omega) d_M_init_23 (fun q0 H hH => ?_)
  have hH : zw_H g A s.heap s (11 + 1) (va_up ad3 (11) q0) (va_up E4 (11) (zr_ia g 31 (fun _ => 0))) H _ := hH
  obtain ⟨ad5, had5⟩ : ∃ x, x = va_up ad3 (11) q0 := ⟨_, rfl⟩
  obtain ⟨E5, hE5⟩ : ∃ x, x = va_up E4 (11) (zr_ia g 31 (fun _ => 0)) := ⟨_, rfl⟩
  rw [← had5, ← hE5] at hH
  have a_5 : ∀ k, k < 11 → ad5 k = ad3 k := fun k hk => by rw [had5]; exact va_up_ne _ _ (by omega)
  have e_5 : ∀ k, k ≠ 11 → E5 k = E4 k := fun k hk => by rw [hE5]; exact va_up_ne _ _ hk
  have n_5 : E5 (11) = (zr_ia g 31 (fun _ => 0)) := by rw [hE5]; exact va_up_self _ _ _
  refine W.eq (g2 := F0 m 25 ls [.ref (ad5 (11)), .ref (ad5 (8))]) (by rw [had5, va_up_ne _ _ (show 8 ≠ 11 by omega)]) ?_
  rw [← a_5 (8) (by omega)] at hl
  have c_8 := (e_5 (8) (by omega)).trans c_8
  have c_9 := (e_5 (9) (by omega)).trans c_9
  have c_10 := (e_5 (10) (by omega)).trans c_10
  have c_11 := n_5
  have c_8 : E5 8 = (.inr (4, [.int (nI 0), .int (nI 0), .int (nI 0), .int (nI 0), .int (nI 0), .int (nI 0), .ref (ad5 9), .ref (ad5 10), .null, .null, .null, .null, .null, .null, .null, .null, .null, .null, .null, .null, .null, .null])) := by rw [a_5 9 (by omega), a_5 10 (by omega)]; exact c_8
  refine zx_putF X hH fp_M_16 hnm rfl (by omega) c_8 (Nat.le_of_ble_eq_true rfl) rfl rfl d_M_init_25 (fun H locs hH => ?_)
  have hH : zw_H g A s.heap s (12) ad5 (va_up E5 (8) (.inr (4, [.int (nI 0), .int (nI 0), .int (nI 0), .int (nI 0), .int (nI 0), .int (nI 0), .ref (ad5 9), .ref (ad5 10), .ref (ad5 11), .null, .null, .null, .null, .null, .null, .null, .null, .null, .null, .null, .null, .null]))) H locs := hH
  obtain ⟨E6, hE6⟩ : ∃ x, x = va_up E5 (8) (.inr (4, [.int (nI 0), .int (nI 0), .int (nI 0), .int (nI 0), .int (nI 0), .int (nI 0), .ref (ad5 9), .ref (ad5 10), .ref (ad5 11), .null, .null, .null, .null, .null, .null, .null, .null, .null, .null, .null, .null, .null])) := ⟨_, rfl⟩
  rw [← hE6] at hH
  have e_6 : ∀ k, k ≠ 8 → E6 k = E5 k := fun k hk => by rw [hE6]; exact va_up_ne _ _ hk
  have c_8 : E6 (8) = (.inr (4, [.int (nI 0), .int (nI 0), .int (nI 0), .int (nI 0), .int (nI 0), .int (nI 0), .ref (ad5 9), .ref (ad5 10), .ref (ad5 11), .null, .null, .null, .null, .null, .null, .null, .null, .null, .null, .null, .null, .null])) := by rw [hE6]; exact va_up_self _ _ _
  have c_9 := (e_6 (9) (by omega)).trans c_9
  have c_10 := (e_6 (10) (by omega)).trans c_10
  have c_11 := (e_6 (11) (by omega)).trans c_11
  refine lv_aload_n X.1 X.2.1 d_M_init_28 rfl (lv_at hl 0 rfl) ?_
  refine lv_bipush (v := nI 31) X.1 X.2.1 d_M_init_29 (by decide) ?_
  refine zx_newi (j := 31) X hH zw_arrI rfl (by decide) (by dsimp only; omega) (by dsimp only; omega) d_M_init_31 (fun q0 H hH => ?_)
  have hH : zw_H g A s.heap s (12 + 1) (va_up ad5 (12) q0) (va_up E6 (12) (zr_ia g 31 (fun _ => 0))) H _ := hH
  obtain ⟨ad7, had7⟩ : ∃ x, x = va_up ad5 (12) q0 := ⟨_, rfl⟩
  obtain ⟨E7, hE7⟩ : ∃ x, x = va_up E6 (12) (zr_ia g 31 (fun _ => 0)) := ⟨_, rfl⟩
  rw [← had7, ← hE7] at hH
  have a_7 : ∀ k, k < 12 → ad7 k = ad5 k := fun k hk => by rw [had7]; exact va_up_ne _ _ (by omega)
  have e_7 : ∀ k, k ≠ 12 → E7 k = E6 k := fun k hk => by rw [hE7]; exact va_up_ne _ _ hk
  have n_7 : E7 (12) = (zr_ia g 31 (fun _ => 0)) := by rw [hE7]; exact va_up_self _ _ _
  refine W.eq (g2 := F0 m 33 ls [.ref (ad7 (12)), .ref (ad7 (8))]) (by rw [had7, va_up_ne _ _ (show 8 ≠ 12 by omega)]) ?_
  rw [← a_7 (8) (by omega)] at hl
  have c_8 := (e_7 (8) (by omega)).trans c_8
  have c_9 := (e_7 (9) (by omega)).trans c_9
  have c_10 := (e_7 (10) (by omega)).trans c_10
  have c_11 := (e_7 (11) (by omega)).trans c_11
  have c_12 := n_7
  have c_8 : E7 8 = (.inr (4, [.int (nI 0), .int (nI 0), .int (nI 0), .int (nI 0), .int (nI 0), .int (nI 0), .ref (ad7 9), .ref (ad7 10), .ref (ad7 11), .null, .null, .null, .null, .null, .null, .null, .null, .null, .null, .null, .null, .null])) := by rw [a_7 9 (by omega), a_7 10 (by omega), a_7 11 (by omega)]; exact c_8
  refine zx_putF X hH fp_M_19 hnm rfl (by omega) c_8 (Nat.le_of_ble_eq_true rfl) rfl rfl d_M_init_33 (fun H locs hH => ?_)
  have hH : zw_H g A s.heap s (13) ad7 (va_up E7 (8) (.inr (4, [.int (nI 0), .int (nI 0), .int (nI 0), .int (nI 0), .int (nI 0), .int (nI 0), .ref (ad7 9), .ref (ad7 10), .ref (ad7 11), .ref (ad7 12), .null, .null, .null, .null, .null, .null, .null, .null, .null, .null, .null, .null]))) H locs := hH
  obtain ⟨E8, hE8⟩ : ∃ x, x = va_up E7 (8) (.inr (4, [.int (nI 0), .int (nI 0), .int (nI 0), .int (nI 0), .int (nI 0), .int (nI 0), .ref (ad7 9), .ref (ad7 10), .ref (ad7 11), .ref (ad7 12), .null, .null, .null, .null, .null, .null, .null, .null, .null, .null, .null, .null])) := ⟨_, rfl⟩
  rw [← hE8] at hH
  have e_8 : ∀ k, k ≠ 8 → E8 k = E7 k := fun k hk => by rw [hE8]; exact va_up_ne _ _ hk
  have c_8 : E8 (8) = (.inr (4, [.int (nI 0), .int (nI 0), .int (nI 0), .int (nI 0), .int (nI 0), .int (nI 0), .ref (ad7 9), .ref (ad7 10), .ref (ad7 11), .ref (ad7 12), .null, .null, .null, .null, .null, .null, .null, .null, .null, .null, .null, .null])) := by rw [hE8]; exact va_up_self _ _ _
  have c_9 := (e_8 (9) (by omega)).trans c_9
  have c_10 := (e_8 (10) (by omega)).trans c_10
  have c_11 := (e_8 (11) (by omega)).trans c_11
  have c_12 := (e_8 (12) (by omega)).trans c_12
  refine lv_aload_n X.1 X.2.1 d_M_init_36 rfl (lv_at hl 0 rfl) ?_
  refine lv_bipush (v := nI 31) X.1 X.2.1 d_M_init_37 (by decide) ?_
  refine zx_newi (j := 31) X hH zw_arrI rfl (by decide) (by dsimp only; omega) (by dsimp only; omega) d_M_init_39 (fun q0 H hH => ?_)
  have hH : zw_H g A s.heap s (13 + 1) (va_up ad7 (13) q0) (va_up E8 (13) (zr_ia g 31 (fun _ => 0))) H _ := hH
  obtain ⟨ad9, had9⟩ : ∃ x, x = va_up ad7 (13) q0 := ⟨_, rfl⟩
  obtain ⟨E9, hE9⟩ : ∃ x, x = va_up E8 (13) (zr_ia g 31 (fun _ => 0)) := ⟨_, rfl⟩
  rw [← had9, ← hE9] at hH
  have a_9 : ∀ k, k < 13 → ad9 k = ad7 k := fun k hk => by rw [had9]; exact va_up_ne _ _ (by omega)
  have e_9 : ∀ k, k ≠ 13 → E9 k = E8 k := fun k hk => by rw [hE9]; exact va_up_ne _ _ hk
  have n_9 : E9 (13) = (zr_ia g 31 (fun _ => 0)) := by rw [hE9]; exact va_up_self _ _ _
  refine W.eq (g2 := F0 m 41 ls [.ref (ad9 (13)), .ref (ad9 (8))]) (by rw [had9, va_up_ne _ _ (show 8 ≠ 13 by omega)]) ?_
  rw [← a_9 (8) (by omega)] at hl
  have c_8 := (e_9 (8) (by omega)).trans c_8
  have c_9 := (e_9 (9) (by omega)).trans c_9
  have c_10 := (e_9 (10) (by omega)).trans c_10
  have c_11 := (e_9 (11) (by omega)).trans c_11
  have c_12 := (e_9 (12) (by omega)).trans c_12
  have c_13 := n_9
  have c_8 : E9 8 = (.inr (4, [.int (nI 0), .int (nI 0), .int (nI 0), .int (nI 0), .int (nI 0), .int (nI 0), .ref (ad9 9), .ref (ad9 10), .ref (ad9 11), .ref (ad9 12), .null, .null, .null, .null, .null, .null, .null, .null, .null, .null, .null, .null])) := by rw [a_9 9 (by omega), a_9 10 (by omega), a_9 11 (by omega), a_9 12 (by omega)]; exact c_8
  refine zx_putF X hH fp_M_22 hnm rfl (by omega) c_8 (Nat.le_of_ble_eq_true rfl) rfl rfl d_M_init_41 (fun H locs hH => ?_)
  have hH : zw_H g A s.heap s (14) ad9 (va_up E9 (8) (.inr (4, [.int (nI 0), .int (nI 0), .int (nI 0), .int (nI 0), .int (nI 0), .int (nI 0), .ref (ad9 9), .ref (ad9 10), .ref (ad9 11), .ref (ad9 12), .ref (ad9 13), .null, .null, .null, .null, .null, .null, .null, .null, .null, .null, .null]))) H locs := hH
  obtain ⟨E10, hE10⟩ : ∃ x, x = va_up E9 (8) (.inr (4, [.int (nI 0), .int (nI 0), .int (nI 0), .int (nI 0), .int (nI 0), .int (nI 0), .ref (ad9 9), .ref (ad9 10), .ref (ad9 11), .ref (ad9 12), .ref (ad9 13), .null, .null, .null, .null, .null, .null, .null, .null, .null, .null, .null])) := ⟨_, rfl⟩
  rw [← hE10] at hH
  have e_10 : ∀ k, k ≠ 8 → E10 k = E9 k := fun k hk => by rw [hE10]; exact va_up_ne _ _ hk
  have c_8 : E10 (8) = (.inr (4, [.int (nI 0), .int (nI 0), .int (nI 0), .int (nI 0), .int (nI 0), .int (nI 0), .ref (ad9 9), .ref (ad9 10), .ref (ad9 11), .ref (ad9 12), .ref (ad9 13), .null, .null, .null, .null, .null, .null, .null, .null, .null, .null, .null])) := by rw [hE10]; exact va_up_self _ _ _
  have c_9 := (e_10 (9) (by omega)).trans c_9
  have c_10 := (e_10 (10) (by omega)).trans c_10
  have c_11 := (e_10 (11) (by omega)).trans c_11
  have c_12 := (e_10 (12) (by omega)).trans c_12
  have c_13 := (e_10 (13) (by omega)).trans c_13
  refine lv_aload_n X.1 X.2.1 d_M_init_44 rfl (lv_at hl 0 rfl) ?_
  refine lv_bipush (v := nI 31) X.1 X.2.1 d_M_init_45 (by decide) ?_
  refine zx_newi (j := 31) X hH zw_arrI rfl (by decide) (by dsimp only; omega) (by dsimp only; omega) d_M_init_47 (fun q0 H hH => ?_)
  have hH : zw_H g A s.heap s (14 + 1) (va_up ad9 (14) q0) (va_up E10 (14) (zr_ia g 31 (fun _ => 0))) H _ := hH
  obtain ⟨ad11, had11⟩ : ∃ x, x = va_up ad9 (14) q0 := ⟨_, rfl⟩
  obtain ⟨E11, hE11⟩ : ∃ x, x = va_up E10 (14) (zr_ia g 31 (fun _ => 0)) := ⟨_, rfl⟩
  rw [← had11, ← hE11] at hH
  have a_11 : ∀ k, k < 14 → ad11 k = ad9 k := fun k hk => by rw [had11]; exact va_up_ne _ _ (by omega)
  have e_11 : ∀ k, k ≠ 14 → E11 k = E10 k := fun k hk => by rw [hE11]; exact va_up_ne _ _ hk
  have n_11 : E11 (14) = (zr_ia g 31 (fun _ => 0)) := by rw [hE11]; exact va_up_self _ _ _
  refine W.eq (g2 := F0 m 49 ls [.ref (ad11 (14)), .ref (ad11 (8))]) (by rw [had11, va_up_ne _ _ (show 8 ≠ 14 by omega)]) ?_
  rw [← a_11 (8) (by omega)] at hl
  have c_8 := (e_11 (8) (by omega)).trans c_8
  have c_9 := (e_11 (9) (by omega)).trans c_9
  have c_10 := (e_11 (10) (by omega)).trans c_10
  have c_11 := (e_11 (11) (by omega)).trans c_11
  have c_12 := (e_11 (12) (by omega)).trans c_12
  have c_13 := (e_11 (13) (by omega)).trans c_13
  have c_14 := n_11
  have c_8 : E11 8 = (.inr (4, [.int (nI 0), .int (nI 0), .int (nI 0), .int (nI 0), .int (nI 0), .int (nI 0), .ref (ad11 9), .ref (ad11 10), .ref (ad11 11), .ref (ad11 12), .ref (ad11 13), .null, .null, .null, .null, .null, .null, .null, .null, .null, .null, .null])) := by rw [a_11 9 (by omega), a_11 10 (by omega), a_11 11 (by omega), a_11 12 (by omega), a_11 13 (by omega)]; exact c_8
  refine zx_putF X hH fp_M_25 hnm rfl (by omega) c_8 (Nat.le_of_ble_eq_true rfl) rfl rfl d_M_init_49 (fun H locs hH => ?_)
  have hH : zw_H g A s.heap s (15) ad11 (va_up E11 (8) (.inr (4, [.int (nI 0), .int (nI 0), .int (nI 0), .int (nI 0), .int (nI 0), .int (nI 0), .ref (ad11 9), .ref (ad11 10), .ref (ad11 11), .ref (ad11 12), .ref (ad11 13), .ref (ad11 14), .null, .null, .null, .null, .null, .null, .null, .null, .null, .null]))) H locs := hH
  obtain ⟨E12, hE12⟩ : ∃ x, x = va_up E11 (8) (.inr (4, [.int (nI 0), .int (nI 0), .int (nI 0), .int (nI 0), .int (nI 0), .int (nI 0), .ref (ad11 9), .ref (ad11 10), .ref (ad11 11), .ref (ad11 12), .ref (ad11 13), .ref (ad11 14), .null, .null, .null, .null, .null, .null, .null, .null, .null, .null])) := ⟨_, rfl⟩
  rw [← hE12] at hH
  have e_12 : ∀ k, k ≠ 8 → E12 k = E11 k := fun k hk => by rw [hE12]; exact va_up_ne _ _ hk
  have c_8 : E12 (8) = (.inr (4, [.int (nI 0), .int (nI 0), .int (nI 0), .int (nI 0), .int (nI 0), .int (nI 0), .ref (ad11 9), .ref (ad11 10), .ref (ad11 11), .ref (ad11 12), .ref (ad11 13), .ref (ad11 14), .null, .null, .null, .null, .null, .null, .null, .null, .null, .null])) := by rw [hE12]; exact va_up_self _ _ _
  have c_9 := (e_12 (9) (by omega)).trans c_9
  have c_10 := (e_12 (10) (by omega)).trans c_10
  have c_11 := (e_12 (11) (by omega)).trans c_11
  have c_12 := (e_12 (12) (by omega)).trans c_12
  have c_13 := (e_12 (13) (by omega)).trans c_13
  have c_14 := (e_12 (14) (by omega)).trans c_14
  refine lv_aload_n X.1 X.2.1 d_M_init_52 rfl (lv_at hl 0 rfl) ?_
  refine lv_bipush (v := nI 31) X.1 X.2.1 d_M_init_53 (by decide) ?_
  refine zx_newi (j := 31) X hH zw_arrI rfl (by decide) (by dsimp only; omega) (by dsimp only; omega) d_M_init_55 (fun q0 H hH => ?_)
  have hH : zw_H g A s.heap s (15 + 1) (va_up ad11 (15) q0) (va_up E12 (15) (zr_ia g 31 (fun _ => 0))) H _ := hH
  obtain ⟨ad13, had13⟩ : ∃ x, x = va_up ad11 (15) q0 := ⟨_, rfl⟩
  obtain ⟨E13, hE13⟩ : ∃ x, x = va_up E12 (15) (zr_ia g 31 (fun _ => 0)) := ⟨_, rfl⟩
  rw [← had13, ← hE13] at hH
  have a_13 : ∀ k, k < 15 → ad13 k = ad11 k := fun k hk => by rw [had13]; exact va_up_ne _ _ (by omega)
  have e_13 : ∀ k, k ≠ 15 → E13 k = E12 k := fun k hk => by rw [hE13]; exact va_up_ne _ _ hk
  have n_13 : E13 (15) = (zr_ia g 31 (fun _ => 0)) := by rw [hE13]; exact va_up_self _ _ _
  refine W.eq (g2 := F0 m 57 ls [.ref (ad13 (15)), .ref (ad13 (8))]) (by rw [had13, va_up_ne _ _ (show 8 ≠ 15 by omega)]) ?_
  rw [← a_13 (8) (by omega)] at hl
  have c_8 := (e_13 (8) (by omega)).trans c_8
  have c_9 := (e_13 (9) (by omega)).trans c_9
  have c_10 := (e_13 (10) (by omega)).trans c_10
  have c_11 := (e_13 (11) (by omega)).trans c_11
  have c_12 := (e_13 (12) (by omega)).trans c_12
  have c_13 := (e_13 (13) (by omega)).trans c_13
  have c_14 := (e_13 (14) (by omega)).trans c_14
  have c_15 := n_13
  have c_8 : E13 8 = (.inr (4, [.int (nI 0), .int (nI 0), .int (nI 0), .int (nI 0), .int (nI 0), .int (nI 0), .ref (ad13 9), .ref (ad13 10), .ref (ad13 11), .ref (ad13 12), .ref (ad13 13), .ref (ad13 14), .null, .null, .null, .null, .null, .null, .null, .null, .null, .null])) := by rw [a_13 9 (by omega), a_13 10 (by omega), a_13 11 (by omega), a_13 12 (by omega), a_13 13 (by omega), a_13 14 (by omega)]; exact c_8
  refine zx_putF X hH fp_M_28 hnm rfl (by omega) c_8 (Nat.le_of_ble_eq_true rfl) rfl rfl d_M_init_57 (fun H locs hH => ?_)
  have hH : zw_H g A s.heap s (16) ad13 (va_up E13 (8) (.inr (4, [.int (nI 0), .int (nI 0), .int (nI 0), .int (nI 0), .int (nI 0), .int (nI 0), .ref (ad13 9), .ref (ad13 10), .ref (ad13 11), .ref (ad13 12), .ref (ad13 13), .ref (ad13 14), .ref (ad13 15), .null, .null, .null, .null, .null, .null, .null, .null, .null]))) H locs := hH
  obtain ⟨E14, hE14⟩ : ∃ x, x = va_up E13 (8) (.inr (4, [.int (nI 0), .int (nI 0), .int (nI 0), .int (nI 0), .int (nI 0), .int (nI 0), .ref (ad13 9), .ref (ad13 10), .ref (ad13 11), .ref (ad13 12), .ref (ad13 13), .ref (ad13 14), .ref (ad13 15), .null, .null, .null, .null, .null, .null, .null, .null, .null])) := ⟨_, rfl⟩
  rw [← hE14] at hH
  have e_14 : ∀ k, k ≠ 8 → E14 k = E13 k := fun k hk => by rw [hE14]; exact va_up_ne _ _ hk
  have c_8 : E14 (8) = (.inr (4, [.int (nI 0), .int (nI 0), .int (nI 0), .int (nI 0), .int (nI 0), .int (nI 0), .ref (ad13 9), .ref (ad13 10), .ref (ad13 11), .ref (ad13 12), .ref (ad13 13), .ref (ad13 14), .ref (ad13 15), .null, .null, .null, .null, .null, .null, .null, .null, .null])) := by rw [hE14]; exact va_up_self _ _ _
  have c_9 := (e_14 (9) (by omega)).trans c_9
  have c_10 := (e_14 (10) (by omega)).trans c_10
  have c_11 := (e_14 (11) (by omega)).trans c_11
  have c_12 := (e_14 (12) (by omega)).trans c_12
  have c_13 := (e_14 (13) (by omega)).trans c_13
  have c_14 := (e_14 (14) (by omega)).trans c_14
  have c_15 := (e_14 (15) (by omega)).trans c_15
  refine lv_aload_n X.1 X.2.1 d_M_init_60 rfl (lv_at hl 0 rfl) ?_
  refine lv_bipush (v := nI 31) X.1 X.2.1 d_M_init_61 (by decide) ?_
  refine zx_newi (j := 31) X hH zw_arrI rfl (by decide) (by dsimp only; omega) (by dsimp only; omega) d_M_init_63 (fun q0 H hH => ?_)
  have hH : zw_H g A s.heap s (16 + 1) (va_up ad13 (16) q0) (va_up E14 (16) (zr_ia g 31 (fun _ => 0))) H _ := hH
  obtain ⟨ad15, had15⟩ : ∃ x, x = va_up ad13 (16) q0 := ⟨_, rfl⟩
  obtain ⟨E15, hE15⟩ : ∃ x, x = va_up E14 (16) (zr_ia g 31 (fun _ => 0)) := ⟨_, rfl⟩
  rw [← had15, ← hE15] at hH
  have a_15 : ∀ k, k < 16 → ad15 k = ad13 k := fun k hk => by rw [had15]; exact va_up_ne _ _ (by omega)
  have e_15 : ∀ k, k ≠ 16 → E15 k = E14 k := fun k hk => by rw [hE15]; exact va_up_ne _ _ hk
  have n_15 : E15 (16) = (zr_ia g 31 (fun _ => 0)) := by rw [hE15]; exact va_up_self _ _ _
  refine W.eq (g2 := F0 m 65 ls [.ref (ad15 (16)), .ref (ad15 (8))]) (by rw [had15, va_up_ne _ _ (show 8 ≠ 16 by omega)]) ?_
  rw [← a_15 (8) (by omega)] at hl
  have c_8 := (e_15 (8) (by omega)).trans c_8
  have c_9 := (e_15 (9) (by omega)).trans c_9
  have c_10 := (e_15 (10) (by omega)).trans c_10
  have c_11 := (e_15 (11) (by omega)).trans c_11
  have c_12 := (e_15 (12) (by omega)).trans c_12
  have c_13 := (e_15 (13) (by omega)).trans c_13
  have c_14 := (e_15 (14) (by omega)).trans c_14
  have c_15 := (e_15 (15) (by omega)).trans c_15
  have c_16 := n_15
  have c_8 : E15 8 = (.inr (4, [.int (nI 0), .int (nI 0), .int (nI 0), .int (nI 0), .int (nI 0), .int (nI 0), .ref (ad15 9), .ref (ad15 10), .ref (ad15 11), .ref (ad15 12), .ref (ad15 13), .ref (ad15 14), .ref (ad15 15), .null, .null, .null, .null, .null, .null, .null, .null, .null])) := by rw [a_15 9 (by omega), a_15 10 (by omega), a_15 11 (by omega), a_15 12 (by omega), a_15 13 (by omega), a_15 14 (by omega), a_15 15 (by omega)]; exact c_8
  refine zx_putF X hH fp_M_31 hnm rfl (by omega) c_8 (Nat.le_of_ble_eq_true rfl) rfl rfl d_M_init_65 (fun H locs hH => ?_)
  have hH : zw_H g A s.heap s (17) ad15 (va_up E15 (8) (.inr (4, [.int (nI 0), .int (nI 0), .int (nI 0), .int (nI 0), .int (nI 0), .int (nI 0), .ref (ad15 9), .ref (ad15 10), .ref (ad15 11), .ref (ad15 12), .ref (ad15 13), .ref (ad15 14), .ref (ad15 15), .ref (ad15 16), .null, .null, .null, .null, .null, .null, .null, .null]))) H locs := hH
  obtain ⟨E16, hE16⟩ : ∃ x, x = va_up E15 (8) (.inr (4, [.int (nI 0), .int (nI 0), .int (nI 0), .int (nI 0), .int (nI 0), .int (nI 0), .ref (ad15 9), .ref (ad15 10), .ref (ad15 11), .ref (ad15 12), .ref (ad15 13), .ref (ad15 14), .ref (ad15 15), .ref (ad15 16), .null, .null, .null, .null, .null, .null, .null, .null])) := ⟨_, rfl⟩
  rw [← hE16] at hH
  have e_16 : ∀ k, k ≠ 8 → E16 k = E15 k := fun k hk => by rw [hE16]; exact va_up_ne _ _ hk
  have c_8 : E16 (8) = (.inr (4, [.int (nI 0), .int (nI 0), .int (nI 0), .int (nI 0), .int (nI 0), .int (nI 0), .ref (ad15 9), .ref (ad15 10), .ref (ad15 11), .ref (ad15 12), .ref (ad15 13), .ref (ad15 14), .ref (ad15 15), .ref (ad15 16), .null, .null, .null, .null, .null, .null, .null, .null])) := by rw [hE16]; exact va_up_self _ _ _
  have c_9 := (e_16 (9) (by omega)).trans c_9
  have c_10 := (e_16 (10) (by omega)).trans c_10
  have c_11 := (e_16 (11) (by omega)).trans c_11
  have c_12 := (e_16 (12) (by omega)).trans c_12
  have c_13 := (e_16 (13) (by omega)).trans c_13
  have c_14 := (e_16 (14) (by omega)).trans c_14
  have c_15 := (e_16 (15) (by omega)).trans c_15
  have c_16 := (e_16 (16) (by omega)).trans c_16
  refine lv_aload_n X.1 X.2.1 d_M_init_68 rfl (lv_at hl 0 rfl) ?_
  refine lv_bipush (v := nI 31) X.1 X.2.1 d_M_init_69 (by decide) ?_
  refine zx_newz (j := 31) X hH zw_arrZ rfl (by decide) (by dsimp only; omega) (by dsimp only; omega) d_M_init_71 (fun q0 H hH => ?_)
  have hH : zw_H g A s.heap s (17 + 1) (va_up ad15 (17) q0) (va_up E16 (17) (zr_za g 31 (fun _ => 0))) H _ := hH
  obtain ⟨ad17, had17⟩ : ∃ x, x = va_up ad15 (17) q0 := ⟨_, rfl⟩
  obtain ⟨E17, hE17⟩ : ∃ x, x = va_up E16 (17) (zr_za g 31 (fun _ => 0)) := ⟨_, rfl⟩
  rw [← had17, ← hE17] at hH
  have a_17 : ∀ k, k < 17 → ad17 k = ad15 k := fun k hk => by rw [had17]; exact va_up_ne _ _ (by omega)
  have e_17 : ∀ k, k ≠ 17 → E17 k = E16 k := fun k hk => by rw [hE17]; exact va_up_ne _ _ hk
  have n_17 : E17 (17) = (zr_za g 31 (fun _ => 0)) := by rw [hE17]; exact va_up_self _ _ _
  refine W.eq (g2 := F0 m 73 ls [.ref (ad17 (17)), .ref (ad17 (8))]) (by rw [had17, va_up_ne _ _ (show 8 ≠ 17 by omega)]) ?_
  rw [← a_17 (8) (by omega)] at hl
  have c_8 := (e_17 (8) (by omega)).trans c_8
  have c_9 := (e_17 (9) (by omega)).trans c_9
  have c_10 := (e_17 (10) (by omega)).trans c_10
  have c_11 := (e_17 (11) (by omega)).trans c_11
  have c_12 := (e_17 (12) (by omega)).trans c_12
  have c_13 := (e_17 (13) (by omega)).trans c_13
  have c_14 := (e_17 (14) (by omega)).trans c_14
  have c_15 := (e_17 (15) (by omega)).trans c_15
  have c_16 := (e_17 (16) (by omega)).trans c_16
  have c_17 := n_17
  have c_8 : E17 8 = (.inr (4, [.int (nI 0), .int (nI 0), .int (nI 0), .int (nI 0), .int (nI 0), .int (nI 0), .ref (ad17 9), .ref (ad17 10), .ref (ad17 11), .ref (ad17 12), .ref (ad17 13), .ref (ad17 14), .ref (ad17 15), .ref (ad17 16), .null, .null, .null, .null, .null, .null, .null, .null])) := by rw [a_17 9 (by omega), a_17 10 (by omega), a_17 11 (by omega), a_17 12 (by omega), a_17 13 (by omega), a_17 14 (by omega), a_17 15 (by omega), a_17 16 (by omega)]; exact c_8
  refine zx_putF X hH fp_M_34 hnm rfl (by omega) c_8 (Nat.le_of_ble_eq_true rfl) rfl rfl d_M_init_73 (fun H locs hH => ?_)
  have hH : zw_H g A s.heap s (18) ad17 (va_up E17 (8) (.inr (4, [.int (nI 0), .int (nI 0), .int (nI 0), .int (nI 0), .int (nI 0), .int (nI 0), .ref (ad17 9), .ref (ad17 10), .ref (ad17 11), .ref (ad17 12), .ref (ad17 13), .ref (ad17 14), .ref (ad17 15), .ref (ad17 16), .ref (ad17 17), .null, .null, .null, .null, .null, .null, .null]))) H locs := hH
  obtain ⟨E18, hE18⟩ : ∃ x, x = va_up E17 (8) (.inr (4, [.int (nI 0), .int (nI 0), .int (nI 0), .int (nI 0), .int (nI 0), .int (nI 0), .ref (ad17 9), .ref (ad17 10), .ref (ad17 11), .ref (ad17 12), .ref (ad17 13), .ref (ad17 14), .ref (ad17 15), .ref (ad17 16), .ref (ad17 17), .null, .null, .null, .null, .null, .null, .null])) := ⟨_, rfl⟩
  rw [← hE18] at hH
  have e_18 : ∀ k, k ≠ 8 → E18 k = E17 k := fun k hk => by rw [hE18]; exact va_up_ne _ _ hk
  have c_8 : E18 (8) = (.inr (4, [.int (nI 0), .int (nI 0), .int (nI 0), .int (nI 0), .int (nI 0), .int (nI 0), .ref (ad17 9), .ref (ad17 10), .ref (ad17 11), .ref (ad17 12), .ref (ad17 13), .ref (ad17 14), .ref (ad17 15), .ref (ad17 16), .ref (ad17 17), .null, .null, .null, .null, .null, .null, .null])) := by rw [hE18]; exact va_up_self _ _ _
  have c_9 := (e_18 (9) (by omega)).trans c_9
  have c_10 := (e_18 (10) (by omega)).trans c_10
  have c_11 := (e_18 (11) (by omega)).trans c_11
  have c_12 := (e_18 (12) (by omega)).trans c_12
  have c_13 := (e_18 (13) (by omega)).trans c_13
  have c_14 := (e_18 (14) (by omega)).trans c_14
  have c_15 := (e_18 (15) (by omega)).trans c_15
  have c_16 := (e_18 (16) (by omega)).trans c_16
  have c_17 := (e_18 (17) (by omega)).trans c_17
  refine lv_aload_n X.1 X.2.1 d_M_init_76 rfl (lv_at hl 0 rfl) ?_
  refine lv_sipush (v := nI 620) X.1 X.2.1 d_M_init_77 (by decide) ?_
  refine zx_newz (j := 620) X hH zw_arrZ rfl (by decide) (by dsimp only; omega) (by dsimp only; omega) d_M_init_80 (fun q0 H hH => ?_)
  have hH : zw_H g A s.heap s (18 + 1) (va_up ad17 (18) q0) (va_up E18 (18) (zr_za g 620 (fun _ => 0))) H _ := hH
  obtain ⟨ad19, had19⟩ : ∃ x, x = va_up ad17 (18) q0 := ⟨_, rfl⟩
  obtain ⟨E19, hE19⟩ : ∃ x, x = va_up E18 (18) (zr_za g 620 (fun _ => 0)) := ⟨_, rfl⟩
  rw [← had19, ← hE19] at hH
  have a_19 : ∀ k, k < 18 → ad19 k = ad17 k := fun k hk => by rw [had19]; exact va_up_ne _ _ (by omega)
  have e_19 : ∀ k, k ≠ 18 → E19 k = E18 k := fun k hk => by rw [hE19]; exact va_up_ne _ _ hk
  have n_19 : E19 (18) = (zr_za g 620 (fun _ => 0)) := by rw [hE19]; exact va_up_self _ _ _
  refine W.eq (g2 := F0 m 82 ls [.ref (ad19 (18)), .ref (ad19 (8))]) (by rw [had19, va_up_ne _ _ (show 8 ≠ 18 by omega)]) ?_
  rw [← a_19 (8) (by omega)] at hl
  have c_8 := (e_19 (8) (by omega)).trans c_8
  have c_9 := (e_19 (9) (by omega)).trans c_9
  have c_10 := (e_19 (10) (by omega)).trans c_10
  have c_11 := (e_19 (11) (by omega)).trans c_11
  have c_12 := (e_19 (12) (by omega)).trans c_12
  have c_13 := (e_19 (13) (by omega)).trans c_13
  have c_14 := (e_19 (14) (by omega)).trans c_14
  have c_15 := (e_19 (15) (by omega)).trans c_15
  have c_16 := (e_19 (16) (by omega)).trans c_16
  have c_17 := (e_19 (17) (by omega)).trans c_17
  have c_18 := n_19
  have c_8 : E19 8 = (.inr (4, [.int (nI 0), .int (nI 0), .int (nI 0), .int (nI 0), .int (nI 0), .int (nI 0), .ref (ad19 9), .ref (ad19 10), .ref (ad19 11), .ref (ad19 12), .ref (ad19 13), .ref (ad19 14), .ref (ad19 15), .ref (ad19 16), .ref (ad19 17), .null, .null, .null, .null, .null, .null, .null])) := by rw [a_19 9 (by omega), a_19 10 (by omega), a_19 11 (by omega), a_19 12 (by omega), a_19 13 (by omega), a_19 14 (by omega), a_19 15 (by omega), a_19 16 (by omega), a_19 17 (by omega)]; exact c_8
  refine zx_putF X hH fp_M_38 hnm rfl (by omega) c_8 (Nat.le_of_ble_eq_true rfl) rfl rfl d_M_init_82 (fun H locs hH => ?_)
  have hH : zw_H g A s.heap s (19) ad19 (va_up E19 (8) (.inr (4, [.int (nI 0), .int (nI 0), .int (nI 0), .int (nI 0), .int (nI 0), .int (nI 0), .ref (ad19 9), .ref (ad19 10), .ref (ad19 11), .ref (ad19 12), .ref (ad19 13), .ref (ad19 14), .ref (ad19 15), .ref (ad19 16), .ref (ad19 17), .ref (ad19 18), .null, .null, .null, .null, .null, .null]))) H locs := hH
  obtain ⟨E20, hE20⟩ : ∃ x, x = va_up E19 (8) (.inr (4, [.int (nI 0), .int (nI 0), .int (nI 0), .int (nI 0), .int (nI 0), .int (nI 0), .ref (ad19 9), .ref (ad19 10), .ref (ad19 11), .ref (ad19 12), .ref (ad19 13), .ref (ad19 14), .ref (ad19 15), .ref (ad19 16), .ref (ad19 17), .ref (ad19 18), .null, .null, .null, .null, .null, .null])) := ⟨_, rfl⟩
  rw [← hE20] at hH
  have e_20 : ∀ k, k ≠ 8 → E20 k = E19 k := fun k hk => by rw [hE20]; exact va_up_ne _ _ hk
  have c_8 : E20 (8) = (.inr (4, [.int (nI 0), .int (nI 0), .int (nI 0), .int (nI 0), .int (nI 0), .int (nI 0), .ref (ad19 9), .ref (ad19 10), .ref (ad19 11), .ref (ad19 12), .ref (ad19 13), .ref (ad19 14), .ref (ad19 15), .ref (ad19 16), .ref (ad19 17), .ref (ad19 18), .null, .null, .null, .null, .null, .null])) := by rw [hE20]; exact va_up_self _ _ _
  have c_9 := (e_20 (9) (by omega)).trans c_9
  have c_10 := (e_20 (10) (by omega)).trans c_10
  have c_11 := (e_20 (11) (by omega)).trans c_11
  have c_12 := (e_20 (12) (by omega)).trans c_12
  have c_13 := (e_20 (13) (by omega)).trans c_13
  have c_14 := (e_20 (14) (by omega)).trans c_14
  have c_15 := (e_20 (15) (by omega)).trans c_15
  have c_16 := (e_20 (16) (by omega)).trans c_16
  have c_17 := (e_20 (17) (by omega)).trans c_17
  have c_18 := (e_20 (18) (by omega)).trans c_18
  refine lv_aload_n X.1 X.2.1 d_M_init_85 rfl (lv_at hl 0 rfl) ?_
  refine lv_sipush (v := nI 3131) X.1 X.2.1 d_M_init_86 (by decide) ?_
  refine zx_newi (j := 3131) X hH zw_arrI rfl (by decide) (by dsimp only; omega) (by dsimp only; omega) d_M_init_89 (fun q0 H hH => ?_)
  have hH : zw_H g A s.heap s (19 + 1) (va_up ad19 (19) q0) (va_up E20 (19) (zr_ia g 3131 (fun _ => 0))) H _ := hH
  obtain ⟨ad21, had21⟩ : ∃ x, x = va_up ad19 (19) q0 := ⟨_, rfl⟩
  obtain ⟨E21, hE21⟩ : ∃ x, x = va_up E20 (19) (zr_ia g 3131 (fun _ => 0)) := ⟨_, rfl⟩
  rw [← had21, ← hE21] at hH
  have a_21 : ∀ k, k < 19 → ad21 k = ad19 k := fun k hk => by rw [had21]; exact va_up_ne _ _ (by omega)
  have e_21 : ∀ k, k ≠ 19 → E21 k = E20 k := fun k hk => by rw [hE21]; exact va_up_ne _ _ hk
  have n_21 : E21 (19) = (zr_ia g 3131 (fun _ => 0)) := by rw [hE21]; exact va_up_self _ _ _
  refine W.eq (g2 := F0 m 91 ls [.ref (ad21 (19)), .ref (ad21 (8))]) (by rw [had21, va_up_ne _ _ (show 8 ≠ 19 by omega)]) ?_
  rw [← a_21 (8) (by omega)] at hl
  have c_8 := (e_21 (8) (by omega)).trans c_8
  have c_9 := (e_21 (9) (by omega)).trans c_9
  have c_10 := (e_21 (10) (by omega)).trans c_10
  have c_11 := (e_21 (11) (by omega)).trans c_11
  have c_12 := (e_21 (12) (by omega)).trans c_12
  have c_13 := (e_21 (13) (by omega)).trans c_13
  have c_14 := (e_21 (14) (by omega)).trans c_14
  have c_15 := (e_21 (15) (by omega)).trans c_15
  have c_16 := (e_21 (16) (by omega)).trans c_16
  have c_17 := (e_21 (17) (by omega)).trans c_17
  have c_18 := (e_21 (18) (by omega)).trans c_18
  have c_19 := n_21
  have c_8 : E21 8 = (.inr (4, [.int (nI 0), .int (nI 0), .int (nI 0), .int (nI 0), .int (nI 0), .int (nI 0), .ref (ad21 9), .ref (ad21 10), .ref (ad21 11), .ref (ad21 12), .ref (ad21 13), .ref (ad21 14), .ref (ad21 15), .ref (ad21 16), .ref (ad21 17), .ref (ad21 18), .null, .null, .null, .null, .null, .null])) := by rw [a_21 9 (by omega), a_21 10 (by omega), a_21 11 (by omega), a_21 12 (by omega), a_21 13 (by omega), a_21 14 (by omega), a_21 15 (by omega), a_21 16 (by omega), a_21 17 (by omega), a_21 18 (by omega)]; exact c_8
  refine zx_putF X hH fp_M_41 hnm rfl (by omega) c_8 (Nat.le_of_ble_eq_true rfl) rfl rfl d_M_init_91 (fun H locs hH => ?_)
  have hH : zw_H g A s.heap s (20) ad21 (va_up E21 (8) (.inr (4, [.int (nI 0), .int (nI 0), .int (nI 0), .int (nI 0), .int (nI 0), .int (nI 0), .ref (ad21 9), .ref (ad21 10), .ref (ad21 11), .ref (ad21 12), .ref (ad21 13), .ref (ad21 14), .ref (ad21 15), .ref (ad21 16), .ref (ad21 17), .ref (ad21 18), .ref (ad21 19), .null, .null, .null, .null, .null]))) H locs := hH
  obtain ⟨E22, hE22⟩ : ∃ x, x = va_up E21 (8) (.inr (4, [.int (nI 0), .int (nI 0), .int (nI 0), .int (nI 0), .int (nI 0), .int (nI 0), .ref (ad21 9), .ref (ad21 10), .ref (ad21 11), .ref (ad21 12), .ref (ad21 13), .ref (ad21 14), .ref (ad21 15), .ref (ad21 16), .ref (ad21 17), .ref (ad21 18), .ref (ad21 19), .null, .null, .null, .null, .null])) := ⟨_, rfl⟩
  rw [← hE22] at hH
  have e_22 : ∀ k, k ≠ 8 → E22 k = E21 k := fun k hk => by rw [hE22]; exact va_up_ne _ _ hk
  have c_8 : E22 (8) = (.inr (4, [.int (nI 0), .int (nI 0), .int (nI 0), .int (nI 0), .int (nI 0), .int (nI 0), .ref (ad21 9), .ref (ad21 10), .ref (ad21 11), .ref (ad21 12), .ref (ad21 13), .ref (ad21 14), .ref (ad21 15), .ref (ad21 16), .ref (ad21 17), .ref (ad21 18), .ref (ad21 19), .null, .null, .null, .null, .null])) := by rw [hE22]; exact va_up_self _ _ _
  have c_9 := (e_22 (9) (by omega)).trans c_9
  have c_10 := (e_22 (10) (by omega)).trans c_10
  have c_11 := (e_22 (11) (by omega)).trans c_11
  have c_12 := (e_22 (12) (by omega)).trans c_12
  have c_13 := (e_22 (13) (by omega)).trans c_13
  have c_14 := (e_22 (14) (by omega)).trans c_14
  have c_15 := (e_22 (15) (by omega)).trans c_15
  have c_16 := (e_22 (16) (by omega)).trans c_16
  have c_17 := (e_22 (17) (by omega)).trans c_17
  have c_18 := (e_22 (18) (by omega)).trans c_18
  have c_19 := (e_22 (19) (by omega)).trans c_19
  refine lv_aload_n X.1 X.2.1 d_M_init_94 rfl (lv_at hl 0 rfl) ?_
  refine lv_sipush (v := nI 620) X.1 X.2.1 d_M_init_95 (by decide) ?_
  refine zx_newi (j := 620) X hH zw_arrI rfl (by decide) (by dsimp only; omega) (by dsimp only; omega) d_M_init_98 (fun q0 H hH => ?_)
  have hH : zw_H g A s.heap s (20 + 1) (va_up ad21 (20) q0) (va_up E22 (20) (zr_ia g 620 (fun _ => 0))) H _ := hH
  obtain ⟨ad23, had23⟩ : ∃ x, x = va_up ad21 (20) q0 := ⟨_, rfl⟩
  obtain ⟨E23, hE23⟩ : ∃ x, x = va_up E22 (20) (zr_ia g 620 (fun _ => 0)) := ⟨_, rfl⟩
  rw [← had23, ← hE23] at hH
  have a_23 : ∀ k, k < 20 → ad23 k = ad21 k := fun k hk => by rw [had23]; exact va_up_ne _ _ (by omega)
  have e_23 : ∀ k, k ≠ 20 → E23 k = E22 k := fun k hk => by rw [hE23]; exact va_up_ne _ _ hk
  have n_23 : E23 (20) = (zr_ia g 620 (fun _ => 0)) := by rw [hE23]; exact va_up_self _ _ _
  refine W.eq (g2 := F0 m 100 ls [.ref (ad23 (20)), .ref (ad23 (8))]) (by rw [had23, va_up_ne _ _ (show 8 ≠ 20 by omega)]) ?_
  rw [← a_23 (8) (by omega)] at hl
  have c_8 := (e_23 (8) (by omega)).trans c_8
  have c_9 := (e_23 (9) (by omega)).trans c_9
  have c_10 := (e_23 (10) (by omega)).trans c_10
  have c_11 := (e_23 (11) (by omega)).trans c_11
  have c_12 := (e_23 (12) (by omega)).trans c_12
  have c_13 := (e_23 (13) (by omega)).trans c_13
  have c_14 := (e_23 (14) (by omega)).trans c_14
  have c_15 := (e_23 (15) (by omega)).trans c_15
  have c_16 := (e_23 (16) (by omega)).trans c_16
  have c_17 := (e_23 (17) (by omega)).trans c_17
  have c_18 := (e_23 (18) (by omega)).trans c_18
  have c_19 := (e_23 (19) (by omega)).trans c_19
  have c_20 := n_23
  have c_8 : E23 8 = (.inr (4, [.int (nI 0), .int (nI 0), .int (nI 0), .int (nI 0), .int (nI 0), .int (nI 0), .ref (ad23 9), .ref (ad23 10), .ref (ad23 11), .ref (ad23 12), .ref (ad23 13), .ref (ad23 14), .ref (ad23 15), .ref (ad23 16), .ref (ad23 17), .ref (ad23 18), .ref (ad23 19), .null, .null, .null, .null, .null])) := by rw [a_23 9 (by omega), a_23 10 (by omega), a_23 11 (by omega), a_23 12 (by omega), a_23 13 (by omega), a_23 14 (by omega), a_23 15 (by omega), a_23 16 (by omega), a_23 17 (by omega), a_23 18 (by omega), a_23 19 (by omega)]; exact c_8
  refine zx_putF X hH fp_M_44 hnm rfl (by omega) c_8 (Nat.le_of_ble_eq_true rfl) rfl rfl d_M_init_100 (fun H locs hH => ?_)
  have hH : zw_H g A s.heap s (21) ad23 (va_up E23 (8) (.inr (4, [.int (nI 0), .int (nI 0), .int (nI 0), .int (nI 0), .int (nI 0), .int (nI 0), .ref (ad23 9), .ref (ad23 10), .ref (ad23 11), .ref (ad23 12), .ref (ad23 13), .ref (ad23 14), .ref (ad23 15), .ref (ad23 16), .ref (ad23 17), .ref (ad23 18), .ref (ad23 19), .ref (ad23 20), .null, .null, .null, .null]))) H locs := hH
  obtain ⟨E24, hE24⟩ : ∃ x, x = va_up E23 (8) (.inr (4, [.int (nI 0), .int (nI 0), .int (nI 0), .int (nI 0), .int (nI 0), .int (nI 0), .ref (ad23 9), .ref (ad23 10), .ref (ad23 11), .ref (ad23 12), .ref (ad23 13), .ref (ad23 14), .ref (ad23 15), .ref (ad23 16), .ref (ad23 17), .ref (ad23 18), .ref (ad23 19), .ref (ad23 20), .null, .null, .null, .null])) := ⟨_, rfl⟩
  rw [← hE24] at hH
  have e_24 : ∀ k, k ≠ 8 → E24 k = E23 k := fun k hk => by rw [hE24]; exact va_up_ne _ _ hk
  have c_8 : E24 (8) = (.inr (4, [.int (nI 0), .int (nI 0), .int (nI 0), .int (nI 0), .int (nI 0), .int (nI 0), .ref (ad23 9), .ref (ad23 10), .ref (ad23 11), .ref (ad23 12), .ref (ad23 13), .ref (ad23 14), .ref (ad23 15), .ref (ad23 16), .ref (ad23 17), .ref (ad23 18), .ref (ad23 19), .ref (ad23 20), .null, .null, .null, .null])) := by rw [hE24]; exact va_up_self _ _ _
  have c_9 := (e_24 (9) (by omega)).trans c_9
  have c_10 := (e_24 (10) (by omega)).trans c_10
  have c_11 := (e_24 (11) (by omega)).trans c_11
  have c_12 := (e_24 (12) (by omega)).trans c_12
  have c_13 := (e_24 (13) (by omega)).trans c_13
  have c_14 := (e_24 (14) (by omega)).trans c_14
  have c_15 := (e_24 (15) (by omega)).trans c_15
  have c_16 := (e_24 (16) (by omega)).trans c_16
  have c_17 := (e_24 (17) (by omega)).trans c_17
  have c_18 := (e_24 (18) (by omega)).trans c_18
  have c_19 := (e_24 (19) (by omega)).trans c_19
  have c_20 := (e_24 (20) (by omega)).trans c_20
  refine lv_aload_n X.1 X.2.1 d_M_init_103 rfl (lv_at hl 0 rfl) ?_
  refine lv_sipush (v := nI 620) X.1 X.2.1 d_M_init_104 (by decide) ?_
  refine zx_newi (j := 620) X hH zw_arrI rfl (by decide) (by dsimp only; omega) (by dsimp only; omega) d_M_init_107 (fun q0 H hH => ?_)
  have hH : zw_H g A s.heap s (21 + 1) (va_up ad23 (21) q0) (va_up E24 (21) (zr_ia g 620 (fun _ => 0))) H _ := hH
  obtain ⟨ad25, had25⟩ : ∃ x, x = va_up ad23 (21) q0 := ⟨_, rfl⟩
  obtain ⟨E25, hE25⟩ : ∃ x, x = va_up E24 (21) (zr_ia g 620 (fun _ => 0)) := ⟨_, rfl⟩
  rw [← had25, ← hE25] at hH
  have a_25 : ∀ k, k < 21 → ad25 k = ad23 k := fun k hk => by rw [had25]; exact va_up_ne _ _ (by omega)
  have e_25 : ∀ k, k ≠ 21 → E25 k = E24 k := fun k hk => by rw [hE25]; exact va_up_ne _ _ hk
  have n_25 : E25 (21) = (zr_ia g 620 (fun _ => 0)) := by rw [hE25]; exact va_up_self _ _ _
  refine W.eq (g2 := F0 m 109 ls [.ref (ad25 (21)), .ref (ad25 (8))]) (by rw [had25, va_up_ne _ _ (show 8 ≠ 21 by omega)]) ?_
  rw [← a_25 (8) (by omega)] at hl
  have c_8 := (e_25 (8) (by omega)).trans c_8
  have c_9 := (e_25 (9) (by omega)).trans c_9
  have c_10 := (e_25 (10) (by omega)).trans c_10
  have c_11 := (e_25 (11) (by omega)).trans c_11
  have c_12 := (e_25 (12) (by omega)).trans c_12
  have c_13 := (e_25 (13) (by omega)).trans c_13
  have c_14 := (e_25 (14) (by omega)).trans c_14
  have c_15 := (e_25 (15) (by omega)).trans c_15
  have c_16 := (e_25 (16) (by omega)).trans c_16
  have c_17 := (e_25 (17) (by omega)).trans c_17
  have c_18 := (e_25 (18) (by omega)).trans c_18
  have c_19 := (e_25 (19) (by omega)).trans c_19
  have c_20 := (e_25 (20) (by omega)).trans c_20
  have c_21 := n_25
  have c_8 : E25 8 = (.inr (4, [.int (nI 0), .int (nI 0), .int (nI 0), .int (nI 0), .int (nI 0), .int (nI 0), .ref (ad25 9), .ref (ad25 10), .ref (ad25 11), .ref (ad25 12), .ref (ad25 13), .ref (ad25 14), .ref (ad25 15), .ref (ad25 16), .ref (ad25 17), .ref (ad25 18), .ref (ad25 19), .ref (ad25 20), .null, .null, .null, .null])) := by rw [a_25 9 (by omega), a_25 10 (by omega), a_25 11 (by omega), a_25 12 (by omega), a_25 13 (by omega), a_25 14 (by omega), a_25 15 (by omega), a_25 16 (by omega), a_25 17 (by omega), a_25 18 (by omega), a_25 19 (by omega), a_25 20 (by omega)]; exact c_8
  refine zx_putF X hH fp_M_47 hnm rfl (by omega) c_8 (Nat.le_of_ble_eq_true rfl) rfl rfl d_M_init_109 (fun H locs hH => ?_)
  have hH : zw_H g A s.heap s (22) ad25 (va_up E25 (8) (.inr (4, [.int (nI 0), .int (nI 0), .int (nI 0), .int (nI 0), .int (nI 0), .int (nI 0), .ref (ad25 9), .ref (ad25 10), .ref (ad25 11), .ref (ad25 12), .ref (ad25 13), .ref (ad25 14), .ref (ad25 15), .ref (ad25 16), .ref (ad25 17), .ref (ad25 18), .ref (ad25 19), .ref (ad25 20), .ref (ad25 21), .null, .null, .null]))) H locs := hH
  obtain ⟨E26, hE26⟩ : ∃ x, x = va_up E25 (8) (.inr (4, [.int (nI 0), .int (nI 0), .int (nI 0), .int (nI 0), .int (nI 0), .int (nI 0), .ref (ad25 9), .ref (ad25 10), .ref (ad25 11), .ref (ad25 12), .ref (ad25 13), .ref (ad25 14), .ref (ad25 15), .ref (ad25 16), .ref (ad25 17), .ref (ad25 18), .ref (ad25 19), .ref (ad25 20), .ref (ad25 21), .null, .null, .null])) := ⟨_, rfl⟩
  rw [← hE26] at hH
  have e_26 : ∀ k, k ≠ 8 → E26 k = E25 k := fun k hk => by rw [hE26]; exact va_up_ne _ _ hk
  have c_8 : E26 (8) = (.inr (4, [.int (nI 0), .int (nI 0), .int (nI 0), .int (nI 0), .int (nI 0), .int (nI 0), .ref (ad25 9), .ref (ad25 10), .ref (ad25 11), .ref (ad25 12), .ref (ad25 13), .ref (ad25 14), .ref (ad25 15), .ref (ad25 16), .ref (ad25 17), .ref (ad25 18), .ref (ad25 19), .ref (ad25 20), .ref (ad25 21), .null, .null, .null])) := by rw [hE26]; exact va_up_self _ _ _
  have c_9 := (e_26 (9) (by omega)).trans c_9
  have c_10 := (e_26 (10) (by omega)).trans c_10
  have c_11 := (e_26 (11) (by omega)).trans c_11
  have c_12 := (e_26 (12) (by omega)).trans c_12
  have c_13 := (e_26 (13) (by omega)).trans c_13
  have c_14 := (e_26 (14) (by omega)).trans c_14
  have c_15 := (e_26 (15) (by omega)).trans c_15
  have c_16 := (e_26 (16) (by omega)).trans c_16
  have c_17 := (e_26 (17) (by omega)).trans c_17
  have c_18 := (e_26 (18) (by omega)).trans c_18
  have c_19 := (e_26 (19) (by omega)).trans c_19
  have c_20 := (e_26 (20) (by omega)).trans c_20
  have c_21 := (e_26 (21) (by omega)).trans c_21
  refine lv_aload_n X.1 X.2.1 d_M_init_112 rfl (lv_at hl 0 rfl) ?_
  refine lv_sipush (v := nI 600) X.1 X.2.1 d_M_init_113 (by decide) ?_
  refine zx_newi (j := 600) X hH zw_arrI rfl (by decide) (by dsimp only; omega) (by dsimp only; omega) d_M_init_116 (fun q0 H hH => ?_)
  have hH : zw_H g A s.heap s (22 + 1) (va_up ad25 (22) q0) (va_up E26 (22) (zr_ia g 600 (fun _ => 0))) H _ := hH
  obtain ⟨ad27, had27⟩ : ∃ x, x = va_up ad25 (22) q0 := ⟨_, rfl⟩
  obtain ⟨E27, hE27⟩ : ∃ x, x = va_up E26 (22) (zr_ia g 600 (fun _ => 0)) := ⟨_, rfl⟩
  rw [← had27, ← hE27] at hH
  have a_27 : ∀ k, k < 22 → ad27 k = ad25 k := fun k hk => by rw [had27]; exact va_up_ne _ _ (by omega)
  have e_27 : ∀ k, k ≠ 22 → E27 k = E26 k := fun k hk => by rw [hE27]; exact va_up_ne _ _ hk
  have n_27 : E27 (22) = (zr_ia g 600 (fun _ => 0)) := by rw [hE27]; exact va_up_self _ _ _
  refine W.eq (g2 := F0 m 118 ls [.ref (ad27 (22)), .ref (ad27 (8))]) (by rw [had27, va_up_ne _ _ (show 8 ≠ 22 by omega)]) ?_
  rw [← a_27 (8) (by omega)] at hl
  have c_8 := (e_27 (8) (by omega)).trans c_8
  have c_9 := (e_27 (9) (by omega)).trans c_9
  have c_10 := (e_27 (10) (by omega)).trans c_10
  have c_11 := (e_27 (11) (by omega)).trans c_11
  have c_12 := (e_27 (12) (by omega)).trans c_12
  have c_13 := (e_27 (13) (by omega)).trans c_13
  have c_14 := (e_27 (14) (by omega)).trans c_14
  have c_15 := (e_27 (15) (by omega)).trans c_15
  have c_16 := (e_27 (16) (by omega)).trans c_16
  have c_17 := (e_27 (17) (by omega)).trans c_17
  have c_18 := (e_27 (18) (by omega)).trans c_18
  have c_19 := (e_27 (19) (by omega)).trans c_19
  have c_20 := (e_27 (20) (by omega)).trans c_20
  have c_21 := (e_27 (21) (by omega)).trans c_21
  have c_22 := n_27
  have c_8 : E27 8 = (.inr (4, [.int (nI 0), .int (nI 0), .int (nI 0), .int (nI 0), .int (nI 0), .int (nI 0), .ref (ad27 9), .ref (ad27 10), .ref (ad27 11), .ref (ad27 12), .ref (ad27 13), .ref (ad27 14), .ref (ad27 15), .ref (ad27 16), .ref (ad27 17), .ref (ad27 18), .ref (ad27 19), .ref (ad27 20), .ref (ad27 21), .null, .null, .null])) := by rw [a_27 9 (by omega), a_27 10 (by omega), a_27 11 (by omega), a_27 12 (by omega), a_27 13 (by omega), a_27 14 (by omega), a_27 15 (by omega), a_27 16 (by omega), a_27 17 (by omega), a_27 18 (by omega), a_27 19 (by omega), a_27 20 (by omega), a_27 21 (by omega)]; exact c_8
  refine zx_putF X hH fp_M_50 hnm rfl (by omega) c_8 (Nat.le_of_ble_eq_true rfl) rfl rfl d_M_init_118 (fun H locs hH => ?_)
  have hH : zw_H g A s.heap s (23) ad27 (va_up E27 (8) (.inr (4, [.int (nI 0), .int (nI 0), .int (nI 0), .int (nI 0), .int (nI 0), .int (nI 0), .ref (ad27 9), .ref (ad27 10), .ref (ad27 11), .ref (ad27 12), .ref (ad27 13), .ref (ad27 14), .ref (ad27 15), .ref (ad27 16), .ref (ad27 17), .ref (ad27 18), .ref (ad27 19), .ref (ad27 20), .ref (ad27 21), .ref (ad27 22), .null, .null]))) H locs := hH
  obtain ⟨E28, hE28⟩ : ∃ x, x = va_up E27 (8) (.inr (4, [.int (nI 0), .int (nI 0), .int (nI 0), .int (nI 0), .int (nI 0), .int (nI 0), .ref (ad27 9), .ref (ad27 10), .ref (ad27 11), .ref (ad27 12), .ref (ad27 13), .ref (ad27 14), .ref (ad27 15), .ref (ad27 16), .ref (ad27 17), .ref (ad27 18), .ref (ad27 19), .ref (ad27 20), .ref (ad27 21), .ref (ad27 22), .null, .null])) := ⟨_, rfl⟩
  rw [← hE28] at hH
  have e_28 : ∀ k, k ≠ 8 → E28 k = E27 k := fun k hk => by rw [hE28]; exact va_up_ne _ _ hk
  have c_8 : E28 (8) = (.inr (4, [.int (nI 0), .int (nI 0), .int (nI 0), .int (nI 0), .int (nI 0), .int (nI 0), .ref (ad27 9), .ref (ad27 10), .ref (ad27 11), .ref (ad27 12), .ref (ad27 13), .ref (ad27 14), .ref (ad27 15), .ref (ad27 16), .ref (ad27 17), .ref (ad27 18), .ref (ad27 19), .ref (ad27 20), .ref (ad27 21), .ref (ad27 22), .null, .null])) := by rw [hE28]; exact va_up_self _ _ _
  have c_9 := (e_28 (9) (by omega)).trans c_9
  have c_10 := (e_28 (10) (by omega)).trans c_10
  have c_11 := (e_28 (11) (by omega)).trans c_11
  have c_12 := (e_28 (12) (by omega)).trans c_12
  have c_13 := (e_28 (13) (by omega)).trans c_13
  have c_14 := (e_28 (14) (by omega)).trans c_14
  have c_15 := (e_28 (15) (by omega)).trans c_15
  have c_16 := (e_28 (16) (by omega)).trans c_16
  have c_17 := (e_28 (17) (by omega)).trans c_17
  have c_18 := (e_28 (18) (by omega)).trans c_18
  have c_19 := (e_28 (19) (by omega)).trans c_19
  have c_20 := (e_28 (20) (by omega)).trans c_20
  have c_21 := (e_28 (21) (by omega)).trans c_21
  have c_22 := (e_28 (22) (by omega)).trans c_22
  refine lv_aload_n X.1 X.2.1 d_M_init_121 rfl (lv_at hl 0 rfl) ?_
  refine lv_bipush (v := nI 16) X.1 X.2.1 d_M_init_122 (by decide) ?_
  refine zx_newi (j := 16) X hH zw_arrI rfl (by decide) (by dsimp only; omega) (by dsimp only; omega) d_M_init_124 (fun q0 H hH => ?_)
  have hH : zw_H g A s.heap s (23 + 1) (va_up ad27 (23) q0) (va_up E28 (23) (zr_ia g 16 (fun _ => 0))) H _ := hH
  obtain ⟨ad29, had29⟩ : ∃ x, x = va_up ad27 (23) q0 := ⟨_, rfl⟩
  obtain ⟨E29, hE29⟩ : ∃ x, x = va_up E28 (23) (zr_ia g 16 (fun _ => 0)) := ⟨_, rfl⟩
  rw [← had29, ← hE29] at hH
  have a_29 : ∀ k, k < 23 → ad29 k = ad27 k := fun k hk => by rw [had29]; exact va_up_ne _ _ (by omega)
  have e_29 : ∀ k, k ≠ 23 → E29 k = E28 k := fun k hk => by rw [hE29]; exact va_up_ne _ _ hk
  have n_29 : E29 (23) = (zr_ia g 16 (fun _ => 0)) := by rw [hE29]; exact va_up_self _ _ _
  refine W.eq (g2 := F0 m 126 ls [.ref (ad29 (23)), .ref (ad29 (8))]) (by rw [had29, va_up_ne _ _ (show 8 ≠ 23 by omega)]) ?_
  rw [← a_29 (8) (by omega)] at hl
  have c_8 := (e_29 (8) (by omega)).trans c_8
  have c_9 := (e_29 (9) (by omega)).trans c_9
  have c_10 := (e_29 (10) (by omega)).trans c_10
  have c_11 := (e_29 (11) (by omega)).trans c_11
  have c_12 := (e_29 (12) (by omega)).trans c_12
  have c_13 := (e_29 (13) (by omega)).trans c_13
  have c_14 := (e_29 (14) (by omega)).trans c_14
  have c_15 := (e_29 (15) (by omega)).trans c_15
  have c_16 := (e_29 (16) (by omega)).trans c_16
  have c_17 := (e_29 (17) (by omega)).trans c_17
  have c_18 := (e_29 (18) (by omega)).trans c_18
  have c_19 := (e_29 (19) (by omega)).trans c_19
  have c_20 := (e_29 (20) (by omega)).trans c_20
  have c_21 := (e_29 (21) (by omega)).trans c_21
  have c_22 := (e_29 (22) (by omega)).trans c_22
  have c_23 := n_29
  have c_8 : E29 8 = (.inr (4, [.int (nI 0), .int (nI 0), .int (nI 0), .int (nI 0), .int (nI 0), .int (nI 0), .ref (ad29 9), .ref (ad29 10), .ref (ad29 11), .ref (ad29 12), .ref (ad29 13), .ref (ad29 14), .ref (ad29 15), .ref (ad29 16), .ref (ad29 17), .ref (ad29 18), .ref (ad29 19), .ref (ad29 20), .ref (ad29 21), .ref (ad29 22), .null, .null])) := by rw [a_29 9 (by omega), a_29 10 (by omega), a_29 11 (by omega), a_29 12 (by omega), a_29 13 (by omega), a_29 14 (by omega), a_29 15 (by omega), a_29 16 (by omega), a_29 17 (by omega), a_29 18 (by omega), a_29 19 (by omega), a_29 20 (by omega), a_29 21 (by omega), a_29 22 (by omega)]; exact c_8
  refine zx_putF X hH fp_M_53 hnm rfl (by omega) c_8 (Nat.le_of_ble_eq_true rfl) rfl rfl d_M_init_126 (fun H locs hH => ?_)
  have hH : zw_H g A s.heap s (24) ad29 (va_up E29 (8) (.inr (4, [.int (nI 0), .int (nI 0), .int (nI 0), .int (nI 0), .int (nI 0), .int (nI 0), .ref (ad29 9), .ref (ad29 10), .ref (ad29 11), .ref (ad29 12), .ref (ad29 13), .ref (ad29 14), .ref (ad29 15), .ref (ad29 16), .ref (ad29 17), .ref (ad29 18), .ref (ad29 19), .ref (ad29 20), .ref (ad29 21), .ref (ad29 22), .ref (ad29 23), .null]))) H locs := hH
  obtain ⟨E30, hE30⟩ : ∃ x, x = va_up E29 (8) (.inr (4, [.int (nI 0), .int (nI 0), .int (nI 0), .int (nI 0), .int (nI 0), .int (nI 0), .ref (ad29 9), .ref (ad29 10), .ref (ad29 11), .ref (ad29 12), .ref (ad29 13), .ref (ad29 14), .ref (ad29 15), .ref (ad29 16), .ref (ad29 17), .ref (ad29 18), .ref (ad29 19), .ref (ad29 20), .ref (ad29 21), .ref (ad29 22), .ref (ad29 23), .null])) := ⟨_, rfl⟩
  rw [← hE30] at hH
  have e_30 : ∀ k, k ≠ 8 → E30 k = E29 k := fun k hk => by rw [hE30]; exact va_up_ne _ _ hk
  have c_8 : E30 (8) = (.inr (4, [.int (nI 0), .int (nI 0), .int (nI 0), .int (nI 0), .int (nI 0), .int (nI 0), .ref (ad29 9), .ref (ad29 10), .ref (ad29 11), .ref (ad29 12), .ref (ad29 13), .ref (ad29 14), .ref (ad29 15), .ref (ad29 16), .ref (ad29 17), .ref (ad29 18), .ref (ad29 19), .ref (ad29 20), .ref (ad29 21), .ref (ad29 22), .ref (ad29 23), .null])) := by rw [hE30]; exact va_up_self _ _ _
  have c_9 := (e_30 (9) (by omega)).trans c_9
  have c_10 := (e_30 (10) (by omega)).trans c_10
  have c_11 := (e_30 (11) (by omega)).trans c_11
  have c_12 := (e_30 (12) (by omega)).trans c_12
  have c_13 := (e_30 (13) (by omega)).trans c_13
  have c_14 := (e_30 (14) (by omega)).trans c_14
  have c_15 := (e_30 (15) (by omega)).trans c_15
  have c_16 := (e_30 (16) (by omega)).trans c_16
  have c_17 := (e_30 (17) (by omega)).trans c_17
  have c_18 := (e_30 (18) (by omega)).trans c_18
  have c_19 := (e_30 (19) (by omega)).trans c_19
  have c_20 := (e_30 (20) (by omega)).trans c_20
  have c_21 := (e_30 (21) (by omega)).trans c_21
  have c_22 := (e_30 (22) (by omega)).trans c_22
  have c_23 := (e_30 (23) (by omega)).trans c_23
  refine lv_aload_n X.1 X.2.1 d_M_init_129 rfl (lv_at hl 0 rfl) ?_
  refine lv_sipush (v := nI 3100) X.1 X.2.1 d_M_init_130 (by decide) ?_
  refine zx_newi (j := 3100) X hH zw_arrI rfl (by decide) (by dsimp only; omega) (by dsimp only; omega) d_M_init_133 (fun q0 H hH => ?_)
  have hH : zw_H g A s.heap s (24 + 1) (va_up ad29 (24) q0) (va_up E30 (24) (zr_ia g 3100 (fun _ => 0))) H _ := hH
  obtain ⟨ad31, had31⟩ : ∃ x, x = va_up ad29 (24) q0 := ⟨_, rfl⟩
  obtain ⟨E31, hE31⟩ : ∃ x, x = va_up E30 (24) (zr_ia g 3100 (fun _ => 0)) := ⟨_, rfl⟩
  rw [← had31, ← hE31] at hH
  have a_31 : ∀ k, k < 24 → ad31 k = ad29 k := fun k hk => by rw [had31]; exact va_up_ne _ _ (by omega)
  have e_31 : ∀ k, k ≠ 24 → E31 k = E30 k := fun k hk => by rw [hE31]; exact va_up_ne _ _ hk
  have n_31 : E31 (24) = (zr_ia g 3100 (fun _ => 0)) := by rw [hE31]; exact va_up_self _ _ _
  refine W.eq (g2 := F0 m 135 ls [.ref (ad31 (24)), .ref (ad31 (8))]) (by rw [had31, va_up_ne _ _ (show 8 ≠ 24 by omega)]) ?_
  rw [← a_31 (8) (by omega)] at hl
  have c_8 := (e_31 (8) (by omega)).trans c_8
  have c_9 := (e_31 (9) (by omega)).trans c_9
  have c_10 := (e_31 (10) (by omega)).trans c_10
  have c_11 := (e_31 (11) (by omega)).trans c_11
  have c_12 := (e_31 (12) (by omega)).trans c_12
  have c_13 := (e_31 (13) (by omega)).trans c_13
  have c_14 := (e_31 (14) (by omega)).trans c_14
  have c_15 := (e_31 (15) (by omega)).trans c_15
  have c_16 := (e_31 (16) (by omega)).trans c_16
  have c_17 := (e_31 (17) (by omega)).trans c_17
  have c_18 := (e_31 (18) (by omega)).trans c_18
  have c_19 := (e_31 (19) (by omega)).trans c_19
  have c_20 := (e_31 (20) (by omega)).trans c_20
  have c_21 := (e_31 (21) (by omega)).trans c_21
  have c_22 := (e_31 (22) (by omega)).trans c_22
  have c_23 := (e_31 (23) (by omega)).trans c_23
  have c_24 := n_31
  have c_8 : E31 8 = (.inr (4, [.int (nI 0), .int (nI 0), .int (nI 0), .int (nI 0), .int (nI 0), .int (nI 0), .ref (ad31 9), .ref (ad31 10), .ref (ad31 11), .ref (ad31 12), .ref (ad31 13), .ref (ad31 14), .ref (ad31 15), .ref (ad31 16), .ref (ad31 17), .ref (ad31 18), .ref (ad31 19), .ref (ad31 20), .ref (ad31 21), .ref (ad31 22), .ref (ad31 23), .null])) := by rw [a_31 9 (by omega), a_31 10 (by omega), a_31 11 (by omega), a_31 12 (by omega), a_31 13 (by omega), a_31 14 (by omega), a_31 15 (by omega), a_31 16 (by omega), a_31 17 (by omega), a_31 18 (by omega), a_31 19 (by omega), a_31 20 (by omega), a_31 21 (by omega), a_31 22 (by omega), a_31 23 (by omega)]; exact c_8
  refine zx_putF X hH fp_M_56 hnm rfl (by omega) c_8 (Nat.le_of_ble_eq_true rfl) rfl rfl d_M_init_135 (fun H locs hH => ?_)
  have hH : zw_H g A s.heap s (25) ad31 (va_up E31 (8) (.inr (4, [.int (nI 0), .int (nI 0), .int (nI 0), .int (nI 0), .int (nI 0), .int (nI 0), .ref (ad31 9), .ref (ad31 10), .ref (ad31 11), .ref (ad31 12), .ref (ad31 13), .ref (ad31 14), .ref (ad31 15), .ref (ad31 16), .ref (ad31 17), .ref (ad31 18), .ref (ad31 19), .ref (ad31 20), .ref (ad31 21), .ref (ad31 22), .ref (ad31 23), .ref (ad31 24)]))) H locs := hH
  obtain ⟨E32, hE32⟩ : ∃ x, x = va_up E31 (8) (.inr (4, [.int (nI 0), .int (nI 0), .int (nI 0), .int (nI 0), .int (nI 0), .int (nI 0), .ref (ad31 9), .ref (ad31 10), .ref (ad31 11), .ref (ad31 12), .ref (ad31 13), .ref (ad31 14), .ref (ad31 15), .ref (ad31 16), .ref (ad31 17), .ref (ad31 18), .ref (ad31 19), .ref (ad31 20), .ref (ad31 21), .ref (ad31 22), .ref (ad31 23), .ref (ad31 24)])) := ⟨_, rfl⟩
  rw [← hE32] at hH
  have e_32 : ∀ k, k ≠ 8 → E32 k = E31 k := fun k hk => by rw [hE32]; exact va_up_ne _ _ hk
  have c_8 : E32 (8) = (.inr (4, [.int (nI 0), .int (nI 0), .int (nI 0), .int (nI 0), .int (nI 0), .int (nI 0), .ref (ad31 9), .ref (ad31 10), .ref (ad31 11), .ref (ad31 12), .ref (ad31 13), .ref (ad31 14), .ref (ad31 15), .ref (ad31 16), .ref (ad31 17), .ref (ad31 18), .ref (ad31 19), .ref (ad31 20), .ref (ad31 21), .ref (ad31 22), .ref (ad31 23), .ref (ad31 24)])) := by rw [hE32]; exact va_up_self _ _ _
  have c_9 := (e_32 (9) (by omega)).trans c_9
  have c_10 := (e_32 (10) (by omega)).trans c_10
  have c_11 := (e_32 (11) (by omega)).trans c_11
  have c_12 := (e_32 (12) (by omega)).trans c_12
  have c_13 := (e_32 (13) (by omega)).trans c_13
  have c_14 := (e_32 (14) (by omega)).trans c_14
  have c_15 := (e_32 (15) (by omega)).trans c_15
  have c_16 := (e_32 (16) (by omega)).trans c_16
  have c_17 := (e_32 (17) (by omega)).trans c_17
  have c_18 := (e_32 (18) (by omega)).trans c_18
  have c_19 := (e_32 (19) (by omega)).trans c_19
  have c_20 := (e_32 (20) (by omega)).trans c_20
  have c_21 := (e_32 (21) (by omega)).trans c_21
  have c_22 := (e_32 (22) (by omega)).trans c_22
  have c_23 := (e_32 (23) (by omega)).trans c_23
  have c_24 := (e_32 (24) (by omega)).trans c_24
  exact zx_vret X hr hlk hH (by dsimp only; omega) (by dsimp only; omega) d_M_init_138 ⟨rfl, fun k hk => by rw [a_31 k (by omega), a_29 k (by omega), a_27 k (by omega), a_25 k (by omega), a_23 k (by omega), a_21 k (by omega), a_19 k (by omega), a_17 k (by omega), a_15 k (by omega), a_13 k (by omega), a_11 k (by omega), a_9 k (by omega), a_7 k (by omega), a_5 k (by omega), a_3 k (by omega), a_1 k (by omega)], ⟨c_8, c_9.trans (by rw [zm_c_0]), c_10.trans (by rw [zm_c_0]), c_11.trans (by rw [zm_c_0]), c_12.trans (by rw [zm_c_0]), c_13.trans (by rw [zm_c_0]), c_14.trans (by rw [zm_c_0]), c_15.trans (by rw [zm_c_0]), c_16.trans (by rw [zm_c_0]), c_17.trans (by rw [zm_c_0]), c_18.trans (by rw [zm_w_0]), c_19.trans (by rw [zm_d_0]), c_20.trans (by rw [zm_w_0]), c_21.trans (by rw [zm_w_0]), c_22, c_23, c_24⟩, fun k hk => by rw [e_32 k (by omega), e_31 k (by omega), e_30 k (by omega), e_29 k (by omega), e_28 k (by omega), e_27 k (by omega), e_26 k (by omega), e_25 k (by omega), e_24 k (by omega), e_23 k (by omega), e_22 k (by omega), e_21 k (by omega), e_20 k (by omega), e_19 k (by omega), e_18 k (by omega), e_17 k (by omega), e_16 k (by omega), e_15 k (by omega), e_14 k (by omega), e_13 k (by omega), e_12 k (by omega), e_11 k (by omega), e_10 k (by omega), e_9 k (by omega), e_8 k (by omega), e_7 k (by omega), e_6 k (by omega), e_5 k (by omega), e_4 k (by omega), e_3 k (by omega), e_2 k (by omega), e_1 k (by omega)]⟩
