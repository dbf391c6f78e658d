/-- a new region's numbers -/
def zp_new (st fl : Nat) : Nat → Nat := fun j => if j = 0 then st else if j = 1 then fl else 0
set_option maxHeartbeats 4000000 in
set_option maxRecDepth 100000 in
theorem c_V_init (g : zw_G) (l : Launch) (ad : Nat → Nat) (E : Nat → va_E) (b : Nat) (c_0 : E b = .inr (0, [.null])) : zc_v g l y_V_init b_V_init 1 { frames := 1, cells := 1, slots := 16, locals := 40 } [.ref (ad b)] (b + 1) ad E (fun N1 ad1 E1 => b + 2 = N1 ∧ (∀ k, k < b + 1 → ad1 k = ad k) ∧ ze_at g ad1 E1 b (b + 1) (fun _ => 0) ∧ ∀ k, k < b → E1 k = E k) := by
  refine zc_v.of (by decide) (Nat.le_of_ble_eq_true rfl) ?_
  intro p e s m below meth c ls A X hr hlk hnm hl hH
  have hl : lv_has ls 1 [(0, .ref (ad b))] := hl
  refine lv_aload_n X.1 X.2.1 d_V_init_0 rfl (lv_at hl 0 rfl) ?_
  refine zx_obj X hl zj_V (Nat.le_of_ble_eq_true rfl) (Nat.le_of_ble_eq_true rfl) d_V_init_1 ?_
  refine lv_aload_n X.1 X.2.1 d_V_init_4 rfl (lv_at hl 0 rfl) ?_
  refine lv_bipush (v := nI 16) X.1 X.2.1 d_V_init_5 (by decide) ?_
  refine zx_newi (j := 16) X hH zw_arrI rfl (by decide) (by dsimp only; omega) (by dsimp only; omega) d_V_init_7 (fun q0 H hH => ?_)
  have hH : zw_H g A s.heap s (b + 1 + 1) (va_up ad (b + 1) q0) (va_up E (b + 1) (zr_ia g 16 (fun _ => 0))) H _ := hH
  obtain ⟨ad1, had1⟩ : ∃ x, x = va_up ad (b + 1) q0 := ⟨_, rfl⟩
  obtain ⟨E1, hE1⟩ : ∃ x, x = va_up E (b + 1) (zr_ia g 16 (fun _ => 0)) := ⟨_, rfl⟩
  rw [← had1, ← hE1] at hH
  have a_1 : ∀ k, k < b + 1 → ad1 k = ad k := fun k hk => by rw [had1]; exact va_up_ne _ _ (by omega)
  have e_1 : ∀ k, k ≠ b + 1 → E1 k = E k := fun k hk => by rw [hE1]; exact va_up_ne _ _ hk
  have n_1 : E1 (b + 1) = (zr_ia g 16 (fun _ => 0)) := by rw [hE1]; exact va_up_self _ _ _
  refine W.eq (g2 := F0 m 9 ls [.ref (ad1 (b + 1)), .ref (ad1 (b))]) (by rw [had1, va_up_ne _ _ (show b ≠ b + 1 by omega)]) ?_
  rw [← a_1 (b) (by omega)] at hl
  have c_0 := (e_1 (b) (by omega)).trans c_0
  have c_1 := n_1
  refine zx_putF X hH fp_V_9 hnm rfl (by omega) c_0 (Nat.le_of_ble_eq_true rfl) rfl rfl d_V_init_9 (fun H locs hH => ?_)
  have hH : zw_H g A s.heap s (b + 2) ad1 (va_up E1 (b) (ze_o ad1 (b + 1))) H locs := hH
  obtain ⟨E2, hE2⟩ : ∃ x, x = va_up E1 (b) (ze_o ad1 (b + 1)) := ⟨_, rfl⟩
  rw [← hE2] at hH
  have e_2 : ∀ k, k ≠ b → E2 k = E1 k := fun k hk => by rw [hE2]; exact va_up_ne _ _ hk
  have c_0 : E2 (b) = (ze_o ad1 (b + 1)) := by rw [hE2]; exact va_up_self _ _ _
  have c_1 := (e_2 (b + 1) (by omega)).trans c_1
  exact zx_vret X hr hlk hH (by dsimp only; omega) (by dsimp only; omega) d_V_init_12 ⟨rfl, fun k hk => by rw [a_1 k (by omega)], ⟨c_0, c_1⟩, fun k hk => by rw [e_2 k (by omega), e_1 k (by omega)]⟩

set_option maxHeartbeats 4000000 in
set_option maxRecDepth 100000 in
theorem c_O_init (g : zw_G) (l : Launch) (ad : Nat → Nat) (E : Nat → va_E) (b lim : Nat) (c_0 : E b = .inr (2, [.int (nI 0), .null, .int (nI 0)])) : zc_v g l y_O_init b_O_init 2 { frames := 1, cells := 1, slots := 16, locals := 40 } [.ref (ad b), .int (nI lim)] (b + 1) ad E (fun N1 ad1 E1 => b + 2 = N1 ∧ (∀ k, k < b + 1 → ad1 k = ad k) ∧ zo_at g ad1 E1 b (b + 1) lim 0 16 (fun _ => 0) ∧ ∀ k, k < b → E1 k = E k) := by
  refine zc_v.of (by decide) (Nat.le_of_ble_eq_true rfl) ?_
  intro p e s m below meth c ls A X hr hlk hnm hl hH
  have hl : lv_has ls 2 [(0, .ref (ad b)), (1, .int (nI lim))] := hl
  refine lv_aload_n X.1 X.2.1 d_O_init_0 rfl (lv_at hl 0 rfl) ?_
  refine zx_obj X hl zj_O (Nat.le_of_ble_eq_true rfl) (Nat.le_of_ble_eq_true rfl) d_O_init_1 ?_
  refine lv_aload_n X.1 X.2.1 d_O_init_4 rfl (lv_at hl 0 rfl) ?_
  refine lv_bipush (v := nI 16) X.1 X.2.1 d_O_init_5 (by decide) ?_
  refine zx_newi (j := 16) X hH zw_arrI rfl (by decide) (by dsimp only; omega) (by dsimp only; omega) d_O_init_7 (fun q0 H hH => ?_)
  have hH : zw_H g A s.heap s (b + 1 + 1) (va_up ad (b + 1) q0) (va_up E (b + 1) (zr_ia g 16 (fun _ => 0))) H _ := hH
  obtain ⟨ad1, had1⟩ : ∃ x, x = va_up ad (b + 1) q0 := ⟨_, rfl⟩
  obtain ⟨E1, hE1⟩ : ∃ x, x = va_up E (b + 1) (zr_ia g 16 (fun _ => 0)) := ⟨_, rfl⟩
  rw [← had1, ← hE1] at hH
  have a_1 : ∀ k, k < b + 1 → ad1 k = ad k := fun k hk => by rw [had1]; exact va_up_ne _ _ (by omega)
  have e_1 : ∀ k, k ≠ b + 1 → E1 k = E k := fun k hk => by rw [hE1]; exact va_up_ne _ _ hk
  have n_1 : E1 (b + 1) = (zr_ia g 16 (fun _ => 0)) := by rw [hE1]; exact va_up_self _ _ _
  refine W.eq (g2 := F0 m 9 ls [.ref (ad1 (b + 1)), .ref (ad1 (b))]) (by rw [had1, va_up_ne _ _ (show b ≠ b + 1 by omega)]) ?_
  rw [← a_1 (b) (by omega)] at hl
  have c_0 := (e_1 (b) (by omega)).trans c_0
  have c_1 := n_1
  refine zx_put X hH fp_O_9 (by omega) c_0 (Nat.le_of_ble_eq_true rfl) rfl rfl d_O_init_9 (fun H locs hH => ?_)
  have hH : zw_H g A s.heap s (b + 2) ad1 (va_up E1 (b) (.inr (2, [.int (nI 0), .ref (ad1 (b + 1)), .int (nI 0)]))) H locs := hH
  obtain ⟨E2, hE2⟩ : ∃ x, x = va_up E1 (b) (.inr (2, [.int (nI 0), .ref (ad1 (b + 1)), .int (nI 0)])) := ⟨_, rfl⟩
  rw [← hE2] at hH
  have e_2 : ∀ k, k ≠ b → E2 k = E1 k := fun k hk => by rw [hE2]; exact va_up_ne _ _ hk
  have c_0 : E2 (b) = (.inr (2, [.int (nI 0), .ref (ad1 (b + 1)), .int (nI 0)])) := by rw [hE2]; exact va_up_self _ _ _
  have c_1 := (e_2 (b + 1) (by omega)).trans c_1
  refine lv_aload_n X.1 X.2.1 d_O_init_12 rfl (lv_at hl 0 rfl) ?_
  refine lv_iload_n X.1 X.2.1 d_O_init_13 rfl (lv_at hl 1 rfl) ?_
  refine zx_putF X hH fp_O_13 hnm rfl (by omega) c_0 (Nat.le_of_ble_eq_true rfl) rfl rfl d_O_init_14 (fun H locs hH => ?_)
  have hH : zw_H g A s.heap s (b + 2) ad1 (va_up E2 (b) (zo_o ad1 (b + 1) lim 0)) H locs := hH
  obtain ⟨E3, hE3⟩ : ∃ x, x = va_up E2 (b) (zo_o ad1 (b + 1) lim 0) := ⟨_, rfl⟩
  rw [← hE3] at hH
  have e_3 : ∀ k, k ≠ b → E3 k = E2 k := fun k hk => by rw [hE3]; exact va_up_ne _ _ hk
  have c_0 : E3 (b) = (zo_o ad1 (b + 1) lim 0) := by rw [hE3]; exact va_up_self _ _ _
  have c_1 := (e_3 (b + 1) (by omega)).trans c_1
  exact zx_vret X hr hlk hH (by dsimp only; omega) (by dsimp only; omega) d_O_init_17 ⟨rfl, fun k hk => by rw [a_1 k (by omega)], ⟨c_0, c_1⟩, fun k hk => by rw [e_3 k (by omega), e_2 k (by omega), e_1 k (by omega)]⟩

set_option maxHeartbeats 4000000 in
set_option maxRecDepth 100000 in
theorem c_R_init (g : zw_G) (l : Launch) (ad : Nat → Nat) (E : Nat → va_E) (b st fl : Nat) (c_0 : E b = .inr (1, [.int (nI 0), .int (nI 0), .int (nI 0), .int (nI 0), .int (nI 0), .int (nI 0), .int (nI 0), .int (nI 0), .int (nI 0), .null, .null, .null, .null])) : zc_v g l y_R_init b_R_init 3 { frames := 1, cells := 4, slots := 161, locals := 40 } [.ref (ad b), .int (nI st), .int (nI fl)] (b + 1) ad E (fun N1 ad1 E1 => b + 5 = N1 ∧ (∀ k, k < b + 1 → ad1 k = ad k) ∧ zr_at g ad1 E1 b (zp_new st fl) (fun _ _ => 0) ∧ ∀ k, k < b → E1 k = E k) := by
  refine zc_v.of (by decide) (Nat.le_of_ble_eq_true rfl) ?_
  intro p e s m below meth c ls A X hr hlk hnm hl hH
  have hl : lv_has ls 3 [(0, .ref (ad b)), (1, .int (nI st)), (2, .int (nI fl))] := hl
  refine lv_aload_n X.1 X.2.1 d_R_init_0 rfl (lv_at hl 0 rfl) ?_
  refine zx_obj X hl zj_R (Nat.le_of_ble_eq_true rfl) (Nat.le_of_ble_eq_true rfl) d_R_init_1 ?_
  refine lv_aload_n X.1 X.2.1 d_R_init_4 rfl (lv_at hl 0 rfl) ?_
  refine lv_iconst (v := nI 0) X.1 X.2.1 d_R_init_5 (by decide) ?_
  refine zx_put X hH fp_R_9 (by omega) c_0 (Nat.le_of_ble_eq_true rfl) rfl rfl d_R_init_6 (fun H locs hH => ?_)
  have hH : zw_H g A s.heap s (b + 1) ad (va_up E (b) (.inr (1, [.int (nI 0), .int (nI 0), .int (nI 0), .int (nI 0), .int (nI 0), .int (nI 0), .int (nI 0), .int (nI 0), .int (nI 0), .null, .null, .null, .null]))) H locs := hH
  obtain ⟨E1, hE1⟩ : ∃ x, x = va_up E (b) (.inr (1, [.int (nI 0), .int (nI 0), .int (nI 0), .int (nI 0), .int (nI 0), .int (nI 0), .int (nI 0), .int (nI 0), .int (nI 0), .null, .null, .null, .null])) := ⟨_, rfl⟩
  rw [← hE1] at hH
  have e_1 : ∀ k, k ≠ b → E1 k = E k := fun k hk => by rw [hE1]; exact va_up_ne _ _ hk
  have c_0 : E1 (b) = (.inr (1, [.int (nI 0), .int (nI 0), .int (nI 0), .int (nI 0), .int (nI 0), .int (nI 0), .int (nI 0), .int (nI 0), .int (nI 0), .null, .null, .null, .null])) := by rw [hE1]; exact va_up_self _ _ _
  refine lv_aload_n X.1 X.2.1 d_R_init_9 rfl (lv_at hl 0 rfl) ?_
  refine lv_bipush (v := nI 20) X.1 X.2.1 d_R_init_10 (by decide) ?_
  refine zx_newi (j := 20) X hH zw_arrI rfl (by decide) (by dsimp only; omega) (by dsimp only; omega) d_R_init_12 (fun q0 H hH => ?_)
  have hH : zw_H g A s.heap s (b + 1 + 1) (va_up ad (b + 1) q0) (va_up E1 (b + 1) (zr_ia g 20 (fun _ => 0))) H _ := hH
  obtain ⟨ad2, had2⟩ : ∃ x, x = va_up ad (b + 1) q0 := ⟨_, rfl⟩
  obtain ⟨E2, hE2⟩ : ∃ x, x = va_up E1 (b + 1) (zr_ia g 20 (fun _ => 0)) := ⟨_, rfl⟩
  rw [← had2, ← hE2] at hH
  have a_2 : ∀ k, k < b + 1 → ad2 k = ad k := fun k hk => by rw [had2]; exact va_up_ne _ _ (by omega)
  have e_2 : ∀ k, k ≠ b + 1 → E2 k = E1 k := fun k hk => by rw [hE2]; exact va_up_ne _ _ hk
  have n_2 : E2 (b + 1) = (zr_ia g 20 (fun _ => 0)) := by rw [hE2]; exact va_up_self _ _ _
  refine W.eq (g2 := F0 m 14 ls [.ref (ad2 (b + 1)), .ref (ad2 (b))]) (by rw [had2, va_up_ne _ _ (show b ≠ b + 1 by omega)]) ?_
  rw [← a_2 (b) (by omega)] at hl
  have c_0 := (e_2 (b) (by omega)).trans c_0
  have c_1 := n_2
  refine zx_putF X hH fp_R_15 hnm rfl (by omega) c_0 (Nat.le_of_ble_eq_true rfl) rfl rfl d_R_init_14 (fun H locs hH => ?_)
  have hH : zw_H g A s.heap s (b + 2) ad2 (va_up E2 (b) (.inr (1, [.int (nI 0), .int (nI 0), .int (nI 0), .int (nI 0), .int (nI 0), .int (nI 0), .int (nI 0), .int (nI 0), .int (nI 0), .ref (ad2 (b + 1)), .null, .null, .null]))) H locs := hH
  obtain ⟨E3, hE3⟩ : ∃ x, x = va_up E2 (b) (.inr (1, [.int (nI 0), .int (nI 0), .int (nI 0), .int (nI 0), .int (nI 0), .int (nI 0), .int (nI 0), .int (nI 0), .int (nI 0), .ref (ad2 (b + 1)), .null, .null, .null])) := ⟨_, rfl⟩
  rw [← hE3] at hH
  have e_3 : ∀ k, k ≠ b → E3 k = E2 k := fun k hk => by rw [hE3]; exact va_up_ne _ _ hk
  have c_0 : E3 (b) = (.inr (1, [.int (nI 0), .int (nI 0), .int (nI 0), .int (nI 0), .int (nI 0), .int (nI 0), .int (nI 0), .int (nI 0), .int (nI 0), .ref (ad2 (b + 1)), .null, .null, .null])) := by rw [hE3]; exact va_up_self _ _ _
  have c_1 := (e_3 (b + 1) (by omega)).trans c_1
  refine lv_aload_n X.1 X.2.1 d_R_init_17 rfl (lv_at hl 0 rfl) ?_
  refine lv_bipush (v := nI 20) X.1 X.2.1 d_R_init_18 (by decide) ?_
  refine zx_newi (j := 20) X hH zw_arrI rfl (by decide) (by dsimp only; omega) (by dsimp only; omega) d_R_init_20 (fun q0 H hH => ?_)
  have hH : zw_H g A s.heap s (b + 2 + 1) (va_up ad2 (b + 2) q0) (va_up E3 (b + 2) (zr_ia g 20 (fun _ => 0))) H _ := hH
  obtain ⟨ad4, had4⟩ : ∃ x, x = va_up ad2 (b + 2) q0 := ⟨_, rfl⟩
  obtain ⟨E4, hE4⟩ : ∃ x, x = va_up E3 (b + 2) (zr_ia g 20 (fun _ => 0)) := ⟨_, rfl⟩
  rw [← had4, ← hE4] at hH
  have a_4 : ∀ k, k < b + 2 → ad4 k = ad2 k := fun k hk => by rw [had4]; exact va_up_ne _ _ (by omega)
  have e_4 : ∀ k, k ≠ b + 2 → E4 k = E3 k := fun k hk => by rw [hE4]; exact va_up_ne _ _ hk
  have n_4 : E4 (b + 2) = (zr_ia g 20 (fun _ => 0)) := by rw [hE4]; exact va_up_self _ _ _
  refine W.eq (g2 := F0 m 22 ls [.ref (ad4 (b + 2)), .ref (ad4 (b))]) (by rw [had4, va_up_ne _ _ (show b ≠ b + 2 by omega)]) ?_
  rw [← a_4 (b) (by omega)] at hl
  have c_0 := (e_4 (b) (by omega)).trans c_0
  have c_1 := (e_4 (b + 1) (by omega)).trans c_1
  have c_2 := n_4
  have c_0 : E4 b = (.inr (1, [.int (nI 0), .int (nI 0), .int (nI 0), .int (nI 0), .int (nI 0), .int (nI 0), .int (nI 0), .int (nI 0), .int (nI 0), .ref (ad4 (b + 1)), .null, .null, .null])) := by rw [a_4 (b + 1) (by omega)]; exact c_0
  refine zx_putF X hH fp_R_19 hnm rfl (by omega) c_0 (Nat.le_of_ble_eq_true rfl) rfl rfl d_R_init_22 (fun H locs hH => ?_)
  have hH : zw_H g A s.heap s (b + 3) ad4 (va_up E4 (b) (.inr (1, [.int (nI 0), .int (nI 0), .int (nI 0), .int (nI 0), .int (nI 0), .int (nI 0), .int (nI 0), .int (nI 0), .int (nI 0), .ref (ad4 (b + 1)), .ref (ad4 (b + 2)), .null, .null]))) H locs := hH
  obtain ⟨E5, hE5⟩ : ∃ x, x = va_up E4 (b) (.inr (1, [.int (nI 0), .int (nI 0), .int (nI 0), .int (nI 0), .int (nI 0), .int (nI 0), .int (nI 0), .int (nI 0), .int (nI 0), .ref (ad4 (b + 1)), .ref (ad4 (b + 2)), .null, .null])) := ⟨_, rfl⟩
  rw [← hE5] at hH
  have e_5 : ∀ k, k ≠ b → E5 k = E4 k := fun k hk => by rw [hE5]; exact va_up_ne _ _ hk
  have c_0 : E5 (b) = (.inr (1, [.int (nI 0), .int (nI 0), .int (nI 0), .int (nI 0), .int (nI 0), .int (nI 0), .int (nI 0), .int (nI 0), .int (nI 0), .ref (ad4 (b + 1)), .ref (ad4 (b + 2)), .null, .null])) := by rw [hE5]; exact va_up_self _ _ _
  have c_1 := (e_5 (b + 1) (by omega)).trans c_1
  have c_2 := (e_5 (b + 2) (by omega)).trans c_2
  refine lv_aload_n X.1 X.2.1 d_R_init_25 rfl (lv_at hl 0 rfl) ?_
  refine lv_bipush (v := nI 20) X.1 X.2.1 d_R_init_26 (by decide) ?_
  refine zx_newz (j := 20) X hH zw_arrZ rfl (by decide) (by dsimp only; omega) (by dsimp only; omega) d_R_init_28 (fun q0 H hH => ?_)
  have hH : zw_H g A s.heap s (b + 3 + 1) (va_up ad4 (b + 3) q0) (va_up E5 (b + 3) (zr_za g 20 (fun _ => 0))) H _ := hH
  obtain ⟨ad6, had6⟩ : ∃ x, x = va_up ad4 (b + 3) q0 := ⟨_, rfl⟩
  obtain ⟨E6, hE6⟩ : ∃ x, x = va_up E5 (b + 3) (zr_za g 20 (fun _ => 0)) := ⟨_, rfl⟩
  rw [← had6, ← hE6] at hH
  have a_6 : ∀ k, k < b + 3 → ad6 k = ad4 k := fun k hk => by rw [had6]; exact va_up_ne _ _ (by omega)
  have e_6 : ∀ k, k ≠ b + 3 → E6 k = E5 k := fun k hk => by rw [hE6]; exact va_up_ne _ _ hk
  have n_6 : E6 (b + 3) = (zr_za g 20 (fun _ => 0)) := by rw [hE6]; exact va_up_self _ _ _
  refine W.eq (g2 := F0 m 30 ls [.ref (ad6 (b + 3)), .ref (ad6 (b))]) (by rw [had6, va_up_ne _ _ (show b ≠ b + 3 by omega)]) ?_
  rw [← a_6 (b) (by omega)] at hl
  have c_0 := (e_6 (b) (by omega)).trans c_0
  have c_1 := (e_6 (b + 1) (by omega)).trans c_1
  have c_2 := (e_6 (b + 2) (by omega)).trans c_2
  have c_3 := n_6
  have c_0 : E6 b = (.inr (1, [.int (nI 0), .int (nI 0), .int (nI 0), .int (nI 0), .int (nI 0), .int (nI 0), .int (nI 0), .int (nI 0), .int (nI 0), .ref (ad6 (b + 1)), .ref (ad6 (b + 2)), .null, .null])) := by rw [a_6 (b + 1) (by omega), a_6 (b + 2) (by omega)]; exact c_0
  refine zx_putF X hH fp_R_22 hnm rfl (by omega) c_0 (Nat.le_of_ble_eq_true rfl) rfl rfl d_R_init_30 (fun H locs hH => ?_)
  have hH : zw_H g A s.heap s (b + 4) ad6 (va_up E6 (b) (.inr (1, [.int (nI 0), .int (nI 0), .int (nI 0), .int (nI 0), .int (nI 0), .int (nI 0), .int (nI 0), .int (nI 0), .int (nI 0), .ref (ad6 (b + 1)), .ref (ad6 (b + 2)), .ref (ad6 (b + 3)), .null]))) H locs := hH
  obtain ⟨E7, hE7⟩ : ∃ x, x = va_up E6 (b) (.inr (1, [.int (nI 0), .int (nI 0), .int (nI 0), .int (nI 0), .int (nI 0), .int (nI 0), .int (nI 0), .int (nI 0), .int (nI 0), .ref (ad6 (b + 1)), .ref (ad6 (b + 2)), .ref (ad6 (b + 3)), .null])) := ⟨_, rfl⟩
  rw [← hE7] at hH
  have e_7 : ∀ k, k ≠ b → E7 k = E6 k := fun k hk => by rw [hE7]; exact va_up_ne _ _ hk
  have c_0 : E7 (b) = (.inr (1, [.int (nI 0), .int (nI 0), .int (nI 0), .int (nI 0), .int (nI 0), .int (nI 0), .int (nI 0), .int (nI 0), .int (nI 0), .ref (ad6 (b + 1)), .ref (ad6 (b + 2)), .ref (ad6 (b + 3)), .null])) := by rw [hE7]; exact va_up_self _ _ _
  have c_1 := (e_7 (b + 1) (by omega)).trans c_1
  have c_2 := (e_7 (b + 2) (by omega)).trans c_2
  have c_3 := (e_7 (b + 3) (by omega)).trans c_3
  refine lv_aload_n X.1 X.2.1 d_R_init_33 rfl (lv_at hl 0 rfl) ?_
  refine lv_bipush (v := nI 101) X.1 X.2.1 d_R_init_34 (by decide) ?_
  refine zx_newi (j := 101) X hH zw_arrI rfl (by decide) (by dsimp only; omega) (by dsimp only; omega) d_R_init_36 (fun q0 H hH => ?_)
  have hH : zw_H g A s.heap s (b + 4 + 1) (va_up ad6 (b + 4) q0) (va_up E7 (b + 4) (zr_ia g 101 (fun _ => 0))) H _ := hH
  obtain ⟨ad8, had8⟩ : ∃ x, x = va_up ad6 (b + 4) q0 := ⟨_, rfl⟩
  obtain ⟨E8, hE8⟩ : ∃ x, x = va_up E7 (b + 4) (zr_ia g 101 (fun _ => 0)) := ⟨_, rfl⟩
  rw [← had8, ← hE8] at hH
  have a_8 : ∀ k, k < b + 4 → ad8 k = ad6 k := fun k hk => by rw [had8]; exact va_up_ne _ _ (by omega)
  have e_8 : ∀ k, k ≠ b + 4 → E8 k = E7 k := fun k hk => by rw [hE8]; exact va_up_ne _ _ hk
  have n_8 : E8 (b + 4) = (zr_ia g 101 (fun _ => 0)) := by rw [hE8]; exact va_up_self _ _ _
  refine W.eq (g2 := F0 m 38 ls [.ref (ad8 (b + 4)), .ref (ad8 (b))]) (by rw [had8, va_up_ne _ _ (show b ≠ b + 4 by omega)]) ?_
  rw [← a_8 (b) (by omega)] at hl
  have c_0 := (e_8 (b) (by omega)).trans c_0
  have c_1 := (e_8 (b + 1) (by omega)).trans c_1
  have c_2 := (e_8 (b + 2) (by omega)).trans c_2
  have c_3 := (e_8 (b + 3) (by omega)).trans c_3
  have c_4 := n_8
  have c_0 : E8 b = (.inr (1, [.int (nI 0), .int (nI 0), .int (nI 0), .int (nI 0), .int (nI 0), .int (nI 0), .int (nI 0), .int (nI 0), .int (nI 0), .ref (ad8 (b + 1)), .ref (ad8 (b + 2)), .ref (ad8 (b + 3)), .null])) := by rw [a_8 (b + 1) (by omega), a_8 (b + 2) (by omega), a_8 (b + 3) (by omega)]; exact c_0
  refine zx_putF X hH fp_R_26 hnm rfl (by omega) c_0 (Nat.le_of_ble_eq_true rfl) rfl rfl d_R_init_38 (fun H locs hH => ?_)
  have hH : zw_H g A s.heap s (b + 5) ad8 (va_up E8 (b) (.inr (1, [.int (nI 0), .int (nI 0), .int (nI 0), .int (nI 0), .int (nI 0), .int (nI 0), .int (nI 0), .int (nI 0), .int (nI 0), .ref (ad8 (b + 1)), .ref (ad8 (b + 2)), .ref (ad8 (b + 3)), .ref (ad8 (b + 4))]))) H locs := hH
  obtain ⟨E9, hE9⟩ : ∃ x, x = va_up E8 (b) (.inr (1, [.int (nI 0), .int (nI 0), .int (nI 0), .int (nI 0), .int (nI 0), .int (nI 0), .int (nI 0), .int (nI 0), .int (nI 0), .ref (ad8 (b + 1)), .ref (ad8 (b + 2)), .ref (ad8 (b + 3)), .ref (ad8 (b + 4))])) := ⟨_, rfl⟩
  rw [← hE9] at hH
  have e_9 : ∀ k, k ≠ b → E9 k = E8 k := fun k hk => by rw [hE9]; exact va_up_ne _ _ hk
  have c_0 : E9 (b) = (.inr (1, [.int (nI 0), .int (nI 0), .int (nI 0), .int (nI 0), .int (nI 0), .int (nI 0), .int (nI 0), .int (nI 0), .int (nI 0), .ref (ad8 (b + 1)), .ref (ad8 (b + 2)), .ref (ad8 (b + 3)), .ref (ad8 (b + 4))])) := by rw [hE9]; exact va_up_self _ _ _
  have c_1 := (e_9 (b + 1) (by omega)).trans c_1
  have c_2 := (e_9 (b + 2) (by omega)).trans c_2
  have c_3 := (e_9 (b + 3) (by omega)).trans c_3
  have c_4 := (e_9 (b + 4) (by omega)).trans c_4
  refine lv_aload_n X.1 X.2.1 d_R_init_41 rfl (lv_at hl 0 rfl) ?_
  refine lv_iload_n X.1 X.2.1 d_R_init_42 rfl (lv_at hl 1 rfl) ?_
  refine zx_putF X hH fp_R_29 hnm rfl (by omega) c_0 (Nat.le_of_ble_eq_true rfl) rfl rfl d_R_init_43 (fun H locs hH => ?_)
  have hH : zw_H g A s.heap s (b + 5) ad8 (va_up E9 (b) (.inr (1, [.int (nI st), .int (nI 0), .int (nI 0), .int (nI 0), .int (nI 0), .int (nI 0), .int (nI 0), .int (nI 0), .int (nI 0), .ref (ad8 (b + 1)), .ref (ad8 (b + 2)), .ref (ad8 (b + 3)), .ref (ad8 (b + 4))]))) H locs := hH
  obtain ⟨E10, hE10⟩ : ∃ x, x = va_up E9 (b) (.inr (1, [.int (nI st), .int (nI 0), .int (nI 0), .int (nI 0), .int (nI 0), .int (nI 0), .int (nI 0), .int (nI 0), .int (nI 0), .ref (ad8 (b + 1)), .ref (ad8 (b + 2)), .ref (ad8 (b + 3)), .ref (ad8 (b + 4))])) := ⟨_, rfl⟩
  rw [← hE10] at hH
  have e_10 : ∀ k, k ≠ b → E10 k = E9 k := fun k hk => by rw [hE10]; exact va_up_ne _ _ hk
  have c_0 : E10 (b) = (.inr (1, [.int (nI st), .int (nI 0), .int (nI 0), .int (nI 0), .int (nI 0), .int (nI 0), .int (nI 0), .int (nI 0), .int (nI 0), .ref (ad8 (b + 1)), .ref (ad8 (b + 2)), .ref (ad8 (b + 3)), .ref (ad8 (b + 4))])) := by rw [hE10]; exact va_up_self _ _ _
  have c_1 := (e_10 (b + 1) (by omega)).trans c_1
  have c_2 := (e_10 (b + 2) (by omega)).trans c_2
  have c_3 := (e_10 (b + 3) (by omega)).trans c_3
  have c_4 := (e_10 (b + 4) (by omega)).trans c_4
  refine lv_aload_n X.1 X.2.1 d_R_init_46 rfl (lv_at hl 0 rfl) ?_
  refine lv_iload_n X.1 X.2.1 d_R_init_47 rfl (lv_at hl 2 rfl) ?_
  refine zx_putF X hH fp_R_32 hnm rfl (by omega) c_0 (Nat.le_of_ble_eq_true rfl) rfl rfl d_R_init_48 (fun H locs hH => ?_)
  have hH : zw_H g A s.heap s (b + 5) ad8 (va_up E10 (b) (.inr (1, [.int (nI st), .int (nI fl), .int (nI 0), .int (nI 0), .int (nI 0), .int (nI 0), .int (nI 0), .int (nI 0), .int (nI 0), .ref (ad8 (b + 1)), .ref (ad8 (b + 2)), .ref (ad8 (b + 3)), .ref (ad8 (b + 4))]))) H locs := hH
  obtain ⟨E11, hE11⟩ : ∃ x, x = va_up E10 (b) (.inr (1, [.int (nI st), .int (nI fl), .int (nI 0), .int (nI 0), .int (nI 0), .int (nI 0), .int (nI 0), .int (nI 0), .int (nI 0), .ref (ad8 (b + 1)), .ref (ad8 (b + 2)), .ref (ad8 (b + 3)), .ref (ad8 (b + 4))])) := ⟨_, rfl⟩
  rw [← hE11] at hH
  have e_11 : ∀ k, k ≠ b → E11 k = E10 k := fun k hk => by rw [hE11]; exact va_up_ne _ _ hk
  have c_0 : E11 (b) = (.inr (1, [.int (nI st), .int (nI fl), .int (nI 0), .int (nI 0), .int (nI 0), .int (nI 0), .int (nI 0), .int (nI 0), .int (nI 0), .ref (ad8 (b + 1)), .ref (ad8 (b + 2)), .ref (ad8 (b + 3)), .ref (ad8 (b + 4))])) := by rw [hE11]; exact va_up_self _ _ _
  have c_1 := (e_11 (b + 1) (by omega)).trans c_1
  have c_2 := (e_11 (b + 2) (by omega)).trans c_2
  have c_3 := (e_11 (b + 3) (by omega)).trans c_3
  have c_4 := (e_11 (b + 4) (by omega)).trans c_4
  exact zx_vret X hr hlk hH (by dsimp only; omega) (by dsimp only; omega) d_R_init_51 ⟨rfl, fun k hk => by rw [a_8 k (by omega), a_6 k (by omega), a_4 k (by omega), a_2 k (by omega)], ⟨c_0, c_1, c_2, c_3, c_4⟩, fun k hk => by rw [e_11 k (by omega), e_10 k (by omega), e_9 k (by omega), e_8 k (by omega), e_7 k (by omega), e_6 k (by omega), e_5 k (by omega), e_4 k (by omega), e_3 k (by omega), e_2 k (by omega), e_1 k (by omega)]⟩
