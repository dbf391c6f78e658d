def zp_q0 : Nat → Nat := fun j => if j = 4 then 16 else if j = 6 then 16 else 0
/-- region: the answer, the numbers, the regions -/
def zs_reg (q : Nat → Nat) (rg : zt_R) (x y : Int32) : Int32 × (Nat → Nat) × zt_R :=
  if (1 ≤ x.toInt ∧ x.toInt ≤ 100) ∧ 0 ≤ y.toInt ∧ y.toInt ≤ 100 then
    (if q 2 = 0 then (if 30 ≤ q 0 then (-1, q, rg) else (nI (q 0 + 1), va_up q 0 (q 0 + 1), va_up rg (q 0) (zp_new x.toInt.toNat y.toInt.toNat, fun _ _ => 0))) else (-5, q, rg))
  else (-4, q, rg)
section ZSR
variable {q : Nat → Nat} {rg : zt_R} {x y : Int32}
theorem zs_reg_bad (h : ¬ ((1 ≤ x.toInt ∧ x.toInt ≤ 100) ∧ 0 ≤ y.toInt ∧ y.toInt ≤ 100)) : zs_reg q rg x y = (-4, q, rg) := by
  unfold zs_reg; rw [if_neg h]
theorem zs_reg_off (h : (1 ≤ x.toInt ∧ x.toInt ≤ 100) ∧ 0 ≤ y.toInt ∧ y.toInt ≤ 100) (h2 : ¬ q 2 = 0) : zs_reg q rg x y = (-5, q, rg) := by
  unfold zs_reg; rw [if_pos h, if_neg h2]
theorem zs_reg_full (h : (1 ≤ x.toInt ∧ x.toInt ≤ 100) ∧ 0 ≤ y.toInt ∧ y.toInt ≤ 100) (h2 : q 2 = 0) (h3 : 30 ≤ q 0) : zs_reg q rg x y = (-1, q, rg) := by
  unfold zs_reg; rw [if_pos h, if_pos h2, if_pos h3]
theorem zs_reg_ok (h : (1 ≤ x.toInt ∧ x.toInt ≤ 100) ∧ 0 ≤ y.toInt ∧ y.toInt ≤ 100) (h2 : q 2 = 0) (h3 : ¬ 30 ≤ q 0) : zs_reg q rg x y = (nI (q 0 + 1), va_up q 0 (q 0 + 1), va_up rg (q 0) (zp_new x.toInt.toNat y.toInt.toNat, fun _ _ => 0)) := by
  unfold zs_reg; rw [if_pos h, if_pos h2, if_neg h3]
end ZSR
theorem zt_r_born {g : zw_G} {ad ad2 : Nat → Nat} {F n N : Nat} (hN : N = F + 5 * n) (h : ∀ k, k < N → ad2 k = ad k) : (Sum.inl (g.2 2, 30, .inr (.inr (.inr (.inr (va_up (fun i => if i < n then some (ad (F + 5 * i)) else none) n (some (ad2 N))))))) : va_E) = zt_r g ad2 F (n + 1) := by
  unfold zt_r
  have e : va_up (fun i => if i < n then some (ad (F + 5 * i)) else none) n (some (ad2 N)) = fun i => if i < n + 1 then some (ad2 (F + 5 * i)) else none := by
    funext i
    unfold va_up
    by_cases hi : i = n
    · subst hi; rw [if_pos rfl, if_pos (by omega), hN]
    · rw [if_neg hi]
      by_cases h2 : i < n
      · show (if i < n then _ else _) = _
        rw [if_pos h2, if_pos (by omega), h _ (by omega)]
      · show (if i < n then _ else _) = _
        rw [if_neg h2, if_neg (by omega)]
  rw [e]
theorem zt_at.born {g : zw_G} {ad ad2 : Nat → Nat} {E E4 : Nat → va_E} {F N : Nat} {q : Nat → Nat} {rg : zt_R} {ev sf lf : Nat → Nat} {r : (Nat → Nat) × (Nat → Nat → Nat)} (h : zt_at g ad E F q rg ev sf lf) (hF : 8 ≤ F) (hN : N = F + 5 * q 0) (ha : ∀ k, k < N → ad2 k = ad k) (h0 : E4 0 = zt_o ad2 (va_up q 0 (q 0 + 1))) (h1 : E4 1 = zt_r g ad2 F (q 0 + 1)) (he : ∀ k, 2 ≤ k → k < N → E4 k = E k) (hR : zr_at g ad2 E4 N r.1 r.2) : zt_at g ad2 E4 F (va_up q 0 (q 0 + 1)) (va_up rg (q 0) r) ev sf lf := by
  obtain ⟨-, -, h2, h3, h4, h5⟩ := h
  refine ⟨h0, h1, ⟨?_, ?_⟩, ⟨?_, ?_⟩, ⟨?_, ?_⟩, fun i hi => ?_⟩
  · rw [he 2 (by omega) (by omega), h2.1]; unfold ze_o; rw [ha 3 (by omega)]
  · rw [he 3 (by omega) (by omega)]; exact h2.2
  · rw [he 4 (by omega) (by omega), h3.1]; unfold zo_o; rw [ha 5 (by omega)]; rfl
  · rw [he 5 (by omega) (by omega)]; exact h3.2
  · rw [he 6 (by omega) (by omega), h4.1]; unfold zo_o; rw [ha 7 (by omega)]; rfl
  · rw [he 7 (by omega) (by omega)]; exact h4.2
  · have hi : i < q 0 + 1 := hi
    by_cases e : i = q 0
    · subst e
      rw [va_up_self, ← hN]
      exact hR
    · rw [va_up_ne _ _ e]
      exact ((h5 i (by omega)).keep (fun k a b => he k (by omega) (by omega))).ad (fun k a b => ha k (by omega))
theorem zt_r_0 {g : zw_G} {ad : Nat → Nat} (F : Nat) : zt_r g ad F 0 = .inl (g.2 2, 30, .inr (.inr (.inr (.inr (fun _ => none))))) := by
  unfold zt_r
  have e : (fun i => if i < 0 then some (ad (F + 5 * i)) else none) = (fun _ => none : Nat → Option Nat) := by funext i; rw [if_neg (Nat.not_lt_zero _)]
  rw [e]
set_option maxHeartbeats 4000000 in
set_option maxRecDepth 100000 in
theorem c_X_init (g : zw_G) (l : Launch) (ad : Nat → Nat) (E : Nat → va_E) (c_0 : E 0 = .inr (3, [.null, .null, .null, .null, .int (nI 0), .int (nI 0), .int (nI 0)])) : zc_v g l y_X_init b_X_init 1 { frames := 2, cells := 7, slots := 85, locals := 80 } [.ref (ad 0)] 1 ad E (fun N1 ad1 E1 => 8 = N1 ∧ ad1 0 = ad 0 ∧ ∀ (F : Nat) (rg : zt_R), zt_at g ad1 E1 F zp_q0 rg (fun _ => 0) (fun _ => 0) (fun _ => 0)) := by
  refine zc_v.of (by decide) (Nat.le_of_ble_eq_true rfl) ?_
  intro p e s m below meth c ls A X hr hlk hnm hl hH
  have hl : lv_has ls 1 [(0, .ref (ad 0))] := hl
  refine lv_aload_n X.1 X.2.1 d_X_init_0 rfl (lv_at hl 0 rfl) ?_
  refine zx_obj X hl zj_X (Nat.le_of_ble_eq_true rfl) (Nat.le_of_ble_eq_true rfl) d_X_init_1 ?_
  refine lv_aload_n X.1 X.2.1 d_X_init_4 rfl (lv_at hl 0 rfl) ?_
  refine lv_bipush (v := nI 30) X.1 X.2.1 d_X_init_5 (by decide) ?_
  refine zx_newq (j := 30) X hH zk_X_9 rfl (by decide) (by dsimp only; omega) (by dsimp only; omega) d_X_init_7 (fun q0 H hH => ?_)
  have hH : zw_H g A s.heap s (1 + 1) (va_up ad (1) q0) (va_up E (1) (.inl (g.2 2, 30, .inr (.inr (.inr (.inr (fun _ => none))))))) H _ := hH
  obtain ⟨ad1, had1⟩ : ∃ x, x = va_up ad (1) q0 := ⟨_, rfl⟩
  obtain ⟨E1, hE1⟩ : ∃ x, x = va_up E (1) (.inl (g.2 2, 30, .inr (.inr (.inr (.inr (fun _ => none)))))) := ⟨_, rfl⟩
  rw [← had1, ← hE1] at hH
  have a_1 : ∀ k, k < 1 → ad1 k = ad k := fun k hk => by rw [had1]; exact va_up_ne _ _ (by omega)
  have e_1 : ∀ k, k ≠ 1 → E1 k = E k := fun k hk => by rw [hE1]; exact va_up_ne _ _ hk
  have n_1 : E1 (1) = (.inl (g.2 2, 30, .inr (.inr (.inr (.inr (fun _ => none)))))) := by rw [hE1]; exact va_up_self _ _ _
  refine W.eq (g2 := F0 m 10 ls [.ref (ad1 (1)), .ref (ad1 (0))]) (by rw [had1, va_up_ne _ _ (show 0 ≠ 1 by omega)]) ?_
  rw [← a_1 (0) (by omega)] at hl
  have c_0 := (e_1 (0) (by omega)).trans c_0
  have c_1 := n_1
  refine zx_putF X hH fp_X_11 hnm rfl (by omega) c_0 (Nat.le_of_ble_eq_true rfl) rfl rfl d_X_init_10 (fun H locs hH => ?_)
  have hH : zw_H g A s.heap s (2) ad1 (va_up E1 (0) (.inr (3, [.ref (ad1 1), .null, .null, .null, .int (nI 0), .int (nI 0), .int (nI 0)]))) H locs := hH
  obtain ⟨E2, hE2⟩ : ∃ x, x = va_up E1 (0) (.inr (3, [.ref (ad1 1), .null, .null, .null, .int (nI 0), .int (nI 0), .int (nI 0)])) := ⟨_, rfl⟩
  rw [← hE2] at hH
  have e_2 : ∀ k, k ≠ 0 → E2 k = E1 k := fun k hk => by rw [hE2]; exact va_up_ne _ _ hk
  have c_0 : E2 (0) = (.inr (3, [.ref (ad1 1), .null, .null, .null, .int (nI 0), .int (nI 0), .int (nI 0)])) := by rw [hE2]; exact va_up_self _ _ _
  have c_1 := (e_2 (1) (by omega)).trans c_1
  refine lv_aload_n X.1 X.2.1 d_X_init_13 rfl (lv_at hl 0 rfl) ?_
  refine zx_new (ci := 0) (fs := [.null]) X hH rfl zI_V zY_V zP_V zk_X_15 zi_V zl_V (fun j hj => match j, hj with | 0, _ => rfl | (n + 1), h => absurd h (by omega)) (by dsimp only; omega) (by dsimp only; omega) d_X_init_14 (fun q0 H hH => ?_)
  have hH : zw_H g A s.heap s (2 + 1) (va_up ad1 (2) q0) (va_up E2 (2) (.inr (0, [.null]))) H _ := hH
  obtain ⟨ad3, had3⟩ : ∃ x, x = va_up ad1 (2) q0 := ⟨_, rfl⟩
  obtain ⟨E3, hE3⟩ : ∃ x, x = va_up E2 (2) (.inr (0, [.null])) := ⟨_, rfl⟩
  rw [← had3, ← hE3] at hH
  have a_3 : ∀ k, k < 2 → ad3 k = ad1 k := fun k hk => by rw [had3]; exact va_up_ne _ _ (by omega)
  have e_3 : ∀ k, k ≠ 2 → E3 k = E2 k := fun k hk => by rw [hE3]; exact va_up_ne _ _ hk
  have n_3 : E3 (2) = (.inr (0, [.null])) := by rw [hE3]; exact va_up_self _ _ _
  refine W.eq (g2 := F0 m 17 ls [.ref (ad3 (2)), .ref (ad3 (0))]) (by rw [had3, va_up_ne _ _ (show 0 ≠ 2 by omega)]) ?_
  rw [← a_3 (0) (by omega)] at hl
  have c_0 := (e_3 (0) (by omega)).trans c_0
  have c_1 := (e_3 (1) (by omega)).trans c_1
  have c_2 := n_3
  have c_0 : E3 0 = (.inr (3, [.ref (ad3 1), .null, .null, .null, .int (nI 0), .int (nI 0), .int (nI 0)])) := by rw [a_3 1 (by omega)]; exact c_0
  refine lv_dup X.1 X.2.1 d_X_init_17 rfl ?_
  refine zx_callv (zx_runIN (As := []) (rest := [.ref (ad3 (2)), .ref (ad3 (0))]) X hH mi_X_17 hH.1.2.1 ((c_V_init g l ad3 E3 2 c_2) _) ⟨Nat.le_of_ble_eq_true rfl, Nat.le_of_ble_eq_true rfl⟩ rfl hl rfl (Nat.le_of_ble_eq_true rfl) d_X_init_18 ⟨(by dsimp only; omega), (by dsimp only; omega)⟩) hH (fun N1 ad4 E4 H locs hq hH => ?_)
  obtain ⟨rfl, a_4, hV, e_4⟩ := hq
  have c_0 := (e_4 (0) (by omega)).trans c_0
  have c_1 := (e_4 (1) (by omega)).trans c_1
  have c_2 := hV.1
  have c_3 := hV.2
  have c_0 : E4 0 = (.inr (3, [.ref (ad4 1), .null, .null, .null, .int (nI 0), .int (nI 0), .int (nI 0)])) := by rw [a_4 1 (by omega)]; exact c_0
  refine W.eq (g2 := F0 m 21 ls [.ref (ad4 (2)), .ref (ad4 (0))]) (by rw [a_4 2 (by omega), a_4 0 (by omega)]) ?_
  rw [← a_4 0 (by omega)] at hl
  refine zx_putF X hH fp_X_18 hnm rfl (by omega) c_0 (Nat.le_of_ble_eq_true rfl) rfl rfl d_X_init_21 (fun H locs hH => ?_)
  have hH : zw_H g A s.heap s (4) ad4 (va_up E4 (0) (.inr (3, [.ref (ad4 1), .ref (ad4 2), .null, .null, .int (nI 0), .int (nI 0), .int (nI 0)]))) H locs := hH
  obtain ⟨E5, hE5⟩ : ∃ x, x = va_up E4 (0) (.inr (3, [.ref (ad4 1), .ref (ad4 2), .null, .null, .int (nI 0), .int (nI 0), .int (nI 0)])) := ⟨_, rfl⟩
  rw [← hE5] at hH
  have e_5 : ∀ k, k ≠ 0 → E5 k = E4 k := fun k hk => by rw [hE5]; exact va_up_ne _ _ hk
  have c_0 : E5 (0) = (.inr (3, [.ref (ad4 1), .ref (ad4 2), .null, .null, .int (nI 0), .int (nI 0), .int (nI 0)])) := by rw [hE5]; exact va_up_self _ _ _
  have c_1 := (e_5 (1) (by omega)).trans c_1
  have c_2 := (e_5 (2) (by omega)).trans c_2
  have c_3 := (e_5 (3) (by omega)).trans c_3
  refine lv_aload_n X.1 X.2.1 d_X_init_24 rfl (lv_at hl 0 rfl) ?_
  refine zx_new (ci := 2) (fs := [.int (nI 0), .null, .int (nI 0)]) X hH rfl zI_O zY_O zP_O zk_X_22 zi_O zl_O (fun j hj => match j, hj with | 0, _ => rfl | 1, _ => rfl | 2, _ => rfl | (n + 3), h => absurd h (by omega)) (by dsimp only; omega) (by dsimp only; omega) d_X_init_25 (fun q0 H hH => ?_)
  have hH : zw_H g A s.heap s (4 + 1) (va_up ad4 (4) q0) (va_up E5 (4) (.inr (2, [.int (nI 0), .null, .int (nI 0)]))) H _ := hH
  obtain ⟨ad6, had6⟩ : ∃ x, x = va_up ad4 (4) q0 := ⟨_, rfl⟩
  obtain ⟨E6, hE6⟩ : ∃ x, x = va_up E5 (4) (.inr (2, [.int (nI 0), .null, .int (nI 0)])) := ⟨_, rfl⟩
  rw [← had6, ← hE6] at hH
  have a_6 : ∀ k, k < 4 → ad6 k = ad4 k := fun k hk => by rw [had6]; exact va_up_ne _ _ (by omega)
  have e_6 : ∀ k, k ≠ 4 → E6 k = E5 k := fun k hk => by rw [hE6]; exact va_up_ne _ _ hk
  have n_6 : E6 (4) = (.inr (2, [.int (nI 0), .null, .int (nI 0)])) := by rw [hE6]; exact va_up_self _ _ _
  refine W.eq (g2 := F0 m 28 ls [.ref (ad6 (4)), .ref (ad6 (0))]) (by rw [had6, va_up_ne _ _ (show 0 ≠ 4 by omega)]) ?_
  rw [← a_6 (0) (by omega)] at hl
  have c_0 := (e_6 (0) (by omega)).trans c_0
  have c_1 := (e_6 (1) (by omega)).trans c_1
  have c_2 := (e_6 (2) (by omega)).trans c_2
  have c_3 := (e_6 (3) (by omega)).trans c_3
  have c_4 := n_6
  have c_0 : E6 0 = (.inr (3, [.ref (ad6 1), .ref (ad6 2), .null, .null, .int (nI 0), .int (nI 0), .int (nI 0)])) := by rw [a_6 1 (by omega), a_6 2 (by omega)]; exact c_0
  have c_2 : E6 2 = ze_o ad6 3 := by unfold ze_o; rw [a_6 3 (by omega)]; exact c_2
  refine lv_dup X.1 X.2.1 d_X_init_28 rfl ?_
  refine lv_sipush (v := nI 600) X.1 X.2.1 d_X_init_29 (by decide) ?_
  refine zx_callv (zx_runI (As := [.int (nI 600)]) (rest := [.ref (ad6 (4)), .ref (ad6 (0))]) X hH mi_X_24 ((c_O_init g l ad6 E6 4 600 c_4) _) ⟨Nat.le_of_ble_eq_true rfl, Nat.le_of_ble_eq_true rfl⟩ rfl hl rfl (Nat.le_of_ble_eq_true rfl) d_X_init_32 ⟨(by dsimp only; omega), (by dsimp only; omega)⟩) hH (fun N1 ad7 E7 H locs hq hH => ?_)
  obtain ⟨rfl, a_7, hV, e_7⟩ := hq
  have c_0 := (e_7 (0) (by omega)).trans c_0
  have c_1 := (e_7 (1) (by omega)).trans c_1
  have c_2 := (e_7 (2) (by omega)).trans c_2
  have c_3 := (e_7 (3) (by omega)).trans c_3
  have c_4 := hV.1
  have c_5 := hV.2
  have c_0 : E7 0 = (.inr (3, [.ref (ad7 1), .ref (ad7 2), .null, .null, .int (nI 0), .int (nI 0), .int (nI 0)])) := by rw [a_7 1 (by omega), a_7 2 (by omega)]; exact c_0
  have c_2 : E7 2 = ze_o ad7 3 := by unfold ze_o; rw [a_7 3 (by omega)]; exact c_2
  refine W.eq (g2 := F0 m 35 ls [.ref (ad7 (4)), .ref (ad7 (0))]) (by rw [a_7 4 (by omega), a_7 0 (by omega)]) ?_
  rw [← a_7 0 (by omega)] at hl
  refine zx_putF X hH fp_X_27 hnm rfl (by omega) c_0 (Nat.le_of_ble_eq_true rfl) rfl rfl d_X_init_35 (fun H locs hH => ?_)
  have hH : zw_H g A s.heap s (6) ad7 (va_up E7 (0) (.inr (3, [.ref (ad7 1), .ref (ad7 2), .ref (ad7 4), .null, .int (nI 0), .int (nI 0), .int (nI 0)]))) H locs := hH
  obtain ⟨E8, hE8⟩ : ∃ x, x = va_up E7 (0) (.inr (3, [.ref (ad7 1), .ref (ad7 2), .ref (ad7 4), .null, .int (nI 0), .int (nI 0), .int (nI 0)])) := ⟨_, rfl⟩
  rw [← hE8] at hH
  have e_8 : ∀ k, k ≠ 0 → E8 k = E7 k := fun k hk => by rw [hE8]; exact va_up_ne _ _ hk
  have c_0 : E8 (0) = (.inr (3, [.ref (ad7 1), .ref (ad7 2), .ref (ad7 4), .null, .int (nI 0), .int (nI 0), .int (nI 0)])) := by rw [hE8]; exact va_up_self _ _ _
  have c_1 := (e_8 (1) (by omega)).trans c_1
  have c_2 := (e_8 (2) (by omega)).trans c_2
  have c_3 := (e_8 (3) (by omega)).trans c_3
  have c_4 := (e_8 (4) (by omega)).trans c_4
  have c_5 := (e_8 (5) (by omega)).trans c_5
  refine lv_aload_n X.1 X.2.1 d_X_init_38 rfl (lv_at hl 0 rfl) ?_
  refine zx_new (ci := 2) (fs := [.int (nI 0), .null, .int (nI 0)]) X hH rfl zI_O zY_O zP_O zk_X_22 zi_O zl_O (fun j hj => match j, hj with | 0, _ => rfl | 1, _ => rfl | 2, _ => rfl | (n + 3), h => absurd h (by omega)) (by dsimp only; omega) (by dsimp only; omega) d_X_init_39 (fun q0 H hH => ?_)
  have hH : zw_H g A s.heap s (6 + 1) (va_up ad7 (6) q0) (va_up E8 (6) (.inr (2, [.int (nI 0), .null, .int (nI 0)]))) H _ := hH
  obtain ⟨ad9, had9⟩ : ∃ x, x = va_up ad7 (6) q0 := ⟨_, rfl⟩
  obtain ⟨E9, hE9⟩ : ∃ x, x = va_up E8 (6) (.inr (2, [.int (nI 0), .null, .int (nI 0)])) := ⟨_, rfl⟩
  rw [← had9, ← hE9] at hH
  have a_9 : ∀ k, k < 6 → ad9 k = ad7 k := fun k hk => by rw [had9]; exact va_up_ne _ _ (by omega)
  have e_9 : ∀ k, k ≠ 6 → E9 k = E8 k := fun k hk => by rw [hE9]; exact va_up_ne _ _ hk
  have n_9 : E9 (6) = (.inr (2, [.int (nI 0), .null, .int (nI 0)])) := by rw [hE9]; exact va_up_self _ _ _
  refine W.eq (g2 := F0 m 42 ls [.ref (ad9 (6)), .ref (ad9 (0))]) (by rw [had9, va_up_ne _ _ (show 0 ≠ 6 by omega)]) ?_
  rw [← a_9 (0) (by omega)] at hl
  have c_0 := (e_9 (0) (by omega)).trans c_0
  have c_1 := (e_9 (1) (by omega)).trans c_1
  have c_2 := (e_9 (2) (by omega)).trans c_2
  have c_3 := (e_9 (3) (by omega)).trans c_3
  have c_4 := (e_9 (4) (by omega)).trans c_4
  have c_5 := (e_9 (5) (by omega)).trans c_5
  have c_6 := n_9
  have c_0 : E9 0 = (.inr (3, [.ref (ad9 1), .ref (ad9 2), .ref (ad9 4), .null, .int (nI 0), .int (nI 0), .int (nI 0)])) := by rw [a_9 1 (by omega), a_9 2 (by omega), a_9 4 (by omega)]; exact c_0
  have c_2 : E9 2 = ze_o ad9 3 := by unfold ze_o; rw [a_9 3 (by omega)]; exact c_2
  have c_4 : E9 4 = zo_o ad9 5 600 0 := by unfold zo_o; rw [a_9 5 (by omega)]; exact c_4
  refine lv_dup X.1 X.2.1 d_X_init_42 rfl ?_
  refine lv_sipush (v := nI 3000) X.1 X.2.1 d_X_init_43 (by decide) ?_
  refine zx_callv (zx_runI (As := [.int (nI 3000)]) (rest := [.ref (ad9 (6)), .ref (ad9 (0))]) X hH mi_X_24 ((c_O_init g l ad9 E9 6 3000 c_6) _) ⟨Nat.le_of_ble_eq_true rfl, Nat.le_of_ble_eq_true rfl⟩ rfl hl rfl (Nat.le_of_ble_eq_true rfl) d_X_init_46 ⟨(by dsimp only; omega), (by dsimp only; omega)⟩) hH (fun N1 ad10 E10 H locs hq hH => ?_)
  obtain ⟨rfl, a_10, hV, e_10⟩ := hq
  have c_0 := (e_10 (0) (by omega)).trans c_0
  have c_1 := (e_10 (1) (by omega)).trans c_1
  have c_2 := (e_10 (2) (by omega)).trans c_2
  have c_3 := (e_10 (3) (by omega)).trans c_3
  have c_4 := (e_10 (4) (by omega)).trans c_4
  have c_5 := (e_10 (5) (by omega)).trans c_5
  have c_6 := hV.1
  have c_7 := hV.2
  have c_0 : E10 0 = (.inr (3, [.ref (ad10 1), .ref (ad10 2), .ref (ad10 4), .null, .int (nI 0), .int (nI 0), .int (nI 0)])) := by rw [a_10 1 (by omega), a_10 2 (by omega), a_10 4 (by omega)]; exact c_0
  have c_2 : E10 2 = ze_o ad10 3 := by unfold ze_o; rw [a_10 3 (by omega)]; exact c_2
  have c_4 : E10 4 = zo_o ad10 5 600 0 := by unfold zo_o; rw [a_10 5 (by omega)]; exact c_4
  refine W.eq (g2 := F0 m 49 ls [.ref (ad10 (6)), .ref (ad10 (0))]) (by rw [a_10 6 (by omega), a_10 0 (by omega)]) ?_
  rw [← a_10 0 (by omega)] at hl
  refine zx_putF X hH fp_X_31 hnm rfl (by omega) c_0 (Nat.le_of_ble_eq_true rfl) rfl rfl d_X_init_49 (fun H locs hH => ?_)
  have hH : zw_H g A s.heap s (8) ad10 (va_up E10 (0) (.inr (3, [.ref (ad10 1), .ref (ad10 2), .ref (ad10 4), .ref (ad10 6), .int (nI 0), .int (nI 0), .int (nI 0)]))) H locs := hH
  obtain ⟨E11, hE11⟩ : ∃ x, x = va_up E10 (0) (.inr (3, [.ref (ad10 1), .ref (ad10 2), .ref (ad10 4), .ref (ad10 6), .int (nI 0), .int (nI 0), .int (nI 0)])) := ⟨_, rfl⟩
  rw [← hE11] at hH
  have e_11 : ∀ k, k ≠ 0 → E11 k = E10 k := fun k hk => by rw [hE11]; exact va_up_ne _ _ hk
  have c_0 : E11 (0) = (.inr (3, [.ref (ad10 1), .ref (ad10 2), .ref (ad10 4), .ref (ad10 6), .int (nI 0), .int (nI 0), .int (nI 0)])) := by rw [hE11]; exact va_up_self _ _ _
  have c_1 := (e_11 (1) (by omega)).trans c_1
  have c_2 := (e_11 (2) (by omega)).trans c_2
  have c_3 := (e_11 (3) (by omega)).trans c_3
  have c_4 := (e_11 (4) (by omega)).trans c_4
  have c_5 := (e_11 (5) (by omega)).trans c_5
  have c_6 := (e_11 (6) (by omega)).trans c_6
  have c_7 := (e_11 (7) (by omega)).trans c_7
  exact zx_vret X hr hlk hH (by dsimp only; omega) (by dsimp only; omega) d_X_init_52 ⟨rfl, (fun k hk => by rw [a_10 k (by omega), a_9 k (by omega), a_7 k (by omega), a_6 k (by omega), a_4 k (by omega), a_3 k (by omega), a_1 k (by omega)] : ∀ k, k < 1 → ad10 k = ad k) 0 (by decide), fun F rg => ⟨c_0, c_1.trans (zt_r_0 F).symm, ⟨c_2, c_3⟩, ⟨c_4, c_5⟩, ⟨c_6, c_7⟩, fun i hi => absurd (show i < 0 from hi) (Nat.not_lt_zero _)⟩⟩
set_option maxHeartbeats 4000000 in
set_option maxRecDepth 100000 in
theorem c_X_region (g : zw_G) (l : Launch) (N : Nat) (ad : Nat → Nat) (E : Nat → va_E) (F : Nat) (q : Nat → Nat) (rg : zt_R) (ev sf lf : Nat → Nat) (hF8 : 8 ≤ F) (hN : N = F + 5 * q 0) (hT : zt_at g ad E F q rg ev sf lf) (hok : zt_ok q rg ev sf) (x y : Int32) (kc ks : Nat) (hkc : 5 * (zs_reg q rg x y).2.1 0 ≤ 5 * q 0 + kc) (hks : 174 * (zs_reg q rg x y).2.1 0 ≤ 174 * q 0 + ks) : zc_i g l y_X_region b_X_region 3 (some .int) { frames := 2, cells := kc, slots := ks, locals := 80 } [.ref (ad (0)), .int (x), .int (y)] N ad E (fun v N1 ad1 E1 => F + 5 * (zs_reg q rg x y).2.1 0 = N1 ∧ (∀ k, k < N → ad1 k = ad k) ∧ v = (zs_reg q rg x y).1 ∧ zt_at g ad1 E1 F (zs_reg q rg x y).2.1 (zs_reg q rg x y).2.2 ev sf lf ∧ zt_fr E E1 F) := by
  refine zc_i.of (by decide) (Nat.le_of_ble_eq_true rfl) ?_
  intro p e s m below meth c ls A X hr hlk hl hH
  have hl : lv_has ls 3 [(0, .ref (ad (0))), (1, .int (x)), (2, .int (y))] := hl
  obtain ⟨k0, k2, k3, k3a, k4, k4a, k5, k5a, k6, k6a⟩ := hok.1
  refine lv_iload_n X.1 X.2.1 d_X_region_0 rfl (lv_at hl 1 rfl) ?_
  refine lv_iconst (v := nI 1) X.1 X.2.1 d_X_region_1 (by decide) ?_
  refine lv_icmp_lt (tgt := 21) X.1 X.2.1 d_X_region_2 (by decide) (fun c1 => ?_) (fun c1 => ?_)
  · have c1 := (zn_lt rfl (nI_toInt (by omega))).mp c1
    refine lv_bipush (v := (-4)) X.1 X.2.1 d_X_region_21 (by decide) ?_
    exact zx_iret X hr hlk hH (by dsimp only; omega) (by dsimp only; omega) d_X_region_23 ⟨by rw [zs_reg_bad (by omega)]; exact hN.symm, fun _ _ => rfl, by rw [zs_reg_bad (by omega)], by rw [zs_reg_bad (by omega)]; exact hT, zt_fr.rf⟩
  · have c1 := mt (zn_lt rfl (nI_toInt (by omega))).mpr c1
    refine lv_iload_n X.1 X.2.1 d_X_region_5 rfl (lv_at hl 1 rfl) ?_
    refine lv_bipush (v := nI 100) X.1 X.2.1 d_X_region_6 (by decide) ?_
    refine lv_icmp_gt (tgt := 21) X.1 X.2.1 d_X_region_8 (by decide) (fun c2 => ?_) (fun c2 => ?_)
    · have c2 := (zn_lt (nI_toInt (by omega)) rfl).mp c2
      refine lv_bipush (v := (-4)) X.1 X.2.1 d_X_region_21 (by decide) ?_
      exact zx_iret X hr hlk hH (by dsimp only; omega) (by dsimp only; omega) d_X_region_23 ⟨by rw [zs_reg_bad (by omega)]; exact hN.symm, fun _ _ => rfl, by rw [zs_reg_bad (by omega)], by rw [zs_reg_bad (by omega)]; exact hT, zt_fr.rf⟩
    · have c2 := mt (zn_lt (nI_toInt (by omega)) rfl).mpr c2
      refine lv_iload_n X.1 X.2.1 d_X_region_11 rfl (lv_at hl 2 rfl) ?_
      refine lv_if_lt (tgt := 21) X.1 X.2.1 d_X_region_12 (by decide) (fun c3 => ?_) (fun c3 => ?_)
      · have c3 := (zn_lt rfl zn_0).mp c3
        refine lv_bipush (v := (-4)) X.1 X.2.1 d_X_region_21 (by decide) ?_
        exact zx_iret X hr hlk hH (by dsimp only; omega) (by dsimp only; omega) d_X_region_23 ⟨by rw [zs_reg_bad (by omega)]; exact hN.symm, fun _ _ => rfl, by rw [zs_reg_bad (by omega)], by rw [zs_reg_bad (by omega)]; exact hT, zt_fr.rf⟩
      · have c3 := mt (zn_lt rfl zn_0).mpr c3
        refine lv_iload_n X.1 X.2.1 d_X_region_15 rfl (lv_at hl 2 rfl) ?_
        refine lv_bipush (v := nI 100) X.1 X.2.1 d_X_region_16 (by decide) ?_
        refine lv_icmp_le (tgt := 24) X.1 X.2.1 d_X_region_18 (by decide) (fun c4 => ?_) (fun c4 => ?_)
        · have c4 := (zn_le rfl (nI_toInt (by omega))).mp c4
          refine lv_aload_n X.1 X.2.1 d_X_region_24 rfl (lv_at hl 0 rfl) ?_
          refine zx_get (v := .int (nI (q 2))) X hH fg_X_34 (by omega) hT.1 rfl d_X_region_25 ?_
          refine lv_if_eq (tgt := 34) X.1 X.2.1 d_X_region_28 (by decide) (fun c5 => ?_) (fun c5 => ?_)
          · have c5 := (zn_eq (nI_toInt (by omega)) zn_0).mp c5
            refine lv_aload_n X.1 X.2.1 d_X_region_34 rfl (lv_at hl 0 rfl) ?_
            refine zx_get (v := .int (nI (q 0))) X hH fg_X_38 (by omega) hT.1 rfl d_X_region_35 ?_
            refine lv_bipush (v := nI 30) X.1 X.2.1 d_X_region_38 (by decide) ?_
            refine lv_icmp_lt (tgt := 45) X.1 X.2.1 d_X_region_40 (by decide) (fun c6 => ?_) (fun c6 => ?_)
            · have c6 := (zn_lt (nI_toInt (by omega)) (nI_toInt (by omega))).mp c6
              refine lv_aload_n X.1 X.2.1 d_X_region_45 rfl (lv_at hl 0 rfl) ?_
              refine zx_get (v := .ref (ad (1))) X hH fg_X_11 (by omega) hT.1 rfl d_X_region_46 ?_
              refine lv_aload_n X.1 X.2.1 d_X_region_49 rfl (lv_at hl 0 rfl) ?_
              refine zx_get (v := .int (nI (q 0))) X hH fg_X_38 (by omega) hT.1 rfl d_X_region_50 ?_
              have hok9 := zs_reg_ok (q := q) (rg := rg) (x := x) (y := y) ⟨⟨by omega, by omega⟩, by omega, by omega⟩ (by omega) (by omega)
              rw [hok9] at hkc hks
              have hkc : 5 * (q 0 + 1) ≤ 5 * q 0 + kc := hkc
              have hks : 174 * (q 0 + 1) ≤ 174 * q 0 + ks := hks
              refine zx_new (ci := 1) (fs := [.int (nI 0), .int (nI 0), .int (nI 0), .int (nI 0), .int (nI 0), .int (nI 0), .int (nI 0), .int (nI 0), .int (nI 0), .null, .null, .null, .null]) X hH rfl zI_R zY_R zP_R zk_X_9 zi_R zl_R (fun j hj => match j, hj with | 0, _ => rfl | 1, _ => rfl | 2, _ => rfl | 3, _ => rfl | 4, _ => rfl | 5, _ => rfl | 6, _ => rfl | 7, _ => rfl | 8, _ => rfl | 9, _ => rfl | 10, _ => rfl | 11, _ => rfl | 12, _ => rfl | (n + 13), h => absurd h (by omega)) (by dsimp only; omega) (by dsimp only; omega) d_X_region_53 (fun q9 H hH => ?_)
              obtain ⟨ad1, had1⟩ : ∃ x, x = va_up ad N q9 := ⟨_, rfl⟩
              obtain ⟨E1, hE1⟩ : ∃ x, x = va_up E N (.inr (1, [.int (nI 0), .int (nI 0), .int (nI 0), .int (nI 0), .int (nI 0), .int (nI 0), .int (nI 0), .int (nI 0), .int (nI 0), .null, .null, .null, .null])) := ⟨_, rfl⟩
              rw [← hE1] at hH
              have a_1 : ∀ k, k < N → ad1 k = ad k := fun k hk => by rw [had1]; exact va_up_ne _ _ (by omega)
              have e_1 : ∀ k, k < N → E1 k = E k := fun k hk => by rw [hE1]; exact va_up_ne _ _ (by omega)
              have n_1 : E1 N = .inr (1, [.int (nI 0), .int (nI 0), .int (nI 0), .int (nI 0), .int (nI 0), .int (nI 0), .int (nI 0), .int (nI 0), .int (nI 0), .null, .null, .null, .null]) := by rw [hE1]; exact va_up_self _ _ _
              refine W.eq (g2 := F0 m 56 ls [.ref (ad1 N), .int (nI (q 0)), .ref (ad1 1)]) (by rw [a_1 1 (by omega), had1]) ?_
              rw [← had1] at hH
              rw [← a_1 0 (by omega)] at hl
              refine lv_dup X.1 X.2.1 d_X_region_56 rfl ?_
              refine lv_iload_n X.1 X.2.1 d_X_region_57 rfl (lv_at hl 1 rfl) ?_
              refine zx_top (zn_nat (x := x) (by omega)) ?_
              refine lv_iload_n X.1 X.2.1 d_X_region_58 rfl (lv_at hl 2 rfl) ?_
              refine zx_top (zn_nat (x := y) (by omega)) ?_
              refine zx_callv (zx_runI (As := [.int (nI x.toInt.toNat), .int (nI y.toInt.toNat)]) (rest := [.ref (ad1 N), .int (nI (q 0)), .ref (ad1 1)]) X hH mi_X_42 ((c_R_init g l ad1 E1 N x.toInt.toNat y.toInt.toNat n_1) _) ⟨Nat.le_of_ble_eq_true rfl, Nat.le_of_ble_eq_true rfl⟩ rfl hl rfl (Nat.le_of_ble_eq_true rfl) d_X_region_59 ⟨(by dsimp only; omega), (by dsimp only; omega)⟩) hH (fun N1 ad2 E2 H locs hq hH => ?_)
              obtain ⟨rfl, a_2, hR, e_2⟩ := hq
              have a2 : ∀ k, k < N → ad2 k = ad k := fun k hk => (a_2 k (by omega)).trans (a_1 k hk)
              have e2 : ∀ k, k < N → E2 k = E k := fun k hk => (e_2 k hk).trans (e_1 k hk)
              refine W.eq (g2 := F0 m 62 ls [.ref (ad2 N), .int (nI (q 0)), .ref (ad2 1)]) (by rw [a_2 N (by omega), a_2 1 (by omega)]) ?_
              rw [← a_2 0 (by omega)] at hl
              refine zx_aast (j := q 0) X hH (show 1 < N + 5 by omega) ((e2 1 (by omega)).trans hT.2.1) (show N < N + 5 by omega) hR.1 rfl (by omega) (by decide) d_X_region_62 (fun H locs hH => ?_)
              rw [zt_r_born hN a2] at hH
              obtain ⟨E3, hE3⟩ : ∃ x, x = va_up E2 1 (zt_r g ad2 F (q 0 + 1)) := ⟨_, rfl⟩
              rw [← hE3] at hH
              have e3 : ∀ k, k ≠ 1 → E3 k = E2 k := fun k hk => by rw [hE3]; exact va_up_ne _ _ hk
              have n3 : E3 1 = zt_r g ad2 F (q 0 + 1) := by rw [hE3]; exact va_up_self _ _ _
              have c_0 : E3 0 = zt_o ad2 q := by rw [e3 0 (by decide), e2 0 (by omega), hT.1]; unfold zt_o; rw [a2 1 (by omega), a2 2 (by omega), a2 4 (by omega), a2 6 (by omega)]
              refine lv_aload_n X.1 X.2.1 d_X_region_63 rfl (lv_at hl 0 rfl) ?_
              refine lv_dup X.1 X.2.1 d_X_region_64 rfl ?_
              refine zx_get (v := .int (nI (q 0))) X hH fg_X_38 (by omega) c_0 rfl d_X_region_65 ?_
              refine lv_iconst (v := nI 1) X.1 X.2.1 d_X_region_68 (by decide) ?_
              refine lv_iadd X.1 X.2.1 d_X_region_69 ?_
              refine zx_top (nI_add _ _) ?_
              refine zx_put X hH fp_X_38 (by omega) c_0 (Nat.le_of_ble_eq_true rfl) rfl rfl d_X_region_70 (fun H locs hH => ?_)
              have hH : zw_H g A s.heap s (N + 5) ad2 (va_up E3 0 (zt_o ad2 (va_up q 0 (q 0 + 1)))) H locs := hH
              obtain ⟨E4, hE4⟩ : ∃ x, x = va_up E3 0 (zt_o ad2 (va_up q 0 (q 0 + 1))) := ⟨_, rfl⟩
              rw [← hE4] at hH
              have e4 : ∀ k, k ≠ 0 → E4 k = E3 k := fun k hk => by rw [hE4]; exact va_up_ne _ _ hk
              have n4 : E4 0 = zt_o ad2 (va_up q 0 (q 0 + 1)) := by rw [hE4]; exact va_up_self _ _ _
              have hT := hT.born (r := (zp_new x.toInt.toNat y.toInt.toNat, fun _ _ => 0)) hF8 hN a2 n4 ((e4 1 (by decide)).trans n3) (fun k h1 h2 => by rw [e4 k (by omega), e3 k (by omega)]; exact e2 k h2) (hR.keep (fun k h1 h2 => by rw [e4 k (by omega), e3 k (by omega)]))
              have hfr : zt_fr E E4 F := fun k h1 h2 => by rw [e4 k (by omega), e3 k (by omega)]; exact e2 k (by omega)
              refine lv_aload_n X.1 X.2.1 d_X_region_73 rfl (lv_at hl 0 rfl) ?_
              refine zx_get (v := .int (nI (q 0 + 1))) X hH fg_X_38 (by omega) hT.1 rfl d_X_region_74 ?_
              exact zx_iret X hr hlk hH (by dsimp only; omega) (by dsimp only; omega) d_X_region_77 ⟨by rw [hok9]; show F + 5 * (q 0 + 1) = N + 5; omega, a2, by rw [hok9], by rw [hok9]; exact hT, hfr⟩
            · have c6 := mt (zn_lt (nI_toInt (by omega)) (nI_toInt (by omega))).mpr c6
              refine lv_iconst (v := (-1)) X.1 X.2.1 d_X_region_43 (by decide) ?_
              exact zx_iret X hr hlk hH (by dsimp only; omega) (by dsimp only; omega) d_X_region_44 ⟨by rw [zs_reg_full ⟨⟨by omega, by omega⟩, by omega, by omega⟩ (by omega) (by omega)]; exact hN.symm, fun _ _ => rfl, by rw [zs_reg_full ⟨⟨by omega, by omega⟩, by omega, by omega⟩ (by omega) (by omega)], by rw [zs_reg_full ⟨⟨by omega, by omega⟩, by omega, by omega⟩ (by omega) (by omega)]; exact hT, zt_fr.rf⟩
          · have c5 := mt (zn_eq (nI_toInt (by omega)) zn_0).mpr c5
            refine lv_bipush (v := (-5)) X.1 X.2.1 d_X_region_31 (by decide) ?_
            exact zx_iret X hr hlk hH (by dsimp only; omega) (by dsimp only; omega) d_X_region_33 ⟨by rw [zs_reg_off ⟨⟨by omega, by omega⟩, by omega, by omega⟩ (by omega)]; exact hN.symm, fun _ _ => rfl, by rw [zs_reg_off ⟨⟨by omega, by omega⟩, by omega, by omega⟩ (by omega)], by rw [zs_reg_off ⟨⟨by omega, by omega⟩, by omega, by omega⟩ (by omega)]; exact hT, zt_fr.rf⟩
        · have c4 := mt (zn_le rfl (nI_toInt (by omega))).mpr c4
          refine lv_bipush (v := (-4)) X.1 X.2.1 d_X_region_21 (by decide) ?_
          exact zx_iret X hr hlk hH (by dsimp only; omega) (by dsimp only; omega) d_X_region_23 ⟨by rw [zs_reg_bad (by omega)]; exact hN.symm, fun _ _ => rfl, by rw [zs_reg_bad (by omega)], by rw [zs_reg_bad (by omega)]; exact hT, zt_fr.rf⟩
