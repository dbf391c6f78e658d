theorem zj_min_l : Cond.methodLink zN_J 304 Lib.Math.min.name ∈ zt_U := (zt_in (List.mem_of_getElem? (i := 198) (by decide +kernel)) rfl)
theorem zj_min_s : Cond.static Lib.Math.min.name ∈ zt_U := (zt_in (List.mem_of_getElem? (i := 199) (by decide +kernel)) rfl)
theorem zj_min_i : Cond.initialized "java/lang/Math" ∈ zt_U := (zt_in (List.mem_of_getElem? (i := 25) (by decide +kernel)) rfl)
theorem zj_min_c : Cond.code Lib.Math.min.name Lib.Math.min.code 2 (some .int) ∈ zt_U := (zt_in (List.mem_of_getElem? (i := 200) (by decide +kernel)) rfl)
theorem zj_cpy_l : Cond.methodLink zN_J 150 arraycopyName ∈ zt_U := (zt_in (List.mem_of_getElem? (i := 201) (by decide +kernel)) rfl)
theorem zj_cpy_s : Cond.static arraycopyName ∈ zt_U := (zt_in (List.mem_of_getElem? (i := 202) (by decide +kernel)) rfl)
theorem zj_cpy_n : Cond.native arraycopyName ∈ zt_U := (zt_in (List.mem_of_getElem? (i := 203) (by decide +kernel)) rfl)
theorem zj_cpy_i : Cond.initialized "java/lang/System" ∈ zt_U := (zt_in (List.mem_of_getElem? (i := 26) (by decide +kernel)) rfl)
theorem d_J_copyOf_0 : decode b_J_copyOf 0 = .ok (.iload_n 1, 1) := by decide +kernel
theorem d_J_copyOf_1 : decode b_J_copyOf 1 = .ok (.aload_n 0, 1) := by decide +kernel
theorem d_J_copyOf_2 : decode b_J_copyOf 2 = .ok (.arraylength, 1) := by decide +kernel
theorem d_J_copyOf_3 : decode b_J_copyOf 3 = .ok (.if_icmp .ne 11, 3) := by decide +kernel
theorem d_J_copyOf_6 : decode b_J_copyOf 6 = .ok (.aload_n 0, 1) := by decide +kernel
theorem d_J_copyOf_7 : decode b_J_copyOf 7 = .ok (.invokevirtual 316, 3) := by decide +kernel
theorem d_J_copyOf_10 : decode b_J_copyOf 10 = .ok (.checkcast 317, 3) := by decide +kernel
theorem d_J_copyOf_13 : decode b_J_copyOf 13 = .ok (.areturn, 1) := by decide +kernel
theorem d_J_copyOf_14 : decode b_J_copyOf 14 = .ok (.iload_n 1, 1) := by decide +kernel
theorem d_J_copyOf_15 : decode b_J_copyOf 15 = .ok (.newarray .int, 2) := by decide +kernel
theorem d_J_copyOf_17 : decode b_J_copyOf 17 = .ok (.astore_n 2, 1) := by decide +kernel
theorem d_J_copyOf_18 : decode b_J_copyOf 18 = .ok (.aload_n 0, 1) := by decide +kernel
theorem d_J_copyOf_19 : decode b_J_copyOf 19 = .ok (.iconst 0, 1) := by decide +kernel
theorem d_J_copyOf_20 : decode b_J_copyOf 20 = .ok (.aload_n 2, 1) := by decide +kernel
theorem d_J_copyOf_21 : decode b_J_copyOf 21 = .ok (.iconst 0, 1) := by decide +kernel
theorem d_J_copyOf_22 : decode b_J_copyOf 22 = .ok (.aload_n 0, 1) := by decide +kernel
theorem d_J_copyOf_23 : decode b_J_copyOf 23 = .ok (.arraylength, 1) := by decide +kernel
theorem d_J_copyOf_24 : decode b_J_copyOf 24 = .ok (.iload_n 1, 1) := by decide +kernel
theorem d_J_copyOf_25 : decode b_J_copyOf 25 = .ok (.invokestatic 304, 3) := by decide +kernel
theorem d_J_copyOf_28 : decode b_J_copyOf 28 = .ok (.invokestatic 150, 3) := by decide +kernel
theorem d_J_copyOf_31 : decode b_J_copyOf 31 = .ok (.aload_n 2, 1) := by decide +kernel
theorem d_J_copyOf_32 : decode b_J_copyOf 32 = .ok (.areturn, 1) := by decide +kernel
theorem d_K_min_0 : decode b_K_min 0 = .ok (.iload_n 0, 1) := by decide +kernel
theorem d_K_min_1 : decode b_K_min 1 = .ok (.iload_n 1, 1) := by decide +kernel
theorem d_K_min_2 : decode b_K_min 2 = .ok (.if_icmp .gt 7, 3) := by decide +kernel
theorem d_K_min_5 : decode b_K_min 5 = .ok (.iload_n 0, 1) := by decide +kernel
theorem d_K_min_6 : decode b_K_min 6 = .ok (.goto 4, 3) := by decide +kernel
theorem d_K_min_9 : decode b_K_min 9 = .ok (.iload_n 1, 1) := by decide +kernel
theorem d_K_min_10 : decode b_K_min 10 = .ok (.ireturn, 1) := by decide +kernel
set_option maxHeartbeats 4000000 in
set_option maxRecDepth 100000 in
/-- Arrays.copyOf(a, nn), nn greater than a's length: a new array, a's numbers first -/
theorem c_J_copyOf (g : zw_G) (l : Launch) (N : Nat) (ad : Nat → Nat) (E : Nat → va_E) (pn cap nn : Nat) (f : Nat → Nat) (hpn : pn < N) (h1 : cap < nn) (h2 : nn ≤ 2000000) (hE : E pn = zr_ia g cap f) : zc_q g l y_J_copyOf b_J_copyOf 3 (some (.array .int)) { frames := 1, cells := 1, slots := nn, locals := 40 } [.ref (ad pn), .int (nI nn)] N ad E (fun v N1 ad1 E1 => N + 1 = N1 ∧ ∃ qa, va_up ad N qa = ad1 ∧ v = some qa ∧ va_up E N (zr_ia g nn (fun j => if j < cap then f j else 0)) = E1) := by
  refine zc_q.of (by decide) (Nat.le_of_ble_eq_true rfl) ?_
  intro p e s m below meth c ls A X hr hlk hl hH
  have hl : lv_has ls 3 [(0, .ref (ad pn)), (1, .int (nI nn))] := hl
  refine lv_iload_n X.1 X.2.1 d_J_copyOf_0 rfl (lv_at hl 1 rfl) ?_
  refine lv_aload_n X.1 X.2.1 d_J_copyOf_1 rfl (lv_at hl 0 rfl) ?_
  refine zx_alen X hH hpn hE d_J_copyOf_2 ?_
  refine lv_icmp_ne (tgt := 14) X.1 X.2.1 d_J_copyOf_3 (by decide) (fun c1 => ?_) (fun c1 => ?_)
  · clear c1
    refine lv_iload_n X.1 X.2.1 d_J_copyOf_14 rfl (lv_at hl 1 rfl) ?_
    refine zx_newi (j := nn) X hH zw_arrI rfl (by omega) (Nat.le_of_ble_eq_true rfl) (by show 0 + nn ≤ nn; omega) d_J_copyOf_15 (fun qa H hH => ?_)
    obtain ⟨ad2, had2⟩ : ∃ x, x = va_up ad N qa := ⟨_, rfl⟩
    obtain ⟨E2, hE2⟩ : ∃ x, x = va_up E N (zr_ia g nn (fun _ => 0)) := ⟨_, rfl⟩
    have hH : zw_H g A s.heap s (N + 1) (va_up ad N qa) (va_up E N (zr_ia g nn (fun _ => 0))) H [] := hH
    rw [← had2, ← hE2] at hH
    have a2 : ∀ k, k < N → ad2 k = ad k := fun k hk => by rw [had2]; exact va_up_ne _ _ (by omega)
    have b2 : ∀ k, k < N → E2 k = E k := fun k hk => by rw [hE2]; exact va_up_ne _ _ (by omega)
    have b2N : E2 N = zr_ia g nn (fun _ => 0) := by rw [hE2]; exact va_up_self _ _ _
    have a2N : ad2 N = qa := by rw [had2]; exact va_up_self _ _ _
    refine W.eq (g2 := F0 m 17 ls [.ref (ad2 N)]) (by rw [had2]) ?_
    refine lv_astore_n (lv' := [(2, .ref (ad2 N)), (0, .ref (ad pn)), (1, .int (nI nn))]) X.1 X.2.1 d_J_copyOf_17 rfl hl (by decide) rfl (fun ls hl => ?_)
    rw [← a2 pn hpn] at hl
    refine lv_aload_n X.1 X.2.1 d_J_copyOf_18 rfl (lv_at hl 1 rfl) ?_
    refine lv_iconst (v := nI 0) X.1 X.2.1 d_J_copyOf_19 (by decide) ?_
    refine lv_aload_n X.1 X.2.1 d_J_copyOf_20 rfl (lv_at hl 0 rfl) ?_
    refine lv_iconst (v := nI 0) X.1 X.2.1 d_J_copyOf_21 (by decide) ?_
    refine lv_aload_n X.1 X.2.1 d_J_copyOf_22 rfl (lv_at hl 1 rfl) ?_
    refine zx_alen X hH (show pn < N + 1 by omega) ((b2 pn hpn).trans hE) d_J_copyOf_23 ?_
    refine lv_iload_n X.1 X.2.1 d_J_copyOf_24 rfl (lv_at hl 2 rfl) ?_
    have ht := X.2.2.2.2
    refine va_mmin X.1 X.2.1 (X.2.2.1.trans hl.1.symm) X.2.2.2.1 (ht _ zj_min_l) (ht _ zj_min_s) (ht _ zj_min_i) (ht _ zj_min_c) (Nat.le_of_ble_eq_true rfl) (Nat.le_of_ble_eq_true rfl) (Nat.le_of_ble_eq_true rfl) (by show 0 + nn ≤ nn; omega) d_J_copyOf_25 ?_
    refine zx_top (b := nI cap) (by rw [if_neg]; exact mt (zn_lt (nI_toInt (by omega)) (nI_toInt (by omega))).mp (by omega)) ?_
    refine va_copyi (D := g.1) (ty := .int) X.1 X.2.1 (X.2.2.1.trans hl.1.symm) X.2.2.2.1 (ht _ zj_cpy_l) (ht _ zj_cpy_n) (ht _ zj_cpy_s) (ht _ zj_cpy_i) hH.1.1 hH.2.1 hH.2.2.1 hH.2.2.2.1 pn N 0 0 (by rw [zw_get (show pn < N + 1 by omega), b2 pn hpn, hE]; rfl) (by rw [zw_get (Nat.lt_succ_self N), b2N]; rfl) rfl rfl rfl (nI_pos (by omega)) (nI_pos (by omega)) (nI_pos (by omega)) (by rw [nI_clamp (by omega), nI_clamp (by omega)]; omega) (by rw [nI_clamp (by omega), nI_clamp (by omega)]; omega) (fun _ _ => rfl) (Nat.le_of_ble_eq_true rfl) (Nat.le_of_ble_eq_true rfl) d_J_copyOf_28 (fun H locs hP hD hS => ?_)
    rw [nI_clamp (by omega), nI_clamp (by omega), zw_set] at hP hD
    have hH : zw_H g A s.heap s (N + 1) ad2 _ H locs := ⟨hH.1, hP, hD, hS, hH.2.2.2.2⟩
    refine lv_aload_n X.1 X.2.1 d_J_copyOf_31 rfl (lv_at hl 0 rfl) ?_
    refine zx_aret (v := some (ad2 N)) X hr (Or.inr ⟨_, rfl⟩) hlk hH rfl (Nat.le_of_ble_eq_true rfl) (by show 0 + nn ≤ nn; omega) d_J_copyOf_32 ⟨rfl, qa, had2.symm, by rw [a2N], ?_⟩
    have e : va_cpy (fun j => nI (f j)) (fun _ => nI 0) 0 0 cap = fun j => nI (if j < cap then f j else 0) := by
      funext j
      unfold va_cpy
      by_cases hj : j < cap
      · rw [if_pos ⟨Nat.zero_le _, by omega⟩, if_pos hj, Nat.sub_zero, Nat.zero_add]
      · rw [if_neg (by omega), if_neg hj]
    rw [e, hE2]
    exact (bx_uu _ _ _ _).symm
  · exfalso
    have c1 := (zn_eq (nI_toInt (by omega)) (nI_toInt (by omega))).mp c1
    omega
