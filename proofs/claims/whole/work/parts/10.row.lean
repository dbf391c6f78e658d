theorem d_O_init_0 : decode b_O_init 0 = .ok (.aload_n 0, 1) := by decide +kernel
theorem d_O_init_1 : decode b_O_init 1 = .ok (.invokespecial 1, 3) := by decide +kernel
theorem d_O_init_4 : decode b_O_init 4 = .ok (.aload_n 0, 1) := by decide +kernel
theorem d_O_init_5 : decode b_O_init 5 = .ok (.bipush 16, 2) := by decide +kernel
theorem d_O_init_7 : decode b_O_init 7 = .ok (.newarray .int, 2) := by decide +kernel
theorem d_O_init_9 : decode b_O_init 9 = .ok (.putfield 9, 3) := by decide +kernel
theorem d_O_init_12 : decode b_O_init 12 = .ok (.aload_n 0, 1) := by decide +kernel
theorem d_O_init_13 : decode b_O_init 13 = .ok (.iload_n 1, 1) := by decide +kernel
theorem d_O_init_14 : decode b_O_init 14 = .ok (.putfield 13, 3) := by decide +kernel
theorem d_O_init_17 : decode b_O_init 17 = .ok (.return_, 1) := by decide +kernel
theorem d_O_append_0 : decode b_O_append 0 = .ok (.aload_n 0, 1) := by decide +kernel
theorem d_O_append_1 : decode b_O_append 1 = .ok (.getfield 17, 3) := by decide +kernel
theorem d_O_append_4 : decode b_O_append 4 = .ok (.aload_n 0, 1) := by decide +kernel
theorem d_O_append_5 : decode b_O_append 5 = .ok (.getfield 13, 3) := by decide +kernel
theorem d_O_append_8 : decode b_O_append 8 = .ok (.if_icmp .lt 4, 3) := by decide +kernel
theorem d_O_append_11 : decode b_O_append 11 = .ok (.return_, 1) := by decide +kernel
theorem d_O_append_12 : decode b_O_append 12 = .ok (.aload_n 0, 1) := by decide +kernel
theorem d_O_append_13 : decode b_O_append 13 = .ok (.getfield 17, 3) := by decide +kernel
theorem d_O_append_16 : decode b_O_append 16 = .ok (.aload_n 0, 1) := by decide +kernel
theorem d_O_append_17 : decode b_O_append 17 = .ok (.getfield 9, 3) := by decide +kernel
theorem d_O_append_20 : decode b_O_append 20 = .ok (.arraylength, 1) := by decide +kernel
theorem d_O_append_21 : decode b_O_append 21 = .ok (.if_icmp .lt 21, 3) := by decide +kernel
theorem d_O_append_24 : decode b_O_append 24 = .ok (.aload_n 0, 1) := by decide +kernel
theorem d_O_append_25 : decode b_O_append 25 = .ok (.aload_n 0, 1) := by decide +kernel
theorem d_O_append_26 : decode b_O_append 26 = .ok (.getfield 9, 3) := by decide +kernel
theorem d_O_append_29 : decode b_O_append 29 = .ok (.iconst 2, 1) := by decide +kernel
theorem d_O_append_30 : decode b_O_append 30 = .ok (.aload_n 0, 1) := by decide +kernel
theorem d_O_append_31 : decode b_O_append 31 = .ok (.getfield 9, 3) := by decide +kernel
theorem d_O_append_34 : decode b_O_append 34 = .ok (.arraylength, 1) := by decide +kernel
theorem d_O_append_35 : decode b_O_append 35 = .ok (.imul, 1) := by decide +kernel
theorem d_O_append_36 : decode b_O_append 36 = .ok (.invokestatic 20, 3) := by decide +kernel
theorem d_O_append_39 : decode b_O_append 39 = .ok (.putfield 9, 3) := by decide +kernel
theorem d_O_append_42 : decode b_O_append 42 = .ok (.aload_n 0, 1) := by decide +kernel
theorem d_O_append_43 : decode b_O_append 43 = .ok (.getfield 9, 3) := by decide +kernel
theorem d_O_append_46 : decode b_O_append 46 = .ok (.aload_n 0, 1) := by decide +kernel
theorem d_O_append_47 : decode b_O_append 47 = .ok (.getfield 17, 3) := by decide +kernel
theorem d_O_append_50 : decode b_O_append 50 = .ok (.iload_n 1, 1) := by decide +kernel
theorem d_O_append_51 : decode b_O_append 51 = .ok (.iastore, 1) := by decide +kernel
theorem d_O_append_52 : decode b_O_append 52 = .ok (.aload_n 0, 1) := by decide +kernel
theorem d_O_append_53 : decode b_O_append 53 = .ok (.dup, 1) := by decide +kernel
theorem d_O_append_54 : decode b_O_append 54 = .ok (.getfield 17, 3) := by decide +kernel
theorem d_O_append_57 : decode b_O_append 57 = .ok (.iconst 1, 1) := by decide +kernel
theorem d_O_append_58 : decode b_O_append 58 = .ok (.iadd, 1) := by decide +kernel
theorem d_O_append_59 : decode b_O_append 59 = .ok (.putfield 17, 3) := by decide +kernel
theorem d_O_append_62 : decode b_O_append 62 = .ok (.return_, 1) := by decide +kernel
theorem d_O_at_0 : decode b_O_at 0 = .ok (.iload_n 1, 1) := by decide +kernel
theorem d_O_at_1 : decode b_O_at 1 = .ok (.ifCond .lt 20, 3) := by decide +kernel
theorem d_O_at_4 : decode b_O_at 4 = .ok (.iload_n 1, 1) := by decide +kernel
theorem d_O_at_5 : decode b_O_at 5 = .ok (.aload_n 0, 1) := by decide +kernel
theorem d_O_at_6 : decode b_O_at 6 = .ok (.getfield 17, 3) := by decide +kernel
theorem d_O_at_9 : decode b_O_at 9 = .ok (.if_icmp .ge 12, 3) := by decide +kernel
theorem d_O_at_12 : decode b_O_at 12 = .ok (.iload_n 1, 1) := by decide +kernel
theorem d_O_at_13 : decode b_O_at 13 = .ok (.aload_n 0, 1) := by decide +kernel
theorem d_O_at_14 : decode b_O_at 14 = .ok (.getfield 9, 3) := by decide +kernel
theorem d_O_at_17 : decode b_O_at 17 = .ok (.arraylength, 1) := by decide +kernel
theorem d_O_at_18 : decode b_O_at 18 = .ok (.if_icmp .lt 7, 3) := by decide +kernel
theorem d_O_at_21 : decode b_O_at 21 = .ok (.iconst 0, 1) := by decide +kernel
theorem d_O_at_22 : decode b_O_at 22 = .ok (.goto 9, 3) := by decide +kernel
theorem d_O_at_25 : decode b_O_at 25 = .ok (.aload_n 0, 1) := by decide +kernel
theorem d_O_at_26 : decode b_O_at 26 = .ok (.getfield 9, 3) := by decide +kernel
theorem d_O_at_29 : decode b_O_at 29 = .ok (.iload_n 1, 1) := by decide +kernel
theorem d_O_at_30 : decode b_O_at 30 = .ok (.iaload, 1) := by decide +kernel
theorem d_O_at_31 : decode b_O_at 31 = .ok (.ireturn, 1) := by decide +kernel
theorem d_O_makeEmpty_0 : decode b_O_makeEmpty 0 = .ok (.aload_n 0, 1) := by decide +kernel
theorem d_O_makeEmpty_1 : decode b_O_makeEmpty 1 = .ok (.iconst 0, 1) := by decide +kernel
theorem d_O_makeEmpty_2 : decode b_O_makeEmpty 2 = .ok (.putfield 17, 3) := by decide +kernel
theorem d_O_makeEmpty_5 : decode b_O_makeEmpty 5 = .ok (.return_, 1) := by decide +kernel
set_option maxHeartbeats 4000000 in
set_option maxRecDepth 100000 in
theorem c_O_makeEmpty (g : zw_G) (l : Launch) (N : Nat) (ad : Nat → Nat) (E : Nat → va_E) (pr pn lim len cap : Nat) (f : Nat → Nat) (hpr : pr < N) (hpn : pn < N) (hne : pr ≠ pn) (hlc : len ≤ cap) (hcap : cap ≤ 1000000) (hlim : lim ≤ 1000000) (hO : zo_at g ad E pr pn lim len cap f) : zc_v g l y_O_makeEmpty b_O_makeEmpty 1 { frames := 0, cells := 0, slots := 0, locals := 0 } [.ref (ad (pr))] N ad E (fun N1 ad1 E1 => N = N1 ∧ ad = ad1 ∧ zo_at g ad E1 pr pn lim 0 cap f ∧ zo_fr E E1 pr pn) := by
  refine zc_v.of (by decide) (Nat.le_of_ble_eq_true rfl) ?_
  intro p e s m below meth c ls A X hr hlk hnm hl hH
  have hl : lv_has ls 1 [(0, .ref (ad (pr)))] := hl
  have hF : zo_fr E E pr pn := zo_fr.rf
  refine lv_aload_n X.1 X.2.1 d_O_makeEmpty_0 rfl (lv_at hl 0 rfl) ?_
  refine lv_iconst (v := nI 0) X.1 X.2.1 d_O_makeEmpty_1 (by decide) ?_
  refine zx_put X hH fp_O_17 (by omega) hO.1 (Nat.le_of_ble_eq_true rfl) rfl rfl d_O_makeEmpty_2 (fun H locs hH => ?_)
  have hH : zw_H g A s.heap s N ad (va_up E pr (zo_o ad pn lim (0))) H locs := hH
  have hO := hO.len hne (0)
  have hF := hF.up (k := pr) (x := (zo_o ad pn lim (0))) (Or.inl rfl)
  exact zx_vret X hr hlk hH (Nat.le_of_ble_eq_true rfl) (Nat.le_of_ble_eq_true rfl) d_O_makeEmpty_5 ⟨rfl, rfl, hO, hF⟩

set_option maxHeartbeats 4000000 in
set_option maxRecDepth 100000 in
theorem c_O_at (g : zw_G) (l : Launch) (N : Nat) (ad : Nat → Nat) (E : Nat → va_E) (pr pn lim len cap : Nat) (f : Nat → Nat) (hpr : pr < N) (hpn : pn < N) (hne : pr ≠ pn) (hlc : len ≤ cap) (hcap : cap ≤ 1000000) (hlim : lim ≤ 1000000) (hO : zo_at g ad E pr pn lim len cap f) (x : Int32) : zc_i g l y_O_at b_O_at 2 (some .int) { frames := 0, cells := 0, slots := 0, locals := 0 } [.ref (ad (pr)), .int (x)] N ad E (fun v N1 ad1 E1 => N = N1 ∧ ad = ad1 ∧ E = E1 ∧ v = nI (if 0 ≤ x.toInt ∧ x.toInt < (len : Int) then f x.toInt.toNat else 0)) := by
  refine zc_i.of (by decide) (Nat.le_of_ble_eq_true rfl) ?_
  intro p e s m below meth c ls A X hr hlk hl hH
  have hl : lv_has ls 2 [(0, .ref (ad (pr))), (1, .int (x))] := hl
  refine lv_iload_n X.1 X.2.1 d_O_at_0 rfl (lv_at hl 1 rfl) ?_
  refine lv_if_lt (tgt := 21) X.1 X.2.1 d_O_at_1 (by decide) (fun c1 => ?_) (fun c1 => ?_)
  · have c1 := (zn_lt rfl zn_0).mp c1
    refine lv_iconst (v := nI 0) X.1 X.2.1 d_O_at_21 (by decide) ?_
    refine lv_goto (tgt := 31) X.1 X.2.1 d_O_at_22 (by decide) ?_
    exact zx_iret X hr hlk hH (Nat.le_of_ble_eq_true rfl) (Nat.le_of_ble_eq_true rfl) d_O_at_31 ⟨rfl, rfl, rfl, (by first | rfl | (rw [if_pos (by omega)]) | (rw [if_neg (by omega)]))⟩
  · have c1 := mt (zn_lt rfl zn_0).mpr c1
    refine lv_iload_n X.1 X.2.1 d_O_at_4 rfl (lv_at hl 1 rfl) ?_
    refine lv_aload_n X.1 X.2.1 d_O_at_5 rfl (lv_at hl 0 rfl) ?_
    refine zx_get (v := .int (nI (len))) X hH fg_O_17 (by omega) hO.1 rfl d_O_at_6 ?_
    refine lv_icmp_ge (tgt := 21) X.1 X.2.1 d_O_at_9 (by decide) (fun c2 => ?_) (fun c2 => ?_)
    · have c2 := (zn_le (nI_toInt (by omega)) rfl).mp c2
      refine lv_iconst (v := nI 0) X.1 X.2.1 d_O_at_21 (by decide) ?_
      refine lv_goto (tgt := 31) X.1 X.2.1 d_O_at_22 (by decide) ?_
      exact zx_iret X hr hlk hH (Nat.le_of_ble_eq_true rfl) (Nat.le_of_ble_eq_true rfl) d_O_at_31 ⟨rfl, rfl, rfl, (by first | rfl | (rw [if_pos (by omega)]) | (rw [if_neg (by omega)]))⟩
    · have c2 := mt (zn_le (nI_toInt (by omega)) rfl).mpr c2
      refine lv_iload_n X.1 X.2.1 d_O_at_12 rfl (lv_at hl 1 rfl) ?_
      refine lv_aload_n X.1 X.2.1 d_O_at_13 rfl (lv_at hl 0 rfl) ?_
      refine zx_get (v := .ref (ad (pn))) X hH fg_O_9 (by omega) hO.1 rfl d_O_at_14 ?_
      refine zx_alen X hH (by omega) (show E pn = zr_ia g (cap) (f) from hO.2) d_O_at_17 ?_
      refine lv_icmp_lt (tgt := 25) X.1 X.2.1 d_O_at_18 (by decide) (fun c3 => ?_) (fun c3 => ?_)
      · have c3 := (zn_lt rfl (nI_toInt (by omega))).mp c3
        refine lv_aload_n X.1 X.2.1 d_O_at_25 rfl (lv_at hl 0 rfl) ?_
        refine zx_get (v := .ref (ad (pn))) X hH fg_O_9 (by omega) hO.1 rfl d_O_at_26 ?_
        refine lv_iload_n X.1 X.2.1 d_O_at_29 rfl (lv_at hl 1 rfl) ?_
        refine zx_iald (j := x.toInt.toNat) X hH (by omega) (show E pn = zr_ia g (cap) (f) from hO.2) (zn_nat (by omega)) (by omega) (by omega) d_O_at_30 ?_
        exact zx_iret X hr hlk hH (Nat.le_of_ble_eq_true rfl) (Nat.le_of_ble_eq_true rfl) d_O_at_31 ⟨rfl, rfl, rfl, (by first | rfl | (rw [if_pos (by omega)]) | (rw [if_neg (by omega)]))⟩
      · have c3 := mt (zn_lt rfl (nI_toInt (by omega))).mpr c3
        exfalso; omega

set_option maxHeartbeats 4000000 in
set_option maxRecDepth 100000 in
theorem c_O_append_full (g : zw_G) (l : Launch) (N : Nat) (ad : Nat → Nat) (E : Nat → va_E) (pr pn lim len cap : Nat) (f : Nat → Nat) (hpr : pr < N) (hpn : pn < N) (hne : pr ≠ pn) (hlc : len ≤ cap) (hcap : cap ≤ 1000000) (hlim : lim ≤ 1000000) (hO : zo_at g ad E pr pn lim len cap f) (v : Nat) (hfull : lim ≤ len) : zc_v g l y_O_append b_O_append 2 { frames := 2, cells := 0, slots := 0, locals := 80 } [.ref (ad (pr)), .int (nI (v))] N ad E (fun N1 ad1 E1 => N = N1 ∧ ad = ad1 ∧ E = E1) := by
  refine zc_v.of (by decide) (Nat.le_of_ble_eq_true rfl) ?_
  intro p e s m below meth c ls A X hr hlk hnm hl hH
  have hl : lv_has ls 2 [(0, .ref (ad (pr))), (1, .int (nI (v)))] := hl
  refine lv_aload_n X.1 X.2.1 d_O_append_0 rfl (lv_at hl 0 rfl) ?_
  refine zx_get (v := .int (nI (len))) X hH fg_O_17 (by omega) hO.1 rfl d_O_append_1 ?_
  refine lv_aload_n X.1 X.2.1 d_O_append_4 rfl (lv_at hl 0 rfl) ?_
  refine zx_get (v := .int (nI (lim))) X hH fg_O_13 (by omega) hO.1 rfl d_O_append_5 ?_
  refine lv_icmp_lt (tgt := 12) X.1 X.2.1 d_O_append_8 (by decide) (fun c1 => ?_) (fun c1 => ?_)
  · have c1 := (zn_lt (nI_toInt (by omega)) (nI_toInt (by omega))).mp c1
    exfalso; omega
  · have c1 := mt (zn_lt (nI_toInt (by omega)) (nI_toInt (by omega))).mpr c1
    exact zx_vret X hr hlk hH (Nat.le_of_ble_eq_true rfl) (Nat.le_of_ble_eq_true rfl) d_O_append_11 ⟨rfl, rfl, rfl⟩

set_option maxHeartbeats 4000000 in
set_option maxRecDepth 100000 in
theorem c_O_append_room (g : zw_G) (l : Launch) (N : Nat) (ad : Nat → Nat) (E : Nat → va_E) (pr pn lim len cap : Nat) (f : Nat → Nat) (hpr : pr < N) (hpn : pn < N) (hne : pr ≠ pn) (hlc : len ≤ cap) (hcap : cap ≤ 1000000) (hlim : lim ≤ 1000000) (hO : zo_at g ad E pr pn lim len cap f) (v : Nat) (hfull : len < lim) (hroom : len < cap) : zc_v g l y_O_append b_O_append 2 { frames := 2, cells := 0, slots := 0, locals := 80 } [.ref (ad (pr)), .int (nI (v))] N ad E (fun N1 ad1 E1 => N = N1 ∧ ad = ad1 ∧ zo_at g ad E1 pr pn lim (len + 1) cap (va_up f len v) ∧ zo_fr E E1 pr pn) := by
  refine zc_v.of (by decide) (Nat.le_of_ble_eq_true rfl) ?_
  intro p e s m below meth c ls A X hr hlk hnm hl hH
  have hl : lv_has ls 2 [(0, .ref (ad (pr))), (1, .int (nI (v)))] := hl
  have hF : zo_fr E E pr pn := zo_fr.rf
  refine lv_aload_n X.1 X.2.1 d_O_append_0 rfl (lv_at hl 0 rfl) ?_
  refine zx_get (v := .int (nI (len))) X hH fg_O_17 (by omega) hO.1 rfl d_O_append_1 ?_
  refine lv_aload_n X.1 X.2.1 d_O_append_4 rfl (lv_at hl 0 rfl) ?_
  refine zx_get (v := .int (nI (lim))) X hH fg_O_13 (by omega) hO.1 rfl d_O_append_5 ?_
  refine lv_icmp_lt (tgt := 12) X.1 X.2.1 d_O_append_8 (by decide) (fun c1 => ?_) (fun c1 => ?_)
  · have c1 := (zn_lt (nI_toInt (by omega)) (nI_toInt (by omega))).mp c1
    refine lv_aload_n X.1 X.2.1 d_O_append_12 rfl (lv_at hl 0 rfl) ?_
    refine zx_get (v := .int (nI (len))) X hH fg_O_17 (by omega) hO.1 rfl d_O_append_13 ?_
    refine lv_aload_n X.1 X.2.1 d_O_append_16 rfl (lv_at hl 0 rfl) ?_
    refine zx_get (v := .ref (ad (pn))) X hH fg_O_9 (by omega) hO.1 rfl d_O_append_17 ?_
    refine zx_alen X hH (by omega) (show E pn = zr_ia g (cap) (f) from hO.2) d_O_append_20 ?_
    refine lv_icmp_lt (tgt := 42) X.1 X.2.1 d_O_append_21 (by decide) (fun c2 => ?_) (fun c2 => ?_)
    · have c2 := (zn_lt (nI_toInt (by omega)) (nI_toInt (by omega))).mp c2
      refine lv_aload_n X.1 X.2.1 d_O_append_42 rfl (lv_at hl 0 rfl) ?_
      refine zx_get (v := .ref (ad (pn))) X hH fg_O_9 (by omega) hO.1 rfl d_O_append_43 ?_
      refine lv_aload_n X.1 X.2.1 d_O_append_46 rfl (lv_at hl 0 rfl) ?_
      refine zx_get (v := .int (nI (len))) X hH fg_O_17 (by omega) hO.1 rfl d_O_append_47 ?_
      refine lv_iload_n X.1 X.2.1 d_O_append_50 rfl (lv_at hl 1 rfl) ?_
      refine zx_iast (j := len) X hH (by omega) (show E pn = zr_ia g (cap) f from hO.2) rfl (by omega) (by omega) d_O_append_51 (fun H locs hH => ?_)
      rw [zr_upd] at hH
      have hH : zw_H g A s.heap s N ad (va_up E pn (zr_ia g (cap) (va_up f len v))) H locs := hH
      have hO := hO.num hne (va_up f len v)
      have hF := hF.up (k := pn) (x := (zr_ia g (cap) (va_up f len v))) (Or.inr rfl)
      refine lv_aload_n X.1 X.2.1 d_O_append_52 rfl (lv_at hl 0 rfl) ?_
      refine lv_dup X.1 X.2.1 d_O_append_53 rfl ?_
      refine zx_get (v := .int (nI (len))) X hH fg_O_17 (by omega) hO.1 rfl d_O_append_54 ?_
      refine lv_iconst (v := nI 1) X.1 X.2.1 d_O_append_57 (by decide) ?_
      refine lv_iadd X.1 X.2.1 d_O_append_58 ?_
      refine zx_top (nI_add _ _) ?_
      refine zx_put X hH fp_O_17 (by omega) hO.1 (Nat.le_of_ble_eq_true rfl) rfl rfl d_O_append_59 (fun H locs hH => ?_)
      have hH : zw_H g A s.heap s N ad (va_up (va_up E pn (zr_ia g (cap) (va_up f len v))) pr (zo_o ad pn lim ((len) + (1)))) H locs := hH
      have hO := hO.len hne ((len) + (1))
      have hF := hF.up (k := pr) (x := (zo_o ad pn lim ((len) + (1)))) (Or.inl rfl)
      exact zx_vret X hr hlk hH (Nat.le_of_ble_eq_true rfl) (Nat.le_of_ble_eq_true rfl) d_O_append_62 ⟨rfl, rfl, hO, hF⟩
    · have c2 := mt (zn_lt (nI_toInt (by omega)) (nI_toInt (by omega))).mpr c2
      exfalso; omega
  · have c1 := mt (zn_lt (nI_toInt (by omega)) (nI_toInt (by omega))).mpr c1
    exfalso; omega

set_option maxHeartbeats 4000000 in
set_option maxRecDepth 100000 in
theorem c_O_append_grow (g : zw_G) (l : Launch) (N : Nat) (ad : Nat → Nat) (E : Nat → va_E) (pr pn lim len cap : Nat) (f : Nat → Nat) (hpr : pr < N) (hpn : pn < N) (hne : pr ≠ pn) (hlc : len ≤ cap) (hcap : cap ≤ 1000000) (hlim : lim ≤ 1000000) (hO : zo_at g ad E pr pn lim len cap f) (v : Nat) (hfull : len < lim) (hroom : cap ≤ len) (h16 : 16 ≤ cap) : zc_v g l y_O_append b_O_append 2 { frames := 3, cells := 1, slots := 2 * cap, locals := 120 } [.ref (ad (pr)), .int (nI (v))] N ad E (fun N1 ad1 E1 => N = N1 ∧ (∀ k, k ≠ pn → k < N → ad1 k = ad k) ∧ zo_at g ad1 E1 pr pn lim (len + 1) (2 * cap) (va_up (fun j => if j < cap then f j else 0) len v) ∧ ∀ k, k < N → k ≠ pr → k ≠ pn → E1 k = E k) := by
  refine zc_v.of (by decide) (Nat.le_of_ble_eq_true rfl) ?_
  intro p e s m below meth c ls A X hr hlk hnm hl hH
  have hl : lv_has ls 2 [(0, .ref (ad (pr))), (1, .int (nI (v)))] := hl
  refine lv_aload_n X.1 X.2.1 d_O_append_0 rfl (lv_at hl 0 rfl) ?_
  refine zx_get (v := .int (nI (len))) X hH fg_O_17 (by omega) hO.1 rfl d_O_append_1 ?_
  refine lv_aload_n X.1 X.2.1 d_O_append_4 rfl (lv_at hl 0 rfl) ?_
  refine zx_get (v := .int (nI (lim))) X hH fg_O_13 (by omega) hO.1 rfl d_O_append_5 ?_
  refine lv_icmp_lt (tgt := 12) X.1 X.2.1 d_O_append_8 (by decide) (fun c1 => ?_) (fun c1 => ?_)
  · have c1 := (zn_lt (nI_toInt (by omega)) (nI_toInt (by omega))).mp c1
    refine lv_aload_n X.1 X.2.1 d_O_append_12 rfl (lv_at hl 0 rfl) ?_
    refine zx_get (v := .int (nI (len))) X hH fg_O_17 (by omega) hO.1 rfl d_O_append_13 ?_
    refine lv_aload_n X.1 X.2.1 d_O_append_16 rfl (lv_at hl 0 rfl) ?_
    refine zx_get (v := .ref (ad (pn))) X hH fg_O_9 (by omega) hO.1 rfl d_O_append_17 ?_
    refine zx_alen X hH (by omega) (show E pn = zr_ia g (cap) (f) from hO.2) d_O_append_20 ?_
    refine lv_icmp_lt (tgt := 42) X.1 X.2.1 d_O_append_21 (by decide) (fun c2 => ?_) (fun c2 => ?_)
    · have c2 := (zn_lt (nI_toInt (by omega)) (nI_toInt (by omega))).mp c2
      exfalso; omega
    · have c2 := mt (zn_lt (nI_toInt (by omega)) (nI_toInt (by omega))).mpr c2
      refine lv_aload_n X.1 X.2.1 d_O_append_24 rfl (lv_at hl 0 rfl) ?_
      refine lv_aload_n X.1 X.2.1 d_O_append_25 rfl (lv_at hl 0 rfl) ?_
      refine zx_get (v := .ref (ad (pn))) X hH fg_O_9 (by omega) hO.1 rfl d_O_append_26 ?_
      refine lv_iconst (v := nI 2) X.1 X.2.1 d_O_append_29 (by decide) ?_
      refine lv_aload_n X.1 X.2.1 d_O_append_30 rfl (lv_at hl 0 rfl) ?_
      refine zx_get (v := .ref (ad (pn))) X hH fg_O_9 (by omega) hO.1 rfl d_O_append_31 ?_
      refine zx_alen X hH (by omega) (show E pn = zr_ia g (cap) (f) from hO.2) d_O_append_34 ?_
      refine lv_imul X.1 X.2.1 d_O_append_35 ?_
      refine zx_top (pk_mul _ _) ?_
      refine zx_callq (zx_runS (As := [.ref (ad (pn)), .int (nI ((2) * (cap)))]) (rest := [.ref (ad (pr))]) X hH ms_O_20 ((c_J_copyOf g l N ad E pn cap (2 * cap) f (by omega) (by omega) (by omega) hO.2) _) ⟨Nat.le_of_ble_eq_true rfl, Nat.le_of_ble_eq_true rfl⟩ rfl hl rfl (Nat.le_of_ble_eq_true rfl) d_O_append_36 ⟨by show 0 + 1 ≤ 1; omega, by show 0 + 2 * cap ≤ 2 * cap; omega⟩) hH (fun r N1 ad1 E1 H locs hq hH => ?_)
      obtain ⟨rfl, qa, rfl, rfl, rfl⟩ := hq
      obtain ⟨ad2, had2⟩ : ∃ x, x = va_up ad N qa := ⟨_, rfl⟩
      obtain ⟨E2, hE2⟩ : ∃ x, x = va_up E N (zr_ia g (2 * cap) (fun j => if j < cap then f j else 0)) := ⟨_, rfl⟩
      rw [← had2, ← hE2] at hH
      have a2 : ∀ k, k < N → ad2 k = ad k := fun k hk => by rw [had2]; exact va_up_ne _ _ (by omega)
      have a2N : ad2 N = qa := by rw [had2]; exact va_up_self _ _ _
      have b2 : ∀ k, k < N → E2 k = E k := fun k hk => by rw [hE2]; exact va_up_ne _ _ (by omega)
      have b2N : E2 N = (zr_ia g (2 * cap) (fun j => if j < cap then f j else 0)) := by rw [hE2]; exact va_up_self _ _ _
      refine W.eq (g2 := F0 m 39 ls [.ref (ad2 N), .ref (ad2 pr)]) (by rw [a2 pr hpr, a2N]; rfl) ?_
      refine zx_put X hH fp_O_9 (by omega) ((b2 pr hpr).trans hO.1) (Nat.le_of_ble_eq_true rfl) rfl rfl d_O_append_39 (fun H locs hH => ?_)
      have hH := zw_swap pn hH
      have hH : zw_H g A s.heap s N (va_up ad2 pn (ad2 N)) (va_up (va_up E2 pr (Sum.inr (2, [.int (nI lim), .ref (ad2 N), .int (nI len)]) : va_E)) pn (va_up E2 pr (Sum.inr (2, [.int (nI lim), .ref (ad2 N), .int (nI len)]) : va_E) N)) H locs := hH
      obtain ⟨ad4, had4⟩ : ∃ x, x = va_up ad2 pn (ad2 N) := ⟨_, rfl⟩
      obtain ⟨E4, hE4⟩ : ∃ x, x = va_up (va_up E2 pr (Sum.inr (2, [.int (nI lim), .ref (ad2 N), .int (nI len)]) : va_E)) pn (va_up E2 pr (Sum.inr (2, [.int (nI lim), .ref (ad2 N), .int (nI len)]) : va_E) N) := ⟨_, rfl⟩
      rw [← had4, ← hE4] at hH
      have a4 : ∀ k, k ≠ pn → k < N → ad4 k = ad k := fun k h1 h2 => by rw [had4, va_up_ne _ _ h1]; exact a2 k h2
      have a4n : ad4 pn = ad2 N := by rw [had4]; exact va_up_self _ _ _
      have b4n : E4 pn = (zr_ia g (2 * cap) (fun j => if j < cap then f j else 0)) := by rw [hE4, va_up_self, va_up_ne _ _ (by omega)]; exact b2N
      have b4r : E4 pr = zo_o ad4 pn lim len := by rw [hE4, va_up_ne _ _ hne, va_up_self]; unfold zo_o; rw [a4n]
      have b4 : ∀ k, k < N → k ≠ pr → k ≠ pn → E4 k = E k := fun k h1 h2 h3 => by rw [hE4, va_up_ne _ _ h3, va_up_ne _ _ h2]; exact b2 k h1
      have hO : zo_at g ad4 E4 pr pn lim len (2 * cap) (fun j => if j < cap then f j else 0) := ⟨b4r, b4n⟩
      have hF : zo_fr E4 E4 pr pn := zo_fr.rf
      rw [← a4 pr hne hpr] at hl
      refine W.eq (g2 := F0 m 42 ls []) rfl ?_
      refine lv_aload_n X.1 X.2.1 d_O_append_42 rfl (lv_at hl 0 rfl) ?_
      refine zx_get (v := .ref (ad4 (pn))) X hH fg_O_9 (by omega) hO.1 rfl d_O_append_43 ?_
      refine lv_aload_n X.1 X.2.1 d_O_append_46 rfl (lv_at hl 0 rfl) ?_
      refine zx_get (v := .int (nI (len))) X hH fg_O_17 (by omega) hO.1 rfl d_O_append_47 ?_
      refine lv_iload_n X.1 X.2.1 d_O_append_50 rfl (lv_at hl 1 rfl) ?_
      refine zx_iast (j := len) X hH (by omega) (show E4 pn = zr_ia g (2 * cap) (fun j => if j < cap then f j else 0) from hO.2) rfl (by omega) (by omega) d_O_append_51 (fun H locs hH => ?_)
      rw [zr_upd] at hH
      have hH : zw_H g A s.heap s N ad4 (va_up E4 pn (zr_ia g (2 * cap) (va_up (fun j => if j < cap then f j else 0) len v))) H locs := hH
      have hO := hO.num hne (va_up (fun j => if j < cap then f j else 0) len v)
      have hF := hF.up (k := pn) (x := (zr_ia g (2 * cap) (va_up (fun j => if j < cap then f j else 0) len v))) (Or.inr rfl)
      refine lv_aload_n X.1 X.2.1 d_O_append_52 rfl (lv_at hl 0 rfl) ?_
      refine lv_dup X.1 X.2.1 d_O_append_53 rfl ?_
      refine zx_get (v := .int (nI (len))) X hH fg_O_17 (by omega) hO.1 rfl d_O_append_54 ?_
      refine lv_iconst (v := nI 1) X.1 X.2.1 d_O_append_57 (by decide) ?_
      refine lv_iadd X.1 X.2.1 d_O_append_58 ?_
      refine zx_top (nI_add _ _) ?_
      refine zx_put X hH fp_O_17 (by omega) hO.1 (Nat.le_of_ble_eq_true rfl) rfl rfl d_O_append_59 (fun H locs hH => ?_)
      have hH : zw_H g A s.heap s N ad4 (va_up (va_up E4 pn (zr_ia g (2 * cap) (va_up (fun j => if j < cap then f j else 0) len v))) pr (zo_o ad4 pn lim (len + 1))) H locs := hH
      have hO := hO.len hne (len + 1)
      have hF := hF.up (k := pr) (x := (zo_o ad4 pn lim (len + 1))) (Or.inl rfl)
      exact zx_vret X hr hlk hH (by show 0 + 1 ≤ 1; omega) (by show 0 + 2 * cap ≤ 2 * cap; omega) d_O_append_62 ⟨rfl, a4, hO, fun k h1 h2 h3 => (hF k h2 h3).trans (b4 k h1 h2 h3)⟩
  · have c1 := mt (zn_lt (nI_toInt (by omega)) (nI_toInt (by omega))).mpr c1
    exfalso; omega
