theorem zm_end_back {sc : Nat → Nat} {k : Nat} (h : k ≠ 1) : zm_end sc k = zp_back sc k := by
  unfold zm_end zp_back
  rw [if_neg h]
  funext j
  unfold va_up
  by_cases h5 : j = 5
  · subst h5; rw [if_pos rfl, if_neg (by decide), if_neg (by decide), if_pos rfl]
  · rw [if_neg h5]
    by_cases h6 : j = 6
    · subst h6; rw [if_pos rfl, if_pos rfl]
    · rw [if_neg h6, if_neg h6]
      by_cases h2 : j = 2
      · subst h2; rw [if_pos rfl, if_pos rfl]
      · rw [if_neg h2, if_neg h2, if_neg h5]
section ZMS
variable {sc : Nat → Nat} {ar : Nat → Nat → Nat} {t : Nat}
theorem zm_end_1 (S : Nat → Nat) (h : S 5 = 0) : zm_end S 1 = va_up (va_up S 2 1) 6 (S 6 + 1) := by
  unfold zm_end
  rw [if_pos rfl]
  have e := zr_id (va_up (va_up S 2 1) 6 (S 6 + 1)) 5
  rw [show va_up (va_up S 2 1) 6 (S 6 + 1) 5 = 0 from h] at e
  exact e.symm
theorem zm_step_dd (h : ar 3 t = 2) (h2 : sc 0 ≤ t) (h5 : sc 5 = 0) : zm_end (va_up (va_up sc 3 t) 4 t) 1 = zp_step sc ar t := by
  rw [zm_end_1 (va_up (va_up sc 3 t) 4 t) h5]; unfold zp_step zp_s2; rw [if_pos h2, if_pos h]; rfl
theorem zm_step_nd (h : ¬ ar 3 t = 2) (h2 : sc 0 ≤ t) (h5 : sc 5 = 0) : zm_end (va_up sc 3 t) 1 = zp_step sc ar t := by
  rw [zm_end_1 (va_up sc 3 t) h5]; unfold zp_step zp_s2; rw [if_pos h2, if_neg h]; rfl
theorem zm_step_dn (h : ar 3 t = 2) (h2 : ¬ sc 0 ≤ t) : va_up (va_up sc 3 t) 4 t = zp_step sc ar t := by
  unfold zp_step zp_s2; rw [if_neg h2, if_pos h]
theorem zm_step_nn (h : ¬ ar 3 t = 2) (h2 : ¬ sc 0 ≤ t) : va_up sc 3 t = zp_step sc ar t := by
  unfold zp_step zp_s2; rw [if_neg h2, if_neg h]
end ZMS
set_option maxHeartbeats 4000000 in
set_option maxRecDepth 100000 in
theorem c_M_goes (g : zw_G) (l : Launch) (N : Nat) (ad : Nat → Nat) (E : Nat → va_E) (q : Nat → Nat) (rg : zt_R) (ev fs fl : Nat → Nat) (i : Nat) (r : (Nat → Nat) × (Nat → Nat → Nat)) (hN : 25 ≤ N) (hi : i < 30) (hro : zr_ok r.1 r.2) (hM : zm_at g ad E q (va_up rg i r) ev fs fl) (hev : ∀ j, ev j < 1000000) (hz0 : r.2 3 0 = 0) (hz5 : r.1 2 = 0 → r.1 5 = 0) (hq5 : q 5 < 3100) : zc_i g l y_M_goes b_M_goes 2 (some .int) { frames := 2, cells := 0, slots := 0, locals := 80 } [.ref (ad (8)), .int (nI (i + 1))] N ad E (fun v N1 ad1 E1 => N = N1 ∧ ad = ad1 ∧ v = nI (zp_turn r.1 r.2 ev).1 ∧ zm_at g ad E1 (if (zp_turn r.1 r.2 ev).1 = 1 then va_up q 5 (q 5 + 1) else q) (va_up rg i ((zp_turn r.1 r.2 ev).2.1, (zp_turn r.1 r.2 ev).2.2.1)) (zp_turn r.1 r.2 ev).2.2.2 fs (if (zp_turn r.1 r.2 ev).1 = 1 then va_up fl (q 5) (1000 * (i + 1) + (r.1 3 + 1)) else fl) ∧ zm_fr E E1) := by
  refine zc_i.of (by decide) (Nat.le_of_ble_eq_true rfl) ?_
  intro p e s m below meth c ls A X hr hlk hl hH
  have hl : lv_has ls 2 [(0, .ref (ad (8))), (1, .int (nI (i + 1)))] := hl
  obtain ⟨r0, r1, r2, r3, r4, r5, r7, r8, r6⟩ := hro.1
  have hF : zm_fr E E := zm_fr.rf
  have k9 := hro.2.2.2.2 (r.1 3 + 1)
  refine lv_aload_n X.1 X.2.1 d_M_goes_0 rfl (lv_at hl 0 rfl) ?_
  refine zx_get (v := .ref (ad (11))) X hH fg_M_16 (by omega) hM.1 rfl d_M_goes_1 ?_
  refine lv_iload_n X.1 X.2.1 d_M_goes_4 rfl (lv_at hl 1 rfl) ?_
  refine zx_iald (j := i + 1) X hH (by omega) (show E 11 = zr_ia g 31 (zm_c (va_up rg i (r)) 2) from hM.2.2.2.1) rfl (by omega) (by decide) d_M_goes_5 ?_
  refine zx_top (b := nI (r.1 2)) (congrArg nI (zm_c_at _ _ _ _)) ?_
  refine lv_if_eq (tgt := 11) X.1 X.2.1 d_M_goes_6 (by decide) (fun c2 => ?_) (fun c2 => ?_)
  · have c2 := (zn_eq (nI_toInt (by omega)) zn_0).mp c2
    refine lv_aload_n X.1 X.2.1 d_M_goes_11 rfl (lv_at hl 0 rfl) ?_
    refine zx_get (v := .ref (ad (17))) X hH fg_M_34 (by omega) hM.1 rfl d_M_goes_12 ?_
    refine lv_iload_n X.1 X.2.1 d_M_goes_15 rfl (lv_at hl 1 rfl) ?_
    refine zx_zald (j := i + 1) X hH (by omega) (show E 17 = zr_za g 31 (zm_c (va_up rg i (r)) 7) from hM.2.2.2.2.2.2.2.2.2.1) rfl (by omega) (by decide) d_M_goes_16 ?_
    refine zx_top (b := nI (r.1 7)) (congrArg nI (zm_c_at _ _ _ _)) ?_
    refine lv_if_eq (tgt := 36) X.1 X.2.1 d_M_goes_17 (by decide) (fun c3 => ?_) (fun c3 => ?_)
    · have c3 := (zn_eq (nI_toInt (by omega)) zn_0).mp c3
      refine lv_aload_n X.1 X.2.1 d_M_goes_36 rfl (lv_at hl 0 rfl) ?_
      refine lv_iload_n X.1 X.2.1 d_M_goes_37 rfl (lv_at hl 1 rfl) ?_
      refine zx_calli (zx_runV (As := [.int (nI (i + 1))]) (rest := []) X hH mv_M_88 ((c_M_isFree g l N ad E q rg ev fs fl i r hN hi hro hM hev) _) (by omega) hM.1 rfl ⟨Nat.le_of_ble_eq_true rfl, Nat.le_of_ble_eq_true rfl⟩ rfl hl rfl (Nat.le_of_ble_eq_true rfl) d_M_goes_38 ⟨Nat.le_of_ble_eq_true rfl, Nat.le_of_ble_eq_true rfl⟩) hH (fun r N1 ad1 E8 H locs hq hH => ?_)
      obtain ⟨rfl, rfl, rfl, hM, hF⟩ := hq
      by_cases dw : (zp_tw (r.2 0) (r.2 1) (r.1 3 + 1) (r.1 8) 0 (r.2 2) ev).1 = true
      · refine zx_top (b := nI 1) (by rw [if_pos dw]) ?_
        refine lv_if_ne (tgt := 46) X.1 X.2.1 d_M_goes_41 (by decide) (fun _ => ?_) (fun z => absurd z (by decide))
        refine lv_aload_n X.1 X.2.1 d_M_goes_46 rfl (lv_at hl 0 rfl) ?_
        refine zx_get (v := .ref (ad (10))) X hH fg_M_13 (by omega) hM.1 rfl d_M_goes_47 ?_
        refine lv_iload_n X.1 X.2.1 d_M_goes_50 rfl (lv_at hl 1 rfl) ?_
        refine zx_iald (j := i + 1) X hH (by omega) (show E8 10 = zr_ia g 31 (zm_c (va_up rg i (r.1, va_up r.2 2 (zp_tw (r.2 0) (r.2 1) (r.1 3 + 1) (r.1 8) 0 (r.2 2) ev).2.1)) 1) from hM.2.2.1) rfl (by omega) (by decide) d_M_goes_51 ?_
        refine zx_top (b := nI (r.1 1)) (congrArg nI (zm_c_at _ _ _ _)) ?_
        refine lv_aload_n X.1 X.2.1 d_M_goes_52 rfl (lv_at hl 0 rfl) ?_
        refine zx_get (v := .ref (ad (12))) X hH fg_M_19 (by omega) hM.1 rfl d_M_goes_53 ?_
        refine lv_iload_n X.1 X.2.1 d_M_goes_56 rfl (lv_at hl 1 rfl) ?_
        refine zx_iald (j := i + 1) X hH (by omega) (show E8 12 = zr_ia g 31 (zm_c (va_up rg i (r.1, va_up r.2 2 (zp_tw (r.2 0) (r.2 1) (r.1 3 + 1) (r.1 8) 0 (r.2 2) ev).2.1)) 3) from hM.2.2.2.2.1) rfl (by omega) (by decide) d_M_goes_57 ?_
        refine zx_top (b := nI (r.1 3)) (congrArg nI (zm_c_at _ _ _ _)) ?_
        refine lv_iconst (v := nI 1) X.1 X.2.1 d_M_goes_58 (by decide) ?_
        refine lv_iadd X.1 X.2.1 d_M_goes_59 ?_
        refine zx_top (nI_add _ _) ?_
        refine lv_icmp_ne (tgt := 71) X.1 X.2.1 d_M_goes_60 (by decide) (fun c4 => ?_) (fun c4 => ?_)
        · have c4 := mt (zn_eq (nI_toInt (by omega)) (nI_toInt (by omega))).mpr c4
          refine lv_aload_n X.1 X.2.1 d_M_goes_71 rfl (lv_at hl 0 rfl) ?_
          refine zx_get (v := .ref (ad (12))) X hH fg_M_19 (by omega) hM.1 rfl d_M_goes_72 ?_
          refine lv_iload_n X.1 X.2.1 d_M_goes_75 rfl (lv_at hl 1 rfl) ?_
          refine lv_dup2_11 X.1 X.2.1 d_M_goes_76 rfl rfl ?_
          refine zx_iald (j := i + 1) X hH (by omega) (show E8 12 = zr_ia g 31 (zm_c (va_up rg i (r.1, va_up r.2 2 (zp_tw (r.2 0) (r.2 1) (r.1 3 + 1) (r.1 8) 0 (r.2 2) ev).2.1)) 3) from hM.2.2.2.2.1) rfl (by omega) (by decide) d_M_goes_77 ?_
          refine zx_top (b := nI (r.1 3)) (congrArg nI (zm_c_at _ _ _ _)) ?_
          refine lv_iconst (v := nI 1) X.1 X.2.1 d_M_goes_78 (by decide) ?_
          refine lv_iadd X.1 X.2.1 d_M_goes_79 ?_
          refine zx_top (nI_add _ _) ?_
          refine zx_iast (j := i + 1) (x := nI ((r.1 3) + (1))) X hH (by omega) (show E8 12 = zr_ia g 31 (zm_c (va_up rg i (r.1, va_up r.2 2 (zp_tw (r.2 0) (r.2 1) (r.1 3 + 1) (r.1 8) 0 (r.2 2) ev).2.1)) 3) from hM.2.2.2.2.1) rfl (by omega) (by decide) d_M_goes_80 (fun H locs hH => ?_)
          rw [zr_upd] at hH
          have hH : zw_H g A s.heap s N ad (va_up E8 12 (zr_ia g 31 (va_up (zm_c (va_up rg i (r.1, va_up r.2 2 (zp_tw (r.2 0) (r.2 1) (r.1 3 + 1) (r.1 8) 0 (r.2 2) ev).2.1)) 3) (i + 1) ((r.1 3) + (1))))) H locs := hH
          have hM := hM.s3 ((r.1 3) + (1))
          have hF := hF.up (k := 12) (x := (zr_ia g 31 (va_up (zm_c (va_up rg i (r.1, va_up r.2 2 (zp_tw (r.2 0) (r.2 1) (r.1 3 + 1) (r.1 8) 0 (r.2 2) ev).2.1)) 3) (i + 1) ((r.1 3) + (1))))) (by decide) (by decide)
          generalize va_up E8 12 (zr_ia g 31 (va_up (zm_c (va_up rg i (r.1, va_up r.2 2 (zp_tw (r.2 0) (r.2 1) (r.1 3 + 1) (r.1 8) 0 (r.2 2) ev).2.1)) 3) (i + 1) ((r.1 3) + (1)))) = E5 at hH hM hF
          have hM : zm_at g ad E5 q (va_up rg i (va_up r.1 3 ((r.1 3) + (1)), va_up r.2 2 (zp_tw (r.2 0) (r.2 1) (r.1 3 + 1) (r.1 8) 0 (r.2 2) ev).2.1)) (zp_tw (r.2 0) (r.2 1) (r.1 3 + 1) (r.1 8) 0 (r.2 2) ev).2.2 fs fl := hM
          refine lv_aload_n X.1 X.2.1 d_M_goes_81 rfl (lv_at hl 0 rfl) ?_
          refine zx_get (v := .ref (ad (24))) X hH fg_M_56 (by omega) hM.1 rfl d_M_goes_82 ?_
          refine lv_aload_n X.1 X.2.1 d_M_goes_85 rfl (lv_at hl 0 rfl) ?_
          refine zx_get (v := .int (nI (q 5))) X hH fg_M_91 (by omega) hM.1 rfl d_M_goes_86 ?_
          refine lv_sipush (v := nI 1000) X.1 X.2.1 d_M_goes_89 (by decide) ?_
          refine lv_iload_n X.1 X.2.1 d_M_goes_92 rfl (lv_at hl 1 rfl) ?_
          refine lv_imul X.1 X.2.1 d_M_goes_93 ?_
          refine zx_top (pk_mul _ _) ?_
          refine lv_aload_n X.1 X.2.1 d_M_goes_94 rfl (lv_at hl 0 rfl) ?_
          refine zx_get (v := .ref (ad (12))) X hH fg_M_19 (by omega) hM.1 rfl d_M_goes_95 ?_
          refine lv_iload_n X.1 X.2.1 d_M_goes_98 rfl (lv_at hl 1 rfl) ?_
          refine zx_iald (j := i + 1) X hH (by omega) (show E5 12 = zr_ia g 31 (zm_c (va_up rg i (va_up r.1 3 ((r.1 3) + (1)), va_up r.2 2 (zp_tw (r.2 0) (r.2 1) (r.1 3 + 1) (r.1 8) 0 (r.2 2) ev).2.1)) 3) from hM.2.2.2.2.1) rfl (by omega) (by decide) d_M_goes_99 ?_
          refine zx_top (b := nI ((r.1 3) + (1))) (congrArg nI (zm_c_at _ _ _ _)) ?_
          refine lv_iadd X.1 X.2.1 d_M_goes_100 ?_
          refine zx_top (nI_add _ _) ?_
          refine zx_iast (j := q 5) (x := nI (1000 * (i + 1) + (r.1 3 + 1))) X hH (by omega) (show E5 24 = zr_ia g 3100 fl from hM.2.2.2.2.2.2.2.2.2.2.2.2.2.2.2.2) rfl (by omega) (by decide) d_M_goes_101 (fun H locs hH => ?_)
          rw [zr_upd] at hH
          have hH : zw_H g A s.heap s N ad (va_up E5 24 (zr_ia g 3100 (va_up fl (q 5) (1000 * (i + 1) + (r.1 3 + 1))))) H locs := hH
          have hM := hM.fl (va_up fl (q 5) (1000 * (i + 1) + (r.1 3 + 1)))
          have hF := hF.up (k := 24) (x := (zr_ia g 3100 (va_up fl (q 5) (1000 * (i + 1) + (r.1 3 + 1))))) (by decide) (by decide)
          generalize va_up E5 24 (zr_ia g 3100 (va_up fl (q 5) (1000 * (i + 1) + (r.1 3 + 1)))) = E6 at hH hM hF
          refine lv_aload_n X.1 X.2.1 d_M_goes_102 rfl (lv_at hl 0 rfl) ?_
          refine lv_dup X.1 X.2.1 d_M_goes_103 rfl ?_
          refine zx_get (v := .int (nI (q 5))) X hH fg_M_91 (by omega) hM.1 rfl d_M_goes_104 ?_
          refine lv_iconst (v := nI 1) X.1 X.2.1 d_M_goes_107 (by decide) ?_
          refine lv_iadd X.1 X.2.1 d_M_goes_108 ?_
          refine zx_top (nI_add _ _) ?_
          refine zx_put X hH fp_M_91 (by omega) hM.1 (Nat.le_of_ble_eq_true rfl) rfl rfl d_M_goes_109 (fun H locs hH => ?_)
          have hH : zw_H g A s.heap s N ad (va_up E6 8 (zm_o ad (va_up q 5 (q 5 + 1)))) H locs := hH
          have hM := hM.o (va_up q 5 (q 5 + 1))
          have hF := hF.up (k := 8) (x := (zm_o ad (va_up q 5 (q 5 + 1)))) (by decide) (by decide)
          generalize va_up E6 8 (zm_o ad (va_up q 5 (q 5 + 1))) = E7 at hH hM hF
          refine lv_aload_n X.1 X.2.1 d_M_goes_112 rfl (lv_at hl 0 rfl) ?_
          refine zx_get (v := .ref (ad (19))) X hH fg_M_41 (by omega) hM.1 rfl d_M_goes_113 ?_
          refine lv_iload_n X.1 X.2.1 d_M_goes_116 rfl (lv_at hl 1 rfl) ?_
          refine lv_aload_n X.1 X.2.1 d_M_goes_117 rfl (lv_at hl 0 rfl) ?_
          refine zx_get (v := .ref (ad (12))) X hH fg_M_19 (by omega) hM.1 rfl d_M_goes_118 ?_
          refine lv_iload_n X.1 X.2.1 d_M_goes_121 rfl (lv_at hl 1 rfl) ?_
          refine zx_iald (j := i + 1) X hH (by omega) (show E7 12 = zr_ia g 31 (zm_c (va_up rg i (va_up r.1 3 ((r.1 3) + (1)), va_up r.2 2 (zp_tw (r.2 0) (r.2 1) (r.1 3 + 1) (r.1 8) 0 (r.2 2) ev).2.1)) 3) from hM.2.2.2.2.1) rfl (by omega) (by decide) d_M_goes_122 ?_
          refine zx_top (b := nI ((r.1 3) + (1))) (congrArg nI (zm_c_at _ _ _ _)) ?_
          refine zx_calli (zx_runS (As := [.int (nI (i + 1)), .int (nI ((r.1 3) + (1)))]) (rest := [.ref (ad (19))]) X hH ms_M_77 ((c_M_of g l N ad E7 (i + 1) ((r.1 3) + (1))) _) ⟨Nat.le_of_ble_eq_true rfl, Nat.le_of_ble_eq_true rfl⟩ rfl hl rfl (Nat.le_of_ble_eq_true rfl) d_M_goes_123 ⟨Nat.le_of_ble_eq_true rfl, Nat.le_of_ble_eq_true rfl⟩) hH (fun r N1 ad1 E1 H locs hq hH => ?_)
          obtain ⟨rfl, rfl, rfl, rfl⟩ := hq
          refine zx_iald (j := 101 * (i + 1) + (r.1 3 + 1)) X hH (by omega) (show E7 19 = zr_ia g 3131 (zm_d (va_up rg i (va_up r.1 3 ((r.1 3) + (1)), va_up r.2 2 (zp_tw (r.2 0) (r.2 1) (r.1 3 + 1) (r.1 8) 0 (r.2 2) ev).2.1))) from hM.2.2.2.2.2.2.2.2.2.2.2.1) rfl (by omega) (by decide) d_M_goes_126 ?_
          refine zx_top (b := nI (r.2 3 (r.1 3 + 1))) (congrArg nI (zm_d_at _ _ _ (by omega))) ?_
          refine lv_iconst (v := nI 2) X.1 X.2.1 d_M_goes_127 (by decide) ?_
          refine lv_icmp_ne (tgt := 143) X.1 X.2.1 d_M_goes_128 (by decide) (fun c8 => ?_) (fun c8 => ?_)
          · have c8 := mt (zn_eq (nI_toInt (by omega)) (nI_toInt (by omega))).mpr c8
            refine lv_aload_n X.1 X.2.1 d_M_goes_143 rfl (lv_at hl 0 rfl) ?_
            refine zx_get (v := .ref (ad (12))) X hH fg_M_19 (by omega) hM.1 rfl d_M_goes_144 ?_
            refine lv_iload_n X.1 X.2.1 d_M_goes_147 rfl (lv_at hl 1 rfl) ?_
            refine zx_iald (j := i + 1) X hH (by omega) (show E7 12 = zr_ia g 31 (zm_c (va_up rg i (va_up r.1 3 ((r.1 3) + (1)), va_up r.2 2 (zp_tw (r.2 0) (r.2 1) (r.1 3 + 1) (r.1 8) 0 (r.2 2) ev).2.1)) 3) from hM.2.2.2.2.1) rfl (by omega) (by decide) d_M_goes_148 ?_
            refine zx_top (b := nI ((r.1 3) + (1))) (congrArg nI (zm_c_at _ _ _ _)) ?_
            refine lv_aload_n X.1 X.2.1 d_M_goes_149 rfl (lv_at hl 0 rfl) ?_
            refine zx_get (v := .ref (ad (9))) X hH fg_M_7 (by omega) hM.1 rfl d_M_goes_150 ?_
            refine lv_iload_n X.1 X.2.1 d_M_goes_153 rfl (lv_at hl 1 rfl) ?_
            refine zx_iald (j := i + 1) X hH (by omega) (show E7 9 = zr_ia g 31 (zm_c (va_up rg i (va_up r.1 3 ((r.1 3) + (1)), va_up r.2 2 (zp_tw (r.2 0) (r.2 1) (r.1 3 + 1) (r.1 8) 0 (r.2 2) ev).2.1)) 0) from hM.2.1) rfl (by omega) (by decide) d_M_goes_154 ?_
            refine zx_top (b := nI (r.1 0)) (congrArg nI (zm_c_at _ _ _ _)) ?_
            refine lv_icmp_ne (tgt := 164) X.1 X.2.1 d_M_goes_155 (by decide) (fun c9 => ?_) (fun c9 => ?_)
            · have c9 := mt (zn_eq (nI_toInt (by omega)) (nI_toInt (by omega))).mpr c9
              refine lv_iconst (v := nI 1) X.1 X.2.1 d_M_goes_164 (by decide) ?_
              exact zx_iret X hr hlk hH (Nat.le_of_ble_eq_true rfl) (Nat.le_of_ble_eq_true rfl) d_M_goes_165 ⟨rfl, rfl, by rw [zp_turn_step (by omega) (by omega) dw (by omega)]; exact ⟨rfl, (by rw [← zm_step_nn (ar := va_up r.2 2 (zp_tw (r.2 0) (r.2 1) (r.1 3 + 1) (r.1 8) 0 (r.2 2) ev).2.1) (show ¬ r.2 3 (r.1 3 + 1) = 2 by omega) (by omega)]; exact hM), hF⟩⟩
            · have c9 := (zn_eq (nI_toInt (by omega)) (nI_toInt (by omega))).mp c9
              refine lv_aload_n X.1 X.2.1 d_M_goes_158 rfl (lv_at hl 0 rfl) ?_
              refine lv_iload_n X.1 X.2.1 d_M_goes_159 rfl (lv_at hl 1 rfl) ?_
              refine lv_iconst (v := nI 1) X.1 X.2.1 d_M_goes_160 (by decide) ?_
              refine zx_callv (zx_runV (As := [.int (nI (i + 1)), .int (nI (1))]) (rest := []) X hH mv_M_84 ((c_M_end g l N ad E7 (va_up q 5 (q 5 + 1)) rg (zp_tw (r.2 0) (r.2 1) (r.1 3 + 1) (r.1 8) 0 (r.2 2) ev).2.2 fs (va_up fl (q 5) (1000 * (i + 1) + (r.1 3 + 1))) i (va_up r.1 3 ((r.1 3) + (1)), va_up r.2 2 (zp_tw (r.2 0) (r.2 1) (r.1 3 + 1) (r.1 8) 0 (r.2 2) ev).2.1) hN hi (by show _ ≤ r.1 3 + 1; first | exact Nat.le_refl _ | (show r.1 4 ≤ _; omega)) hM 1 (by decide)) _) (by omega) hM.1 rfl ⟨Nat.le_of_ble_eq_true rfl, Nat.le_of_ble_eq_true rfl⟩ rfl hl rfl (Nat.le_of_ble_eq_true rfl) d_M_goes_161 ⟨Nat.le_of_ble_eq_true rfl, Nat.le_of_ble_eq_true rfl⟩) hH (fun N1 ad1 E9 H locs hq hH => ?_)
              obtain ⟨rfl, rfl, hM, hF1⟩ := hq
              have hF := hF.tr hF1
              refine lv_iconst (v := nI 1) X.1 X.2.1 d_M_goes_164 (by decide) ?_
              exact zx_iret X hr hlk hH (Nat.le_of_ble_eq_true rfl) (Nat.le_of_ble_eq_true rfl) d_M_goes_165 ⟨rfl, rfl, by rw [zp_turn_step (by omega) (by omega) dw (by omega)]; exact ⟨rfl, (by rw [← zm_step_nd (ar := va_up r.2 2 (zp_tw (r.2 0) (r.2 1) (r.1 3 + 1) (r.1 8) 0 (r.2 2) ev).2.1) (show ¬ r.2 3 (r.1 3 + 1) = 2 by omega) (by omega) (hz5 (by omega))]; exact hM), hF⟩⟩
          · have c8 := (zn_eq (nI_toInt (by omega)) (nI_toInt (by omega))).mp c8
            refine lv_aload_n X.1 X.2.1 d_M_goes_131 rfl (lv_at hl 0 rfl) ?_
            refine zx_get (v := .ref (ad (13))) X hH fg_M_22 (by omega) hM.1 rfl d_M_goes_132 ?_
            refine lv_iload_n X.1 X.2.1 d_M_goes_135 rfl (lv_at hl 1 rfl) ?_
            refine lv_aload_n X.1 X.2.1 d_M_goes_136 rfl (lv_at hl 0 rfl) ?_
            refine zx_get (v := .ref (ad (12))) X hH fg_M_19 (by omega) hM.1 rfl d_M_goes_137 ?_
            refine lv_iload_n X.1 X.2.1 d_M_goes_140 rfl (lv_at hl 1 rfl) ?_
            refine zx_iald (j := i + 1) X hH (by omega) (show E7 12 = zr_ia g 31 (zm_c (va_up rg i (va_up r.1 3 ((r.1 3) + (1)), va_up r.2 2 (zp_tw (r.2 0) (r.2 1) (r.1 3 + 1) (r.1 8) 0 (r.2 2) ev).2.1)) 3) from hM.2.2.2.2.1) rfl (by omega) (by decide) d_M_goes_141 ?_
            refine zx_top (b := nI ((r.1 3) + (1))) (congrArg nI (zm_c_at _ _ _ _)) ?_
            refine zx_iast (j := i + 1) (x := nI ((r.1 3) + (1))) X hH (by omega) (show E7 13 = zr_ia g 31 (zm_c (va_up rg i (va_up r.1 3 ((r.1 3) + (1)), va_up r.2 2 (zp_tw (r.2 0) (r.2 1) (r.1 3 + 1) (r.1 8) 0 (r.2 2) ev).2.1)) 4) from hM.2.2.2.2.2.1) rfl (by omega) (by decide) d_M_goes_142 (fun H locs hH => ?_)
            rw [zr_upd] at hH
            have hH : zw_H g A s.heap s N ad (va_up E7 13 (zr_ia g 31 (va_up (zm_c (va_up rg i (va_up r.1 3 ((r.1 3) + (1)), va_up r.2 2 (zp_tw (r.2 0) (r.2 1) (r.1 3 + 1) (r.1 8) 0 (r.2 2) ev).2.1)) 4) (i + 1) ((r.1 3) + (1))))) H locs := hH
            have hM := hM.s4 ((r.1 3) + (1))
            have hF := hF.up (k := 13) (x := (zr_ia g 31 (va_up (zm_c (va_up rg i (va_up r.1 3 ((r.1 3) + (1)), va_up r.2 2 (zp_tw (r.2 0) (r.2 1) (r.1 3 + 1) (r.1 8) 0 (r.2 2) ev).2.1)) 4) (i + 1) ((r.1 3) + (1))))) (by decide) (by decide)
            generalize va_up E7 13 (zr_ia g 31 (va_up (zm_c (va_up rg i (va_up r.1 3 ((r.1 3) + (1)), va_up r.2 2 (zp_tw (r.2 0) (r.2 1) (r.1 3 + 1) (r.1 8) 0 (r.2 2) ev).2.1)) 4) (i + 1) ((r.1 3) + (1)))) = E10 at hH hM hF
            have hM : zm_at g ad E10 (va_up q 5 (q 5 + 1)) (va_up rg i (va_up (va_up r.1 3 ((r.1 3) + (1))) 4 ((r.1 3) + (1)), va_up r.2 2 (zp_tw (r.2 0) (r.2 1) (r.1 3 + 1) (r.1 8) 0 (r.2 2) ev).2.1)) (zp_tw (r.2 0) (r.2 1) (r.1 3 + 1) (r.1 8) 0 (r.2 2) ev).2.2 fs (va_up fl (q 5) (1000 * (i + 1) + (r.1 3 + 1))) := hM
            refine lv_aload_n X.1 X.2.1 d_M_goes_143 rfl (lv_at hl 0 rfl) ?_
            refine zx_get (v := .ref (ad (12))) X hH fg_M_19 (by omega) hM.1 rfl d_M_goes_144 ?_
            refine lv_iload_n X.1 X.2.1 d_M_goes_147 rfl (lv_at hl 1 rfl) ?_
            refine zx_iald (j := i + 1) X hH (by omega) (show E10 12 = zr_ia g 31 (zm_c (va_up rg i (va_up (va_up r.1 3 ((r.1 3) + (1))) 4 ((r.1 3) + (1)), va_up r.2 2 (zp_tw (r.2 0) (r.2 1) (r.1 3 + 1) (r.1 8) 0 (r.2 2) ev).2.1)) 3) from hM.2.2.2.2.1) rfl (by omega) (by decide) d_M_goes_148 ?_
            refine zx_top (b := nI ((r.1 3) + (1))) (congrArg nI (zm_c_at _ _ _ _)) ?_
            refine lv_aload_n X.1 X.2.1 d_M_goes_149 rfl (lv_at hl 0 rfl) ?_
            refine zx_get (v := .ref (ad (9))) X hH fg_M_7 (by omega) hM.1 rfl d_M_goes_150 ?_
            refine lv_iload_n X.1 X.2.1 d_M_goes_153 rfl (lv_at hl 1 rfl) ?_
            refine zx_iald (j := i + 1) X hH (by omega) (show E10 9 = zr_ia g 31 (zm_c (va_up rg i (va_up (va_up r.1 3 ((r.1 3) + (1))) 4 ((r.1 3) + (1)), va_up r.2 2 (zp_tw (r.2 0) (r.2 1) (r.1 3 + 1) (r.1 8) 0 (r.2 2) ev).2.1)) 0) from hM.2.1) rfl (by omega) (by decide) d_M_goes_154 ?_
            refine zx_top (b := nI (r.1 0)) (congrArg nI (zm_c_at _ _ _ _)) ?_
            refine lv_icmp_ne (tgt := 164) X.1 X.2.1 d_M_goes_155 (by decide) (fun c11 => ?_) (fun c11 => ?_)
            · have c11 := mt (zn_eq (nI_toInt (by omega)) (nI_toInt (by omega))).mpr c11
              refine lv_iconst (v := nI 1) X.1 X.2.1 d_M_goes_164 (by decide) ?_
              exact zx_iret X hr hlk hH (Nat.le_of_ble_eq_true rfl) (Nat.le_of_ble_eq_true rfl) d_M_goes_165 ⟨rfl, rfl, by rw [zp_turn_step (by omega) (by omega) dw (by omega)]; exact ⟨rfl, (by rw [← zm_step_dn (ar := va_up r.2 2 (zp_tw (r.2 0) (r.2 1) (r.1 3 + 1) (r.1 8) 0 (r.2 2) ev).2.1) (show r.2 3 (r.1 3 + 1) = 2 by omega) (by omega)]; exact hM), hF⟩⟩
            · have c11 := (zn_eq (nI_toInt (by omega)) (nI_toInt (by omega))).mp c11
              refine lv_aload_n X.1 X.2.1 d_M_goes_158 rfl (lv_at hl 0 rfl) ?_
              refine lv_iload_n X.1 X.2.1 d_M_goes_159 rfl (lv_at hl 1 rfl) ?_
              refine lv_iconst (v := nI 1) X.1 X.2.1 d_M_goes_160 (by decide) ?_
              refine zx_callv (zx_runV (As := [.int (nI (i + 1)), .int (nI (1))]) (rest := []) X hH mv_M_84 ((c_M_end g l N ad E10 (va_up q 5 (q 5 + 1)) rg (zp_tw (r.2 0) (r.2 1) (r.1 3 + 1) (r.1 8) 0 (r.2 2) ev).2.2 fs (va_up fl (q 5) (1000 * (i + 1) + (r.1 3 + 1))) i (va_up (va_up r.1 3 ((r.1 3) + (1))) 4 ((r.1 3) + (1)), va_up r.2 2 (zp_tw (r.2 0) (r.2 1) (r.1 3 + 1) (r.1 8) 0 (r.2 2) ev).2.1) hN hi (by show _ ≤ r.1 3 + 1; first | exact Nat.le_refl _ | (show r.1 4 ≤ _; omega)) hM 1 (by decide)) _) (by omega) hM.1 rfl ⟨Nat.le_of_ble_eq_true rfl, Nat.le_of_ble_eq_true rfl⟩ rfl hl rfl (Nat.le_of_ble_eq_true rfl) d_M_goes_161 ⟨Nat.le_of_ble_eq_true rfl, Nat.le_of_ble_eq_true rfl⟩) hH (fun N1 ad1 E9 H locs hq hH => ?_)
              obtain ⟨rfl, rfl, hM, hF1⟩ := hq
              have hF := hF.tr hF1
              refine lv_iconst (v := nI 1) X.1 X.2.1 d_M_goes_164 (by decide) ?_
              exact zx_iret X hr hlk hH (Nat.le_of_ble_eq_true rfl) (Nat.le_of_ble_eq_true rfl) d_M_goes_165 ⟨rfl, rfl, by rw [zp_turn_step (by omega) (by omega) dw (by omega)]; exact ⟨rfl, (by rw [← zm_step_dd (ar := va_up r.2 2 (zp_tw (r.2 0) (r.2 1) (r.1 3 + 1) (r.1 8) 0 (r.2 2) ev).2.1) (show r.2 3 (r.1 3 + 1) = 2 by omega) (by omega) (hz5 (by omega))]; exact hM), hF⟩⟩
        · have c4 := (zn_eq (nI_toInt (by omega)) (nI_toInt (by omega))).mp c4
          refine lv_aload_n X.1 X.2.1 d_M_goes_63 rfl (lv_at hl 0 rfl) ?_
          refine lv_iload_n X.1 X.2.1 d_M_goes_64 rfl (lv_at hl 1 rfl) ?_
          refine lv_iconst (v := nI 2) X.1 X.2.1 d_M_goes_65 (by decide) ?_
          refine zx_callv (zx_runV (As := [.int (nI (i + 1)), .int (nI (2))]) (rest := []) X hH mv_M_84 ((c_M_end g l N ad E8 q rg (zp_tw (r.2 0) (r.2 1) (r.1 3 + 1) (r.1 8) 0 (r.2 2) ev).2.2 fs fl i (r.1, va_up r.2 2 (zp_tw (r.2 0) (r.2 1) (r.1 3 + 1) (r.1 8) 0 (r.2 2) ev).2.1) hN hi r4 hM 2 (by decide)) _) (by omega) hM.1 rfl ⟨Nat.le_of_ble_eq_true rfl, Nat.le_of_ble_eq_true rfl⟩ rfl hl rfl (Nat.le_of_ble_eq_true rfl) d_M_goes_66 ⟨Nat.le_of_ble_eq_true rfl, Nat.le_of_ble_eq_true rfl⟩) hH (fun N1 ad1 E9 H locs hq hH => ?_)
          obtain ⟨rfl, rfl, hM, hF1⟩ := hq
          have hF := hF.tr hF1
          refine lv_iconst (v := nI 2) X.1 X.2.1 d_M_goes_69 (by decide) ?_
          exact zx_iret X hr hlk hH (Nat.le_of_ble_eq_true rfl) (Nat.le_of_ble_eq_true rfl) d_M_goes_70 ⟨rfl, rfl, by rw [zp_turn_fail (by omega) (by omega) dw (by omega)]; exact ⟨rfl, (by rw [← zm_end_back (by decide)]; exact hM), hF⟩⟩
      · refine zx_top (b := nI 0) (by rw [if_neg dw]) ?_
        refine lv_if_ne (tgt := 46) X.1 X.2.1 d_M_goes_41 (by decide) (fun z => absurd (by decide) z) (fun _ => ?_)
        refine lv_iconst (v := nI 0) X.1 X.2.1 d_M_goes_44 (by decide) ?_
        exact zx_iret X hr hlk hH (Nat.le_of_ble_eq_true rfl) (Nat.le_of_ble_eq_true rfl) d_M_goes_45 ⟨rfl, rfl, by rw [zp_turn_wait (by omega) (by omega) dw]; exact ⟨rfl, hM, hF⟩⟩
    · have c3 := mt (zn_eq (nI_toInt (by omega)) zn_0).mpr c3
      refine lv_aload_n X.1 X.2.1 d_M_goes_20 rfl (lv_at hl 0 rfl) ?_
      refine lv_iload_n X.1 X.2.1 d_M_goes_21 rfl (lv_at hl 1 rfl) ?_
      refine zx_calli (zx_runV (As := [.int (nI (i + 1))]) (rest := []) X hH mv_M_81 ((c_M_isBetween g l N ad E q rg ev fs fl i r hN hi hro hM hz0) _) (by omega) hM.1 rfl ⟨Nat.le_of_ble_eq_true rfl, Nat.le_of_ble_eq_true rfl⟩ rfl hl rfl (Nat.le_of_ble_eq_true rfl) d_M_goes_22 ⟨Nat.le_of_ble_eq_true rfl, Nat.le_of_ble_eq_true rfl⟩) hH (fun r N1 ad1 E1 H locs hq hH => ?_)
      obtain ⟨rfl, rfl, rfl, rfl⟩ := hq
      by_cases d12 : r.2 3 (r.1 3) = 1
      · refine zx_top (b := nI 1) (by rw [if_pos d12]) ?_
        refine lv_if_ne (tgt := 36) X.1 X.2.1 d_M_goes_25 (by decide) (fun z => ?_) (fun z => ?_)
        · clear z
          refine lv_aload_n X.1 X.2.1 d_M_goes_36 rfl (lv_at hl 0 rfl) ?_
          refine lv_iload_n X.1 X.2.1 d_M_goes_37 rfl (lv_at hl 1 rfl) ?_
          refine zx_calli (zx_runV (As := [.int (nI (i + 1))]) (rest := []) X hH mv_M_88 ((c_M_isFree g l N ad E q rg ev fs fl i r hN hi hro hM hev) _) (by omega) hM.1 rfl ⟨Nat.le_of_ble_eq_true rfl, Nat.le_of_ble_eq_true rfl⟩ rfl hl rfl (Nat.le_of_ble_eq_true rfl) d_M_goes_38 ⟨Nat.le_of_ble_eq_true rfl, Nat.le_of_ble_eq_true rfl⟩) hH (fun r N1 ad1 E8 H locs hq hH => ?_)
          obtain ⟨rfl, rfl, rfl, hM, hF⟩ := hq
          by_cases dw : (zp_tw (r.2 0) (r.2 1) (r.1 3 + 1) (r.1 8) 0 (r.2 2) ev).1 = true
          · refine zx_top (b := nI 1) (by rw [if_pos dw]) ?_
            refine lv_if_ne (tgt := 46) X.1 X.2.1 d_M_goes_41 (by decide) (fun _ => ?_) (fun z => absurd z (by decide))
            refine lv_aload_n X.1 X.2.1 d_M_goes_46 rfl (lv_at hl 0 rfl) ?_
            refine zx_get (v := .ref (ad (10))) X hH fg_M_13 (by omega) hM.1 rfl d_M_goes_47 ?_
            refine lv_iload_n X.1 X.2.1 d_M_goes_50 rfl (lv_at hl 1 rfl) ?_
            refine zx_iald (j := i + 1) X hH (by omega) (show E8 10 = zr_ia g 31 (zm_c (va_up rg i (r.1, va_up r.2 2 (zp_tw (r.2 0) (r.2 1) (r.1 3 + 1) (r.1 8) 0 (r.2 2) ev).2.1)) 1) from hM.2.2.1) rfl (by omega) (by decide) d_M_goes_51 ?_
            refine zx_top (b := nI (r.1 1)) (congrArg nI (zm_c_at _ _ _ _)) ?_
            refine lv_aload_n X.1 X.2.1 d_M_goes_52 rfl (lv_at hl 0 rfl) ?_
            refine zx_get (v := .ref (ad (12))) X hH fg_M_19 (by omega) hM.1 rfl d_M_goes_53 ?_
            refine lv_iload_n X.1 X.2.1 d_M_goes_56 rfl (lv_at hl 1 rfl) ?_
            refine zx_iald (j := i + 1) X hH (by omega) (show E8 12 = zr_ia g 31 (zm_c (va_up rg i (r.1, va_up r.2 2 (zp_tw (r.2 0) (r.2 1) (r.1 3 + 1) (r.1 8) 0 (r.2 2) ev).2.1)) 3) from hM.2.2.2.2.1) rfl (by omega) (by decide) d_M_goes_57 ?_
            refine zx_top (b := nI (r.1 3)) (congrArg nI (zm_c_at _ _ _ _)) ?_
            refine lv_iconst (v := nI 1) X.1 X.2.1 d_M_goes_58 (by decide) ?_
            refine lv_iadd X.1 X.2.1 d_M_goes_59 ?_
            refine zx_top (nI_add _ _) ?_
            refine lv_icmp_ne (tgt := 71) X.1 X.2.1 d_M_goes_60 (by decide) (fun c13 => ?_) (fun c13 => ?_)
            · have c13 := mt (zn_eq (nI_toInt (by omega)) (nI_toInt (by omega))).mpr c13
              refine lv_aload_n X.1 X.2.1 d_M_goes_71 rfl (lv_at hl 0 rfl) ?_
              refine zx_get (v := .ref (ad (12))) X hH fg_M_19 (by omega) hM.1 rfl d_M_goes_72 ?_
              refine lv_iload_n X.1 X.2.1 d_M_goes_75 rfl (lv_at hl 1 rfl) ?_
              refine lv_dup2_11 X.1 X.2.1 d_M_goes_76 rfl rfl ?_
              refine zx_iald (j := i + 1) X hH (by omega) (show E8 12 = zr_ia g 31 (zm_c (va_up rg i (r.1, va_up r.2 2 (zp_tw (r.2 0) (r.2 1) (r.1 3 + 1) (r.1 8) 0 (r.2 2) ev).2.1)) 3) from hM.2.2.2.2.1) rfl (by omega) (by decide) d_M_goes_77 ?_
              refine zx_top (b := nI (r.1 3)) (congrArg nI (zm_c_at _ _ _ _)) ?_
              refine lv_iconst (v := nI 1) X.1 X.2.1 d_M_goes_78 (by decide) ?_
              refine lv_iadd X.1 X.2.1 d_M_goes_79 ?_
              refine zx_top (nI_add _ _) ?_
              refine zx_iast (j := i + 1) (x := nI ((r.1 3) + (1))) X hH (by omega) (show E8 12 = zr_ia g 31 (zm_c (va_up rg i (r.1, va_up r.2 2 (zp_tw (r.2 0) (r.2 1) (r.1 3 + 1) (r.1 8) 0 (r.2 2) ev).2.1)) 3) from hM.2.2.2.2.1) rfl (by omega) (by decide) d_M_goes_80 (fun H locs hH => ?_)
              rw [zr_upd] at hH
              have hH : zw_H g A s.heap s N ad (va_up E8 12 (zr_ia g 31 (va_up (zm_c (va_up rg i (r.1, va_up r.2 2 (zp_tw (r.2 0) (r.2 1) (r.1 3 + 1) (r.1 8) 0 (r.2 2) ev).2.1)) 3) (i + 1) ((r.1 3) + (1))))) H locs := hH
              have hM := hM.s3 ((r.1 3) + (1))
              have hF := hF.up (k := 12) (x := (zr_ia g 31 (va_up (zm_c (va_up rg i (r.1, va_up r.2 2 (zp_tw (r.2 0) (r.2 1) (r.1 3 + 1) (r.1 8) 0 (r.2 2) ev).2.1)) 3) (i + 1) ((r.1 3) + (1))))) (by decide) (by decide)
              generalize va_up E8 12 (zr_ia g 31 (va_up (zm_c (va_up rg i (r.1, va_up r.2 2 (zp_tw (r.2 0) (r.2 1) (r.1 3 + 1) (r.1 8) 0 (r.2 2) ev).2.1)) 3) (i + 1) ((r.1 3) + (1)))) = E14 at hH hM hF
              have hM : zm_at g ad E14 q (va_up rg i (va_up r.1 3 ((r.1 3) + (1)), va_up r.2 2 (zp_tw (r.2 0) (r.2 1) (r.1 3 + 1) (r.1 8) 0 (r.2 2) ev).2.1)) (zp_tw (r.2 0) (r.2 1) (r.1 3 + 1) (r.1 8) 0 (r.2 2) ev).2.2 fs fl := hM
              refine lv_aload_n X.1 X.2.1 d_M_goes_81 rfl (lv_at hl 0 rfl) ?_
              refine zx_get (v := .ref (ad (24))) X hH fg_M_56 (by omega) hM.1 rfl d_M_goes_82 ?_
              refine lv_aload_n X.1 X.2.1 d_M_goes_85 rfl (lv_at hl 0 rfl) ?_
              refine zx_get (v := .int (nI (q 5))) X hH fg_M_91 (by omega) hM.1 rfl d_M_goes_86 ?_
              refine lv_sipush (v := nI 1000) X.1 X.2.1 d_M_goes_89 (by decide) ?_
              refine lv_iload_n X.1 X.2.1 d_M_goes_92 rfl (lv_at hl 1 rfl) ?_
              refine lv_imul X.1 X.2.1 d_M_goes_93 ?_
              refine zx_top (pk_mul _ _) ?_
              refine lv_aload_n X.1 X.2.1 d_M_goes_94 rfl (lv_at hl 0 rfl) ?_
              refine zx_get (v := .ref (ad (12))) X hH fg_M_19 (by omega) hM.1 rfl d_M_goes_95 ?_
              refine lv_iload_n X.1 X.2.1 d_M_goes_98 rfl (lv_at hl 1 rfl) ?_
              refine zx_iald (j := i + 1) X hH (by omega) (show E14 12 = zr_ia g 31 (zm_c (va_up rg i (va_up r.1 3 ((r.1 3) + (1)), va_up r.2 2 (zp_tw (r.2 0) (r.2 1) (r.1 3 + 1) (r.1 8) 0 (r.2 2) ev).2.1)) 3) from hM.2.2.2.2.1) rfl (by omega) (by decide) d_M_goes_99 ?_
              refine zx_top (b := nI ((r.1 3) + (1))) (congrArg nI (zm_c_at _ _ _ _)) ?_
              refine lv_iadd X.1 X.2.1 d_M_goes_100 ?_
              refine zx_top (nI_add _ _) ?_
              refine zx_iast (j := q 5) (x := nI (1000 * (i + 1) + (r.1 3 + 1))) X hH (by omega) (show E14 24 = zr_ia g 3100 fl from hM.2.2.2.2.2.2.2.2.2.2.2.2.2.2.2.2) rfl (by omega) (by decide) d_M_goes_101 (fun H locs hH => ?_)
              rw [zr_upd] at hH
              have hH : zw_H g A s.heap s N ad (va_up E14 24 (zr_ia g 3100 (va_up fl (q 5) (1000 * (i + 1) + (r.1 3 + 1))))) H locs := hH
              have hM := hM.fl (va_up fl (q 5) (1000 * (i + 1) + (r.1 3 + 1)))
              have hF := hF.up (k := 24) (x := (zr_ia g 3100 (va_up fl (q 5) (1000 * (i + 1) + (r.1 3 + 1))))) (by decide) (by decide)
              generalize va_up E14 24 (zr_ia g 3100 (va_up fl (q 5) (1000 * (i + 1) + (r.1 3 + 1)))) = E15 at hH hM hF
              refine lv_aload_n X.1 X.2.1 d_M_goes_102 rfl (lv_at hl 0 rfl) ?_
              refine lv_dup X.1 X.2.1 d_M_goes_103 rfl ?_
              refine zx_get (v := .int (nI (q 5))) X hH fg_M_91 (by omega) hM.1 rfl d_M_goes_104 ?_
              refine lv_iconst (v := nI 1) X.1 X.2.1 d_M_goes_107 (by decide) ?_
              refine lv_iadd X.1 X.2.1 d_M_goes_108 ?_
              refine zx_top (nI_add _ _) ?_
              refine zx_put X hH fp_M_91 (by omega) hM.1 (Nat.le_of_ble_eq_true rfl) rfl rfl d_M_goes_109 (fun H locs hH => ?_)
              have hH : zw_H g A s.heap s N ad (va_up E15 8 (zm_o ad (va_up q 5 (q 5 + 1)))) H locs := hH
              have hM := hM.o (va_up q 5 (q 5 + 1))
              have hF := hF.up (k := 8) (x := (zm_o ad (va_up q 5 (q 5 + 1)))) (by decide) (by decide)
              generalize va_up E15 8 (zm_o ad (va_up q 5 (q 5 + 1))) = E16 at hH hM hF
              refine lv_aload_n X.1 X.2.1 d_M_goes_112 rfl (lv_at hl 0 rfl) ?_
              refine zx_get (v := .ref (ad (19))) X hH fg_M_41 (by omega) hM.1 rfl d_M_goes_113 ?_
              refine lv_iload_n X.1 X.2.1 d_M_goes_116 rfl (lv_at hl 1 rfl) ?_
              refine lv_aload_n X.1 X.2.1 d_M_goes_117 rfl (lv_at hl 0 rfl) ?_
              refine zx_get (v := .ref (ad (12))) X hH fg_M_19 (by omega) hM.1 rfl d_M_goes_118 ?_
              refine lv_iload_n X.1 X.2.1 d_M_goes_121 rfl (lv_at hl 1 rfl) ?_
              refine zx_iald (j := i + 1) X hH (by omega) (show E16 12 = zr_ia g 31 (zm_c (va_up rg i (va_up r.1 3 ((r.1 3) + (1)), va_up r.2 2 (zp_tw (r.2 0) (r.2 1) (r.1 3 + 1) (r.1 8) 0 (r.2 2) ev).2.1)) 3) from hM.2.2.2.2.1) rfl (by omega) (by decide) d_M_goes_122 ?_
              refine zx_top (b := nI ((r.1 3) + (1))) (congrArg nI (zm_c_at _ _ _ _)) ?_
              refine zx_calli (zx_runS (As := [.int (nI (i + 1)), .int (nI ((r.1 3) + (1)))]) (rest := [.ref (ad (19))]) X hH ms_M_77 ((c_M_of g l N ad E16 (i + 1) ((r.1 3) + (1))) _) ⟨Nat.le_of_ble_eq_true rfl, Nat.le_of_ble_eq_true rfl⟩ rfl hl rfl (Nat.le_of_ble_eq_true rfl) d_M_goes_123 ⟨Nat.le_of_ble_eq_true rfl, Nat.le_of_ble_eq_true rfl⟩) hH (fun r N1 ad1 E1 H locs hq hH => ?_)
              obtain ⟨rfl, rfl, rfl, rfl⟩ := hq
              refine zx_iald (j := 101 * (i + 1) + (r.1 3 + 1)) X hH (by omega) (show E16 19 = zr_ia g 3131 (zm_d (va_up rg i (va_up r.1 3 ((r.1 3) + (1)), va_up r.2 2 (zp_tw (r.2 0) (r.2 1) (r.1 3 + 1) (r.1 8) 0 (r.2 2) ev).2.1))) from hM.2.2.2.2.2.2.2.2.2.2.2.1) rfl (by omega) (by decide) d_M_goes_126 ?_
              refine zx_top (b := nI (r.2 3 (r.1 3 + 1))) (congrArg nI (zm_d_at _ _ _ (by omega))) ?_
              refine lv_iconst (v := nI 2) X.1 X.2.1 d_M_goes_127 (by decide) ?_
              refine lv_icmp_ne (tgt := 143) X.1 X.2.1 d_M_goes_128 (by decide) (fun c17 => ?_) (fun c17 => ?_)
              · have c17 := mt (zn_eq (nI_toInt (by omega)) (nI_toInt (by omega))).mpr c17
                refine lv_aload_n X.1 X.2.1 d_M_goes_143 rfl (lv_at hl 0 rfl) ?_
                refine zx_get (v := .ref (ad (12))) X hH fg_M_19 (by omega) hM.1 rfl d_M_goes_144 ?_
                refine lv_iload_n X.1 X.2.1 d_M_goes_147 rfl (lv_at hl 1 rfl) ?_
                refine zx_iald (j := i + 1) X hH (by omega) (show E16 12 = zr_ia g 31 (zm_c (va_up rg i (va_up r.1 3 ((r.1 3) + (1)), va_up r.2 2 (zp_tw (r.2 0) (r.2 1) (r.1 3 + 1) (r.1 8) 0 (r.2 2) ev).2.1)) 3) from hM.2.2.2.2.1) rfl (by omega) (by decide) d_M_goes_148 ?_
                refine zx_top (b := nI ((r.1 3) + (1))) (congrArg nI (zm_c_at _ _ _ _)) ?_
                refine lv_aload_n X.1 X.2.1 d_M_goes_149 rfl (lv_at hl 0 rfl) ?_
                refine zx_get (v := .ref (ad (9))) X hH fg_M_7 (by omega) hM.1 rfl d_M_goes_150 ?_
                refine lv_iload_n X.1 X.2.1 d_M_goes_153 rfl (lv_at hl 1 rfl) ?_
                refine zx_iald (j := i + 1) X hH (by omega) (show E16 9 = zr_ia g 31 (zm_c (va_up rg i (va_up r.1 3 ((r.1 3) + (1)), va_up r.2 2 (zp_tw (r.2 0) (r.2 1) (r.1 3 + 1) (r.1 8) 0 (r.2 2) ev).2.1)) 0) from hM.2.1) rfl (by omega) (by decide) d_M_goes_154 ?_
                refine zx_top (b := nI (r.1 0)) (congrArg nI (zm_c_at _ _ _ _)) ?_
                refine lv_icmp_ne (tgt := 164) X.1 X.2.1 d_M_goes_155 (by decide) (fun c18 => ?_) (fun c18 => ?_)
                · have c18 := mt (zn_eq (nI_toInt (by omega)) (nI_toInt (by omega))).mpr c18
                  refine lv_iconst (v := nI 1) X.1 X.2.1 d_M_goes_164 (by decide) ?_
                  exact zx_iret X hr hlk hH (Nat.le_of_ble_eq_true rfl) (Nat.le_of_ble_eq_true rfl) d_M_goes_165 ⟨rfl, rfl, by rw [zp_turn_step (by omega) (by omega) dw (by omega)]; exact ⟨rfl, (by rw [← zm_step_nn (ar := va_up r.2 2 (zp_tw (r.2 0) (r.2 1) (r.1 3 + 1) (r.1 8) 0 (r.2 2) ev).2.1) (show ¬ r.2 3 (r.1 3 + 1) = 2 by omega) (by omega)]; exact hM), hF⟩⟩
                · have c18 := (zn_eq (nI_toInt (by omega)) (nI_toInt (by omega))).mp c18
                  refine lv_aload_n X.1 X.2.1 d_M_goes_158 rfl (lv_at hl 0 rfl) ?_
                  refine lv_iload_n X.1 X.2.1 d_M_goes_159 rfl (lv_at hl 1 rfl) ?_
                  refine lv_iconst (v := nI 1) X.1 X.2.1 d_M_goes_160 (by decide) ?_
                  refine zx_callv (zx_runV (As := [.int (nI (i + 1)), .int (nI (1))]) (rest := []) X hH mv_M_84 ((c_M_end g l N ad E16 (va_up q 5 (q 5 + 1)) rg (zp_tw (r.2 0) (r.2 1) (r.1 3 + 1) (r.1 8) 0 (r.2 2) ev).2.2 fs (va_up fl (q 5) (1000 * (i + 1) + (r.1 3 + 1))) i (va_up r.1 3 ((r.1 3) + (1)), va_up r.2 2 (zp_tw (r.2 0) (r.2 1) (r.1 3 + 1) (r.1 8) 0 (r.2 2) ev).2.1) hN hi (by show _ ≤ r.1 3 + 1; first | exact Nat.le_refl _ | (show r.1 4 ≤ _; omega)) hM 1 (by decide)) _) (by omega) hM.1 rfl ⟨Nat.le_of_ble_eq_true rfl, Nat.le_of_ble_eq_true rfl⟩ rfl hl rfl (Nat.le_of_ble_eq_true rfl) d_M_goes_161 ⟨Nat.le_of_ble_eq_true rfl, Nat.le_of_ble_eq_true rfl⟩) hH (fun N1 ad1 E9 H locs hq hH => ?_)
                  obtain ⟨rfl, rfl, hM, hF1⟩ := hq
                  have hF := hF.tr hF1
                  refine lv_iconst (v := nI 1) X.1 X.2.1 d_M_goes_164 (by decide) ?_
                  exact zx_iret X hr hlk hH (Nat.le_of_ble_eq_true rfl) (Nat.le_of_ble_eq_true rfl) d_M_goes_165 ⟨rfl, rfl, by rw [zp_turn_step (by omega) (by omega) dw (by omega)]; exact ⟨rfl, (by rw [← zm_step_nd (ar := va_up r.2 2 (zp_tw (r.2 0) (r.2 1) (r.1 3 + 1) (r.1 8) 0 (r.2 2) ev).2.1) (show ¬ r.2 3 (r.1 3 + 1) = 2 by omega) (by omega) (hz5 (by omega))]; exact hM), hF⟩⟩
              · have c17 := (zn_eq (nI_toInt (by omega)) (nI_toInt (by omega))).mp c17
                refine lv_aload_n X.1 X.2.1 d_M_goes_131 rfl (lv_at hl 0 rfl) ?_
                refine zx_get (v := .ref (ad (13))) X hH fg_M_22 (by omega) hM.1 rfl d_M_goes_132 ?_
                refine lv_iload_n X.1 X.2.1 d_M_goes_135 rfl (lv_at hl 1 rfl) ?_
                refine lv_aload_n X.1 X.2.1 d_M_goes_136 rfl (lv_at hl 0 rfl) ?_
                refine zx_get (v := .ref (ad (12))) X hH fg_M_19 (by omega) hM.1 rfl d_M_goes_137 ?_
                refine lv_iload_n X.1 X.2.1 d_M_goes_140 rfl (lv_at hl 1 rfl) ?_
                refine zx_iald (j := i + 1) X hH (by omega) (show E16 12 = zr_ia g 31 (zm_c (va_up rg i (va_up r.1 3 ((r.1 3) + (1)), va_up r.2 2 (zp_tw (r.2 0) (r.2 1) (r.1 3 + 1) (r.1 8) 0 (r.2 2) ev).2.1)) 3) from hM.2.2.2.2.1) rfl (by omega) (by decide) d_M_goes_141 ?_
                refine zx_top (b := nI ((r.1 3) + (1))) (congrArg nI (zm_c_at _ _ _ _)) ?_
                refine zx_iast (j := i + 1) (x := nI ((r.1 3) + (1))) X hH (by omega) (show E16 13 = zr_ia g 31 (zm_c (va_up rg i (va_up r.1 3 ((r.1 3) + (1)), va_up r.2 2 (zp_tw (r.2 0) (r.2 1) (r.1 3 + 1) (r.1 8) 0 (r.2 2) ev).2.1)) 4) from hM.2.2.2.2.2.1) rfl (by omega) (by decide) d_M_goes_142 (fun H locs hH => ?_)
                rw [zr_upd] at hH
                have hH : zw_H g A s.heap s N ad (va_up E16 13 (zr_ia g 31 (va_up (zm_c (va_up rg i (va_up r.1 3 ((r.1 3) + (1)), va_up r.2 2 (zp_tw (r.2 0) (r.2 1) (r.1 3 + 1) (r.1 8) 0 (r.2 2) ev).2.1)) 4) (i + 1) ((r.1 3) + (1))))) H locs := hH
                have hM := hM.s4 ((r.1 3) + (1))
                have hF := hF.up (k := 13) (x := (zr_ia g 31 (va_up (zm_c (va_up rg i (va_up r.1 3 ((r.1 3) + (1)), va_up r.2 2 (zp_tw (r.2 0) (r.2 1) (r.1 3 + 1) (r.1 8) 0 (r.2 2) ev).2.1)) 4) (i + 1) ((r.1 3) + (1))))) (by decide) (by decide)
                generalize va_up E16 13 (zr_ia g 31 (va_up (zm_c (va_up rg i (va_up r.1 3 ((r.1 3) + (1)), va_up r.2 2 (zp_tw (r.2 0) (r.2 1) (r.1 3 + 1) (r.1 8) 0 (r.2 2) ev).2.1)) 4) (i + 1) ((r.1 3) + (1)))) = E19 at hH hM hF
                have hM : zm_at g ad E19 (va_up q 5 (q 5 + 1)) (va_up rg i (va_up (va_up r.1 3 ((r.1 3) + (1))) 4 ((r.1 3) + (1)), va_up r.2 2 (zp_tw (r.2 0) (r.2 1) (r.1 3 + 1) (r.1 8) 0 (r.2 2) ev).2.1)) (zp_tw (r.2 0) (r.2 1) (r.1 3 + 1) (r.1 8) 0 (r.2 2) ev).2.2 fs (va_up fl (q 5) (1000 * (i + 1) + (r.1 3 + 1))) := hM
                refine lv_aload_n X.1 X.2.1 d_M_goes_143 rfl (lv_at hl 0 rfl) ?_
                refine zx_get (v := .ref (ad (12))) X hH fg_M_19 (by omega) hM.1 rfl d_M_goes_144 ?_
                refine lv_iload_n X.1 X.2.1 d_M_goes_147 rfl (lv_at hl 1 rfl) ?_
                refine zx_iald (j := i + 1) X hH (by omega) (show E19 12 = zr_ia g 31 (zm_c (va_up rg i (va_up (va_up r.1 3 ((r.1 3) + (1))) 4 ((r.1 3) + (1)), va_up r.2 2 (zp_tw (r.2 0) (r.2 1) (r.1 3 + 1) (r.1 8) 0 (r.2 2) ev).2.1)) 3) from hM.2.2.2.2.1) rfl (by omega) (by decide) d_M_goes_148 ?_
                refine zx_top (b := nI ((r.1 3) + (1))) (congrArg nI (zm_c_at _ _ _ _)) ?_
                refine lv_aload_n X.1 X.2.1 d_M_goes_149 rfl (lv_at hl 0 rfl) ?_
                refine zx_get (v := .ref (ad (9))) X hH fg_M_7 (by omega) hM.1 rfl d_M_goes_150 ?_
                refine lv_iload_n X.1 X.2.1 d_M_goes_153 rfl (lv_at hl 1 rfl) ?_
                refine zx_iald (j := i + 1) X hH (by omega) (show E19 9 = zr_ia g 31 (zm_c (va_up rg i (va_up (va_up r.1 3 ((r.1 3) + (1))) 4 ((r.1 3) + (1)), va_up r.2 2 (zp_tw (r.2 0) (r.2 1) (r.1 3 + 1) (r.1 8) 0 (r.2 2) ev).2.1)) 0) from hM.2.1) rfl (by omega) (by decide) d_M_goes_154 ?_
                refine zx_top (b := nI (r.1 0)) (congrArg nI (zm_c_at _ _ _ _)) ?_
                refine lv_icmp_ne (tgt := 164) X.1 X.2.1 d_M_goes_155 (by decide) (fun c20 => ?_) (fun c20 => ?_)
                · have c20 := mt (zn_eq (nI_toInt (by omega)) (nI_toInt (by omega))).mpr c20
                  refine lv_iconst (v := nI 1) X.1 X.2.1 d_M_goes_164 (by decide) ?_
                  exact zx_iret X hr hlk hH (Nat.le_of_ble_eq_true rfl) (Nat.le_of_ble_eq_true rfl) d_M_goes_165 ⟨rfl, rfl, by rw [zp_turn_step (by omega) (by omega) dw (by omega)]; exact ⟨rfl, (by rw [← zm_step_dn (ar := va_up r.2 2 (zp_tw (r.2 0) (r.2 1) (r.1 3 + 1) (r.1 8) 0 (r.2 2) ev).2.1) (show r.2 3 (r.1 3 + 1) = 2 by omega) (by omega)]; exact hM), hF⟩⟩
                · have c20 := (zn_eq (nI_toInt (by omega)) (nI_toInt (by omega))).mp c20
                  refine lv_aload_n X.1 X.2.1 d_M_goes_158 rfl (lv_at hl 0 rfl) ?_
                  refine lv_iload_n X.1 X.2.1 d_M_goes_159 rfl (lv_at hl 1 rfl) ?_
                  refine lv_iconst (v := nI 1) X.1 X.2.1 d_M_goes_160 (by decide) ?_
                  refine zx_callv (zx_runV (As := [.int (nI (i + 1)), .int (nI (1))]) (rest := []) X hH mv_M_84 ((c_M_end g l N ad E19 (va_up q 5 (q 5 + 1)) rg (zp_tw (r.2 0) (r.2 1) (r.1 3 + 1) (r.1 8) 0 (r.2 2) ev).2.2 fs (va_up fl (q 5) (1000 * (i + 1) + (r.1 3 + 1))) i (va_up (va_up r.1 3 ((r.1 3) + (1))) 4 ((r.1 3) + (1)), va_up r.2 2 (zp_tw (r.2 0) (r.2 1) (r.1 3 + 1) (r.1 8) 0 (r.2 2) ev).2.1) hN hi (by show _ ≤ r.1 3 + 1; first | exact Nat.le_refl _ | (show r.1 4 ≤ _; omega)) hM 1 (by decide)) _) (by omega) hM.1 rfl ⟨Nat.le_of_ble_eq_true rfl, Nat.le_of_ble_eq_true rfl⟩ rfl hl rfl (Nat.le_of_ble_eq_true rfl) d_M_goes_161 ⟨Nat.le_of_ble_eq_true rfl, Nat.le_of_ble_eq_true rfl⟩) hH (fun N1 ad1 E9 H locs hq hH => ?_)
                  obtain ⟨rfl, rfl, hM, hF1⟩ := hq
                  have hF := hF.tr hF1
                  refine lv_iconst (v := nI 1) X.1 X.2.1 d_M_goes_164 (by decide) ?_
                  exact zx_iret X hr hlk hH (Nat.le_of_ble_eq_true rfl) (Nat.le_of_ble_eq_true rfl) d_M_goes_165 ⟨rfl, rfl, by rw [zp_turn_step (by omega) (by omega) dw (by omega)]; exact ⟨rfl, (by rw [← zm_step_dd (ar := va_up r.2 2 (zp_tw (r.2 0) (r.2 1) (r.1 3 + 1) (r.1 8) 0 (r.2 2) ev).2.1) (show r.2 3 (r.1 3 + 1) = 2 by omega) (by omega) (hz5 (by omega))]; exact hM), hF⟩⟩
            · have c13 := (zn_eq (nI_toInt (by omega)) (nI_toInt (by omega))).mp c13
              refine lv_aload_n X.1 X.2.1 d_M_goes_63 rfl (lv_at hl 0 rfl) ?_
              refine lv_iload_n X.1 X.2.1 d_M_goes_64 rfl (lv_at hl 1 rfl) ?_
              refine lv_iconst (v := nI 2) X.1 X.2.1 d_M_goes_65 (by decide) ?_
              refine zx_callv (zx_runV (As := [.int (nI (i + 1)), .int (nI (2))]) (rest := []) X hH mv_M_84 ((c_M_end g l N ad E8 q rg (zp_tw (r.2 0) (r.2 1) (r.1 3 + 1) (r.1 8) 0 (r.2 2) ev).2.2 fs fl i (r.1, va_up r.2 2 (zp_tw (r.2 0) (r.2 1) (r.1 3 + 1) (r.1 8) 0 (r.2 2) ev).2.1) hN hi r4 hM 2 (by decide)) _) (by omega) hM.1 rfl ⟨Nat.le_of_ble_eq_true rfl, Nat.le_of_ble_eq_true rfl⟩ rfl hl rfl (Nat.le_of_ble_eq_true rfl) d_M_goes_66 ⟨Nat.le_of_ble_eq_true rfl, Nat.le_of_ble_eq_true rfl⟩) hH (fun N1 ad1 E9 H locs hq hH => ?_)
              obtain ⟨rfl, rfl, hM, hF1⟩ := hq
              have hF := hF.tr hF1
              refine lv_iconst (v := nI 2) X.1 X.2.1 d_M_goes_69 (by decide) ?_
              exact zx_iret X hr hlk hH (Nat.le_of_ble_eq_true rfl) (Nat.le_of_ble_eq_true rfl) d_M_goes_70 ⟨rfl, rfl, by rw [zp_turn_fail (by omega) (by omega) dw (by omega)]; exact ⟨rfl, (by rw [← zm_end_back (by decide)]; exact hM), hF⟩⟩
          · refine zx_top (b := nI 0) (by rw [if_neg dw]) ?_
            refine lv_if_ne (tgt := 46) X.1 X.2.1 d_M_goes_41 (by decide) (fun z => absurd (by decide) z) (fun _ => ?_)
            refine lv_iconst (v := nI 0) X.1 X.2.1 d_M_goes_44 (by decide) ?_
            exact zx_iret X hr hlk hH (Nat.le_of_ble_eq_true rfl) (Nat.le_of_ble_eq_true rfl) d_M_goes_45 ⟨rfl, rfl, by rw [zp_turn_wait (by omega) (by omega) dw]; exact ⟨rfl, hM, hF⟩⟩
        · exact absurd z (by decide)
      · refine zx_top (b := nI 0) (by rw [if_neg d12]) ?_
        refine lv_if_ne (tgt := 36) X.1 X.2.1 d_M_goes_25 (by decide) (fun z => ?_) (fun z => ?_)
        · exact absurd z (by decide)
        · clear z
          refine lv_aload_n X.1 X.2.1 d_M_goes_28 rfl (lv_at hl 0 rfl) ?_
          refine lv_iload_n X.1 X.2.1 d_M_goes_29 rfl (lv_at hl 1 rfl) ?_
          refine lv_iconst (v := nI 3) X.1 X.2.1 d_M_goes_30 (by decide) ?_
          refine zx_callv (zx_runV (As := [.int (nI (i + 1)), .int (nI (3))]) (rest := []) X hH mv_M_84 ((c_M_end g l N ad E q rg ev fs fl i r hN hi r4 hM 3 (by decide)) _) (by omega) hM.1 rfl ⟨Nat.le_of_ble_eq_true rfl, Nat.le_of_ble_eq_true rfl⟩ rfl hl rfl (Nat.le_of_ble_eq_true rfl) d_M_goes_31 ⟨Nat.le_of_ble_eq_true rfl, Nat.le_of_ble_eq_true rfl⟩) hH (fun N1 ad1 E9 H locs hq hH => ?_)
          obtain ⟨rfl, rfl, hM, hF1⟩ := hq
          have hF := hF.tr hF1
          refine lv_iconst (v := nI 2) X.1 X.2.1 d_M_goes_34 (by decide) ?_
          exact zx_iret X hr hlk hH (Nat.le_of_ble_eq_true rfl) (Nat.le_of_ble_eq_true rfl) d_M_goes_35 ⟨rfl, rfl, by rw [zp_turn_cancel (by omega) (by omega) (by omega)]; exact ⟨rfl, (by rw [← zm_end_back (by decide)]; exact hM), hF⟩⟩
  · have c2 := mt (zn_eq (nI_toInt (by omega)) zn_0).mpr c2
    refine lv_iconst (v := nI 0) X.1 X.2.1 d_M_goes_9 (by decide) ?_
    exact zx_iret X hr hlk hH (Nat.le_of_ble_eq_true rfl) (Nat.le_of_ble_eq_true rfl) d_M_goes_10 ⟨rfl, rfl, by rw [zp_turn_off (by omega)]; exact ⟨rfl, hM, hF⟩⟩
