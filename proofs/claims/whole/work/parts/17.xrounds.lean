set_option maxHeartbeats 4000000 in
set_option maxRecDepth 100000 in
theorem c_X_giveOneRound (g : zw_G) (l : Launch) (N : Nat) (ad : Nat → Nat) (E : Nat → va_E) (F : Nat) (q : Nat → Nat) (rg : zt_R) (ev sf lf : Nat → Nat) (hF8 : 8 ≤ F) (hN : N = F + 5 * q 0) (hT : zt_at g ad E F q rg ev sf lf) (hok : zt_ok q rg ev sf) (kc ks : Nat) (hkc : (zp_rnd (q 0) 0 (q, rg, ev, lf) 0).1.1 6 ≤ q 6 + kc) (hks : 2 * (zp_rnd (q 0) 0 (q, rg, ev, lf) 0).1.1 6 ≤ 2 * q 6 + ks) : zc_i g l y_X_giveOneRound b_X_giveOneRound 3 (some .boolean) { frames := 5, cells := kc, slots := ks, locals := 200 } [.ref (ad (0))] N ad E (fun v N1 ad1 E1 => N = N1 ∧ (∀ k, k ≠ 7 → k < N → ad1 k = ad k) ∧ v = nI (zp_rnd (q 0) 0 (q, rg, ev, lf) 0).2 ∧ zt_at g ad1 E1 F (zp_rnd (q 0) 0 (q, rg, ev, lf) 0).1.1 (zp_rnd (q 0) 0 (q, rg, ev, lf) 0).1.2.1 (zp_rnd (q 0) 0 (q, rg, ev, lf) 0).1.2.2.1 sf (zp_rnd (q 0) 0 (q, rg, ev, lf) 0).1.2.2.2 ∧ zt_fr E E1 F) := by
  refine zc_i.of (by decide) (Nat.le_of_ble_eq_true rfl) ?_
  intro p e s m below meth c ls A X hr hlk hl hH
  have hl : lv_has ls 3 [(0, .ref (ad (0)))] := hl
  obtain ⟨k0, k2, k3, k3a, k4, k4a, k5, k5a, k6, k6a⟩ := hok.1
  refine lv_iconst (v := nI 0) X.1 X.2.1 d_X_giveOneRound_0 (by decide) ?_
  refine lv_istore_n (lv' := [(1, .int (nI (0))), (0, .ref (ad (0)))]) X.1 X.2.1 d_X_giveOneRound_1 rfl hl (by decide) rfl (fun ls hl => ?_)
  refine lv_iconst (v := nI 1) X.1 X.2.1 d_X_giveOneRound_2 (by decide) ?_
  refine lv_istore_n (lv' := [(2, .int (nI (1))), (1, .int (nI (0))), (0, .ref (ad (0)))]) X.1 X.2.1 d_X_giveOneRound_3 rfl hl (by decide) rfl (fun ls hl => ?_)
  refine W.cs (cells' := q 6 - q 6) (slots' := 2 * (q 6 - q 6)) (by omega) (by omega) ?_
  refine zx_loop (σ := Nat × zp_T × Nat × (Nat → va_E) × (Nat → Nat)) (fun x H locs ls => x.1 ≤ q 0 ∧ x.2.1.1 0 = q 0 ∧ q 6 ≤ x.2.1.1 6 ∧ zt_at g x.2.2.2.2 x.2.2.2.1 F x.2.1.1 x.2.1.2.1 x.2.1.2.2.1 sf x.2.1.2.2.2 ∧ zt_ok x.2.1.1 x.2.1.2.1 x.2.1.2.2.1 sf ∧ zt_fr E x.2.2.2.1 F ∧ (∀ k, k ≠ 7 → k < N → x.2.2.2.2 k = ad k) ∧ x.2.2.1 ≤ 1 ∧ zp_rnd (q 0) 0 (q, rg, ev, lf) 0 = zp_rnd (q 0 - x.1) x.1 x.2.1 x.2.2.1 ∧ zw_H g A s.heap s N x.2.2.2.2 x.2.2.2.1 H locs ∧ lv_has ls 3 [(2, .int (nI (x.1 + 1))), (1, .int (nI x.2.2.1)), (0, .ref (x.2.2.2.2 0))]) (fun x => q 0 - x.1) (fun x => x.2.1.1 6 - q 6) (fun x => 2 * (x.2.1.1 6 - q 6)) ?_ (0, (q, rg, ev, lf), 0, E, ad) _ _ _ ⟨Nat.zero_le _, rfl, Nat.le_refl _, hT, hok, zt_fr.rf, fun _ _ _ => rfl, Nat.zero_le _, rfl, hH, hl⟩
  rintro ⟨i, ⟨q1, rg1, ev1, lf1⟩, mv, E1, ad1⟩ H locs ls ⟨hi, hq0, hq6, hT, hok1, hF, ha, hmv, hT9, hH, hl⟩ ih
  dsimp only at hi hq0 hq6 hT hok1 hF ha hmv hT9 hH hl ih ⊢
  have hN1 : N = F + 5 * q1 0 := by rw [hq0]; exact hN
  have kk0 := hok1.1.1
  refine lv_iload_n X.1 X.2.1 d_X_giveOneRound_4 rfl (lv_at hl 0 rfl) ?_
  refine lv_aload_n X.1 X.2.1 d_X_giveOneRound_5 rfl (lv_at hl 2 rfl) ?_
  refine zx_get (v := .int (nI (q1 0))) X hH fg_X_38 (by omega) hT.1 rfl d_X_giveOneRound_6 ?_
  refine lv_icmp_gt (tgt := 28) X.1 X.2.1 d_X_giveOneRound_9 (by decide) (fun c1 => ?_) (fun c1 => ?_)
  · have c1 := (zn_lt (nI_toInt (by omega)) (nI_toInt (by omega))).mp c1
    refine lv_iload_n X.1 X.2.1 d_X_giveOneRound_28 rfl (lv_at hl 1 rfl) ?_
    have hz : zp_rnd (q 0) 0 (q, rg, ev, lf) 0 = ((q1, rg1, ev1, lf1), mv) := by rw [hT9, show q 0 - i = 0 by omega]; rfl
    rw [hz] at hkc hks
    dsimp only at hkc hks
    exact zx_zret X hr hlk hH (by dsimp only; omega) (by dsimp only; omega) d_X_giveOneRound_29 (by rcases (show mv = 0 ∨ mv = 1 by omega) with z | z <;> rw [z] <;> rfl) ⟨rfl, ha, by rw [hz], by rw [hz]; exact hT, hF⟩
  · have c1 := mt (zn_lt (nI_toInt (by omega)) (nI_toInt (by omega))).mpr c1
    refine lv_aload_n X.1 X.2.1 d_X_giveOneRound_12 rfl (lv_at hl 2 rfl) ?_
    refine lv_iload_n X.1 X.2.1 d_X_giveOneRound_13 rfl (lv_at hl 0 rfl) ?_
    obtain ⟨G, hG⟩ : ∃ G, zp_give (q1, rg1, ev1, lf1) (i) = G := ⟨_, rfl⟩
    obtain ⟨g0, g1, g2, g3, g4, g6⟩ := zp_give_fix (q1, rg1, ev1, lf1) (i)
    have gl := zp_give_le (q1, rg1, ev1, lf1) (i)
    have gok := zt_ok.give (lf := lf1) hok1 (show i < q1 0 by omega)
    rw [hG] at g0 g1 g2 g3 g4 g6 gl gok
    dsimp only at g0 g1 g2 g3 g4 g6
    have hz : zp_rnd (q 0) 0 (q, rg, ev, lf) 0 = zp_rnd (q 0 - (i + 1)) (i + 1) G.2 (if G.1 = 0 then mv else 1) := by rw [hT9, show q 0 - i = (q 0 - (i + 1)) + 1 by omega, zp_rnd, hG]
    have hm6 := (zp_rnd_fix (q 0 - (i + 1)) (i + 1) G.2 (if G.1 = 0 then mv else 1)).2.2.2.2.2
    rw [← hz] at hm6
    refine zx_calli (zx_runV (As := [.int (nI (i + 1))]) (rest := []) X hH mv_X_82 ((c_X_giveTurn g l N ad1 E1 F q1 rg1 ev1 sf lf1 hF8 hN1 hT hok1 (i) (by omega) (G.2.1 6 - q1 6) (2 * (G.2.1 6 - q1 6)) (by rw [hG]; omega) (by rw [hG]; omega)) _) (by omega) hT.1 rfl ⟨Nat.le_of_ble_eq_true rfl, Nat.le_of_ble_eq_true rfl⟩ rfl hl rfl (Nat.le_of_ble_eq_true rfl) d_X_giveOneRound_14 ⟨(by dsimp only; omega), (by dsimp only; omega)⟩) hH (fun r N2 ad2 E2 H locs hq hH => ?_)
    obtain ⟨rfl, ha2, rfl, hT, hF2⟩ := hq
    rw [hG] at hT
    refine zx_top (b := nI G.1) (by rw [hG]) ?_
    have hF := hF.tr hF2
    have ha3 : ∀ k, k ≠ 7 → k < N → ad2 k = ad k := fun k h1 h2 => (ha2 k h1 h2).trans (ha k h1 h2)
    rw [← ha2 0 (by decide) (by omega)] at hl
    refine W.cs (cells' := G.2.1 6 - q 6) (slots' := 2 * (G.2.1 6 - q 6)) (by dsimp only; omega) (by dsimp only; omega) ?_
    refine lv_if_eq (tgt := 22) X.1 X.2.1 d_X_giveOneRound_17 (by decide) (fun c2 => ?_) (fun c2 => ?_)
    · have c2 := (zn_eq (nI_toInt (by omega)) zn_0).mp c2
      refine lv_iinc (v := nI (i + 1 + 1)) (lv' := [(2, .int (nI (i + 1 + 1))), (1, .int (nI (mv))), (0, .ref (ad2 (0)))]) X.1 X.2.1 d_X_giveOneRound_22 hl (k := 0) rfl (nI_add _ _) (by decide) rfl (fun ls hl => ?_)
      refine lv_goto (tgt := 4) X.1 X.2.1 d_X_giveOneRound_25 (by decide) ?_
      rw [if_pos (by omega)] at hz
      exact ih (i + 1, G.2, mv, E2, ad2) _ _ _ ⟨by omega, by show G.2.1 0 = q 0; omega, by show q 6 ≤ G.2.1 6; omega, hT, gok, hF, ha3, by show mv ≤ 1; omega, hz, hH, lv_sub hl [0, 1, 2] rfl⟩ (by show q 0 - (i + 1) < q 0 - i; omega)
    · have c2 := mt (zn_eq (nI_toInt (by omega)) zn_0).mpr c2
      refine lv_iconst (v := nI 1) X.1 X.2.1 d_X_giveOneRound_20 (by decide) ?_
      refine lv_istore_n (lv' := [(1, .int (nI (1))), (2, .int (nI (i + 1))), (0, .ref (ad2 (0)))]) X.1 X.2.1 d_X_giveOneRound_21 rfl hl (by decide) rfl (fun ls hl => ?_)
      refine lv_iinc (v := nI (i + 1 + 1)) (lv' := [(2, .int (nI (i + 1 + 1))), (1, .int (nI (1))), (0, .ref (ad2 (0)))]) X.1 X.2.1 d_X_giveOneRound_22 hl (k := 1) rfl (nI_add _ _) (by decide) rfl (fun ls hl => ?_)
      refine lv_goto (tgt := 4) X.1 X.2.1 d_X_giveOneRound_25 (by decide) ?_
      rw [if_neg (by omega)] at hz
      exact ih (i + 1, G.2, 1, E2, ad2) _ _ _ ⟨by omega, by show G.2.1 0 = q 0; omega, by show q 6 ≤ G.2.1 6; omega, hT, gok, hF, ha3, by show 1 ≤ 1; omega, hz, hH, lv_sub hl [0, 1, 2] rfl⟩ (by show q 0 - (i + 1) < q 0 - i; omega)

set_option maxHeartbeats 4000000 in
set_option maxRecDepth 100000 in
theorem c_X_giveRounds (g : zw_G) (l : Launch) (N : Nat) (ad : Nat → Nat) (E : Nat → va_E) (F : Nat) (q : Nat → Nat) (rg : zt_R) (ev sf lf : Nat → Nat) (hF8 : 8 ≤ F) (hN : N = F + 5 * q 0) (hT : zt_at g ad E F q rg ev sf lf) (hok : zt_ok q rg ev sf) (kc ks : Nat) (hkc : (zp_rnds (q 0) 3031 (q, rg, ev, lf)).1 6 ≤ q 6 + kc) (hks : 2 * (zp_rnds (q 0) 3031 (q, rg, ev, lf)).1 6 ≤ 2 * q 6 + ks) : zc_v g l y_X_giveRounds b_X_giveRounds 3 { frames := 6, cells := kc, slots := ks, locals := 240 } [.ref (ad (0))] N ad E (fun N1 ad1 E1 => N = N1 ∧ (∀ k, k ≠ 7 → k < N → ad1 k = ad k) ∧ zt_at g ad1 E1 F (zp_rnds (q 0) 3031 (q, rg, ev, lf)).1 (zp_rnds (q 0) 3031 (q, rg, ev, lf)).2.1 (zp_rnds (q 0) 3031 (q, rg, ev, lf)).2.2.1 sf (zp_rnds (q 0) 3031 (q, rg, ev, lf)).2.2.2 ∧ zt_fr E E1 F) := by
  refine zc_v.of (by decide) (Nat.le_of_ble_eq_true rfl) ?_
  intro p e s m below meth c ls A X hr hlk hnm hl hH
  have hl : lv_has ls 3 [(0, .ref (ad (0)))] := hl
  obtain ⟨k0, k2, k3, k3a, k4, k4a, k5, k5a, k6, k6a⟩ := hok.1
  refine lv_iconst (v := nI 1) X.1 X.2.1 d_X_giveRounds_0 (by decide) ?_
  refine lv_istore_n (lv' := [(1, .int (nI (1))), (0, .ref (ad (0)))]) X.1 X.2.1 d_X_giveRounds_1 rfl hl (by decide) rfl (fun ls hl => ?_)
  refine lv_iconst (v := nI 0) X.1 X.2.1 d_X_giveRounds_2 (by decide) ?_
  refine lv_istore_n (lv' := [(2, .int (nI (0))), (1, .int (nI (1))), (0, .ref (ad (0)))]) X.1 X.2.1 d_X_giveRounds_3 rfl hl (by decide) rfl (fun ls hl => ?_)
  refine W.cs (cells' := q 6 - q 6) (slots' := 2 * (q 6 - q 6)) (by omega) (by omega) ?_
  refine zx_loop (σ := Nat × zp_T × Nat × (Nat → va_E) × (Nat → Nat)) (fun x H locs ls => x.1 ≤ 3031 ∧ x.2.1.1 0 = q 0 ∧ q 6 ≤ x.2.1.1 6 ∧ zt_at g x.2.2.2.2 x.2.2.2.1 F x.2.1.1 x.2.1.2.1 x.2.1.2.2.1 sf x.2.1.2.2.2 ∧ zt_ok x.2.1.1 x.2.1.2.1 x.2.1.2.2.1 sf ∧ zt_fr E x.2.2.2.1 F ∧ (∀ k, k ≠ 7 → k < N → x.2.2.2.2 k = ad k) ∧ x.2.2.1 ≤ 1 ∧ zp_rnds (q 0) 3031 (q, rg, ev, lf) = (if x.2.2.1 = 0 then x.2.1 else zp_rnds (q 0) (3031 - x.1) x.2.1) ∧ zw_H g A s.heap s N x.2.2.2.2 x.2.2.2.1 H locs ∧ lv_has ls 3 [(2, .int (nI x.1)), (1, .int (nI x.2.2.1)), (0, .ref (x.2.2.2.2 0))]) (fun x => 3031 - x.1) (fun x => x.2.1.1 6 - q 6) (fun x => 2 * (x.2.1.1 6 - q 6)) ?_ (0, (q, rg, ev, lf), 1, E, ad) _ _ _ ⟨Nat.zero_le _, rfl, Nat.le_refl _, hT, hok, zt_fr.rf, fun _ _ _ => rfl, Nat.le_refl _, (if_neg (by decide : ¬ (1 : Nat) = 0)).symm, hH, hl⟩
  rintro ⟨k, ⟨q1, rg1, ev1, lf1⟩, mv, E1, ad1⟩ H locs ls ⟨hi, hq0, hq6, hT, hok1, hF, ha, hmv, hT9, hH, hl⟩ ih
  dsimp only at hi hq0 hq6 hT hok1 hF ha hmv hT9 hH hl ih ⊢
  have hN1 : N = F + 5 * q1 0 := by rw [hq0]; exact hN
  have kk0 := hok1.1.1
  refine lv_iload_n X.1 X.2.1 d_X_giveRounds_4 rfl (lv_at hl 1 rfl) ?_
  refine lv_if_eq (tgt := 26) X.1 X.2.1 d_X_giveRounds_5 (by decide) (fun c1 => ?_) (fun c1 => ?_)
  · have c1 := (zn_eq (nI_toInt (by omega)) zn_0).mp c1
    have hz : zp_rnds (q 0) 3031 (q, rg, ev, lf) = (q1, rg1, ev1, lf1) := by rw [hT9]; split; rfl; rw [show 3031 - k = 0 by omega]; rfl
    rw [hz] at hkc hks
    dsimp only at hkc hks
    exact zx_vret X hr hlk hH (by dsimp only; omega) (by dsimp only; omega) d_X_giveRounds_26 ⟨rfl, ha, by rw [hz]; exact hT, hF⟩
  · have c1 := mt (zn_eq (nI_toInt (by omega)) zn_0).mpr c1
    refine lv_iload_n X.1 X.2.1 d_X_giveRounds_8 rfl (lv_at hl 0 rfl) ?_
    refine lv_sipush (v := nI 3031) X.1 X.2.1 d_X_giveRounds_9 (by decide) ?_
    refine lv_icmp_ge (tgt := 26) X.1 X.2.1 d_X_giveRounds_12 (by decide) (fun c2 => ?_) (fun c2 => ?_)
    · have c2 := (zn_le (nI_toInt (by omega)) (nI_toInt (by omega))).mp c2
      have hz : zp_rnds (q 0) 3031 (q, rg, ev, lf) = (q1, rg1, ev1, lf1) := by rw [hT9]; split; rfl; rw [show 3031 - k = 0 by omega]; rfl
      rw [hz] at hkc hks
      dsimp only at hkc hks
      exact zx_vret X hr hlk hH (by dsimp only; omega) (by dsimp only; omega) d_X_giveRounds_26 ⟨rfl, ha, by rw [hz]; exact hT, hF⟩
    · have c2 := mt (zn_le (nI_toInt (by omega)) (nI_toInt (by omega))).mpr c2
      refine lv_aload_n X.1 X.2.1 d_X_giveRounds_15 rfl (lv_at hl 2 rfl) ?_
      obtain ⟨G, hG⟩ : ∃ G, zp_rnd (q1 0) 0 (q1, rg1, ev1, lf1) 0 = G := ⟨_, rfl⟩
      obtain ⟨g0, g1, g2, g3, g4, g6⟩ := zp_rnd_fix (q1 0) 0 (q1, rg1, ev1, lf1) 0
      have gl := zp_rnd_le (q1 0) 0 (q1, rg1, ev1, lf1) 0 (by decide)
      have gok := zt_ok.rnd (sf := sf) (q1 0) 0 (q1, rg1, ev1, lf1) 0 (by dsimp only; omega) hok1
      rw [hG] at g0 g1 g2 g3 g4 g6 gl gok
      dsimp only at g0 g1 g2 g3 g4 g6
      have hz : zp_rnds (q 0) 3031 (q, rg, ev, lf) = if G.2 = 0 then G.1 else zp_rnds (q 0) (3031 - (k + 1)) G.1 := by rw [hT9, if_neg (by omega), show 3031 - k = (3031 - (k + 1)) + 1 by omega, zp_rnds, ← hq0, hG, hq0]
      have hm6 : G.1.1 6 ≤ (zp_rnds (q 0) 3031 (q, rg, ev, lf)).1 6 := by rw [hz]; split; exact Nat.le_refl _; exact (zp_rnds_fix (q 0) (3031 - (k + 1)) G.1).2.2.2.2.2
      refine zx_calli (zx_runV (As := []) (rest := []) X hH mv_X_133 ((c_X_giveOneRound g l N ad1 E1 F q1 rg1 ev1 sf lf1 hF8 hN1 hT hok1 (G.1.1 6 - q1 6) (2 * (G.1.1 6 - q1 6)) (by rw [hG]; omega) (by rw [hG]; omega)) _) (by omega) hT.1 rfl ⟨Nat.le_of_ble_eq_true rfl, Nat.le_of_ble_eq_true rfl⟩ rfl hl rfl (Nat.le_of_ble_eq_true rfl) d_X_giveRounds_16 ⟨(by dsimp only; omega), (by dsimp only; omega)⟩) hH (fun r N2 ad2 E2 H locs hq hH => ?_)
      obtain ⟨rfl, ha2, rfl, hT, hF2⟩ := hq
      rw [hG] at hT
      refine zx_top (b := nI G.2) (by rw [hG]) ?_
      have hF := hF.tr hF2
      have ha3 : ∀ k, k ≠ 7 → k < N → ad2 k = ad k := fun k h1 h2 => (ha2 k h1 h2).trans (ha k h1 h2)
      rw [← ha2 0 (by decide) (by omega)] at hl
      refine W.cs (cells' := G.1.1 6 - q 6) (slots' := 2 * (G.1.1 6 - q 6)) (by dsimp only; omega) (by dsimp only; omega) ?_
      refine lv_istore_n (lv' := [(1, .int (nI (G.2))), (2, .int (nI (k))), (0, .ref (ad2 (0)))]) X.1 X.2.1 d_X_giveRounds_19 rfl hl (by decide) rfl (fun ls hl => ?_)
      refine lv_iinc (v := nI (k + 1)) (lv' := [(2, .int (nI (k + 1))), (1, .int (nI (G.2))), (0, .ref (ad2 (0)))]) X.1 X.2.1 d_X_giveRounds_20 hl (k := 1) rfl (nI_add _ _) (by decide) rfl (fun ls hl => ?_)
      refine lv_goto (tgt := 4) X.1 X.2.1 d_X_giveRounds_23 (by decide) ?_
      exact ih (k + 1, G.1, G.2, E2, ad2) _ _ _ ⟨by omega, by show G.1.1 0 = q 0; omega, by show q 6 ≤ G.1.1 6; omega, hT, gok, hF, ha3, gl, hz, hH, lv_sub hl [0, 1, 2] rfl⟩ (by show 3031 - (k + 1) < 3031 - k; omega)

set_option maxHeartbeats 4000000 in
set_option maxRecDepth 100000 in
theorem c_X_run (g : zw_G) (l : Launch) (N : Nat) (ad : Nat → Nat) (E : Nat → va_E) (F : Nat) (q : Nat → Nat) (rg : zt_R) (ev sf lf : Nat → Nat) (hF8 : 8 ≤ F) (hN : N = F + 5 * q 0) (hT : zt_at g ad E F q rg ev sf lf) (hok : zt_ok q rg ev sf) (kc ks : Nat) (hkc : (zp_runs sf (q 3) 0 (q, rg, ev, lf) 0).1.1 6 ≤ q 6 + kc) (hks : 2 * (zp_runs sf (q 3) 0 (q, rg, ev, lf) 0).1.1 6 ≤ 2 * q 6 + ks) (hop : q 2 = 0) : zc_i g l y_X_run b_X_run 4 (some .int) { frames := 5, cells := kc, slots := ks, locals := 200 } [.ref (ad (0))] N ad E (fun v N1 ad1 E1 => N = N1 ∧ (∀ k, k ≠ 7 → k < N → ad1 k = ad k) ∧ v = nI (zp_runs sf (q 3) 0 (q, rg, ev, lf) 0).2 ∧ zt_at g ad1 E1 F (va_up (zp_runs sf (q 3) 0 (q, rg, ev, lf) 0).1.1 3 0) (zp_runs sf (q 3) 0 (q, rg, ev, lf) 0).1.2.1 (zp_runs sf (q 3) 0 (q, rg, ev, lf) 0).1.2.2.1 sf (zp_runs sf (q 3) 0 (q, rg, ev, lf) 0).1.2.2.2 ∧ zt_fr E E1 F) := by
  refine zc_i.of (by decide) (Nat.le_of_ble_eq_true rfl) ?_
  intro p e s m below meth c ls A X hr hlk hl hH
  have hl : lv_has ls 4 [(0, .ref (ad (0)))] := hl
  obtain ⟨k0, k2, k3, k3a, k4, k4a, k5, k5a, k6, k6a⟩ := hok.1
  refine lv_aload_n X.1 X.2.1 d_X_run_0 rfl (lv_at hl 0 rfl) ?_
  refine zx_get (v := .int (nI (q 2))) X hH fg_X_34 (by omega) hT.1 rfl d_X_run_1 ?_
  refine lv_if_eq (tgt := 10) X.1 X.2.1 d_X_run_4 (by decide) (fun c1 => ?_) (fun c1 => ?_)
  · have c1 := (zn_eq (nI_toInt (by omega)) zn_0).mp c1
    refine lv_iconst (v := nI 0) X.1 X.2.1 d_X_run_10 (by decide) ?_
    refine lv_istore_n (lv' := [(1, .int (nI (0))), (0, .ref (ad (0)))]) X.1 X.2.1 d_X_run_11 rfl hl (by decide) rfl (fun ls hl => ?_)
    refine lv_iconst (v := nI 0) X.1 X.2.1 d_X_run_12 (by decide) ?_
    refine lv_istore_n (lv' := [(2, .int (nI (0))), (1, .int (nI (0))), (0, .ref (ad (0)))]) X.1 X.2.1 d_X_run_13 rfl hl (by decide) rfl (fun ls hl => ?_)
    refine W.cs (cells' := q 6 - q 6) (slots' := 2 * (q 6 - q 6)) (by omega) (by omega) ?_
    refine zx_loop (σ := Nat × zp_T × Nat × (Nat → va_E) × (Nat → Nat)) (fun x H locs ls => x.1 ≤ q 3 ∧ x.2.1.1 0 = q 0 ∧ x.2.1.1 3 = q 3 ∧ q 6 ≤ x.2.1.1 6 ∧ zt_at g x.2.2.2.2 x.2.2.2.1 F x.2.1.1 x.2.1.2.1 x.2.1.2.2.1 sf x.2.1.2.2.2 ∧ zt_ok x.2.1.1 x.2.1.2.1 x.2.1.2.2.1 sf ∧ zt_fr E x.2.2.2.1 F ∧ (∀ k, k ≠ 7 → k < N → x.2.2.2.2 k = ad k) ∧ zp_runs sf (q 3) 0 (q, rg, ev, lf) 0 = zp_runs sf (q 3 - x.1) x.1 x.2.1 x.2.2.1 ∧ zw_H g A s.heap s N x.2.2.2.2 x.2.2.2.1 H locs ∧ lv_has ls 4 [(2, .int (nI x.1)), (1, .int (nI x.2.2.1)), (0, .ref (x.2.2.2.2 0))]) (fun x => q 3 - x.1) (fun x => x.2.1.1 6 - q 6) (fun x => 2 * (x.2.1.1 6 - q 6)) ?_ (0, (q, rg, ev, lf), 0, E, ad) _ _ _ ⟨Nat.zero_le _, rfl, rfl, Nat.le_refl _, hT, hok, zt_fr.rf, fun _ _ _ => rfl, rfl, hH, hl⟩
    rintro ⟨k, ⟨q1, rg1, ev1, lf1⟩, cn, E1, ad1⟩ H locs ls ⟨hi, hq0, hq3, hq6, hT, hok1, hF, ha, hT9, hH, hl⟩ ih
    dsimp only at hi hq0 hq3 hq6 hT hok1 hF ha hT9 hH hl ih ⊢
    have hN1 : N = F + 5 * q1 0 := by rw [hq0]; exact hN
    obtain ⟨j0, j2, j3, j3a, j4, j4a, j5, j5a, j6, j6a⟩ := hok1.1
    refine lv_iload_n X.1 X.2.1 d_X_run_14 rfl (lv_at hl 0 rfl) ?_
    refine lv_aload_n X.1 X.2.1 d_X_run_15 rfl (lv_at hl 2 rfl) ?_
    refine zx_get (v := .ref (ad1 (4))) X hH fg_X_27 (by omega) hT.1 rfl d_X_run_16 ?_
    refine zx_get (v := .int (nI (q1 3))) X hH fg_X_76 (by omega) hT.2.2.2.1.1 rfl d_X_run_19 ?_
    refine lv_icmp_ge (tgt := 69) X.1 X.2.1 d_X_run_22 (by decide) (fun c2 => ?_) (fun c2 => ?_)
    · have c2 := (zn_le (nI_toInt (by omega)) (nI_toInt (by omega))).mp c2
      refine lv_aload_n X.1 X.2.1 d_X_run_69 rfl (lv_at hl 2 rfl) ?_
      refine zx_get (v := .ref (ad1 (4))) X hH fg_X_27 (by omega) hT.1 rfl d_X_run_70 ?_
      have hz : zp_runs sf (q 3) 0 (q, rg, ev, lf) 0 = ((q1, rg1, ev1, lf1), cn) := by rw [hT9, show q 3 - k = 0 by omega]; rfl
      rw [hz] at hkc hks
      dsimp only at hkc hks
      refine zx_callv (zx_runV (As := []) (rest := []) X hH mv_X_88 ((c_O_makeEmpty g l N ad1 E1 4 5 600 (q1 3) (q1 4) sf (by omega) (by omega) (by decide) (by omega) (by omega) (by decide) hT.2.2.2.1) _) (by omega) hT.2.2.2.1.1 rfl ⟨Nat.le_of_ble_eq_true rfl, Nat.le_of_ble_eq_true rfl⟩ rfl hl rfl (Nat.le_of_ble_eq_true rfl) d_X_run_73 ⟨(by dsimp only; omega), (by dsimp only; omega)⟩) hH (fun N2 ad2 E2 H locs hq hH => ?_)
      obtain ⟨rfl, rfl, hO, hf2⟩ := hq
      have hT := hT.sch (q1 := va_up q1 3 0) hF8 hN1 hO (fun _ _ _ => rfl) (fun j _ a b => hf2 j a b) rfl rfl rfl rfl rfl
      have hF := hF.tr (fun j a b => hf2 j (by omega) (by omega))
      refine lv_iload_n X.1 X.2.1 d_X_run_76 rfl (lv_at hl 1 rfl) ?_
      exact zx_iret X hr hlk hH (by dsimp only; omega) (by dsimp only; omega) d_X_run_77 ⟨rfl, ha, by rw [hz], by rw [hz]; exact hT, hF⟩
    · have c2 := mt (zn_le (nI_toInt (by omega)) (nI_toInt (by omega))).mpr c2
      refine lv_aload_n X.1 X.2.1 d_X_run_25 rfl (lv_at hl 2 rfl) ?_
      refine lv_aload_n X.1 X.2.1 d_X_run_26 rfl (lv_at hl 2 rfl) ?_
      refine zx_get (v := .ref (ad1 (4))) X hH fg_X_27 (by omega) hT.1 rfl d_X_run_27 ?_
      refine lv_iload_n X.1 X.2.1 d_X_run_30 rfl (lv_at hl 0 rfl) ?_
      have hm1 := (zp_runs_fix sf (q 3 - k) k (q1, rg1, ev1, lf1) cn).2.2.2.2.1
      rw [← hT9] at hm1
      dsimp only at hm1
      refine zx_calli (zx_runV (As := [.int (nI (k))]) (rest := [.ref (ad1 (0))]) X hH mv_X_79 ((c_O_at g l N ad1 E1 4 5 600 (q1 3) (q1 4) sf (by omega) (by omega) (by decide) (by omega) (by omega) (by decide) hT.2.2.2.1 (nI k)) _) (by omega) hT.2.2.2.1.1 rfl ⟨Nat.le_of_ble_eq_true rfl, Nat.le_of_ble_eq_true rfl⟩ rfl hl rfl (Nat.le_of_ble_eq_true rfl) d_X_run_31 ⟨(by dsimp only; omega), (by dsimp only; omega)⟩) hH (fun r N1 ad1 E1 H locs hq hH => ?_)
      obtain ⟨rfl, rfl, rfl, rfl⟩ := hq
      have ee := nI_toInt (n := k) (by omega)
      have hsk := hok1.2.2.2 k (by omega)
      refine zx_top (b := nI (sf k - 1 + 1)) (by rw [if_pos (by omega), show (nI k).toInt.toNat = k by omega]; exact congrArg nI (by omega)) ?_
      refine W.cs (cells' := q1 6 - q 6) (slots' := 2 * (q1 6 - q 6)) rfl rfl ?_
      obtain ⟨G, hG⟩ : ∃ G, zp_give (q1, rg1, ev1, lf1) (sf k - 1) = G := ⟨_, rfl⟩
      obtain ⟨g0, g1, g2, g3, g4, g6⟩ := zp_give_fix (q1, rg1, ev1, lf1) (sf k - 1)
      have gl := zp_give_le (q1, rg1, ev1, lf1) (sf k - 1)
      have gok := zt_ok.give (lf := lf1) hok1 (show sf k - 1 < q1 0 by omega)
      rw [hG] at g0 g1 g2 g3 g4 g6 gl gok
      dsimp only at g0 g1 g2 g3 g4 g6
      have hm6 : G.2.1 6 ≤ (zp_runs sf (q 3) 0 (q, rg, ev, lf) 0).1.1 6 := by
        rw [hT9, show q 3 - k = (q 3 - (k + 1)) + 1 by omega]
        by_cases y1 : G.1 = 1
        · rw [zp_runs_1 (by rw [hG]; exact y1), hG]; exact (zp_runs_fix sf _ _ _ _).2.2.2.2.1
        · by_cases y0 : G.1 = 0
          · rw [zp_runs_0 (by rw [hG]; exact y0), hG]; exact (zp_runs_fix sf (q 3 - (k + 1)) (k + 1) (va_up G.2.1 1 (G.2.1 1 + 1), G.2.2) cn).2.2.2.2.1
          · rw [zp_runs_2 (by rw [hG]; exact y1) (by rw [hG]; exact y0), hG]; exact (zp_runs_fix sf _ _ _ _).2.2.2.2.1
      refine zx_calli (zx_runV (As := [.int (nI (sf k - 1 + 1))]) (rest := []) X hH mv_X_82 ((c_X_giveTurn g l N ad1 E1 F q1 rg1 ev1 sf lf1 hF8 hN1 hT hok1 (sf k - 1) (by omega) (G.2.1 6 - q1 6) (2 * (G.2.1 6 - q1 6)) (by rw [hG]; omega) (by rw [hG]; omega)) _) (by omega) hT.1 rfl ⟨Nat.le_of_ble_eq_true rfl, Nat.le_of_ble_eq_true rfl⟩ rfl hl rfl (Nat.le_of_ble_eq_true rfl) d_X_run_34 ⟨(by dsimp only; omega), (by dsimp only; omega)⟩) hH (fun r N2 ad2 E2 H locs hq hH => ?_)
      obtain ⟨rfl, ha2, rfl, hT, hF2⟩ := hq
      rw [hG] at hT
      refine zx_top (b := nI G.1) (by rw [hG]) ?_
      have hF := hF.tr hF2
      have ha3 : ∀ k, k ≠ 7 → k < N → ad2 k = ad k := fun k h1 h2 => (ha2 k h1 h2).trans (ha k h1 h2)
      rw [← ha2 0 (by decide) (by omega)] at hl
      refine W.cs (cells' := G.2.1 6 - q 6) (slots' := 2 * (G.2.1 6 - q 6)) (by dsimp only; omega) (by dsimp only; omega) ?_
      refine lv_istore_n (lv' := [(3, .int (nI (G.1))), (2, .int (nI (k))), (1, .int (nI (cn))), (0, .ref (ad2 (0)))]) X.1 X.2.1 d_X_run_37 rfl hl (by decide) rfl (fun ls hl => ?_)
      refine lv_iload_n X.1 X.2.1 d_X_run_38 rfl (lv_at hl 0 rfl) ?_
      refine lv_iconst (v := nI 1) X.1 X.2.1 d_X_run_39 (by decide) ?_
      refine lv_icmp_ne (tgt := 49) X.1 X.2.1 d_X_run_40 (by decide) (fun c3 => ?_) (fun c3 => ?_)
      · have c3 := mt (zn_eq (nI_toInt (by omega)) (nI_toInt (by omega))).mpr c3
        refine lv_iload_n X.1 X.2.1 d_X_run_49 rfl (lv_at hl 0 rfl) ?_
        refine lv_if_ne (tgt := 63) X.1 X.2.1 d_X_run_50 (by decide) (fun c4 => ?_) (fun c4 => ?_)
        · have c4 := mt (zn_eq (nI_toInt (by omega)) zn_0).mpr c4
          refine lv_iinc (v := nI (k + 1)) (lv' := [(2, .int (nI (k + 1))), (3, .int (nI (G.1))), (1, .int (nI (cn))), (0, .ref (ad2 (0)))]) X.1 X.2.1 d_X_run_63 hl (k := 1) rfl (nI_add _ _) (by decide) rfl (fun ls hl => ?_)
          refine lv_goto (tgt := 14) X.1 X.2.1 d_X_run_66 (by decide) ?_
          have hz : zp_runs sf (q 3) 0 (q, rg, ev, lf) 0 = zp_runs sf (q 3 - (k + 1)) (k + 1) G.2 (cn) := by rw [hT9, show q 3 - k = (q 3 - (k + 1)) + 1 by omega, zp_runs_2 (by rw [hG]; omega) (by rw [hG]; omega), hG]
          exact ih (k + 1, G.2, cn, E2, ad2) _ _ _ ⟨by omega, by show G.2.1 0 = q 0; omega, by show G.2.1 3 = q 3; omega, by show q 6 ≤ G.2.1 6; omega, hT, gok, hF, ha3, hz, hH, lv_sub hl [0, 2, 3] rfl⟩ (by show q 3 - (k + 1) < q 3 - k; omega)
        · have c4 := (zn_eq (nI_toInt (by omega)) zn_0).mp c4
          refine lv_aload_n X.1 X.2.1 d_X_run_53 rfl (lv_at hl 3 rfl) ?_
          refine lv_dup X.1 X.2.1 d_X_run_54 rfl ?_
          refine zx_get (v := .int (nI (G.2.1 1))) X hH fg_X_85 (by omega) hT.1 rfl d_X_run_55 ?_
          refine lv_iconst (v := nI 1) X.1 X.2.1 d_X_run_58 (by decide) ?_
          refine lv_iadd X.1 X.2.1 d_X_run_59 ?_
          refine zx_top (nI_add _ _) ?_
          refine zx_put X hH fp_X_85 (by omega) hT.1 (Nat.le_of_ble_eq_true rfl) rfl rfl d_X_run_60 (fun H locs hH => ?_)
          have hH : zw_H g A s.heap s N ad2 (va_up E2 0 (zt_o ad2 (va_up G.2.1 1 (G.2.1 1 + 1)))) H locs := hH
          have hT := hT.num (q1 := (va_up G.2.1 1 (G.2.1 1 + 1))) hF8 rfl rfl rfl rfl rfl
          have hF : zt_fr E (va_up E2 0 (zt_o ad2 (va_up G.2.1 1 (G.2.1 1 + 1)))) F := fun j a b => by rw [va_up_ne _ _ (by omega)]; exact hF j a b
          have gok := gok.num (G.2.1 1 + 1)
          refine lv_iinc (v := nI (k + 1)) (lv' := [(2, .int (nI (k + 1))), (3, .int (nI (G.1))), (1, .int (nI (cn))), (0, .ref (ad2 (0)))]) X.1 X.2.1 d_X_run_63 hl (k := 1) rfl (nI_add _ _) (by decide) rfl (fun ls hl => ?_)
          refine lv_goto (tgt := 14) X.1 X.2.1 d_X_run_66 (by decide) ?_
          have hz : zp_runs sf (q 3) 0 (q, rg, ev, lf) 0 = zp_runs sf (q 3 - (k + 1)) (k + 1) ((va_up G.2.1 1 (G.2.1 1 + 1)), G.2.2) (cn) := by rw [hT9, show q 3 - k = (q 3 - (k + 1)) + 1 by omega, zp_runs_0 (by rw [hG]; omega), hG]
          exact ih (k + 1, ((va_up G.2.1 1 (G.2.1 1 + 1)), G.2.2), cn, (va_up E2 0 (zt_o ad2 (va_up G.2.1 1 (G.2.1 1 + 1)))), ad2) _ _ _ ⟨by omega, by show G.2.1 0 = q 0; omega, by show G.2.1 3 = q 3; omega, by show q 6 ≤ G.2.1 6; omega, hT, gok, hF, ha3, hz, hH, lv_sub hl [0, 2, 3] rfl⟩ (by show q 3 - (k + 1) < q 3 - k; omega)
      · have c3 := (zn_eq (nI_toInt (by omega)) (nI_toInt (by omega))).mp c3
        refine lv_iinc (v := nI (cn + 1)) (lv' := [(1, .int (nI (cn + 1))), (3, .int (nI (G.1))), (2, .int (nI (k))), (0, .ref (ad2 (0)))]) X.1 X.2.1 d_X_run_43 hl (k := 2) rfl (nI_add _ _) (by decide) rfl (fun ls hl => ?_)
        refine lv_goto (tgt := 63) X.1 X.2.1 d_X_run_46 (by decide) ?_
        refine lv_iinc (v := nI (k + 1)) (lv' := [(2, .int (nI (k + 1))), (1, .int (nI (cn + 1))), (3, .int (nI (G.1))), (0, .ref (ad2 (0)))]) X.1 X.2.1 d_X_run_63 hl (k := 2) rfl (nI_add _ _) (by decide) rfl (fun ls hl => ?_)
        refine lv_goto (tgt := 14) X.1 X.2.1 d_X_run_66 (by decide) ?_
        have hz : zp_runs sf (q 3) 0 (q, rg, ev, lf) 0 = zp_runs sf (q 3 - (k + 1)) (k + 1) G.2 (cn + 1) := by rw [hT9, show q 3 - k = (q 3 - (k + 1)) + 1 by omega, zp_runs_1 (by rw [hG]; omega), hG]
        exact ih (k + 1, G.2, cn + 1, E2, ad2) _ _ _ ⟨by omega, by show G.2.1 0 = q 0; omega, by show G.2.1 3 = q 3; omega, by show q 6 ≤ G.2.1 6; omega, hT, gok, hF, ha3, hz, hH, lv_sub hl [0, 1, 3] rfl⟩ (by show q 3 - (k + 1) < q 3 - k; omega)
  · have c1 := mt (zn_eq (nI_toInt (by omega)) zn_0).mpr c1
    refine lv_bipush (v := (-5)) X.1 X.2.1 d_X_run_7 (by decide) ?_
    exfalso; omega
