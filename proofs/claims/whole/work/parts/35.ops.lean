/-! what each call keeps -/
theorem zt_ok.up {q : Nat → Nat} {rg : zt_R} {ev sf : Nat → Nat} {i : Nat} {r : (Nat → Nat) × (Nat → Nat → Nat)} (h : zt_ok q rg ev sf) (hr : zr_ok r.1 r.2) : zt_ok q (va_up rg i r) ev sf := by
  obtain ⟨hq, ha, he, hs⟩ := h
  refine ⟨hq, fun j hj => ?_, he, hs⟩
  by_cases e : j = i
  · subst e; rw [va_up_self]; exact hr
  · rw [va_up_ne _ _ e]; exact ha j hj
theorem zt_ok.evs {q : Nat → Nat} {rg : zt_R} {ev ev2 sf : Nat → Nat} (h : zt_ok q rg ev sf) (he : ∀ j, ev2 j < 1000000) : zt_ok q rg ev2 sf := ⟨h.1, h.2.1, he, h.2.2.2⟩
section ZOP
variable {q : Nat → Nat} {rg : zt_R} {ev sf : Nat → Nat} {x y z : Int32}
theorem zs_reg_all (h : zt_ok q rg ev sf) (hv : zs_inv q rg) : zt_ok (zs_reg q rg x y).2.1 (zs_reg q rg x y).2.2 ev sf ∧ zs_inv (zs_reg q rg x y).2.1 (zs_reg q rg x y).2.2 ∧ q 0 ≤ (zs_reg q rg x y).2.1 0 ∧ (zs_reg q rg x y).2.1 0 ≤ q 0 + 1 ∧ (zs_reg q rg x y).2.1 3 = q 3 ∧ (zs_reg q rg x y).2.1 4 = q 4 ∧ (zs_reg q rg x y).2.1 5 = q 5 ∧ (zs_reg q rg x y).2.1 6 = q 6 := by
  by_cases d1 : (1 ≤ x.toInt ∧ x.toInt ≤ 100) ∧ 0 ≤ y.toInt ∧ y.toInt ≤ 100
  · by_cases d2 : q 2 = 0
    · by_cases d3 : 30 ≤ q 0
      · rw [zs_reg_full d1 d2 d3]; exact ⟨h, hv, Nat.le_refl _, Nat.le_succ _, rfl, rfl, rfl, rfl⟩
      · rw [zs_reg_ok d1 d2 d3]
        obtain ⟨⟨k0, k2, k3, k3a, k4, k4a, k5, k5a, k6, k6a⟩, ha, he, hs⟩ := h
        obtain ⟨b1, b2, b3⟩ := hv
        have hz : zr_ok (zp_new x.toInt.toNat y.toInt.toNat) (fun _ _ => 0) := ⟨⟨by show x.toInt.toNat ≤ 100; omega, by show y.toInt.toNat ≤ 100; omega, by show 0 ≤ 4; omega, by show 0 ≤ x.toInt.toNat; omega, by show 0 ≤ 0; omega, by show 0 ≤ 100; omega, by show 0 ≤ 1; omega, by show 0 ≤ 20; omega, fun _ => by show 0 < x.toInt.toNat; omega⟩, fun _ => by show 0 ≤ 100; omega, fun _ => by show 0 < 16; omega, fun _ => by show 0 ≤ 1; omega, fun _ => by show 0 ≤ 2; omega⟩
        refine ⟨⟨⟨by show q 0 + 1 ≤ 30; omega, k2, k3, k3a, k4, k4a, k5, k5a, k6, k6a⟩, fun j hj => ?_, he, fun j hj => ⟨(hs j hj).1, Nat.le_succ_of_le (hs j hj).2⟩⟩, ⟨fun j hj => ?_, fun j hj => ?_, ?_⟩, Nat.le_succ _, Nat.le_refl _, rfl, rfl, rfl, rfl⟩
        · have hj : j < q 0 + 1 := hj
          show zr_ok (va_up rg (q 0) _ j).1 (va_up rg (q 0) _ j).2
          by_cases e : j = q 0
          · subst e; rw [va_up_self]; exact hz
          · rw [va_up_ne _ _ e]; exact ha j (by omega)
        · have hj : j < q 0 + 1 := hj
          show zs_r (va_up rg (q 0) _ j)
          by_cases e : j = q 0
          · subst e; rw [va_up_self]; exact ⟨by show 1 ≤ x.toInt.toNat; omega, fun _ => rfl, rfl⟩
          · rw [va_up_ne _ _ e]; exact b1 j (by omega)
        · have hj : q 0 + 1 ≤ j := hj
          show va_up rg (q 0) _ j = _
          rw [va_up_ne _ _ (by omega)]; exact b2 j (by omega)
        · show q 5 ≤ zp_sum (va_up rg (q 0) _) (q 0) + _
          rw [zp_sum_same (q 0) (fun j hj => by rw [va_up_ne _ _ (by omega)])]
          exact Nat.le_trans b3 (Nat.le_add_right _ _)
    · rw [zs_reg_off d1 d2]; exact ⟨h, hv, Nat.le_refl _, Nat.le_succ _, rfl, rfl, rfl, rfl⟩
  · rw [zs_reg_bad d1]; exact ⟨h, hv, Nat.le_refl _, Nat.le_succ _, rfl, rfl, rfl, rfl⟩
theorem zs_waits_all (h : zt_ok q rg ev sf) (hv : zs_inv q rg) : zt_ok q (zs_waits q rg x y z).2 ev sf ∧ zs_inv q (zs_waits q rg x y z).2 := by
  by_cases d1 : 1 ≤ x.toInt ∧ x.toInt ≤ (q 0 : Int)
  · obtain ⟨i, hi⟩ : ∃ i, i = x.toInt.toNat - 1 := ⟨_, rfl⟩
    by_cases d2 : 1 ≤ y.toInt ∧ y.toInt ≤ ((rg i).1 0 : Int) ∧ 0 ≤ z.toInt ∧ z.toInt < 16
    · by_cases d3 : (rg i).1 2 = 0 ∧ ((rg i).1 3 : Int) < y.toInt
      · by_cases d4 : 20 ≤ (rg i).1 8
        · rw [zs_waits_full d1 hi d2 d3 d4]; exact ⟨h, hv⟩
        · rw [zs_waits_ok d1 hi d2 d3 d4]
          have hi0 : i < q 0 := by omega
          obtain ⟨⟨k0, k1, k2, k3, k4, k5, k7, k8, k6⟩, w0, w1, w2, w3⟩ := h.2.1 i hi0
          obtain ⟨s0, s5, s3⟩ := hv.1 i hi0
          refine ⟨h.up ⟨⟨k0, k1, k2, k3, k4, k5, k7, by show (rg i).1 8 + 1 ≤ 20; omega, k6⟩, fun j => ?_, fun j => ?_, w2, w3⟩, hv.up hi0 ⟨s0, s5, s3⟩ (Nat.le_refl _)⟩
          · show va_up ((rg i).2 0) ((rg i).1 8) y.toInt.toNat j ≤ 100
            have := w0 j
            unfold va_up
            split <;> omega
          · show va_up ((rg i).2 1) ((rg i).1 8) z.toInt.toNat j < 16
            have := w1 j
            unfold va_up
            split <;> omega
      · rw [zs_waits_late d1 hi d2 d3]; exact ⟨h, hv⟩
    · rw [zs_waits_bad d1 hi d2]; exact ⟨h, hv⟩
  · rw [zs_waits_no d1]; exact ⟨h, hv⟩
theorem zs_dec_all (h : zt_ok q rg ev sf) (hv : zs_inv q rg) : zt_ok q (zs_dec q rg x y).2 ev sf ∧ zs_inv q (zs_dec q rg x y).2 := by
  by_cases d1 : 1 ≤ x.toInt ∧ x.toInt ≤ (q 0 : Int)
  · obtain ⟨i, hi⟩ : ∃ i, i = x.toInt.toNat - 1 := ⟨_, rfl⟩
    by_cases d2 : 1 ≤ y.toInt ∧ y.toInt < ((rg i).1 0 : Int)
    · by_cases d3 : (rg i).1 2 = 0 ∧ ((rg i).1 3 : Int) < y.toInt
      · by_cases d4 : (rg i).2 3 y.toInt.toNat = 0 ∧ (rg i).2 3 (y.toInt.toNat + 1) = 0
        · rw [zs_dec_ok d1 hi d2 d3 d4]
          have hi0 : i < q 0 := by omega
          obtain ⟨hq, w0, w1, w2, w3⟩ := h.2.1 i hi0
          obtain ⟨s0, s5, s3⟩ := hv.1 i hi0
          refine ⟨h.up ⟨hq, w0, w1, w2, fun j => ?_⟩, hv.up hi0 ⟨s0, s5, ?_⟩ (Nat.le_refl _)⟩
          · show va_up (va_up ((rg i).2 3) y.toInt.toNat 1) (y.toInt.toNat + 1) 2 j ≤ 2
            have := w3 j
            unfold va_up
            split
            · omega
            · split <;> omega
          · show va_up (va_up ((rg i).2 3) y.toInt.toNat 1) (y.toInt.toNat + 1) 2 0 = 0
            rw [va_up_ne _ _ (by omega), va_up_ne _ _ (by omega)]; exact s3
        · rw [zs_dec_was d1 hi d2 d3 d4]; exact ⟨h, hv⟩
      · rw [zs_dec_late d1 hi d2 d3]; exact ⟨h, hv⟩
    · rw [zs_dec_bad d1 hi d2]; exact ⟨h, hv⟩
  · rw [zs_dec_no d1]; exact ⟨h, hv⟩
theorem zs_can_all (h : zt_ok q rg ev sf) (hv : zs_inv q rg) : zt_ok q (zs_can q rg x).2 ev sf ∧ zs_inv q (zs_can q rg x).2 := by
  obtain ⟨i, hi⟩ : ∃ i, i = x.toInt.toNat - 1 := ⟨_, rfl⟩
  by_cases d1 : q 2 = 0 ∧ 1 ≤ x.toInt ∧ x.toInt ≤ (q 0 : Int)
  · by_cases d2 : (rg i).1 2 = 0 ∧ (rg i).1 7 = 0
    · rw [zs_can_ok hi d1 d2]
      have hi0 : i < q 0 := by omega
      obtain ⟨⟨k0, k1, k2, k3, k4, k5, k7, k8, k6⟩, ha⟩ := h.2.1 i hi0
      obtain ⟨s0, s5, s3⟩ := hv.1 i hi0
      exact ⟨h.up ⟨⟨k0, k1, k2, k3, k4, k5, by show 1 ≤ 1; omega, k8, k6⟩, ha⟩, hv.up hi0 ⟨s0, s5, s3⟩ (Nat.le_refl _)⟩
    · rw [zs_can_b hi d2]; exact ⟨h, hv⟩
  · rw [zs_can_a d1]; exact ⟨h, hv⟩
theorem zs_post_all {i : Nat} (he : ∀ j, ev j ≤ i) (j : Nat) : (zs_post q ev x).2 j ≤ i + 4 := by
  by_cases d1 : 0 ≤ x.toInt ∧ x.toInt < 16
  · by_cases d2 : q 2 = 0
    · rw [zs_post_ok d1 d2]
      show va_up ev x.toInt.toNat (ev x.toInt.toNat + 1) j ≤ _
      have := he j
      have := he x.toInt.toNat
      unfold va_up
      split <;> omega
    · rw [zs_post_off d1 d2]; have := he j; show ev j ≤ _; omega
  · rw [zs_post_bad d1]; have := he j; show ev j ≤ _; omega
theorem zs_turn_all (h : zt_ok q rg ev sf) (hv : zs_inv q rg) : zt_ok (zs_turn q sf x).1 rg ev (zs_turn q sf x).2 ∧ zs_inv (zs_turn q sf x).1 rg ∧ (zs_turn q sf x).1 0 = q 0 ∧ (zs_turn q sf x).1 5 = q 5 ∧ (zs_turn q sf x).1 6 = q 6 ∧ q 4 ≤ (zs_turn q sf x).1 4 := by
  obtain ⟨⟨k0, k2, k3, k3a, k4, k4a, k5, k5a, k6, k6a⟩, ha, he, hs⟩ := id h
  by_cases d1 : q 2 = 0 ∧ 1 ≤ x.toInt ∧ x.toInt ≤ (q 0 : Int)
  · rw [zs_turn_yes d1]
    by_cases d2 : 600 ≤ q 3
    · rw [zp_sch_full d2]; exact ⟨h, hv, rfl, rfl, rfl, Nat.le_refl _⟩
    · by_cases d3 : q 4 ≤ q 3
      · rw [zp_sch_grow d2 d3]
        refine ⟨⟨⟨k0, k2, by show q 3 + 1 ≤ 600; omega, by show q 3 + 1 ≤ 2 * q 4; omega, by show 16 ≤ 2 * q 4; omega, by show 2 * q 4 ≤ 1200; omega, k5, k5a, k6, k6a⟩, ha, he, fun j hj => ?_⟩, hv.q rfl rfl, rfl, rfl, rfl, by show q 4 ≤ 2 * q 4; omega⟩
        have hj : j < q 3 + 1 := hj
        show 1 ≤ va_up (fun j => if j < q 4 then sf j else 0) (q 3) x.toInt.toNat j ∧ va_up (fun j => if j < q 4 then sf j else 0) (q 3) x.toInt.toNat j ≤ q 0
        by_cases e : j = q 3
        · subst e; rw [va_up_self]; omega
        · rw [va_up_ne _ _ e]
          show 1 ≤ (if j < q 4 then sf j else 0) ∧ (if j < q 4 then sf j else 0) ≤ q 0
          rw [if_pos (by omega)]; exact hs j (by omega)
      · rw [zp_sch_room d2 d3]
        refine ⟨⟨⟨k0, k2, by show q 3 + 1 ≤ 600; omega, by show q 3 + 1 ≤ q 4; omega, k4, k4a, k5, k5a, k6, k6a⟩, ha, he, fun j hj => ?_⟩, hv.q rfl rfl, rfl, rfl, rfl, Nat.le_refl _⟩
        have hj : j < q 3 + 1 := hj
        show 1 ≤ va_up sf (q 3) x.toInt.toNat j ∧ va_up sf (q 3) x.toInt.toNat j ≤ q 0
        by_cases e : j = q 3
        · subst e; rw [va_up_self]; omega
        · rw [va_up_ne _ _ e]; exact hs j (by omega)
  · rw [zs_turn_no d1]; exact ⟨h, hv, rfl, rfl, rfl, Nat.le_refl _⟩
end ZOP
theorem zs_inv.map {f : (Nat → Nat) × (Nat → Nat → Nat) → (Nat → Nat) × (Nat → Nat → Nat)} {q : Nat → Nat} {rg : zt_R} (h : zs_inv q rg) (hf : ∀ r, zs_r r → zs_r (f r)) (h3 : ∀ r, (f r).1 3 = r.1 3) : zs_inv q (zp_map f rg (q 0)) := by
  obtain ⟨a, b, c⟩ := h
  have e : ∀ j, j < q 0 → zp_map f rg (q 0) j = f (rg j) := fun j hj => if_pos hj
  refine ⟨fun j hj => ?_, fun j hj => ?_, ?_⟩
  · rw [e j hj]; exact hf _ (a j hj)
  · rw [show zp_map f rg (q 0) j = rg j from if_neg (by omega)]; exact b j hj
  · rw [zp_sum_same (rg := rg) (q 0) (fun j hj => by rw [e j hj, h3])]; exact c
theorem zs_r.left {r : (Nat → Nat) × (Nat → Nat → Nat)} (h : zs_r r) : zs_r (zp_left r) := by
  unfold zp_left
  split
  · exact ⟨h.1, fun z => absurd (show (4 : Nat) = 0 from z) (by decide), h.2.2⟩
  · exact h
theorem zs_r.canc {r : (Nat → Nat) × (Nat → Nat → Nat)} (h : zs_r r) : zs_r (zp_canc r) := by
  unfold zp_canc
  split
  · exact ⟨h.1, fun z => absurd (show (3 : Nat) = 0 from z) (by decide), h.2.2⟩
  · exact h
theorem zp_left_3 (r : (Nat → Nat) × (Nat → Nat → Nat)) : (zp_left r).1 3 = r.1 3 := by
  unfold zp_left
  split <;> rfl
theorem zp_canc_3 (r : (Nat → Nat) × (Nat → Nat → Nat)) : (zp_canc r).1 3 = r.1 3 := by
  unfold zp_canc
  split <;> rfl
theorem zp_give_ev (T : zp_T) (i j : Nat) : (zp_give T i).2.2.2.1 j ≤ T.2.2.1 j := by
  unfold zp_give
  split
  · exact zp_turn_ev _ _ _ _
  · exact zp_turn_ev _ _ _ _
theorem zp_runs_ev (sf : Nat → Nat) : ∀ (n k : Nat) (T : zp_T) (c j : Nat), (zp_runs sf n k T c).1.2.2.1 j ≤ T.2.2.1 j := by
  intro n
  induction n with
  | zero => intro k T c j; exact Nat.le_refl _
  | succ n ih =>
    intro k T c j
    have a := zp_give_ev T (sf k - 1) j
    by_cases h1 : (zp_give T (sf k - 1)).1 = 1
    · rw [zp_runs_1 h1]; exact Nat.le_trans (ih _ _ _ _) a
    · by_cases h0 : (zp_give T (sf k - 1)).1 = 0
      · rw [zp_runs_0 h0]; exact Nat.le_trans (ih _ _ _ _) a
      · rw [zp_runs_2 h1 h0]; exact Nat.le_trans (ih _ _ _ _) a
theorem zp_rnd_ev : ∀ (n i : Nat) (T : zp_T) (b j : Nat), (zp_rnd n i T b).1.2.2.1 j ≤ T.2.2.1 j := by
  intro n
  induction n with
  | zero => intro i T b j; exact Nat.le_refl _
  | succ n ih => intro i T b j; exact Nat.le_trans (ih _ _ _ _) (zp_give_ev T i j)
theorem zp_rnds_ev (m : Nat) : ∀ (n : Nat) (T : zp_T) (j : Nat), (zp_rnds m n T).2.2.1 j ≤ T.2.2.1 j := by
  intro n
  induction n with
  | zero => intro T j; exact Nat.le_refl _
  | succ n ih =>
    intro T j
    rw [zp_rnds]
    split
    · exact zp_rnd_ev _ _ _ _ _
    · exact Nat.le_trans (ih _ _) (zp_rnd_ev _ _ _ _ _)
/-- the class's cells, where the reference's alone have changed -/
theorem zt_at.keep {g : zw_G} {ad : Nat → Nat} {E E1 : Nat → va_E} {F : Nat} {q : Nat → Nat} {rg : zt_R} {ev sf lf : Nat → Nat} (h : zt_at g ad E F q rg ev sf lf) (hk : ∀ k, (k < 8 ∨ F ≤ k) → E1 k = E k) : zt_at g ad E1 F q rg ev sf lf := by
  obtain ⟨h0, h1, h2, h3, h4, h5⟩ := h
  exact ⟨by rw [hk 0 (by omega)]; exact h0, by rw [hk 1 (by omega)]; exact h1, ⟨by rw [hk 2 (by omega)]; exact h2.1, by rw [hk 3 (by omega)]; exact h2.2⟩, ⟨by rw [hk 4 (by omega)]; exact h3.1, by rw [hk 5 (by omega)]; exact h3.2⟩, ⟨by rw [hk 6 (by omega)]; exact h4.1, by rw [hk 7 (by omega)]; exact h4.2⟩, fun i hi => (h5 i hi).keep (fun k a b => hk k (by omega))⟩
section ZLA
variable {p : Program} {l : Launch} {e : Env} {R : Room} {s : State} {m : MethodId} {args : Array Value} {below : List Frame} {meth : Method} {c : Code} {H : Heap} {locs : List Loc} {cells slots : Nat} {Q : State → Prop} {cc : ByteArray} {pc nL : Nat} {ls : Array Slot} {rest : List Value} {own : String} {g : zw_G} {A : Nat → Prop} {N : Nat} {ad : Nat → Nat} {E : Nat → va_E}
theorem zl_sld (X : CallFix p m c cc nL s args zt_U own) (hH : zw_H g A s.heap s N ad E H locs) {b L : Nat} {xs : Nat → Int32} (hX : va_X b L xs s s.heap) (hbl : b < s.heap.size) (hbA : ¬ A b) {i : Int32} {j : Nat} (hi : i = nI j) (hj : j < L) (hL : L < 2 ^ 31) (hd : decode cc pc = .ok (.iaload, 1))
    (kk : W p l e R s m args below meth c H locs cells slots Q (F0 m (pc + 1) ls (.int (xs j) :: rest))) : W p l e R s m args below meth c H locs cells slots Q (F0 m pc ls (.int i :: .ref b :: rest)) := by
  subst hi
  refine va_sld X.1 X.2.1 hX hbl hbA hH.2.2.2.1 (vp_in_nI hj hL) hd ?_
  rw [nI_clamp (by omega)]
  exact kk
end ZLA
