/-! rounds come to an end: what is left to do in the regions falls with each round that does something -/
def zp_mr (r : (Nat → Nat) × (Nat → Nat → Nat)) : Nat := if r.1 2 = 0 then 101 - r.1 3 else 0
def zp_mu (rg : zt_R) : Nat → Nat
  | 0 => 0
  | n + 1 => zp_mu rg n + zp_mr (rg n)
theorem zp_mu_same {rg rg2 : zt_R} : ∀ n, (∀ j, j < n → zp_mr (rg2 j) = zp_mr (rg j)) → zp_mu rg2 n = zp_mu rg n := by
  intro n
  induction n with
  | zero => intro _; rfl
  | succ n ih =>
    intro h
    show zp_mu rg2 n + _ = zp_mu rg n + _
    rw [ih (fun j hj => h j (by omega)), h n (by omega)]
theorem zp_mu_up {rg : zt_R} {i : Nat} {r : (Nat → Nat) × (Nat → Nat → Nat)} : ∀ n, i < n → zp_mu (va_up rg i r) n + zp_mr (rg i) = zp_mu rg n + zp_mr r := by
  intro n
  induction n with
  | zero => intro h; exact absurd h (Nat.not_lt_zero _)
  | succ n ih =>
    intro h
    show zp_mu (va_up rg i r) n + zp_mr (va_up rg i r n) + _ = zp_mu rg n + zp_mr (rg n) + _
    by_cases e : n = i
    · subst e
      rw [va_up_self, zp_mu_same n (fun j hj => by rw [va_up_ne _ _ (by omega)])]
      omega
    · have := ih (by omega)
      rw [va_up_ne _ _ e]
      omega
theorem zp_mu_le {rg : zt_R} : ∀ n, zp_mu rg n ≤ 101 * n := by
  intro n
  induction n with
  | zero => exact Nat.le_refl _
  | succ n ih =>
    show zp_mu rg n + zp_mr (rg n) ≤ _
    have : zp_mr (rg n) ≤ 101 := by unfold zp_mr; split <;> omega
    omega
theorem zp_mr_turn {r : (Nat → Nat) × (Nat → Nat → Nat)} (h : zr_ok r.1 r.2) (ev : Nat → Nat) : zp_mr ((zp_turn r.1 r.2 ev).2.1, (zp_turn r.1 r.2 ev).2.2.1) ≤ zp_mr r ∧ (¬ (zp_turn r.1 r.2 ev).1 = 0 → zp_mr ((zp_turn r.1 r.2 ev).2.1, (zp_turn r.1 r.2 ev).2.2.1) < zp_mr r) := by
  obtain ⟨k0, k1, k2, k3, k4, k5, k7, k8, k6⟩ := h.1
  by_cases d0 : r.1 2 = 0
  · have hm : zp_mr r = 101 - r.1 3 := by unfold zp_mr; rw [if_pos d0]
    have k6 := k6 d0
    by_cases d1 : r.1 7 = 1 ∧ ¬ r.2 3 (r.1 3) = 1
    · rw [zp_turn_cancel d0 d1.1 d1.2]
      have : zp_mr (zp_back r.1 3, r.2) = 0 := if_neg (fun z => absurd (show (3 : Nat) = 0 from z) (by decide))
      exact ⟨by show zp_mr (zp_back r.1 3, r.2) ≤ _; omega, fun _ => by show zp_mr (zp_back r.1 3, r.2) < _; omega⟩
    · by_cases d2 : (zp_tw (r.2 0) (r.2 1) (r.1 3 + 1) (r.1 8) 0 (r.2 2) ev).1 = true
      · by_cases d3 : r.1 3 + 1 = r.1 1
        · rw [zp_turn_fail d0 d1 d2 d3]
          have : ∀ a, zp_mr (zp_back r.1 2, a) = 0 := fun a => if_neg (fun z => absurd (show (2 : Nat) = 0 from z) (by decide))
          exact ⟨by show zp_mr (zp_back r.1 2, _) ≤ _; rw [this]; omega, fun _ => by show zp_mr (zp_back r.1 2, _) < _; rw [this]; omega⟩
        · rw [zp_turn_step d0 d1 d2 d3]
          obtain ⟨s3, -, -⟩ := zp_step_3 r.1 (va_up r.2 2 (zp_tw (r.2 0) (r.2 1) (r.1 3 + 1) (r.1 8) 0 (r.2 2) ev).2.1) (r.1 3 + 1)
          have : ∀ a, zp_mr (zp_step r.1 (va_up r.2 2 (zp_tw (r.2 0) (r.2 1) (r.1 3 + 1) (r.1 8) 0 (r.2 2) ev).2.1) (r.1 3 + 1), a) ≤ 100 - r.1 3 := fun a => by
            unfold zp_mr
            split
            · show 101 - zp_step _ _ _ 3 ≤ _
              rw [s3]; omega
            · omega
          have t := this (va_up r.2 2 (zp_tw (r.2 0) (r.2 1) (r.1 3 + 1) (r.1 8) 0 (r.2 2) ev).2.1)
          exact ⟨Nat.le_trans t (by omega), fun _ => Nat.lt_of_le_of_lt t (by omega)⟩
      · rw [zp_turn_wait d0 d1 d2]
        exact ⟨Nat.le_refl _, fun z => absurd rfl z⟩
  · rw [zp_turn_off d0]
    exact ⟨Nat.le_refl _, fun z => absurd rfl z⟩
theorem zp_mu_give {q : Nat → Nat} {rg : zt_R} {ev sf lf : Nat → Nat} {i n : Nat} (h : zt_ok q rg ev sf) (hi : i < q 0) (hn : i < n) : zp_mu (zp_give (q, rg, ev, lf) i).2.2.1 n ≤ zp_mu rg n ∧ (¬ (zp_give (q, rg, ev, lf) i).1 = 0 → zp_mu (zp_give (q, rg, ev, lf) i).2.2.1 n < zp_mu rg n) := by
  obtain ⟨a, b⟩ := zp_mr_turn (h.2.1 i hi) ev
  have e := zp_mu_up (rg := rg) (r := ((zp_turn (rg i).1 (rg i).2 ev).2.1, (zp_turn (rg i).1 (rg i).2 ev).2.2.1)) n hn
  by_cases d : (zp_turn (rg i).1 (rg i).2 ev).1 = 1
  · rw [zp_give_yes rfl d]
    have b := b (by omega)
    exact ⟨by show zp_mu (va_up rg i _) n ≤ _; omega, fun _ => by show zp_mu (va_up rg i _) n < _; omega⟩
  · rw [zp_give_no rfl d]
    exact ⟨by show zp_mu (va_up rg i _) n ≤ _; omega, fun z => by have b := b z; show zp_mu (va_up rg i _) n < _; omega⟩
theorem zp_mu_rnd {sf : Nat → Nat} (m : Nat) : ∀ (n i : Nat) (T : zp_T) (b : Nat), i + n ≤ m → m ≤ T.1 0 → zt_ok T.1 T.2.1 T.2.2.1 sf → zp_mu (zp_rnd n i T b).1.2.1 m ≤ zp_mu T.2.1 m ∧ (b = 0 → ¬ (zp_rnd n i T b).2 = 0 → zp_mu (zp_rnd n i T b).1.2.1 m < zp_mu T.2.1 m) := by
  intro n
  induction n with
  | zero => intro i T b _ _ _; exact ⟨Nat.le_refl _, fun h1 h2 => absurd h1 h2⟩
  | succ n ih =>
    intro i T b h1 h2 h
    have hg := zp_mu_give (lf := T.2.2.2) (n := m) h (show i < T.1 0 by omega) (by omega)
    have a0 := (zp_give_fix T i).1
    have hi := ih (i + 1) (zp_give T i).2 (if (zp_give T i).1 = 0 then b else 1) (by omega) (by omega) (zt_ok.give (lf := T.2.2.2) h (by omega))
    refine ⟨Nat.le_trans hi.1 hg.1, fun hb hm => ?_⟩
    by_cases d : (zp_give T i).1 = 0
    · refine Nat.lt_of_lt_of_le (hi.2 (by rw [if_pos d]; exact hb) hm) hg.1
    · exact Nat.lt_of_le_of_lt hi.1 (hg.2 d)
theorem zs_inv.rnd {sf : Nat → Nat} : ∀ (n i : Nat) (T : zp_T) (b : Nat), i + n ≤ T.1 0 → zt_ok T.1 T.2.1 T.2.2.1 sf → zs_inv T.1 T.2.1 → zs_inv (zp_rnd n i T b).1.1 (zp_rnd n i T b).1.2.1 := by
  intro n
  induction n with
  | zero => intro i T b _ _ h; exact h
  | succ n ih =>
    intro i T b hi h hv
    have a0 := (zp_give_fix T i).1
    exact ih (i + 1) (zp_give T i).2 _ (by omega) (zt_ok.give (lf := T.2.2.2) h (by omega)) (zs_inv.give (lf := T.2.2.2) h hv (by omega))
theorem zs_inv.rnds {sf : Nat → Nat} (m : Nat) : ∀ (n : Nat) (T : zp_T), m ≤ T.1 0 → zt_ok T.1 T.2.1 T.2.2.1 sf → zs_inv T.1 T.2.1 → zs_inv (zp_rnds m n T).1 (zp_rnds m n T).2.1 := by
  intro n
  induction n with
  | zero => intro T _ _ h; exact h
  | succ n ih =>
    intro T hm h hv
    have a := zt_ok.rnd m 0 T 0 (by omega) h
    have a2 := zs_inv.rnd (sf := sf) m 0 T 0 (by omega) h hv
    have a0 := (zp_rnd_fix m 0 T 0).1
    rw [zp_rnds]
    split
    · exact a2
    · exact ih (zp_rnd m 0 T 0).1 (by omega) a a2
theorem zs_inv.runs {sf : Nat → Nat} : ∀ (n k : Nat) (T : zp_T) (c : Nat), k + n ≤ T.1 3 → zt_ok T.1 T.2.1 T.2.2.1 sf → zs_inv T.1 T.2.1 → zs_inv (zp_runs sf n k T c).1.1 (zp_runs sf n k T c).1.2.1 := by
  intro n
  induction n with
  | zero => intro k T c _ _ h; exact h
  | succ n ih =>
    intro k T c hk h hv
    obtain ⟨a0, a1, a2, a3, a4, a6⟩ := zp_give_fix T (sf k - 1)
    have hs := h.2.2.2 k (by omega)
    have hg := zt_ok.give (lf := T.2.2.2) h (show sf k - 1 < T.1 0 by omega)
    have hw := zs_inv.give (lf := T.2.2.2) h hv (show sf k - 1 < T.1 0 by omega)
    by_cases h1 : (zp_give T (sf k - 1)).1 = 1
    · rw [zp_runs_1 h1]; exact ih (k + 1) (zp_give T (sf k - 1)).2 (c + 1) (by omega) hg hw
    · by_cases h0 : (zp_give T (sf k - 1)).1 = 0
      · rw [zp_runs_0 h0]; exact ih (k + 1) (va_up (zp_give T (sf k - 1)).2.1 1 ((zp_give T (sf k - 1)).2.1 1 + 1), (zp_give T (sf k - 1)).2.2) c (by show k + 1 + n ≤ (zp_give T (sf k - 1)).2.1 3; omega) (hg.num _) (hw.q rfl rfl)
      · rw [zp_runs_2 h1 h0]; exact ih (k + 1) (zp_give T (sf k - 1)).2 c (by omega) hg hw
/-- the reference's end of a slow shutdown, region by region -/
def zm_fin (r : (Nat → Nat) × (Nat → Nat → Nat)) : (Nat → Nat) × (Nat → Nat → Nat) := if r.1 2 = 0 then (if r.2 3 (r.1 3) = 1 then (va_up r.1 2 4, r.2) else (zp_back r.1 3, r.2)) else r
theorem zm_fin_eq (r : (Nat → Nat) × (Nat → Nat → Nat)) : zp_left (zp_canc r) = zm_fin r := by
  unfold zp_canc zm_fin
  by_cases h : r.1 2 = 0
  · by_cases h2 : r.2 3 (r.1 3) = 1
    · rw [if_neg (fun z => z.2 h2), if_pos h, if_pos h2]; exact if_pos h
    · rw [if_pos ⟨h, h2⟩, if_pos h, if_neg h2]; exact if_neg (fun z => absurd (show (3 : Nat) = 0 from z) (by decide))
  · rw [if_neg (fun z => h z.1), if_neg h]; exact if_neg h
theorem zm_map_fin (rg : zt_R) (n : Nat) : zp_map zp_left (zp_map zp_canc rg n) n = zp_map zm_fin rg n := by
  funext j
  unfold zp_map
  by_cases h : j < n
  · rw [if_pos h, if_pos h, if_pos h]; exact zm_fin_eq _
  · rw [if_neg h, if_neg h, if_neg h]
theorem zp_cnt_eq {p p2 : Nat → Bool} : ∀ n, (∀ j, j < n → p j = p2 j) → zp_cnt p n = zp_cnt p2 n := by
  intro n
  induction n with
  | zero => intro _; rfl
  | succ n ih =>
    intro h
    show zp_cnt p n + _ = zp_cnt p2 n + _
    rw [ih (fun j hj => h j (by omega)), h n (by omega)]
theorem zm_cnt_fin (rg : zt_R) (n : Nat) : zp_cnt (fun i => decide ((zp_map zp_canc rg n i).1 2 = 0 ∧ 0 < (zp_map zp_canc rg n i).1 3 - (zp_map zp_canc rg n i).1 4)) n = zp_cnt (fun i => decide ((rg i).1 2 = 0 ∧ (rg i).2 3 ((rg i).1 3) = 1 ∧ 0 < (rg i).1 3 - (rg i).1 4)) n := by
  refine zp_cnt_eq n (fun j hj => ?_)
  have e : zp_map zp_canc rg n j = zp_canc (rg j) := if_pos hj
  rw [e]
  unfold zp_canc
  by_cases h : (rg j).1 2 = 0
  · by_cases h2 : (rg j).2 3 ((rg j).1 3) = 1
    · rw [if_neg (fun z => z.2 h2)]
      exact decide_eq_decide.mpr ⟨fun z => ⟨z.1, h2, z.2⟩, fun z => ⟨z.1, z.2.2⟩⟩
    · rw [if_pos ⟨h, h2⟩]
      exact decide_eq_decide.mpr ⟨fun z => absurd (show (3 : Nat) = 0 from z.1) (by decide), fun z => absurd z.2.1 h2⟩
  · rw [if_neg (fun z => h z.1)]
    exact decide_eq_decide.mpr ⟨fun z => absurd z.1 h, fun z => absurd z.1 h⟩
