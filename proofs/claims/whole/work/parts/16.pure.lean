theorem zp_log_fix (q lf : Nat → Nat) (v : Nat) : (zp_log q lf v).1 0 = q 0 ∧ (zp_log q lf v).1 1 = q 1 ∧ (zp_log q lf v).1 2 = q 2 ∧ (zp_log q lf v).1 3 = q 3 ∧ (zp_log q lf v).1 4 = q 4 ∧ q 6 ≤ (zp_log q lf v).1 6 := by
  unfold zp_log
  split
  · exact ⟨rfl, rfl, rfl, rfl, rfl, Nat.le_refl _⟩
  · split
    · exact ⟨rfl, rfl, rfl, rfl, rfl, by show q 6 ≤ 2 * q 6; omega⟩
    · exact ⟨rfl, rfl, rfl, rfl, rfl, Nat.le_refl _⟩
theorem zp_give_fix (T : zp_T) (i : Nat) : (zp_give T i).2.1 0 = T.1 0 ∧ (zp_give T i).2.1 1 = T.1 1 ∧ (zp_give T i).2.1 2 = T.1 2 ∧ (zp_give T i).2.1 3 = T.1 3 ∧ (zp_give T i).2.1 4 = T.1 4 ∧ T.1 6 ≤ (zp_give T i).2.1 6 := by
  unfold zp_give
  split
  · exact zp_log_fix _ _ _
  · exact ⟨rfl, rfl, rfl, rfl, rfl, Nat.le_refl _⟩
theorem zp_give_le (T : zp_T) (i : Nat) : (zp_give T i).1 ≤ 2 := by
  unfold zp_give
  split
  · show 1 ≤ 2; omega
  · exact zp_turn_le _ _ _
theorem zt_ok.log {q : Nat → Nat} {rg : zt_R} {ev sf : Nat → Nat} (h : zt_ok q rg ev sf) (lf : Nat → Nat) (v : Nat) : zt_ok (zp_log q lf v).1 rg ev sf := by
  obtain ⟨⟨k0, k2, k3, k3a, k4, k4a, k5, k5a, k6, k6a⟩, hr, he, hs⟩ := h
  by_cases d1 : 3000 ≤ q 5
  · rw [zp_log_full d1]; exact ⟨⟨k0, k2, k3, k3a, k4, k4a, k5, k5a, k6, k6a⟩, hr, he, hs⟩
  · by_cases d2 : q 6 ≤ q 5
    · rw [zp_log_grow d1 d2]
      exact ⟨⟨k0, k2, k3, k3a, k4, k4a, by show q 5 + 1 ≤ 3000; omega, by show q 5 + 1 ≤ 2 * q 6; omega, by show 16 ≤ 2 * q 6; omega, by show 2 * q 6 ≤ 6000; omega⟩, hr, he, hs⟩
    · rw [zp_log_room d1 d2]
      exact ⟨⟨k0, k2, k3, k3a, k4, k4a, by show q 5 + 1 ≤ 3000; omega, by show q 5 + 1 ≤ q 6; omega, k6, k6a⟩, hr, he, hs⟩
theorem zt_ok.give {q : Nat → Nat} {rg : zt_R} {ev sf lf : Nat → Nat} {i : Nat} (h : zt_ok q rg ev sf) (hi : i < q 0) : zt_ok (zp_give (q, rg, ev, lf) i).2.1 (zp_give (q, rg, ev, lf) i).2.2.1 (zp_give (q, rg, ev, lf) i).2.2.2.1 sf := by
  have h2 : zt_ok q (va_up rg i ((zp_turn (rg i).1 (rg i).2 ev).2.1, (zp_turn (rg i).1 (rg i).2 ev).2.2.1)) (zp_turn (rg i).1 (rg i).2 ev).2.2.2 sf := by
    obtain ⟨hq, hr, he, hs⟩ := h
    refine ⟨hq, fun j hj => ?_, fun j => Nat.lt_of_le_of_lt (zp_turn_ev _ _ _ j) (he j), hs⟩
    by_cases e : j = i
    · subst e; rw [va_up_self]; exact (hr j hj).turn ev
    · rw [va_up_ne _ _ e]; exact hr j hj
  by_cases d : (zp_turn (rg i).1 (rg i).2 ev).1 = 1
  · rw [zp_give_yes rfl d]; exact h2.log lf _
  · rw [zp_give_no rfl d]; exact h2
theorem zp_rnd_fix : ∀ (n i : Nat) (T : zp_T) (b : Nat), (zp_rnd n i T b).1.1 0 = T.1 0 ∧ (zp_rnd n i T b).1.1 1 = T.1 1 ∧ (zp_rnd n i T b).1.1 2 = T.1 2 ∧ (zp_rnd n i T b).1.1 3 = T.1 3 ∧ (zp_rnd n i T b).1.1 4 = T.1 4 ∧ T.1 6 ≤ (zp_rnd n i T b).1.1 6 := by
  intro n
  induction n with
  | zero => intro i T b; exact ⟨rfl, rfl, rfl, rfl, rfl, Nat.le_refl _⟩
  | succ n ih =>
    intro i T b
    obtain ⟨a0, a1, a2, a3, a4, a6⟩ := zp_give_fix T i
    obtain ⟨b0, b1, b2, b3, b4, b6⟩ := ih (i + 1) (zp_give T i).2 (if (zp_give T i).1 = 0 then b else 1)
    exact ⟨b0.trans a0, b1.trans a1, b2.trans a2, b3.trans a3, b4.trans a4, Nat.le_trans a6 b6⟩
theorem zp_rnd_le : ∀ (n i : Nat) (T : zp_T) (b : Nat), b ≤ 1 → (zp_rnd n i T b).2 ≤ 1 := by
  intro n
  induction n with
  | zero => intro i T b h; exact h
  | succ n ih =>
    intro i T b h
    exact ih (i + 1) (zp_give T i).2 _ (by split <;> omega)
theorem zt_ok.rnd {sf : Nat → Nat} : ∀ (n i : Nat) (T : zp_T) (b : Nat), i + n ≤ T.1 0 → zt_ok T.1 T.2.1 T.2.2.1 sf → zt_ok (zp_rnd n i T b).1.1 (zp_rnd n i T b).1.2.1 (zp_rnd n i T b).1.2.2.1 sf := by
  intro n
  induction n with
  | zero => intro i T b _ h; exact h
  | succ n ih =>
    intro i T b hi h
    have a0 := (zp_give_fix T i).1
    exact ih (i + 1) (zp_give T i).2 _ (by omega) (zt_ok.give (lf := T.2.2.2) h (by omega))
theorem zp_rnds_fix (m : Nat) : ∀ (n : Nat) (T : zp_T), (zp_rnds m n T).1 0 = T.1 0 ∧ (zp_rnds m n T).1 1 = T.1 1 ∧ (zp_rnds m n T).1 2 = T.1 2 ∧ (zp_rnds m n T).1 3 = T.1 3 ∧ (zp_rnds m n T).1 4 = T.1 4 ∧ T.1 6 ≤ (zp_rnds m n T).1 6 := by
  intro n
  induction n with
  | zero => intro T; exact ⟨rfl, rfl, rfl, rfl, rfl, Nat.le_refl _⟩
  | succ n ih =>
    intro T
    obtain ⟨a0, a1, a2, a3, a4, a6⟩ := zp_rnd_fix m 0 T 0
    rw [zp_rnds]
    split
    · exact ⟨a0, a1, a2, a3, a4, a6⟩
    · obtain ⟨b0, b1, b2, b3, b4, b6⟩ := ih (zp_rnd m 0 T 0).1
      exact ⟨b0.trans a0, b1.trans a1, b2.trans a2, b3.trans a3, b4.trans a4, Nat.le_trans a6 b6⟩
theorem zt_ok.rnds {sf : Nat → Nat} (m : Nat) : ∀ (n : Nat) (T : zp_T), m ≤ T.1 0 → zt_ok T.1 T.2.1 T.2.2.1 sf → zt_ok (zp_rnds m n T).1 (zp_rnds m n T).2.1 (zp_rnds m n T).2.2.1 sf := by
  intro n
  induction n with
  | zero => intro T _ h; exact h
  | succ n ih =>
    intro T hm h
    have a := zt_ok.rnd m 0 T 0 (by omega) h
    have a0 := (zp_rnd_fix m 0 T 0).1
    rw [zp_rnds]
    split
    · exact a
    · exact ih (zp_rnd m 0 T 0).1 (by omega) a
theorem zp_runs_1 {sf : Nat → Nat} {n k c : Nat} {T : zp_T} (h : (zp_give T (sf k - 1)).1 = 1) : zp_runs sf (n + 1) k T c = zp_runs sf n (k + 1) (zp_give T (sf k - 1)).2 (c + 1) := by
  rw [zp_runs, if_pos h]
theorem zp_runs_0 {sf : Nat → Nat} {n k c : Nat} {T : zp_T} (h : (zp_give T (sf k - 1)).1 = 0) : zp_runs sf (n + 1) k T c = zp_runs sf n (k + 1) (va_up (zp_give T (sf k - 1)).2.1 1 ((zp_give T (sf k - 1)).2.1 1 + 1), (zp_give T (sf k - 1)).2.2) c := by
  rw [zp_runs, if_neg (by omega), if_pos h]
theorem zp_runs_2 {sf : Nat → Nat} {n k c : Nat} {T : zp_T} (h1 : ¬ (zp_give T (sf k - 1)).1 = 1) (h : ¬ (zp_give T (sf k - 1)).1 = 0) : zp_runs sf (n + 1) k T c = zp_runs sf n (k + 1) (zp_give T (sf k - 1)).2 c := by
  rw [zp_runs, if_neg h1, if_neg h]
theorem zp_runs_fix (sf : Nat → Nat) : ∀ (n k : Nat) (T : zp_T) (c : Nat), (zp_runs sf n k T c).1.1 0 = T.1 0 ∧ (zp_runs sf n k T c).1.1 2 = T.1 2 ∧ (zp_runs sf n k T c).1.1 3 = T.1 3 ∧ (zp_runs sf n k T c).1.1 4 = T.1 4 ∧ T.1 6 ≤ (zp_runs sf n k T c).1.1 6 ∧ (zp_runs sf n k T c).2 ≤ c + n := by
  intro n
  induction n with
  | zero => intro k T c; exact ⟨rfl, rfl, rfl, rfl, Nat.le_refl _, Nat.le_refl _⟩
  | succ n ih =>
    intro k T c
    obtain ⟨a0, a1, a2, a3, a4, a6⟩ := zp_give_fix T (sf k - 1)
    by_cases h1 : (zp_give T (sf k - 1)).1 = 1
    · rw [zp_runs_1 h1]
      obtain ⟨b0, b2, b3, b4, b6, b7⟩ := ih (k + 1) (zp_give T (sf k - 1)).2 (c + 1)
      exact ⟨b0.trans a0, b2.trans a2, b3.trans a3, b4.trans a4, Nat.le_trans a6 b6, by omega⟩
    · by_cases h0 : (zp_give T (sf k - 1)).1 = 0
      · rw [zp_runs_0 h0]
        obtain ⟨b0, b2, b3, b4, b6, b7⟩ := ih (k + 1) (va_up (zp_give T (sf k - 1)).2.1 1 ((zp_give T (sf k - 1)).2.1 1 + 1), (zp_give T (sf k - 1)).2.2) c
        exact ⟨b0.trans a0, b2.trans a2, b3.trans a3, b4.trans a4, Nat.le_trans a6 b6, by omega⟩
      · rw [zp_runs_2 h1 h0]
        obtain ⟨b0, b2, b3, b4, b6, b7⟩ := ih (k + 1) (zp_give T (sf k - 1)).2 c
        exact ⟨b0.trans a0, b2.trans a2, b3.trans a3, b4.trans a4, Nat.le_trans a6 b6, by omega⟩
theorem zt_ok.num {q : Nat → Nat} {rg : zt_R} {ev sf : Nat → Nat} (h : zt_ok q rg ev sf) (v : Nat) : zt_ok (va_up q 1 v) rg ev sf := h
theorem zt_ok.runs {sf : Nat → Nat} : ∀ (n k : Nat) (T : zp_T) (c : Nat), k + n ≤ T.1 3 → zt_ok T.1 T.2.1 T.2.2.1 sf → zt_ok (zp_runs sf n k T c).1.1 (zp_runs sf n k T c).1.2.1 (zp_runs sf n k T c).1.2.2.1 sf := by
  intro n
  induction n with
  | zero => intro k T c _ h; exact h
  | succ n ih =>
    intro k T c hk h
    obtain ⟨a0, a1, a2, a3, a4, a6⟩ := zp_give_fix T (sf k - 1)
    have hs := h.2.2.2 k (by omega)
    have hg := zt_ok.give (lf := T.2.2.2) h (show sf k - 1 < T.1 0 by omega)
    by_cases h1 : (zp_give T (sf k - 1)).1 = 1
    · rw [zp_runs_1 h1]; exact ih (k + 1) (zp_give T (sf k - 1)).2 (c + 1) (by omega) hg
    · by_cases h0 : (zp_give T (sf k - 1)).1 = 0
      · rw [zp_runs_0 h0]; exact ih (k + 1) (va_up (zp_give T (sf k - 1)).2.1 1 ((zp_give T (sf k - 1)).2.1 1 + 1), (zp_give T (sf k - 1)).2.2) c (by show k + 1 + n ≤ (zp_give T (sf k - 1)).2.1 3; omega) (hg.num _)
      · rw [zp_runs_2 h1 h0]; exact ih (k + 1) (zp_give T (sf k - 1)).2 c (by omega) hg
