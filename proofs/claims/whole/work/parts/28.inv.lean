/-! What both sides keep beside zt_ok -/
def zs_r (r : (Nat → Nat) × (Nat → Nat → Nat)) : Prop := 1 ≤ r.1 0 ∧ (r.1 2 = 0 → r.1 5 = 0) ∧ r.2 3 0 = 0
def zp_sum (rg : zt_R) : Nat → Nat
  | 0 => 0
  | n + 1 => zp_sum rg n + (rg n).1 3
def zs_inv (q : Nat → Nat) (rg : zt_R) : Prop := (∀ i, i < q 0 → zs_r (rg i)) ∧ (∀ i, q 0 ≤ i → rg i = (fun _ => 0, fun _ _ => 0)) ∧ q 5 ≤ zp_sum rg (q 0)
theorem zp_sum_same {rg rg2 : zt_R} : ∀ n, (∀ j, j < n → (rg2 j).1 3 = (rg j).1 3) → zp_sum rg2 n = zp_sum rg n := by
  intro n
  induction n with
  | zero => intro _; rfl
  | succ n ih =>
    intro h
    show zp_sum rg2 n + _ = zp_sum rg n + _
    rw [ih (fun j hj => h j (by omega)), h n (by omega)]
theorem zp_sum_up {rg : zt_R} {i : Nat} {r : (Nat → Nat) × (Nat → Nat → Nat)} : ∀ n, i < n → zp_sum (va_up rg i r) n + (rg i).1 3 = zp_sum rg n + r.1 3 := by
  intro n
  induction n with
  | zero => intro h; exact absurd h (Nat.not_lt_zero _)
  | succ n ih =>
    intro h
    show zp_sum (va_up rg i r) n + (va_up rg i r n).1 3 + _ = zp_sum rg n + (rg n).1 3 + _
    by_cases e : n = i
    · subst e
      rw [va_up_self, zp_sum_same n (fun j hj => by rw [va_up_ne _ _ (by omega)])]
      omega
    · have := ih (by omega)
      rw [va_up_ne _ _ e]
      omega
theorem zp_sum_le {rg : zt_R} : ∀ n, (∀ j, j < n → (rg j).1 3 ≤ 100) → zp_sum rg n ≤ 100 * n := by
  intro n
  induction n with
  | zero => intro _; exact Nat.le_refl _
  | succ n ih =>
    intro h
    have h1 := ih (fun j hj => h j (by omega))
    have h2 := h n (by omega)
    show zp_sum rg n + _ ≤ _
    omega
theorem zp_sum_lt {rg : zt_R} {i : Nat} : ∀ n, (∀ j, j < n → (rg j).1 3 ≤ 100) → i < n → (rg i).1 3 < 100 → zp_sum rg n < 100 * n := by
  intro n
  induction n with
  | zero => intro _ h; exact absurd h (Nat.not_lt_zero _)
  | succ n ih =>
    intro h hi h3
    show zp_sum rg n + _ < _
    by_cases e : n = i
    · subst e
      have := zp_sum_le n (fun j hj => h j (by omega))
      omega
    · have h1 := ih (fun j hj => h j (by omega)) (by omega) h3
      have h2 := h n (by omega)
      omega
theorem zs_lt {q : Nat → Nat} {rg : zt_R} {ev sf : Nat → Nat} {i : Nat} (h : zt_ok q rg ev sf) (hv : zs_inv q rg) (hi : i < q 0) (h2 : (rg i).1 2 = 0) : q 5 < 3000 := by
  have hb : ∀ j, j < q 0 → (rg j).1 3 ≤ 100 := fun j hj => by
    obtain ⟨k0, k1, k2, k3, -⟩ := (h.2.1 j hj).1
    omega
  obtain ⟨k0, k1, k2, k3, k4, k5, k7, k8, k6⟩ := (h.2.1 i hi).1
  have hlt := zp_sum_lt (i := i) (q 0) hb hi (by have := k6 h2; omega)
  have hq := h.1.1
  have := hv.2.2
  omega
theorem zp_step_3 (sc : Nat → Nat) (ar : Nat → Nat → Nat) (t : Nat) : zp_step sc ar t 3 = t ∧ zp_step sc ar t 0 = sc 0 ∧ zp_step sc ar t 5 = sc 5 := by
  unfold zp_step zp_s2
  split <;> split <;> exact ⟨rfl, rfl, rfl⟩
theorem zp_turn_3 (sc : Nat → Nat) (ar : Nat → Nat → Nat) (ev : Nat → Nat) : ((zp_turn sc ar ev).1 = 1 ∧ sc 2 = 0 ∧ (zp_turn sc ar ev).2.1 3 = sc 3 + 1) ∨ (¬ (zp_turn sc ar ev).1 = 1 ∧ (zp_turn sc ar ev).2.1 3 = sc 3) := by
  by_cases d0 : sc 2 = 0
  · by_cases d1 : sc 7 = 1 ∧ ¬ ar 3 (sc 3) = 1
    · rw [zp_turn_cancel d0 d1.1 d1.2]; exact Or.inr ⟨fun z => absurd (show (2 : Nat) = 1 from z) (by decide), rfl⟩
    · by_cases d2 : (zp_tw (ar 0) (ar 1) (sc 3 + 1) (sc 8) 0 (ar 2) ev).1 = true
      · by_cases d3 : sc 3 + 1 = sc 1
        · rw [zp_turn_fail d0 d1 d2 d3]; exact Or.inr ⟨fun z => absurd (show (2 : Nat) = 1 from z) (by decide), rfl⟩
        · rw [zp_turn_step d0 d1 d2 d3]; exact Or.inl ⟨rfl, d0, (zp_step_3 _ _ _).1⟩
      · rw [zp_turn_wait d0 d1 d2]; exact Or.inr ⟨fun z => absurd (show (0 : Nat) = 1 from z) (by decide), rfl⟩
  · rw [zp_turn_off d0]; exact Or.inr ⟨fun z => absurd (show (0 : Nat) = 1 from z) (by decide), rfl⟩
theorem zs_r.turn {r : (Nat → Nat) × (Nat → Nat → Nat)} (h : zs_r r) (ev : Nat → Nat) : zs_r ((zp_turn r.1 r.2 ev).2.1, (zp_turn r.1 r.2 ev).2.2.1) := by
  obtain ⟨h0, h5, h3⟩ := h
  by_cases d0 : r.1 2 = 0
  · by_cases d1 : r.1 7 = 1 ∧ ¬ r.2 3 (r.1 3) = 1
    · rw [zp_turn_cancel d0 d1.1 d1.2]; exact ⟨h0, fun z => absurd (show (3 : Nat) = 0 from z) (by decide), h3⟩
    · by_cases d2 : (zp_tw (r.2 0) (r.2 1) (r.1 3 + 1) (r.1 8) 0 (r.2 2) ev).1 = true
      · by_cases d3 : r.1 3 + 1 = r.1 1
        · rw [zp_turn_fail d0 d1 d2 d3]; exact ⟨h0, fun z => absurd (show (2 : Nat) = 0 from z) (by decide), h3⟩
        · rw [zp_turn_step d0 d1 d2 d3]
          obtain ⟨-, a, b⟩ := zp_step_3 r.1 (va_up r.2 2 (zp_tw (r.2 0) (r.2 1) (r.1 3 + 1) (r.1 8) 0 (r.2 2) ev).2.1) (r.1 3 + 1)
          exact ⟨by rw [show (zp_step _ _ _, _).1 0 = r.1 0 from a]; exact h0, fun _ => b.trans (h5 d0), h3⟩
      · rw [zp_turn_wait d0 d1 d2]; exact ⟨h0, h5, h3⟩
  · rw [zp_turn_off d0]; exact ⟨h0, h5, h3⟩
theorem zs_inv.up {q : Nat → Nat} {rg : zt_R} {i : Nat} {r : (Nat → Nat) × (Nat → Nat → Nat)} (h : zs_inv q rg) (hi : i < q 0) (hr : zs_r r) (h3 : (rg i).1 3 ≤ r.1 3) : zs_inv q (va_up rg i r) := by
  obtain ⟨a, b, c⟩ := h
  refine ⟨fun j hj => ?_, fun j hj => ?_, ?_⟩
  · by_cases e : j = i
    · subst e; rw [va_up_self]; exact hr
    · rw [va_up_ne _ _ e]; exact a j hj
  · rw [va_up_ne _ _ (by omega)]; exact b j hj
  · have := zp_sum_up (rg := rg) (r := r) (q 0) hi
    omega
theorem zp_log_5 {q lf : Nat → Nat} {v : Nat} (h : q 5 < 3000) : (zp_log q lf v).1 5 = q 5 + 1 := by
  by_cases d : q 6 ≤ q 5
  · rw [zp_log_grow (by omega) d]; rfl
  · rw [zp_log_room (by omega) d]; rfl
theorem zp_log_f {q lf : Nat → Nat} {v : Nat} (h : q 5 < 3000) (h6 : q 5 ≤ q 6) : (zp_log q lf v).2 (q 5) = v ∧ ∀ j, j < q 5 → (zp_log q lf v).2 j = lf j := by
  by_cases d : q 6 ≤ q 5
  · rw [zp_log_grow (by omega) d]
    refine ⟨va_up_self (fun j => if j < q 6 then lf j else 0) (q 5) v, fun j hj => ?_⟩
    show va_up (fun j => if j < q 6 then lf j else 0) (q 5) v j = _
    rw [va_up_ne _ _ (by omega)]
    show (if j < q 6 then lf j else 0) = _
    rw [if_pos (by omega)]
  · rw [zp_log_room (by omega) d]
    exact ⟨va_up_self lf (q 5) v, fun j hj => va_up_ne lf v (show j ≠ q 5 by omega)⟩
theorem zs_inv.q {q q1 : Nat → Nat} {rg : zt_R} (h : zs_inv q rg) (h0 : q1 0 = q 0) (h5 : q1 5 = q 5) : zs_inv q1 rg := by
  obtain ⟨a, b, c⟩ := h
  exact ⟨fun j hj => a j (by omega), fun j hj => b j (by omega), by rw [h0, h5]; exact c⟩
theorem zs_inv.give {q : Nat → Nat} {rg : zt_R} {ev sf lf : Nat → Nat} {i : Nat} (h : zt_ok q rg ev sf) (hv : zs_inv q rg) (hi : i < q 0) : zs_inv (zp_give (q, rg, ev, lf) i).2.1 (zp_give (q, rg, ev, lf) i).2.2.1 := by
  have ht := (hv.1 i hi).turn ev
  rcases zp_turn_3 (rg i).1 (rg i).2 ev with ⟨d, d2, h3⟩ | ⟨d, h3⟩
  · have hlt := zs_lt h hv hi d2
    rw [zp_give_yes rfl d]
    have hu := hv.up hi ht (by show _ ≤ (zp_turn (rg i).1 (rg i).2 ev).2.1 3; omega)
    have hs := zp_sum_up (rg := rg) (r := ((zp_turn (rg i).1 (rg i).2 ev).2.1, (zp_turn (rg i).1 (rg i).2 ev).2.2.1)) (q 0) hi
    have h5 := zp_log_5 (lf := lf) (v := 1000 * (i + 1) + (zp_turn (rg i).1 (rg i).2 ev).2.1 3) hlt
    have h0 := (zp_log_fix q lf (1000 * (i + 1) + (zp_turn (rg i).1 (rg i).2 ev).2.1 3)).1
    have hs : zp_sum (va_up rg i ((zp_turn (rg i).1 (rg i).2 ev).2.1, (zp_turn (rg i).1 (rg i).2 ev).2.2.1)) (q 0) + (rg i).1 3 = zp_sum rg (q 0) + (zp_turn (rg i).1 (rg i).2 ev).2.1 3 := hs
    obtain ⟨a, b, c⟩ := hu
    have c0 := hv.2.2
    exact ⟨fun j hj => a j (by rw [← h0]; exact hj), fun j hj => b j (by rw [← h0]; exact hj), by show (zp_log q lf (1000 * (i + 1) + (zp_turn (rg i).1 (rg i).2 ev).2.1 3)).1 5 ≤ zp_sum (va_up rg i ((zp_turn (rg i).1 (rg i).2 ev).2.1, (zp_turn (rg i).1 (rg i).2 ev).2.2.1)) ((zp_log q lf (1000 * (i + 1) + (zp_turn (rg i).1 (rg i).2 ev).2.1 3)).1 0); rw [h0, h5]; omega⟩
  · rw [zp_give_no rfl d]
    exact hv.up hi ht (by show _ ≤ (zp_turn (rg i).1 (rg i).2 ev).2.1 3; omega)
/-- what goes leaves, said by zp_give -/
theorem zm_give {g : zw_G} {ad : Nat → Nat} {E1 : Nat → va_E} {q : Nat → Nat} {rg : zt_R} {ev sf fs fl lf : Nat → Nat} {i : Nat} (h : zt_ok q rg ev sf) (hv : zs_inv q rg) (hi : i < q 0) (hfl : ∀ j, j < q 5 → fl j = lf j)
    (hM : zm_at g ad E1 (if (zp_turn (rg i).1 (rg i).2 ev).1 = 1 then va_up q 5 (q 5 + 1) else q) (va_up rg i ((zp_turn (rg i).1 (rg i).2 ev).2.1, (zp_turn (rg i).1 (rg i).2 ev).2.2.1)) (zp_turn (rg i).1 (rg i).2 ev).2.2.2 fs (if (zp_turn (rg i).1 (rg i).2 ev).1 = 1 then va_up fl (q 5) (1000 * (i + 1) + ((rg i).1 3 + 1)) else fl)) :
    (zp_give (q, rg, ev, lf) i).1 = (zp_turn (rg i).1 (rg i).2 ev).1 ∧ ∃ fl1, zm_at g ad E1 (zp_give (q, rg, ev, lf) i).2.1 (zp_give (q, rg, ev, lf) i).2.2.1 (zp_give (q, rg, ev, lf) i).2.2.2.1 fs fl1 ∧ ∀ j, j < (zp_give (q, rg, ev, lf) i).2.1 5 → fl1 j = (zp_give (q, rg, ev, lf) i).2.2.2.2 j := by
  rcases zp_turn_3 (rg i).1 (rg i).2 ev with ⟨d, d2, h3⟩ | ⟨d, h3⟩
  · have hlt := zs_lt h hv hi d2
    rw [if_pos d, if_pos d] at hM
    rw [zp_give_yes rfl d]
    obtain ⟨a0, a1, a2, a3, a4, a6⟩ := zp_log_fix q lf (1000 * (i + 1) + (zp_turn (rg i).1 (rg i).2 ev).2.1 3)
    have a5 := zp_log_5 (lf := lf) (v := 1000 * (i + 1) + (zp_turn (rg i).1 (rg i).2 ev).2.1 3) hlt
    obtain ⟨f1, f2⟩ := zp_log_f (lf := lf) (v := 1000 * (i + 1) + (zp_turn (rg i).1 (rg i).2 ev).2.1 3) hlt h.1.2.2.2.2.2.2.2.1
    refine ⟨d.symm, _, hM.q a0 a1 a2 a3 a5, fun j hj => ?_⟩
    have hj : j < (zp_log q lf (1000 * (i + 1) + (zp_turn (rg i).1 (rg i).2 ev).2.1 3)).1 5 := hj
    by_cases e : j = q 5
    · subst e
      rw [va_up_self]
      show _ = (zp_log q lf _).2 (q 5)
      rw [f1, h3]
    · rw [va_up_ne _ _ e]
      show _ = (zp_log q lf _).2 j
      rw [f2 j (by omega)]
      exact hfl j (by omega)
  · rw [if_neg d, if_neg d] at hM
    rw [zp_give_no rfl d]
    exact ⟨rfl, fl, hM, hfl⟩
