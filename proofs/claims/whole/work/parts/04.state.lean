/-! the objects' cells -/
def zr_o (ad : Nat → Nat) (b : Nat) (sc : Nat → Nat) : va_E := .inr (1, [.int (nI (sc 0)), .int (nI (sc 1)), .int (nI (sc 2)), .int (nI (sc 3)), .int (nI (sc 4)), .int (nI (sc 5)), .int (nI (sc 6)), .int (nI (sc 7)), .int (nI (sc 8)), .ref (ad (b + 1)), .ref (ad (b + 2)), .ref (ad (b + 3)), .ref (ad (b + 4))])
def ze_o (ad : Nat → Nat) (pp : Nat) : va_E := .inr (0, [.ref (ad pp)])
def zo_o (ad : Nat → Nat) (pn lim len : Nat) : va_E := .inr (2, [.int (nI lim), .ref (ad pn), .int (nI len)])
def zt_o (ad : Nat → Nat) (q : Nat → Nat) : va_E := .inr (3, [.ref (ad 1), .ref (ad 2), .ref (ad 4), .ref (ad 6), .int (nI (q 0)), .int (nI (q 1)), .int (nI (q 2))])
/-! What the class's cells are. A region: its numbers sc (by slot), its arrays ar (0 waitStep, 1 waitEvent, 2 waitTaken, 3 half), its cells at b .. b + 4 -/
theorem zr_upd (f : Nat → Nat) (k v : Nat) : upd (fun j => nI (f j)) k (nI v) = fun j => nI (va_up f k v j) := by
  funext j
  unfold upd va_up
  by_cases h : j = k
  · rw [if_pos h, if_pos h]
  · rw [if_neg h, if_neg h]
def zr_ia (g : zw_G) (n : Nat) (f : Nat → Nat) : va_E := .inl (g.2 0, n, .inl (fun j => nI (f j)))
def zr_za (g : zw_G) (n : Nat) (f : Nat → Nat) : va_E := .inl (g.2 1, n, .inl (fun j => nI (f j)))
def zr_at (g : zw_G) (ad : Nat → Nat) (E : Nat → va_E) (b : Nat) (sc : Nat → Nat) (ar : Nat → Nat → Nat) : Prop :=
  E b = zr_o ad b sc ∧ E (b + 1) = zr_ia g 20 (ar 0) ∧ E (b + 2) = zr_ia g 20 (ar 1) ∧ E (b + 3) = zr_za g 20 (ar 2) ∧ E (b + 4) = zr_ia g 101 (ar 3)
/-- nothing but the region's cells has changed -/
def zr_fr (E E1 : Nat → va_E) (b : Nat) : Prop := ∀ k, (k < b ∨ b + 5 ≤ k) → E1 k = E k
theorem zr_fr.rf {E : Nat → va_E} {b : Nat} : zr_fr E E b := fun _ _ => rfl
theorem zr_fr.up {E E1 : Nat → va_E} {b k : Nat} {x : va_E} (h : zr_fr E E1 b) (h1 : b ≤ k) (h2 : k < b + 5) : zr_fr E (va_up E1 k x) b := fun j hj => by
  rw [va_up_ne _ _ (by omega)]; exact h j hj
theorem zr_fr.tr {E E1 E2 : Nat → va_E} {b : Nat} (h : zr_fr E E1 b) (h2 : zr_fr E1 E2 b) : zr_fr E E2 b := fun j hj => (h2 j hj).trans (h j hj)
theorem zr_at.sc {g : zw_G} {ad : Nat → Nat} {E : Nat → va_E} {b : Nat} {sc : Nat → Nat} {ar : Nat → Nat → Nat} (h : zr_at g ad E b sc ar) (sc' : Nat → Nat) : zr_at g ad (va_up E b (zr_o ad b sc')) b sc' ar := by
  obtain ⟨-, h1, h2, h3, h4⟩ := h
  exact ⟨va_up_self _ _ _, by rw [va_up_ne _ _ (by omega)]; exact h1, by rw [va_up_ne _ _ (by omega)]; exact h2, by rw [va_up_ne _ _ (by omega)]; exact h3, by rw [va_up_ne _ _ (by omega)]; exact h4⟩
theorem zr_at.a0 {g : zw_G} {ad : Nat → Nat} {E : Nat → va_E} {b : Nat} {sc : Nat → Nat} {ar : Nat → Nat → Nat} (h : zr_at g ad E b sc ar) (f : Nat → Nat) : zr_at g ad (va_up E (b + 1) (zr_ia g 20 f)) b sc (va_up ar 0 f) := by
  obtain ⟨h0, h1, h2, h3, h4⟩ := h
  exact ⟨by rw [va_up_ne _ _ (by omega)]; exact h0, va_up_self _ _ _, by rw [va_up_ne _ _ (by omega)]; exact h2, by rw [va_up_ne _ _ (by omega)]; exact h3, by rw [va_up_ne _ _ (by omega)]; exact h4⟩
theorem zr_at.a1 {g : zw_G} {ad : Nat → Nat} {E : Nat → va_E} {b : Nat} {sc : Nat → Nat} {ar : Nat → Nat → Nat} (h : zr_at g ad E b sc ar) (f : Nat → Nat) : zr_at g ad (va_up E (b + 2) (zr_ia g 20 f)) b sc (va_up ar 1 f) := by
  obtain ⟨h0, h1, h2, h3, h4⟩ := h
  exact ⟨by rw [va_up_ne _ _ (by omega)]; exact h0, by rw [va_up_ne _ _ (by omega)]; exact h1, va_up_self _ _ _, by rw [va_up_ne _ _ (by omega)]; exact h3, by rw [va_up_ne _ _ (by omega)]; exact h4⟩
theorem zr_at.a2 {g : zw_G} {ad : Nat → Nat} {E : Nat → va_E} {b : Nat} {sc : Nat → Nat} {ar : Nat → Nat → Nat} (h : zr_at g ad E b sc ar) (f : Nat → Nat) : zr_at g ad (va_up E (b + 3) (zr_za g 20 f)) b sc (va_up ar 2 f) := by
  obtain ⟨h0, h1, h2, h3, h4⟩ := h
  exact ⟨by rw [va_up_ne _ _ (by omega)]; exact h0, by rw [va_up_ne _ _ (by omega)]; exact h1, by rw [va_up_ne _ _ (by omega)]; exact h2, va_up_self _ _ _, by rw [va_up_ne _ _ (by omega)]; exact h4⟩
theorem zr_at.a3 {g : zw_G} {ad : Nat → Nat} {E : Nat → va_E} {b : Nat} {sc : Nat → Nat} {ar : Nat → Nat → Nat} (h : zr_at g ad E b sc ar) (f : Nat → Nat) : zr_at g ad (va_up E (b + 4) (zr_ia g 101 f)) b sc (va_up ar 3 f) := by
  obtain ⟨h0, h1, h2, h3, h4⟩ := h
  exact ⟨by rw [va_up_ne _ _ (by omega)]; exact h0, by rw [va_up_ne _ _ (by omega)]; exact h1, by rw [va_up_ne _ _ (by omega)]; exact h2, by rw [va_up_ne _ _ (by omega)]; exact h3, va_up_self _ _ _⟩
/-- the cells don't change where the region's own don't -/
theorem zr_at.keep {g : zw_G} {ad : Nat → Nat} {E E1 : Nat → va_E} {b : Nat} {sc : Nat → Nat} {ar : Nat → Nat → Nat} (h : zr_at g ad E b sc ar) (hk : ∀ k, b ≤ k → k < b + 5 → E1 k = E k) : zr_at g ad E1 b sc ar := by
  obtain ⟨h0, h1, h2, h3, h4⟩ := h
  exact ⟨by rw [hk _ (by omega) (by omega)]; exact h0, by rw [hk _ (by omega) (by omega)]; exact h1, by rw [hk _ (by omega) (by omega)]; exact h2, by rw [hk _ (by omega) (by omega)]; exact h3, by rw [hk _ (by omega) (by omega)]; exact h4⟩
/-- the events, at pe and pp -/
def ze_at (g : zw_G) (ad : Nat → Nat) (E : Nat → va_E) (pe pp : Nat) (ev : Nat → Nat) : Prop := E pe = ze_o ad pp ∧ E pp = zr_ia g 16 ev
/-- a row of numbers, at pr and pn, with room for cap -/
def zo_at (g : zw_G) (ad : Nat → Nat) (E : Nat → va_E) (pr pn lim len cap : Nat) (f : Nat → Nat) : Prop := E pr = zo_o ad pn lim len ∧ E pn = zr_ia g cap f
/-- what the numbers of a region keep -/
def zr_ok (sc : Nat → Nat) (ar : Nat → Nat → Nat) : Prop := (sc 0 ≤ 100 ∧ sc 1 ≤ 100 ∧ sc 2 ≤ 4 ∧ sc 3 ≤ sc 0 ∧ sc 4 ≤ sc 3 ∧ sc 5 ≤ 100 ∧ sc 7 ≤ 1 ∧ sc 8 ≤ 20 ∧ (sc 2 = 0 → sc 3 < sc 0)) ∧ (∀ j, ar 0 j ≤ 100) ∧ (∀ j, ar 1 j < 16) ∧ (∀ j, ar 2 j ≤ 1) ∧ ∀ j, ar 3 j ≤ 2
/-- its steps are backed out, it ends as k -/
def zp_back (sc : Nat → Nat) (k : Nat) : Nat → Nat := va_up (va_up (va_up sc 5 (sc 3 - sc 4)) 2 k) 6 (sc 6 + 1)
def zp_s2 (sc : Nat → Nat) (ar : Nat → Nat → Nat) (t : Nat) : Nat → Nat := if ar 3 t = 2 then va_up (va_up sc 3 t) 4 t else va_up sc 3 t
/-- step t is done -/
def zp_step (sc : Nat → Nat) (ar : Nat → Nat → Nat) (t : Nat) : Nat → Nat := if sc 0 ≤ t then va_up (va_up (zp_s2 sc ar t) 2 1) 6 (sc 6 + 1) else zp_s2 sc ar t
/-- the waits at step t, from the i-th on, k of them: whether all are taken, what is taken then, what is posted then -/
def zp_tw (wf vf : Nat → Nat) (t : Nat) : Nat → Nat → (Nat → Nat) → (Nat → Nat) → Bool × (Nat → Nat) × (Nat → Nat)
  | 0, _, tk, ev => (true, tk, ev)
  | k + 1, i, tk, ev => if wf i = t ∧ tk i = 0 then (if ev (vf i) = 0 then (false, tk, ev) else zp_tw wf vf t k (i + 1) (va_up tk i 1) (va_up ev (vf i) (ev (vf i) - 1))) else zp_tw wf vf t k (i + 1) tk ev
theorem zp_tw_0 (wf vf : Nat → Nat) (t i : Nat) (tk ev : Nat → Nat) : zp_tw wf vf t 0 i tk ev = (true, tk, ev) := rfl
theorem zp_tw_no {wf vf : Nat → Nat} {t k i : Nat} {tk ev : Nat → Nat} (h : ¬ (wf i = t ∧ tk i = 0)) : zp_tw wf vf t (k + 1) i tk ev = zp_tw wf vf t k (i + 1) tk ev := by
  rw [zp_tw, if_neg h]
theorem zp_tw_stop {wf vf : Nat → Nat} {t k i : Nat} {tk ev : Nat → Nat} (h : wf i = t ∧ tk i = 0) (h2 : ev (vf i) = 0) : zp_tw wf vf t (k + 1) i tk ev = (false, tk, ev) := by
  rw [zp_tw, if_pos h, if_pos h2]
theorem zp_tw_take {wf vf : Nat → Nat} {t k i : Nat} {tk ev : Nat → Nat} (h : wf i = t ∧ tk i = 0) (h2 : ¬ ev (vf i) = 0) : zp_tw wf vf t (k + 1) i tk ev = zp_tw wf vf t k (i + 1) (va_up tk i 1) (va_up ev (vf i) (ev (vf i) - 1)) := by
  rw [zp_tw, if_pos h, if_neg h2]
/-- nothing but the region's cells and the postings has changed -/
def zr_f3 (E E1 : Nat → va_E) (b pp : Nat) : Prop := ∀ k, (k < b ∨ b + 5 ≤ k) → k ≠ pp → E1 k = E k
theorem zr_f3.rf {E : Nat → va_E} {b pp : Nat} : zr_f3 E E b pp := fun _ _ _ => rfl
theorem zr_f3.up {E E1 : Nat → va_E} {b pp k : Nat} {x : va_E} (h : zr_f3 E E1 b pp) (h1 : (b ≤ k ∧ k < b + 5) ∨ k = pp) : zr_f3 E (va_up E1 k x) b pp := fun j hj hp => by
  rw [va_up_ne _ _ (by omega)]; exact h j hj hp
theorem zr_f3.tr {E E1 E2 : Nat → va_E} {b pp : Nat} (h : zr_f3 E E1 b pp) (h2 : zr_f3 E1 E2 b pp) : zr_f3 E E2 b pp := fun j hj hp => (h2 j hj hp).trans (h j hj hp)
theorem zr_f3.tf {E E1 E2 : Nat → va_E} {b pp : Nat} (h : zr_f3 E E1 b pp) (h2 : zr_fr E1 E2 b) : zr_f3 E E2 b pp := fun j hj hp => (h2 j hj).trans (h j hj hp)
theorem ze_at.keep {g : zw_G} {ad : Nat → Nat} {E E1 : Nat → va_E} {pe pp : Nat} {ev : Nat → Nat} (h : ze_at g ad E pe pp ev) (h1 : E1 pe = E pe) (h2 : E1 pp = E pp) : ze_at g ad E1 pe pp ev := ⟨h1.trans h.1, h2.trans h.2⟩
theorem ze_at.up {g : zw_G} {ad : Nat → Nat} {E : Nat → va_E} {pe pp : Nat} {ev : Nat → Nat} (h : ze_at g ad E pe pp ev) (hn : pe ≠ pp) (ev' : Nat → Nat) : ze_at g ad (va_up E pp (zr_ia g 16 ev')) pe pp ev' := ⟨by rw [va_up_ne _ _ hn]; exact h.1, va_up_self _ _ _⟩
theorem zr_at.arr {g : zw_G} {ad : Nat → Nat} {E : Nat → va_E} {b : Nat} {sc : Nat → Nat} {ar ar' : Nat → Nat → Nat} (h : zr_at g ad E b sc ar) (e : ar = ar') : zr_at g ad E b sc ar' := e ▸ h
theorem zr_id {α : Type} (f : Nat → α) (k : Nat) : f = va_up f k (f k) := by
  funext j
  unfold va_up
  by_cases h : j = k
  · rw [if_pos h, h]
  · rw [if_neg h]
theorem zp_tw_tk (wf vf : Nat → Nat) (t : Nat) : ∀ (k i : Nat) (tk ev : Nat → Nat), (∀ j, tk j ≤ 1) → ∀ j, (zp_tw wf vf t k i tk ev).2.1 j ≤ 1 := by
  intro k
  induction k with
  | zero => intro i tk ev h j; exact h j
  | succ k ih =>
    intro i tk ev h j
    by_cases h1 : wf i = t ∧ tk i = 0
    · by_cases h2 : ev (vf i) = 0
      · rw [zp_tw_stop h1 h2]; exact h j
      · rw [zp_tw_take h1 h2]
        exact ih _ _ _ (fun x => by have := h x; unfold va_up; split <;> omega) j
    · rw [zp_tw_no h1]; exact ih _ _ _ h j
theorem zp_tw_ev (wf vf : Nat → Nat) (t : Nat) : ∀ (k i : Nat) (tk ev : Nat → Nat), ∀ j, (zp_tw wf vf t k i tk ev).2.2 j ≤ ev j := by
  intro k
  induction k with
  | zero => intro i tk ev j; exact Nat.le_refl _
  | succ k ih =>
    intro i tk ev j
    by_cases h1 : wf i = t ∧ tk i = 0
    · by_cases h2 : ev (vf i) = 0
      · rw [zp_tw_stop h1 h2]; exact Nat.le_refl _
      · rw [zp_tw_take h1 h2]
        refine Nat.le_trans (ih _ _ _ j) ?_
        unfold va_up
        by_cases e : j = vf i
        · rw [if_pos e, e]; omega
        · rw [if_neg e]; exact Nat.le_refl _
    · rw [zp_tw_no h1]; exact ih _ _ _ j
theorem zr_ok.tw {sc : Nat → Nat} {ar : Nat → Nat → Nat} (h : zr_ok sc ar) (t : Nat) (ev : Nat → Nat) : zr_ok sc (va_up ar 2 (zp_tw (ar 0) (ar 1) t (sc 8) 0 (ar 2) ev).2.1) :=
  ⟨h.1, h.2.1, h.2.2.1, fun j => zp_tw_tk _ _ _ _ _ _ _ h.2.2.2.1 j, h.2.2.2.2⟩
/-- a turn: what came of it (0 passed over, 1 a step, 2 an end), the region then, the postings then -/
def zp_turn (sc : Nat → Nat) (ar : Nat → Nat → Nat) (ev : Nat → Nat) : Nat × (Nat → Nat) × (Nat → Nat → Nat) × (Nat → Nat) :=
  if sc 2 = 0 then
    (if sc 7 = 1 ∧ ¬ ar 3 (sc 3) = 1 then (2, zp_back sc 3, ar, ev)
    else if (zp_tw (ar 0) (ar 1) (sc 3 + 1) (sc 8) 0 (ar 2) ev).1 = true then
      (if sc 3 + 1 = sc 1 then (2, zp_back sc 2, va_up ar 2 (zp_tw (ar 0) (ar 1) (sc 3 + 1) (sc 8) 0 (ar 2) ev).2.1, (zp_tw (ar 0) (ar 1) (sc 3 + 1) (sc 8) 0 (ar 2) ev).2.2)
      else (1, zp_step sc (va_up ar 2 (zp_tw (ar 0) (ar 1) (sc 3 + 1) (sc 8) 0 (ar 2) ev).2.1) (sc 3 + 1), va_up ar 2 (zp_tw (ar 0) (ar 1) (sc 3 + 1) (sc 8) 0 (ar 2) ev).2.1, (zp_tw (ar 0) (ar 1) (sc 3 + 1) (sc 8) 0 (ar 2) ev).2.2))
    else (0, sc, va_up ar 2 (zp_tw (ar 0) (ar 1) (sc 3 + 1) (sc 8) 0 (ar 2) ev).2.1, (zp_tw (ar 0) (ar 1) (sc 3 + 1) (sc 8) 0 (ar 2) ev).2.2))
  else (0, sc, ar, ev)
section ZTU
variable {sc : Nat → Nat} {ar : Nat → Nat → Nat} {ev : Nat → Nat}
theorem zp_turn_off (h : ¬ sc 2 = 0) : zp_turn sc ar ev = (0, sc, ar, ev) := by
  unfold zp_turn; rw [if_neg h]
theorem zp_turn_cancel (h : sc 2 = 0) (h1 : sc 7 = 1) (h2 : ¬ ar 3 (sc 3) = 1) : zp_turn sc ar ev = (2, zp_back sc 3, ar, ev) := by
  unfold zp_turn; rw [if_pos h, if_pos ⟨h1, h2⟩]
theorem zp_turn_wait (h : sc 2 = 0) (h1 : ¬ (sc 7 = 1 ∧ ¬ ar 3 (sc 3) = 1)) (h2 : ¬ (zp_tw (ar 0) (ar 1) (sc 3 + 1) (sc 8) 0 (ar 2) ev).1 = true) : zp_turn sc ar ev = (0, sc, va_up ar 2 (zp_tw (ar 0) (ar 1) (sc 3 + 1) (sc 8) 0 (ar 2) ev).2.1, (zp_tw (ar 0) (ar 1) (sc 3 + 1) (sc 8) 0 (ar 2) ev).2.2) := by
  unfold zp_turn; rw [if_pos h, if_neg h1, if_neg h2]
theorem zp_turn_fail (h : sc 2 = 0) (h1 : ¬ (sc 7 = 1 ∧ ¬ ar 3 (sc 3) = 1)) (h2 : (zp_tw (ar 0) (ar 1) (sc 3 + 1) (sc 8) 0 (ar 2) ev).1 = true) (h3 : sc 3 + 1 = sc 1) : zp_turn sc ar ev = (2, zp_back sc 2, va_up ar 2 (zp_tw (ar 0) (ar 1) (sc 3 + 1) (sc 8) 0 (ar 2) ev).2.1, (zp_tw (ar 0) (ar 1) (sc 3 + 1) (sc 8) 0 (ar 2) ev).2.2) := by
  unfold zp_turn; rw [if_pos h, if_neg h1, if_pos h2, if_pos h3]
theorem zp_turn_step (h : sc 2 = 0) (h1 : ¬ (sc 7 = 1 ∧ ¬ ar 3 (sc 3) = 1)) (h2 : (zp_tw (ar 0) (ar 1) (sc 3 + 1) (sc 8) 0 (ar 2) ev).1 = true) (h3 : ¬ sc 3 + 1 = sc 1) : zp_turn sc ar ev = (1, zp_step sc (va_up ar 2 (zp_tw (ar 0) (ar 1) (sc 3 + 1) (sc 8) 0 (ar 2) ev).2.1) (sc 3 + 1), va_up ar 2 (zp_tw (ar 0) (ar 1) (sc 3 + 1) (sc 8) 0 (ar 2) ev).2.1, (zp_tw (ar 0) (ar 1) (sc 3 + 1) (sc 8) 0 (ar 2) ev).2.2) := by
  unfold zp_turn; rw [if_pos h, if_neg h1, if_pos h2, if_neg h3]
end ZTU
theorem zo_at.len {g : zw_G} {ad : Nat → Nat} {E : Nat → va_E} {pr pn lim len cap : Nat} {f : Nat → Nat} (h : zo_at g ad E pr pn lim len cap f) (hne : pr ≠ pn) (len' : Nat) : zo_at g ad (va_up E pr (zo_o ad pn lim len')) pr pn lim len' cap f := ⟨va_up_self _ _ _, by rw [va_up_ne _ _ (fun e => hne e.symm)]; exact h.2⟩
theorem zo_at.num {g : zw_G} {ad : Nat → Nat} {E : Nat → va_E} {pr pn lim len cap : Nat} {f : Nat → Nat} (h : zo_at g ad E pr pn lim len cap f) (hne : pr ≠ pn) (f' : Nat → Nat) : zo_at g ad (va_up E pn (zr_ia g cap f')) pr pn lim len cap f' := ⟨by rw [va_up_ne _ _ hne]; exact h.1, va_up_self _ _ _⟩
/-- nothing but a row's two cells has changed -/
def zo_fr (E E1 : Nat → va_E) (pr pn : Nat) : Prop := ∀ k, k ≠ pr → k ≠ pn → E1 k = E k
theorem zo_fr.rf {E : Nat → va_E} {pr pn : Nat} : zo_fr E E pr pn := fun _ _ _ => rfl
theorem zo_fr.up {E E1 : Nat → va_E} {pr pn k : Nat} {x : va_E} (h : zo_fr E E1 pr pn) (h1 : k = pr ∨ k = pn) : zo_fr E (va_up E1 k x) pr pn := fun j hj hp => by
  rw [va_up_ne _ _ (by omega)]; exact h j hj hp
