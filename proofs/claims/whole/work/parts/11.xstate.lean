/-! The whole object. q: 0 regions, 1 turns passed over, 2 closed, 3 turns in the schedule, 4 the room of its row, 5 entries of the log, 6 the room of its row. rg: a region's numbers and arrays. Positions: 0 the object, 1 its array of regions, 2 3 the events, 4 5 the schedule, 6 7 the log; the i-th region at F + 5 i. -/
abbrev zt_R : Type := Nat → (Nat → Nat) × (Nat → Nat → Nat)
def zt_r (g : zw_G) (ad : Nat → Nat) (F n : Nat) : va_E := .inl (g.2 2, 30, .inr (.inr (.inr (.inr (fun i => if i < n then some (ad (F + 5 * i)) else none)))))
def zt_at (g : zw_G) (ad : Nat → Nat) (E : Nat → va_E) (F : Nat) (q : Nat → Nat) (rg : zt_R) (ev sf lf : Nat → Nat) : Prop :=
  E 0 = zt_o ad q ∧ E 1 = zt_r g ad F (q 0) ∧ ze_at g ad E 2 3 ev ∧ zo_at g ad E 4 5 600 (q 3) (q 4) sf ∧ zo_at g ad E 6 7 3000 (q 5) (q 6) lf ∧ ∀ i, i < q 0 → zr_at g ad E (F + 5 * i) (rg i).1 (rg i).2
def zt_ok (q : Nat → Nat) (rg : zt_R) (ev sf : Nat → Nat) : Prop :=
  (q 0 ≤ 30 ∧ q 2 ≤ 1 ∧ q 3 ≤ 600 ∧ q 3 ≤ q 4 ∧ 16 ≤ q 4 ∧ q 4 ≤ 1200 ∧ q 5 ≤ 3000 ∧ q 5 ≤ q 6 ∧ 16 ≤ q 6 ∧ q 6 ≤ 6000) ∧ (∀ i, i < q 0 → zr_ok (rg i).1 (rg i).2) ∧ (∀ j, ev j < 1000000) ∧ ∀ j, j < q 3 → 1 ≤ sf j ∧ sf j ≤ q 0
/-- the class's own positions -/
def zt_own (F N k : Nat) : Prop := k < 8 ∨ (F ≤ k ∧ k < N)
theorem zr_at.ad {g : zw_G} {ad ad' : Nat → Nat} {E : Nat → va_E} {b : Nat} {sc : Nat → Nat} {ar : Nat → Nat → Nat} (h : zr_at g ad E b sc ar) (hk : ∀ k, b ≤ k → k < b + 5 → ad' k = ad k) : zr_at g ad' E b sc ar := by
  obtain ⟨h0, h1⟩ := h
  refine ⟨?_, h1⟩
  rw [h0]
  unfold zr_o
  rw [hk (b + 1) (by omega) (by omega), hk (b + 2) (by omega) (by omega), hk (b + 3) (by omega) (by omega), hk (b + 4) (by omega) (by omega)]
/-- the i-th region and the postings become others -/
theorem zt_at.reg {g : zw_G} {ad : Nat → Nat} {E E1 : Nat → va_E} {F i : Nat} {q : Nat → Nat} {rg : zt_R} {ev sf lf : Nat → Nat} {r : (Nat → Nat) × (Nat → Nat → Nat)} {ev1 : Nat → Nat} (h : zt_at g ad E F q rg ev sf lf) (hF : 8 ≤ F) (hi : i < q 0) (hR : zr_at g ad E1 (F + 5 * i) r.1 r.2) (hV : ze_at g ad E1 2 3 ev1) (hf : zr_f3 E E1 (F + 5 * i) 3) : zt_at g ad E1 F q (va_up rg i r) ev1 sf lf := by
  obtain ⟨h0, h1, h2, h3, h4, h5⟩ := h
  have f : ∀ k, k < 8 → k ≠ 3 → E1 k = E k := fun k hk h3 => hf k (Or.inl (by omega)) h3
  refine ⟨by rw [f 0 (by omega) (by omega)]; exact h0, by rw [f 1 (by omega) (by omega)]; exact h1, hV, ⟨by rw [f 4 (by omega) (by omega)]; exact h3.1, by rw [f 5 (by omega) (by omega)]; exact h3.2⟩, ⟨by rw [f 6 (by omega) (by omega)]; exact h4.1, by rw [f 7 (by omega) (by omega)]; exact h4.2⟩, fun j hj => ?_⟩
  by_cases e : j = i
  · subst e
    rw [va_up_self]
    exact hR
  · rw [va_up_ne _ _ e]
    exact (h5 j hj).keep (fun k a b => hf k (by omega) (by omega))
theorem zt_at.reg0 {g : zw_G} {ad : Nat → Nat} {E E1 : Nat → va_E} {F i : Nat} {q : Nat → Nat} {rg : zt_R} {ev sf lf : Nat → Nat} {r : (Nat → Nat) × (Nat → Nat → Nat)} (h : zt_at g ad E F q rg ev sf lf) (hF : 8 ≤ F) (hi : i < q 0) (hR : zr_at g ad E1 (F + 5 * i) r.1 r.2) (hf : zr_fr E E1 (F + 5 * i)) : zt_at g ad E1 F q (va_up rg i r) ev sf lf :=
  h.reg hF hi hR (h.2.2.1.keep (hf 2 (by omega)) (hf 3 (by omega))) (fun k a _ => hf k a)
def zp_cnt (p : Nat → Bool) : Nat → Nat
  | 0 => 0
  | n + 1 => zp_cnt p n + (if p n = true then 1 else 0)
theorem zp_cnt_le (p : Nat → Bool) : ∀ n, zp_cnt p n ≤ n := by
  intro n
  induction n with
  | zero => exact Nat.le_refl _
  | succ n ih =>
    show zp_cnt p n + _ ≤ n + 1
    split <;> omega
theorem zp_cnt_y {p : Nat → Bool} {i : Nat} (h : p i = true) : zp_cnt p (i + 1) = zp_cnt p i + 1 := by
  show zp_cnt p i + _ = _
  rw [if_pos h]
theorem zp_cnt_n {p : Nat → Bool} {i : Nat} (h : ¬ p i = true) : zp_cnt p (i + 1) = zp_cnt p i := by
  show zp_cnt p i + _ = _
  rw [if_neg h]; rfl
/-- each of the first i regions becomes what f says -/
def zp_map (f : (Nat → Nat) × (Nat → Nat → Nat) → (Nat → Nat) × (Nat → Nat → Nat)) (rg : zt_R) (i : Nat) : zt_R := fun j => if j < i then f (rg j) else rg j
theorem zp_map_0 (f : (Nat → Nat) × (Nat → Nat → Nat) → (Nat → Nat) × (Nat → Nat → Nat)) (rg : zt_R) : zp_map f rg 0 = rg := by
  funext j; unfold zp_map; rw [if_neg (Nat.not_lt_zero _)]
theorem zp_map_at (f : (Nat → Nat) × (Nat → Nat → Nat) → (Nat → Nat) × (Nat → Nat → Nat)) (rg : zt_R) (i : Nat) : zp_map f rg i i = rg i := by
  unfold zp_map; rw [if_neg (Nat.lt_irrefl _)]
theorem zp_map_s (f : (Nat → Nat) × (Nat → Nat → Nat) → (Nat → Nat) × (Nat → Nat → Nat)) (rg : zt_R) (i : Nat) : zp_map f rg (i + 1) = va_up (zp_map f rg i) i (f (rg i)) := by
  funext j
  unfold zp_map va_up
  by_cases h : j = i
  · subst h; rw [if_pos (by omega), if_pos rfl]
  · rw [if_neg h]
    by_cases h2 : j < i
    · rw [if_pos (by omega)]; exact (if_pos h2).symm
    · rw [if_neg (by omega)]; exact (if_neg h2).symm
theorem zp_map_same {f : (Nat → Nat) × (Nat → Nat → Nat) → (Nat → Nat) × (Nat → Nat → Nat)} {rg : zt_R} {i : Nat} (h : f (rg i) = rg i) : zp_map f rg (i + 1) = zp_map f rg i := by
  rw [zp_map_s, h]
  funext j
  unfold va_up
  by_cases e : j = i
  · subst e; rw [if_pos rfl, zp_map_at]
  · rw [if_neg e]
/-- left, if it goes on -/
def zp_left (r : (Nat → Nat) × (Nat → Nat → Nat)) : (Nat → Nat) × (Nat → Nat → Nat) := if r.1 2 = 0 then (va_up r.1 2 4, r.2) else r
/-- cancelled, if it goes on and may -/
def zp_canc (r : (Nat → Nat) × (Nat → Nat → Nat)) : (Nat → Nat) × (Nat → Nat → Nat) := if r.1 2 = 0 ∧ ¬ r.2 3 (r.1 3) = 1 then (zp_back r.1 3, r.2) else r
theorem zr_ok.left {r : (Nat → Nat) × (Nat → Nat → Nat)} (h : zr_ok r.1 r.2) : zr_ok (zp_left r).1 (zp_left r).2 := by
  unfold zp_left
  split
  · obtain ⟨⟨h0, h1, h2, h3, h4, h5, h7, h8, h6⟩, h9⟩ := h
    exact ⟨⟨h0, h1, by show 4 ≤ 4; omega, h3, h4, h5, h7, h8, fun z => absurd (show (4 : Nat) = 0 from z) (by decide)⟩, h9⟩
  · exact h
theorem zr_ok.back {sc : Nat → Nat} {ar : Nat → Nat → Nat} (h : zr_ok sc ar) {k : Nat} (h1 : k ≤ 4) (h2 : k ≠ 0) : zr_ok (zp_back sc k) ar := by
  obtain ⟨⟨h0, h1, h2, h3, h4, h5, h7, h8, h6⟩, h9⟩ := h
  exact ⟨⟨h0, h1, by show k ≤ 4; omega, h3, h4, by show sc 3 - sc 4 ≤ 100; omega, h7, h8, fun z => absurd (show k = 0 from z) (by omega)⟩, h9⟩
theorem zr_ok.canc {r : (Nat → Nat) × (Nat → Nat → Nat)} (h : zr_ok r.1 r.2) : zr_ok (zp_canc r).1 (zp_canc r).2 := by
  unfold zp_canc
  split
  · exact zr_ok.back h (by decide) (by decide)
  · exact h
theorem zt_ok.map {f : (Nat → Nat) × (Nat → Nat → Nat) → (Nat → Nat) × (Nat → Nat → Nat)} {q : Nat → Nat} {rg : zt_R} {ev sf : Nat → Nat} (h : zt_ok q rg ev sf) (hf : ∀ r : (Nat → Nat) × (Nat → Nat → Nat), zr_ok r.1 r.2 → zr_ok (f r).1 (f r).2) (i : Nat) : zt_ok q (zp_map f rg i) ev sf :=
  ⟨h.1, fun j hj => by
    unfold zp_map
    by_cases e : j < i
    · rw [if_pos e]; exact hf _ (h.2.1 j hj)
    · rw [if_neg e]; exact h.2.1 j hj, h.2.2⟩
/-- the cells between 8 and F are not the class's own -/
def zt_fr (E E1 : Nat → va_E) (F : Nat) : Prop := ∀ k, 8 ≤ k → k < F → E1 k = E k
theorem zt_fr.rf {E : Nat → va_E} {F : Nat} : zt_fr E E F := fun _ _ _ => rfl
theorem zt_fr.tr {E E1 E2 : Nat → va_E} {F : Nat} (h : zt_fr E E1 F) (h2 : zt_fr E1 E2 F) : zt_fr E E2 F := fun k a b => (h2 k a b).trans (h k a b)
theorem zr_fr.t {E E1 : Nat → va_E} {F i : Nat} (h : zr_fr E E1 (F + 5 * i)) : zt_fr E E1 F := fun k _ b => h k (Or.inl (by omega))
theorem zr_f3.t {E E1 : Nat → va_E} {F i : Nat} (h : zr_f3 E E1 (F + 5 * i) 3) : zt_fr E E1 F := fun k a b => h k (Or.inl (by omega)) (by omega)
/-! The moving part: numbers q, regions, postings, the log's row -/
abbrev zp_T : Type := (Nat → Nat) × zt_R × (Nat → Nat) × (Nat → Nat)
/-- an entry behind the log's last -/
def zp_log (q lf : Nat → Nat) (v : Nat) : (Nat → Nat) × (Nat → Nat) :=
  if 3000 ≤ q 5 then (q, lf) else if q 6 ≤ q 5 then (va_up (va_up q 6 (2 * q 6)) 5 (q 5 + 1), va_up (fun j => if j < q 6 then lf j else 0) (q 5) v) else (va_up q 5 (q 5 + 1), va_up lf (q 5) v)
/-- the turn of the i-th region -/
def zp_give (T : zp_T) (i : Nat) : Nat × zp_T :=
  if (zp_turn (T.2.1 i).1 (T.2.1 i).2 T.2.2.1).1 = 1 then
    (1, (zp_log T.1 T.2.2.2 (1000 * (i + 1) + (zp_turn (T.2.1 i).1 (T.2.1 i).2 T.2.2.1).2.1 3)).1, va_up T.2.1 i ((zp_turn (T.2.1 i).1 (T.2.1 i).2 T.2.2.1).2.1, (zp_turn (T.2.1 i).1 (T.2.1 i).2 T.2.2.1).2.2.1), (zp_turn (T.2.1 i).1 (T.2.1 i).2 T.2.2.1).2.2.2, (zp_log T.1 T.2.2.2 (1000 * (i + 1) + (zp_turn (T.2.1 i).1 (T.2.1 i).2 T.2.2.1).2.1 3)).2)
  else ((zp_turn (T.2.1 i).1 (T.2.1 i).2 T.2.2.1).1, T.1, va_up T.2.1 i ((zp_turn (T.2.1 i).1 (T.2.1 i).2 T.2.2.1).2.1, (zp_turn (T.2.1 i).1 (T.2.1 i).2 T.2.2.1).2.2.1), (zp_turn (T.2.1 i).1 (T.2.1 i).2 T.2.2.1).2.2.2, T.2.2.2)
/-- n turns of the schedule, from the k-th on; c steps were done before -/
def zp_runs (sf : Nat → Nat) : Nat → Nat → zp_T → Nat → zp_T × Nat
  | 0, _, T, c => (T, c)
  | n + 1, k, T, c =>
    if (zp_give T (sf k - 1)).1 = 1 then zp_runs sf n (k + 1) (zp_give T (sf k - 1)).2 (c + 1)
    else if (zp_give T (sf k - 1)).1 = 0 then zp_runs sf n (k + 1) (va_up (zp_give T (sf k - 1)).2.1 1 ((zp_give T (sf k - 1)).2.1 1 + 1), (zp_give T (sf k - 1)).2.2) c
    else zp_runs sf n (k + 1) (zp_give T (sf k - 1)).2 c
/-- turns to n regions, from the i-th on; whether one did something -/
def zp_rnd : Nat → Nat → zp_T → Nat → zp_T × Nat
  | 0, _, T, b => (T, b)
  | n + 1, i, T, b => zp_rnd n (i + 1) (zp_give T i).2 (if (zp_give T i).1 = 0 then b else 1)
/-- rounds, n at most, till one does nothing -/
def zp_rnds (m : Nat) : Nat → zp_T → zp_T
  | 0, T => T
  | n + 1, T => if (zp_rnd m 0 T 0).2 = 0 then (zp_rnd m 0 T 0).1 else zp_rnds m n (zp_rnd m 0 T 0).1
theorem zp_give_no {q : Nat → Nat} {rg : zt_R} {ev lf : Nat → Nat} {i : Nat} {r : Nat × (Nat → Nat) × (Nat → Nat → Nat) × (Nat → Nat)} (hr : zp_turn (rg i).1 (rg i).2 ev = r) (h : ¬ r.1 = 1) : zp_give (q, rg, ev, lf) i = (r.1, q, va_up rg i (r.2.1, r.2.2.1), r.2.2.2, lf) := by
  subst hr
  unfold zp_give
  rw [if_neg h]
theorem zp_give_yes {q : Nat → Nat} {rg : zt_R} {ev lf : Nat → Nat} {i : Nat} {r : Nat × (Nat → Nat) × (Nat → Nat → Nat) × (Nat → Nat)} (hr : zp_turn (rg i).1 (rg i).2 ev = r) (h : r.1 = 1) : zp_give (q, rg, ev, lf) i = (1, (zp_log q lf (1000 * (i + 1) + r.2.1 3)).1, va_up rg i (r.2.1, r.2.2.1), r.2.2.2, (zp_log q lf (1000 * (i + 1) + r.2.1 3)).2) := by
  subst hr
  unfold zp_give
  rw [if_pos h]
theorem zp_log_full {q lf : Nat → Nat} {v : Nat} (h : 3000 ≤ q 5) : zp_log q lf v = (q, lf) := by
  unfold zp_log; rw [if_pos h]
theorem zp_log_grow {q lf : Nat → Nat} {v : Nat} (h : ¬ 3000 ≤ q 5) (h2 : q 6 ≤ q 5) : zp_log q lf v = (va_up (va_up q 6 (2 * q 6)) 5 (q 5 + 1), va_up (fun j => if j < q 6 then lf j else 0) (q 5) v) := by
  unfold zp_log; rw [if_neg h, if_pos h2]
theorem zp_log_room {q lf : Nat → Nat} {v : Nat} (h : ¬ 3000 ≤ q 5) (h2 : ¬ q 6 ≤ q 5) : zp_log q lf v = (va_up q 5 (q 5 + 1), va_up lf (q 5) v) := by
  unfold zp_log; rw [if_neg h, if_neg h2]
/-- one of the two rows becomes another; the other cells stay, and so do their addresses -/
theorem zt_r_ad {g : zw_G} {ad ad1 : Nat → Nat} {F n : Nat} (h : ∀ k, F ≤ k → k < F + 5 * n → ad1 k = ad k) : zt_r g ad1 F n = zt_r g ad F n := by
  unfold zt_r
  have e : (fun i => if i < n then some (ad1 (F + 5 * i)) else none) = (fun i => if i < n then some (ad (F + 5 * i)) else none) := by
    funext i
    by_cases hi : i < n
    · rw [if_pos hi, if_pos hi, h _ (by omega) (by omega)]
    · rw [if_neg hi, if_neg hi]
  rw [e]
theorem zt_at.log {g : zw_G} {ad ad1 : Nat → Nat} {E E1 : Nat → va_E} {F N : Nat} {q q1 : Nat → Nat} {rg : zt_R} {ev sf lf lf1 : Nat → Nat} (h : zt_at g ad E F q rg ev sf lf) (hF : 8 ≤ F) (hN : N = F + 5 * q 0) (hO : zo_at g ad1 E1 6 7 3000 (q1 5) (q1 6) lf1) (ha : ∀ k, k ≠ 7 → k < N → ad1 k = ad k) (he : ∀ k, k < N → k ≠ 6 → k ≠ 7 → E1 k = E k) (q0 : q1 0 = q 0) (qa : q1 1 = q 1) (qb : q1 2 = q 2) (qc : q1 3 = q 3) (qd : q1 4 = q 4) : zt_at g ad1 E1 F q1 rg ev sf lf1 := by
  obtain ⟨h0, h1, h2, h3, h4, h5⟩ := h
  refine ⟨?_, ?_, ⟨?_, ?_⟩, ⟨?_, ?_⟩, hO, fun i hi => ?_⟩
  · rw [he 0 (by omega) (by omega) (by omega), h0]
    unfold zt_o
    rw [ha 1 (by omega) (by omega), ha 2 (by omega) (by omega), ha 4 (by omega) (by omega), ha 6 (by omega) (by omega), q0, qa, qb]
  · rw [he 1 (by omega) (by omega) (by omega), h1, q0]
    exact (zt_r_ad (fun k a b => ha k (by omega) (by omega))).symm
  · rw [he 2 (by omega) (by omega) (by omega), h2.1]
    unfold ze_o
    rw [ha 3 (by omega) (by omega)]
  · rw [he 3 (by omega) (by omega) (by omega)]; exact h2.2
  · rw [he 4 (by omega) (by omega) (by omega), h3.1]
    unfold zo_o
    rw [ha 5 (by omega) (by omega), qc]
  · rw [he 5 (by omega) (by omega) (by omega), qd]; exact h3.2
  · rw [q0] at hi
    exact ((h5 i hi).keep (fun k a b => he k (by omega) (by omega) (by omega))).ad (fun k a b => ha k (by omega) (by omega))
theorem zt_at.sch {g : zw_G} {ad ad1 : Nat → Nat} {E E1 : Nat → va_E} {F N : Nat} {q q1 : Nat → Nat} {rg : zt_R} {ev sf lf sf1 : Nat → Nat} (h : zt_at g ad E F q rg ev sf lf) (hF : 8 ≤ F) (hN : N = F + 5 * q 0) (hO : zo_at g ad1 E1 4 5 600 (q1 3) (q1 4) sf1) (ha : ∀ k, k ≠ 5 → k < N → ad1 k = ad k) (he : ∀ k, k < N → k ≠ 4 → k ≠ 5 → E1 k = E k) (q0 : q1 0 = q 0) (qa : q1 1 = q 1) (qb : q1 2 = q 2) (qc : q1 5 = q 5) (qd : q1 6 = q 6) : zt_at g ad1 E1 F q1 rg ev sf1 lf := by
  obtain ⟨h0, h1, h2, h3, h4, h5⟩ := h
  refine ⟨?_, ?_, ⟨?_, ?_⟩, hO, ⟨?_, ?_⟩, fun i hi => ?_⟩
  · rw [he 0 (by omega) (by omega) (by omega), h0]
    unfold zt_o
    rw [ha 1 (by omega) (by omega), ha 2 (by omega) (by omega), ha 4 (by omega) (by omega), ha 6 (by omega) (by omega), q0, qa, qb]
  · rw [he 1 (by omega) (by omega) (by omega), h1, q0]
    exact (zt_r_ad (fun k a b => ha k (by omega) (by omega))).symm
  · rw [he 2 (by omega) (by omega) (by omega), h2.1]
    unfold ze_o
    rw [ha 3 (by omega) (by omega)]
  · rw [he 3 (by omega) (by omega) (by omega)]; exact h2.2
  · rw [he 6 (by omega) (by omega) (by omega), h4.1]
    unfold zo_o
    rw [ha 7 (by omega) (by omega), qc]
  · rw [he 7 (by omega) (by omega) (by omega), qd]; exact h4.2
  · rw [q0] at hi
    exact ((h5 i hi).keep (fun k a b => he k (by omega) (by omega) (by omega))).ad (fun k a b => ha k (by omega) (by omega))
/-- a number of the object itself becomes another (not one of its rows') -/
theorem zt_at.num {g : zw_G} {ad : Nat → Nat} {E : Nat → va_E} {F : Nat} {q q1 : Nat → Nat} {rg : zt_R} {ev sf lf : Nat → Nat} (h : zt_at g ad E F q rg ev sf lf) (hF : 8 ≤ F) (q0 : q1 0 = q 0) (qa : q1 3 = q 3) (qb : q1 4 = q 4) (qc : q1 5 = q 5) (qd : q1 6 = q 6) : zt_at g ad (va_up E 0 (zt_o ad q1)) F q1 rg ev sf lf := by
  obtain ⟨h0, h1, h2, h3, h4, h5⟩ := h
  have f : ∀ k, k ≠ 0 → va_up E 0 (zt_o ad q1) k = E k := fun k hk => va_up_ne _ _ hk
  refine ⟨va_up_self _ _ _, ?_, ⟨?_, ?_⟩, ⟨?_, ?_⟩, ⟨?_, ?_⟩, fun i hi => ?_⟩
  · rw [f 1 (by omega), q0]; exact h1
  · rw [f 2 (by omega)]; exact h2.1
  · rw [f 3 (by omega)]; exact h2.2
  · rw [f 4 (by omega), qa]; exact h3.1
  · rw [f 5 (by omega), qb]; exact h3.2
  · rw [f 6 (by omega), qc]; exact h4.1
  · rw [f 7 (by omega), qd]; exact h4.2
  · rw [q0] at hi
    exact (h5 i hi).keep (fun k a b => f k (by omega))
theorem zp_turn_le (sc : Nat → Nat) (ar : Nat → Nat → Nat) (ev : Nat → Nat) : (zp_turn sc ar ev).1 ≤ 2 := by
  unfold zp_turn
  split
  · split
    · exact Nat.le_refl _
    · split
      · split
        · exact Nat.le_refl _
        · show 1 ≤ 2; omega
      · show 0 ≤ 2; omega
  · show 0 ≤ 2; omega
theorem zr_ok.s2 {sc : Nat → Nat} {ar : Nat → Nat → Nat} (h : zr_ok sc ar) {t : Nat} (h2 : t ≤ sc 0) (h3 : sc 3 ≤ t) : (zp_s2 sc ar t 0 = sc 0 ∧ zp_s2 sc ar t 1 = sc 1 ∧ zp_s2 sc ar t 2 = sc 2 ∧ zp_s2 sc ar t 3 = t ∧ zp_s2 sc ar t 4 ≤ t ∧ zp_s2 sc ar t 5 = sc 5) ∧ zp_s2 sc ar t 6 = sc 6 ∧ zp_s2 sc ar t 7 = sc 7 ∧ zp_s2 sc ar t 8 = sc 8 := by
  obtain ⟨⟨k0, k1, k2, k3, k4, k5, k7, k8, k6⟩, -⟩ := h
  unfold zp_s2
  split
  · exact ⟨⟨rfl, rfl, rfl, rfl, Nat.le_refl _, rfl⟩, rfl, rfl, rfl⟩
  · exact ⟨⟨rfl, rfl, rfl, rfl, by show sc 4 ≤ t; omega, rfl⟩, rfl, rfl, rfl⟩
theorem zr_ok.step {sc : Nat → Nat} {ar : Nat → Nat → Nat} (h : zr_ok sc ar) {t : Nat} (h2 : t ≤ sc 0) (h3 : sc 3 ≤ t) : zr_ok (zp_step sc ar t) ar := by
  obtain ⟨⟨a0, a1, a2, a3, a4, a5⟩, a6, a7, a8⟩ := h.s2 (ar := ar) h2 h3
  obtain ⟨⟨k0, k1, k2, k3, k4, k5, k7, k8, k6⟩, h9⟩ := h
  unfold zp_step
  split
  · refine ⟨⟨?_, ?_, ?_, ?_, ?_, ?_, ?_, ?_, fun z => absurd (show (1 : Nat) = 0 from z) (by decide)⟩, h9⟩
    · show zp_s2 sc ar t 0 ≤ 100; omega
    · show zp_s2 sc ar t 1 ≤ 100; omega
    · show 1 ≤ 4; omega
    · show zp_s2 sc ar t 3 ≤ zp_s2 sc ar t 0; omega
    · show zp_s2 sc ar t 4 ≤ zp_s2 sc ar t 3; omega
    · show zp_s2 sc ar t 5 ≤ 100; omega
    · show zp_s2 sc ar t 7 ≤ 1; omega
    · show zp_s2 sc ar t 8 ≤ 20; omega
  · rename_i hn
    exact ⟨⟨by omega, by omega, by omega, by omega, by omega, by omega, by omega, by omega, fun z => by omega⟩, h9⟩
theorem zr_ok.turn {sc : Nat → Nat} {ar : Nat → Nat → Nat} (h : zr_ok sc ar) (ev : Nat → Nat) : zr_ok (zp_turn sc ar ev).2.1 (zp_turn sc ar ev).2.2.1 := by
  have h6 := h.1.2.2.2.2.2.2.2.2
  by_cases d0 : sc 2 = 0
  · by_cases d1 : sc 7 = 1 ∧ ¬ ar 3 (sc 3) = 1
    · rw [zp_turn_cancel d0 d1.1 d1.2]; exact h.back (by decide) (by decide)
    · by_cases d2 : (zp_tw (ar 0) (ar 1) (sc 3 + 1) (sc 8) 0 (ar 2) ev).1 = true
      · by_cases d3 : sc 3 + 1 = sc 1
        · rw [zp_turn_fail d0 d1 d2 d3]; exact (h.tw (sc 3 + 1) ev).back (by decide) (by decide)
        · rw [zp_turn_step d0 d1 d2 d3]; exact (h.tw (sc 3 + 1) ev).step (h6 d0) (by omega)
      · rw [zp_turn_wait d0 d1 d2]; exact h.tw (sc 3 + 1) ev
  · rw [zp_turn_off d0]; exact h
theorem zp_turn_ev (sc : Nat → Nat) (ar : Nat → Nat → Nat) (ev : Nat → Nat) (j : Nat) : (zp_turn sc ar ev).2.2.2 j ≤ ev j := by
  by_cases d0 : sc 2 = 0
  · by_cases d1 : sc 7 = 1 ∧ ¬ ar 3 (sc 3) = 1
    · rw [zp_turn_cancel d0 d1.1 d1.2]; exact Nat.le_refl _
    · by_cases d2 : (zp_tw (ar 0) (ar 1) (sc 3 + 1) (sc 8) 0 (ar 2) ev).1 = true
      · by_cases d3 : sc 3 + 1 = sc 1
        · rw [zp_turn_fail d0 d1 d2 d3]; exact zp_tw_ev _ _ _ _ _ _ _ _
        · rw [zp_turn_step d0 d1 d2 d3]; exact zp_tw_ev _ _ _ _ _ _ _ _
      · rw [zp_turn_wait d0 d1 d2]; exact zp_tw_ev _ _ _ _ _ _ _ _
  · rw [zp_turn_off d0]; exact Nat.le_refl _
