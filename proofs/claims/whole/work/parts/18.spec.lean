/-! What the calls do, in numbers: the answer, and what becomes of the state -/
def zs_waits (q : Nat → Nat) (rg : zt_R) (x y z : Int32) : Int32 × zt_R :=
  if 1 ≤ x.toInt ∧ x.toInt ≤ (q 0 : Int) then
    (if 1 ≤ y.toInt ∧ y.toInt ≤ ((rg (x.toInt.toNat - 1)).1 0 : Int) ∧ 0 ≤ z.toInt ∧ z.toInt < 16 then
      (if (rg (x.toInt.toNat - 1)).1 2 = 0 ∧ ((rg (x.toInt.toNat - 1)).1 3 : Int) < y.toInt then
        (if 20 ≤ (rg (x.toInt.toNat - 1)).1 8 then (-1, rg)
        else (nI ((rg (x.toInt.toNat - 1)).1 8 + 1), va_up rg (x.toInt.toNat - 1) (va_up (rg (x.toInt.toNat - 1)).1 8 ((rg (x.toInt.toNat - 1)).1 8 + 1), va_up (va_up (rg (x.toInt.toNat - 1)).2 0 (va_up ((rg (x.toInt.toNat - 1)).2 0) ((rg (x.toInt.toNat - 1)).1 8) y.toInt.toNat)) 1 (va_up ((rg (x.toInt.toNat - 1)).2 1) ((rg (x.toInt.toNat - 1)).1 8) z.toInt.toNat))))
      else (-5, rg))
    else (-4, rg))
  else (-2, rg)
section ZSW
variable {q : Nat → Nat} {rg : zt_R} {x y z : Int32} {i : Nat}
theorem zs_waits_no (h : ¬ (1 ≤ x.toInt ∧ x.toInt ≤ (q 0 : Int))) : zs_waits q rg x y z = (-2, rg) := by
  unfold zs_waits; rw [if_neg h]
theorem zs_waits_bad (h : 1 ≤ x.toInt ∧ x.toInt ≤ (q 0 : Int)) (hi : i = x.toInt.toNat - 1) (h1 : ¬ (1 ≤ y.toInt ∧ y.toInt ≤ ((rg i).1 0 : Int) ∧ 0 ≤ z.toInt ∧ z.toInt < 16)) : zs_waits q rg x y z = (-4, rg) := by
  subst hi; unfold zs_waits; rw [if_pos h, if_neg h1]
theorem zs_waits_late (h : 1 ≤ x.toInt ∧ x.toInt ≤ (q 0 : Int)) (hi : i = x.toInt.toNat - 1) (h1 : 1 ≤ y.toInt ∧ y.toInt ≤ ((rg i).1 0 : Int) ∧ 0 ≤ z.toInt ∧ z.toInt < 16) (h2 : ¬ ((rg i).1 2 = 0 ∧ ((rg i).1 3 : Int) < y.toInt)) : zs_waits q rg x y z = (-5, rg) := by
  subst hi; unfold zs_waits; rw [if_pos h, if_pos h1, if_neg h2]
theorem zs_waits_full (h : 1 ≤ x.toInt ∧ x.toInt ≤ (q 0 : Int)) (hi : i = x.toInt.toNat - 1) (h1 : 1 ≤ y.toInt ∧ y.toInt ≤ ((rg i).1 0 : Int) ∧ 0 ≤ z.toInt ∧ z.toInt < 16) (h2 : (rg i).1 2 = 0 ∧ ((rg i).1 3 : Int) < y.toInt) (h3 : 20 ≤ (rg i).1 8) : zs_waits q rg x y z = (-1, rg) := by
  subst hi; unfold zs_waits; rw [if_pos h, if_pos h1, if_pos h2, if_pos h3]
theorem zs_waits_ok (h : 1 ≤ x.toInt ∧ x.toInt ≤ (q 0 : Int)) (hi : i = x.toInt.toNat - 1) (h1 : 1 ≤ y.toInt ∧ y.toInt ≤ ((rg i).1 0 : Int) ∧ 0 ≤ z.toInt ∧ z.toInt < 16) (h2 : (rg i).1 2 = 0 ∧ ((rg i).1 3 : Int) < y.toInt) (h3 : ¬ 20 ≤ (rg i).1 8) : zs_waits q rg x y z = (nI ((rg i).1 8 + 1), va_up rg i (va_up (rg i).1 8 ((rg i).1 8 + 1), va_up (va_up (rg i).2 0 (va_up ((rg i).2 0) ((rg i).1 8) y.toInt.toNat)) 1 (va_up ((rg i).2 1) ((rg i).1 8) z.toInt.toNat))) := by
  subst hi; unfold zs_waits; rw [if_pos h, if_pos h1, if_pos h2, if_neg h3]
end ZSW
def zs_dec (q : Nat → Nat) (rg : zt_R) (x y : Int32) : Int32 × zt_R :=
  if 1 ≤ x.toInt ∧ x.toInt ≤ (q 0 : Int) then
    (if 1 ≤ y.toInt ∧ y.toInt < ((rg (x.toInt.toNat - 1)).1 0 : Int) then
      (if (rg (x.toInt.toNat - 1)).1 2 = 0 ∧ ((rg (x.toInt.toNat - 1)).1 3 : Int) < y.toInt then
        (if (rg (x.toInt.toNat - 1)).2 3 y.toInt.toNat = 0 ∧ (rg (x.toInt.toNat - 1)).2 3 (y.toInt.toNat + 1) = 0 then (nI 1, va_up rg (x.toInt.toNat - 1) ((rg (x.toInt.toNat - 1)).1, va_up (rg (x.toInt.toNat - 1)).2 3 (va_up (va_up ((rg (x.toInt.toNat - 1)).2 3) y.toInt.toNat 1) (y.toInt.toNat + 1) 2)))
        else (nI 0, rg))
      else (-5, rg))
    else (-4, rg))
  else (-2, rg)
section ZSD
variable {q : Nat → Nat} {rg : zt_R} {x y : Int32} {i : Nat}
theorem zs_dec_no (h : ¬ (1 ≤ x.toInt ∧ x.toInt ≤ (q 0 : Int))) : zs_dec q rg x y = (-2, rg) := by
  unfold zs_dec; rw [if_neg h]
theorem zs_dec_bad (h : 1 ≤ x.toInt ∧ x.toInt ≤ (q 0 : Int)) (hi : i = x.toInt.toNat - 1) (h1 : ¬ (1 ≤ y.toInt ∧ y.toInt < ((rg i).1 0 : Int))) : zs_dec q rg x y = (-4, rg) := by
  subst hi; unfold zs_dec; rw [if_pos h, if_neg h1]
theorem zs_dec_late (h : 1 ≤ x.toInt ∧ x.toInt ≤ (q 0 : Int)) (hi : i = x.toInt.toNat - 1) (h1 : 1 ≤ y.toInt ∧ y.toInt < ((rg i).1 0 : Int)) (h2 : ¬ ((rg i).1 2 = 0 ∧ ((rg i).1 3 : Int) < y.toInt)) : zs_dec q rg x y = (-5, rg) := by
  subst hi; unfold zs_dec; rw [if_pos h, if_pos h1, if_neg h2]
theorem zs_dec_was (h : 1 ≤ x.toInt ∧ x.toInt ≤ (q 0 : Int)) (hi : i = x.toInt.toNat - 1) (h1 : 1 ≤ y.toInt ∧ y.toInt < ((rg i).1 0 : Int)) (h2 : (rg i).1 2 = 0 ∧ ((rg i).1 3 : Int) < y.toInt) (h3 : ¬ ((rg i).2 3 y.toInt.toNat = 0 ∧ (rg i).2 3 (y.toInt.toNat + 1) = 0)) : zs_dec q rg x y = (nI 0, rg) := by
  subst hi; unfold zs_dec; rw [if_pos h, if_pos h1, if_pos h2, if_neg h3]
theorem zs_dec_ok (h : 1 ≤ x.toInt ∧ x.toInt ≤ (q 0 : Int)) (hi : i = x.toInt.toNat - 1) (h1 : 1 ≤ y.toInt ∧ y.toInt < ((rg i).1 0 : Int)) (h2 : (rg i).1 2 = 0 ∧ ((rg i).1 3 : Int) < y.toInt) (h3 : (rg i).2 3 y.toInt.toNat = 0 ∧ (rg i).2 3 (y.toInt.toNat + 1) = 0) : zs_dec q rg x y = (nI 1, va_up rg i ((rg i).1, va_up (rg i).2 3 (va_up (va_up ((rg i).2 3) y.toInt.toNat 1) (y.toInt.toNat + 1) 2))) := by
  subst hi; unfold zs_dec; rw [if_pos h, if_pos h1, if_pos h2, if_pos h3]
end ZSD
def zs_can (q : Nat → Nat) (rg : zt_R) (x : Int32) : Int32 × zt_R :=
  if (q 2 = 0 ∧ 1 ≤ x.toInt ∧ x.toInt ≤ (q 0 : Int)) ∧ (rg (x.toInt.toNat - 1)).1 2 = 0 ∧ (rg (x.toInt.toNat - 1)).1 7 = 0 then (nI 1, va_up rg (x.toInt.toNat - 1) (va_up (rg (x.toInt.toNat - 1)).1 7 1, (rg (x.toInt.toNat - 1)).2)) else (nI 0, rg)
section ZSC
variable {q : Nat → Nat} {rg : zt_R} {x : Int32} {i : Nat}
theorem zs_can_a (h : ¬ (q 2 = 0 ∧ 1 ≤ x.toInt ∧ x.toInt ≤ (q 0 : Int))) : zs_can q rg x = (nI 0, rg) := by
  unfold zs_can; rw [if_neg (fun z => h z.1)]
theorem zs_can_b (hi : i = x.toInt.toNat - 1) (h : ¬ ((rg i).1 2 = 0 ∧ (rg i).1 7 = 0)) : zs_can q rg x = (nI 0, rg) := by
  subst hi; unfold zs_can; rw [if_neg (fun z => h z.2)]
theorem zs_can_ok (hi : i = x.toInt.toNat - 1) (h : q 2 = 0 ∧ 1 ≤ x.toInt ∧ x.toInt ≤ (q 0 : Int)) (h2 : (rg i).1 2 = 0 ∧ (rg i).1 7 = 0) : zs_can q rg x = (nI 1, va_up rg i (va_up (rg i).1 7 1, (rg i).2)) := by
  subst hi; unfold zs_can; rw [if_pos ⟨h, h2⟩]
end ZSC
def zs_post (q ev : Nat → Nat) (x : Int32) : Int32 × (Nat → Nat) :=
  if 0 ≤ x.toInt ∧ x.toInt < 16 then (if q 2 = 0 then (nI (ev x.toInt.toNat + 1), va_up ev x.toInt.toNat (ev x.toInt.toNat + 1)) else (-5, ev)) else (-4, ev)
theorem zs_post_bad {q ev : Nat → Nat} {x : Int32} (h : ¬ (0 ≤ x.toInt ∧ x.toInt < 16)) : zs_post q ev x = (-4, ev) := by
  unfold zs_post; rw [if_neg h]
theorem zs_post_off {q ev : Nat → Nat} {x : Int32} (h : 0 ≤ x.toInt ∧ x.toInt < 16) (h2 : ¬ q 2 = 0) : zs_post q ev x = (-5, ev) := by
  unfold zs_post; rw [if_pos h, if_neg h2]
theorem zs_post_ok {q ev : Nat → Nat} {x : Int32} (h : 0 ≤ x.toInt ∧ x.toInt < 16) (h2 : q 2 = 0) : zs_post q ev x = (nI (ev x.toInt.toNat + 1), va_up ev x.toInt.toNat (ev x.toInt.toNat + 1)) := by
  unfold zs_post; rw [if_pos h, if_pos h2]
/-- a turn behind the schedule's last -/
def zp_sch (q sf : Nat → Nat) (v : Nat) : (Nat → Nat) × (Nat → Nat) :=
  if 600 ≤ q 3 then (q, sf) else if q 4 ≤ q 3 then (va_up (va_up q 4 (2 * q 4)) 3 (q 3 + 1), va_up (fun j => if j < q 4 then sf j else 0) (q 3) v) else (va_up q 3 (q 3 + 1), va_up sf (q 3) v)
theorem zp_sch_full {q sf : Nat → Nat} {v : Nat} (h : 600 ≤ q 3) : zp_sch q sf v = (q, sf) := by
  unfold zp_sch; rw [if_pos h]
theorem zp_sch_grow {q sf : Nat → Nat} {v : Nat} (h : ¬ 600 ≤ q 3) (h2 : q 4 ≤ q 3) : zp_sch q sf v = (va_up (va_up q 4 (2 * q 4)) 3 (q 3 + 1), va_up (fun j => if j < q 4 then sf j else 0) (q 3) v) := by
  unfold zp_sch; rw [if_neg h, if_pos h2]
theorem zp_sch_room {q sf : Nat → Nat} {v : Nat} (h : ¬ 600 ≤ q 3) (h2 : ¬ q 4 ≤ q 3) : zp_sch q sf v = (va_up q 3 (q 3 + 1), va_up sf (q 3) v) := by
  unfold zp_sch; rw [if_neg h, if_neg h2]
def zs_turn (q sf : Nat → Nat) (x : Int32) : (Nat → Nat) × (Nat → Nat) := if q 2 = 0 ∧ 1 ≤ x.toInt ∧ x.toInt ≤ (q 0 : Int) then zp_sch q sf x.toInt.toNat else (q, sf)
theorem zs_turn_no {q sf : Nat → Nat} {x : Int32} (h : ¬ (q 2 = 0 ∧ 1 ≤ x.toInt ∧ x.toInt ≤ (q 0 : Int))) : zs_turn q sf x = (q, sf) := by
  unfold zs_turn; rw [if_neg h]
theorem zs_turn_yes {q sf : Nat → Nat} {x : Int32} (h : q 2 = 0 ∧ 1 ≤ x.toInt ∧ x.toInt ≤ (q 0 : Int)) : zs_turn q sf x = zp_sch q sf x.toInt.toNat := by
  unfold zs_turn; rw [if_pos h]
def zp_goes (rg : zt_R) : Nat → Bool := fun i => decide ((rg i).1 2 = 0)
def zs_cnt (q : Nat → Nat) (rg : zt_R) (ev : Nat → Nat) (x : Int32) : Int32 :=
  if x.toInt = 0 then nI (q 0) else if x.toInt = 1 then nI (q 3) else if x.toInt = 2 then nI (q 5) else if x.toInt = 3 then nI (zp_cnt (fun i => decide ((rg i).1 2 = 0)) (q 0)) else if x.toInt = 4 then nI (q 1) else if x.toInt = 5 then nI (q 2) else if 10 ≤ x.toInt ∧ x.toInt < 26 then nI (ev (x.toInt.toNat - 10)) else -1
section ZR2
variable {p : Program} {l : Launch} {e : Env} {R : Room} {s : State} {m : MethodId} {args : Array Value} {below : List Frame} {meth : Method} {c : Code} {H : Heap} {locs : List Loc} {cells slots : Nat} {Q : State → Prop} {pc : Nat} {ls : Array Slot} {rest : List Value}
theorem zx_top2 {v : Value} {a b : Int32} (h : a = b) (k : W p l e R s m args below meth c H locs cells slots Q (F0 m pc ls (v :: .int b :: rest))) : W p l e R s m args below meth c H locs cells slots Q (F0 m pc ls (v :: .int a :: rest)) := by
  subst h; exact k
end ZR2
