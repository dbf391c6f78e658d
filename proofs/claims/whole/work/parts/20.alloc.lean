section ZA
variable {p : Program} {l : Launch} {e : Env} {R : Room} {s : State} {m : MethodId} {args : Array Value} {below : List Frame} {meth : Method} {c : Code} {H : Heap} {locs : List Loc} {cells slots : Nat} {Q : State → Prop} {cc : ByteArray} {pc nL : Nat} {ls : Array Slot} {rest : List Value} {own : String} {g : zw_G} {A : Nat → Prop} {H0 : Heap} {N : Nat} {ad : Nat → Nat} {E : Nat → va_E}
theorem zx_new (X : CallFix p m c cc nL s args zt_U own) (hH : zw_H g A H0 s N ad E H locs) {ci Nf idx : Nat} {C : String} {T : u_T} {fs : List Value} (hc : vwCl[ci]? = some (C, T, Nf)) (hin : ∀ w ∈ u_ws C T Nf, w ∈ zt_U) (ty : Nat → FieldType) (hty : ∀ k, k < Nf → parseFieldDescriptor (T k).2.2.1 = some (ty k)) (hk : Cond.classLink own idx C ∈ zt_U) (hi : Cond.instantiable C Nf ∈ zt_U) (hl : Cond.initialized C ∈ zt_U) (hfs : ∀ j, j < Nf → defaultValue (ty j) = vp_V fs j) (hcs : cells + 1 ≤ R.cells) (hsl : slots + Nf ≤ R.slots) (hd : decode cc pc = .ok (.new idx, 3))
    (kk : ∀ (q : Nat) (H1 : Heap), zw_H g A H0 s (N + 1) (va_up ad N q) (va_up E N (.inr (ci, fs))) H1 locs → W p l e R s m args below meth c H1 locs (cells + 1) (slots + Nf) Q (F0 m (pc + 3) ls (.ref (va_up ad N q N) :: rest))) : W p l e R s m args below meth c H locs cells slots Q (F0 m pc ls rest) := by
  have ht := X.2.2.2.2
  refine va_new (D := g.1) X.1 X.2.1 ht hin ty hty X.2.2.2.1 (ht _ hk) (ht _ hi) (ht _ hl) hH.1.1 hH.2.1 hH.2.2.1 hH.2.2.2.1 hH.2.2.2.2 hc hfs hcs hsl hd (fun q H1 hP hD hS => ?_)
  rw [zw_push] at hP hD
  have k2 := kk q H1 ⟨hH.1, hP, hD, hS, hH.2.2.2.2⟩
  rw [va_up_self] at k2
  exact k2
theorem zx_newq (X : CallFix p m c cc nL s args zt_U own) (hH : zw_H g A H0 s N ad E H locs) {idx : Nat} (hk : Cond.classLink own idx "RegionThreads$Region" ∈ zt_U) {i : Int32} {j : Nat} (hi : i = nI j) (hj : j ≤ 134217728) (hc : cells + 1 ≤ R.cells) (hs : slots + j ≤ R.slots) (hd : decode cc pc = .ok (.anewarray idx, 3))
    (kk : ∀ (q : Nat) (H1 : Heap), zw_H g A H0 s (N + 1) (va_up ad N q) (va_up E N (.inl (g.2 2, j, .inr (.inr (.inr (.inr (fun _ => none))))))) H1 locs → W p l e R s m args below meth c H1 locs (cells + 1) (slots + j) Q (F0 m (pc + 3) ls (.ref (va_up ad N q N) :: rest))) : W p l e R s m args below meth c H locs cells slots Q (F0 m pc ls (.int i :: rest)) := by
  subst hi
  have ht := X.2.2.2.2
  have hK := hH.1.1
  refine va_newq (D := g.1) X.1 X.2.1 X.2.2.2.1 (ht _ hk) hH.1.2.2.2 hH.1.1 hH.2.1 hH.2.2.1 hH.2.2.2.1 hH.2.2.2.2 (nI_pos (by omega)) (nI_clamp (by omega)) (by omega) hc hs hd (fun q cA H1 hK1 hP hD hS => ?_)
  obtain ⟨k1, c1, -, -, -, e1⟩ := (hK1.2 (zw_ty g).length (cA, .object "RegionThreads$Region") (by rw [List.getElem?_append_right (Nat.le_refl _), Nat.sub_self]; rfl)).2
  obtain ⟨k2, c2, -, -, -, e2⟩ := (hK.2 2 (g.2 2, .object "RegionThreads$Region") rfl).2
  have e3 : cA = g.2 2 := Option.some.inj (e1.symm.trans e2)
  subst e3
  rw [zw_push] at hP hD
  have k2 := kk q H1 ⟨hH.1, hP, hD, hS, hH.2.2.2.2⟩
  rw [va_up_self] at k2
  exact k2
theorem zx_aast (X : CallFix p m c cc nL s args zt_U own) (hH : zw_H g A H0 s N ad E H locs) {k n j b : Nat} {f : Nat → Option Nat} {fs : List Value} {i : Int32} (hk : k < N) (hE : E k = .inl (g.2 2, n, .inr (.inr (.inr (.inr f))))) (hb : b < N) (hB : E b = .inr (1, fs)) (hi : i = nI j) (hj : j < n) (hn : n < 2 ^ 31) (hd : decode cc pc = .ok (.aastore, 1))
    (kk : ∀ (H1 : Heap) (locs1 : List Loc), zw_H g A H0 s N ad (va_up E k (.inl (g.2 2, n, .inr (.inr (.inr (.inr (va_up f j (some (ad b)))))))) ) H1 locs1 → W p l e R s m args below meth c H1 locs1 cells slots Q (F0 m (pc + 1) ls rest)) : W p l e R s m args below meth c H locs cells slots Q (F0 m pc ls (.ref (ad b) :: .int i :: .ref (ad k) :: rest)) := by
  subst hi
  refine va_astq (D := g.1) X.1 X.2.1 hH.1.1 hH.2.1 hH.2.2.1 hH.2.2.2.1 k 2 b 1 (by rw [zw_get hk, hE]) rfl (by rw [zw_get hb, hB]) rfl (vp_in_nI hj hn) hd (fun H1 locs1 hP hD hS => ?_)
  rw [nI_clamp (by omega), zw_set] at hP hD
  exact kk H1 locs1 ⟨hH.1, hP, hD, hS, hH.2.2.2.2⟩
/-- Object's own constructor -/
theorem zx_obj (X : CallFix p m c cc nL s args zt_U own) {idx a : Nat} {lv : List (Nat × Value)} (hl : lv_has ls nL lv) (hk : Cond.methodLink own idx objectInit ∈ zt_U) (h1 : 1 ≤ R.frames) (h2 : 12 ≤ R.locals) (hd : decode cc pc = .ok (.invokespecial idx, 3))
    (kk : W p l e R s m args below meth c H locs cells slots Q (F0 m (pc + 3) ls [])) : W p l e R s m args below meth c H locs cells slots Q (F0 m pc ls [.ref a]) := by
  have ht := X.2.2.2.2
  exact W.objInit X.1 X.2.1 X.2.2.2.1 (ht _ hk) (ht _ zj_inst) (ht _ zj_code) rfl (by rw [X.2.2.1]; exact hl.1) rfl hd h1 (by show 2 * 0 + 0 + 12 ≤ _; omega) kk
end ZA
theorem zn_sub10 (x : Int32) : (0 ≤ (x - nI 10).toInt ∧ (x - nI 10).toInt < 16) ↔ (10 ≤ x.toInt ∧ x.toInt < 26) := by
  have h1 := Int32.toInt_lt x
  have h2 := Int32.le_toInt x
  rw [Int32.toInt_sub, nI_toInt (by omega), Int.bmod_def]
  split <;> omega
theorem zn_sub10e {x : Int32} (h : 10 ≤ x.toInt) : x - nI 10 = nI (x.toInt.toNat - 10) := by
  have h2 := Int32.toInt_lt x
  conv => lhs; rw [zn_nat (x := x) (by omega)]
  exact pk_sub (by omega)
theorem zt_ok.clr {q : Nat → Nat} {rg : zt_R} {ev sf : Nat → Nat} (h : zt_ok q rg ev sf) : zt_ok (va_up q 3 0) rg ev sf := by
  obtain ⟨⟨k0, k2, k3, k3a, k4, k4a, k5, k5a, k6, k6a⟩, hr, he, hs⟩ := h
  exact ⟨⟨k0, k2, by show 0 ≤ 600; omega, by show 0 ≤ q 4; omega, k4, k4a, k5, k5a, k6, k6a⟩, hr, he, fun j hj => absurd (show j < 0 from hj) (Nat.not_lt_zero _)⟩
theorem zt_ok.cls {q : Nat → Nat} {rg : zt_R} {ev sf : Nat → Nat} (h : zt_ok q rg ev sf) : zt_ok (va_up q 2 1) rg ev sf := by
  obtain ⟨⟨k0, k2, k3, k3a, k4, k4a, k5, k5a, k6, k6a⟩, hr, he, hs⟩ := h
  exact ⟨⟨k0, by show 1 ≤ 1; omega, k3, k3a, k4, k4a, k5, k5a, k6, k6a⟩, hr, he, hs⟩
