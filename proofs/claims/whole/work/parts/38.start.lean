theorem zt_at.mv {g : zw_G} {ad ad1 : Nat → Nat} {E E1 : Nat → va_E} {F : Nat} {q : Nat → Nat} {rg : zt_R} {ev sf lf : Nat → Nat} (h : zt_at g ad E F q rg ev sf lf) (hz : q 0 = 0) (ha : ∀ k, k < 8 → ad1 k = ad k) (he : ∀ k, k < 8 → E1 k = E k) : zt_at g ad1 E1 F q rg ev sf lf := by
  obtain ⟨h0, h1, h2, h3, h4, h5⟩ := h
  refine ⟨?_, ?_, ⟨?_, ?_⟩, ⟨?_, ?_⟩, ⟨?_, ?_⟩, fun i hi => absurd hi (by omega)⟩
  · rw [he 0 (by omega), h0]; unfold zt_o; rw [ha 1 (by omega), ha 2 (by omega), ha 4 (by omega), ha 6 (by omega)]
  · rw [he 1 (by omega), h1]; exact (zt_r_ad (fun k a b => absurd b (by omega))).symm
  · rw [he 2 (by omega), h2.1]; unfold ze_o; rw [ha 3 (by omega)]
  · rw [he 3 (by omega)]; exact h2.2
  · rw [he 4 (by omega), h3.1]; unfold zo_o; rw [ha 5 (by omega)]
  · rw [he 5 (by omega)]; exact h3.2
  · rw [he 6 (by omega), h4.1]; unfold zo_o; rw [ha 7 (by omega)]
  · rw [he 7 (by omega)]; exact h4.2
theorem zt_ok_0 : zt_ok zp_q0 (fun _ => (fun _ => 0, fun _ _ => 0)) (fun _ => 0) (fun _ => 0) := ⟨by decide, fun i hi => absurd (show i < 0 from hi) (Nat.not_lt_zero _), fun _ => by show 0 < 1000000; omega, fun j hj => absurd (show j < 0 from hj) (Nat.not_lt_zero _)⟩
theorem zs_inv_0 : zs_inv zp_q0 (fun _ => (fun _ => 0, fun _ _ => 0)) := ⟨fun i hi => absurd (show i < 0 from hi) (Nat.not_lt_zero _), fun _ _ => rfl, Nat.le_refl _⟩
set_option maxHeartbeats 4000000 in
set_option maxRecDepth 100000 in
/-- THE LAW, from its entry -/
theorem whole_start {p : Program} {e : Env} {s : State} {m : MethodId} {below : List Frame} {meth : Method} {c : Code} (l : Launch) {b L : Nat} {xs : Nat → Int32} (hL : L ≤ 2048) (C0 : lw_At p s m meth c b L xs) : W p l e room_1 s m #[Value.ref b] below meth c s.heap [] 0 0 (lw_Z below #[Value.ref b] s) (entryFrame m ([Value.ref b] : List Value).toArray 4) := by
  obtain ⟨hx, hb, hr, hml, hown, hts, hX, hbl, hlocks, hgv⟩ := id C0
  have hU : ∀ w ∈ zt_U, w.before #[Value.ref b] s = true := fun w h => hts w (List.mem_filter.mp h).1
  have X : CallFix p m c code 4 s #[Value.ref b] zt_U zN_L := ⟨hx, hb, hml, hown, hU⟩
  obtain ⟨c0, iS0, hKn0⟩ := u_known (C := zN_V) (T := zT_V) (N := 1) (n := 1) hU zI_V (hU _ zi_V)
  obtain ⟨c1, iS1, hKn1⟩ := u_known (C := zN_R) (T := zT_R) (N := 13) (n := 13) hU zI_R (hU _ zi_R)
  obtain ⟨c2, iS2, hKn2⟩ := u_known (C := zN_O) (T := zT_O) (N := 3) (n := 3) hU zI_O (hU _ zi_O)
  obtain ⟨c3, iS3, hKn3⟩ := u_known (C := zN_X) (T := zT_X) (N := 7) (n := 7) hU zI_X (hU _ zi_X)
  obtain ⟨c4, iS4, hKn4⟩ := u_known (C := zN_M) (T := zT_M) (N := 22) (n := 22) hU zI_M (hU _ zi_M)
  obtain ⟨cI, kI, compI, fI1, fI2, fI3⟩ := Cond.arrayClass_spec (hU _ zw_arrI)
  obtain ⟨cZ, kZ, compZ, fZ1, fZ2, fZ3⟩ := Cond.arrayClass_spec (hU _ zw_arrZ)
  obtain ⟨compR, cR, kR, fR1, fR2, fR3, fR4, fR5⟩ := Cond.arrayOver_spec (hts _ zw_over)
  obtain ⟨g, hK⟩ : ∃ g : zw_G, va_K g.1 vwCl (zw_ty g) s := by
    refine ⟨((fun k => if k = 0 then c0 else if k = 1 then c1 else if k = 2 then c2 else if k = 3 then c3 else c4, fun k => if k = 0 then iS0 else if k = 1 then iS1 else if k = 2 then iS2 else if k = 3 then iS3 else iS4), fun k => if k = 0 then cI else if k = 1 then cZ else cR), ?_, ?_⟩
    · intro k q hq
      match k, hq with
      | 0, hq => cases hq; exact hKn0
      | 1, hq => cases hq; exact hKn1
      | 2, hq => cases hq; exact hKn2
      | 3, hq => cases hq; exact hKn3
      | 4, hq => cases hq; exact hKn4
      | k + 5, hq => simp [vwCl] at hq
    · intro k q hq
      match k, hq with
      | 0, hq => cases hq; exact ⟨fun n z => ⟨fun k h => (by cases h), kI, fI2, compI, fI3⟩, fI1⟩
      | 1, hq => cases hq; exact ⟨fun n z => ⟨fun k h => (by cases h), kZ, fZ2, compZ, fZ3⟩, fZ1⟩
      | 2, hq => cases hq; exact ⟨fun n z => ⟨fun k h => (by cases h), kR, fR3, compR, fR4⟩, kR, compR, fR3, fR4, fR1, fR5⟩
      | k + 3, hq => simp [zw_ty] at hq
  have hKK : zw_K g s := ⟨hK, va_Nw.of rfl (hts _ zh_X_17), va_Nw.of rfl (hts _ zh_V_15), va_AO.of (hts _ zw_over)⟩
  have hH : zw_H g (fun z : Nat => s.heap.size ≤ z) s.heap s 0 (fun _ => 0) (fun _ => .inr (0, [])) s.heap [] := ⟨hKK, zw_P.mpr (fun k hk => absurd hk (Nat.not_lt_zero _)), zw_D.mpr ⟨fun i j hi => absurd hi (Nat.not_lt_zero _), fun k hk => absurd hk (Nat.not_lt_zero _)⟩, va_S.rf, fun _ h => h⟩
  have hl := lv_entry ([.ref b]) (n := 4) (Nat.le_of_ble_eq_true rfl)
  rw [lg_entry_eq]
  generalize (lg_sl ([.ref b]) ++ List.replicate (4 - (lg_sl ([.ref b])).length) Slot.unset).toArray = ls at hl ⊢
  have hl : lv_has ls 4 [(0, .ref b)] := hl
  refine zx_new (ci := 3) (fs := [.null, .null, .null, .null, .int (nI 0), .int (nI 0), .int (nI 0)]) X hH rfl zI_X zY_X zP_X zk_L_7 zi_X zl_X (fun j hj => match j, hj with | 0, _ => rfl | 1, _ => rfl | 2, _ => rfl | 3, _ => rfl | 4, _ => rfl | 5, _ => rfl | 6, _ => rfl | (n + 7), h => absurd h (by omega)) (Nat.le_of_ble_eq_true rfl) (Nat.le_of_ble_eq_true rfl) d_L_law_0 (fun q0 H hH => ?_)
  obtain ⟨ad1, had1⟩ : ∃ x, x = va_up (fun _ => 0) 0 q0 := ⟨_, rfl⟩
  obtain ⟨E1, hE1⟩ : ∃ x : Nat → va_E, x = va_up (fun _ => .inr (0, [])) 0 (.inr (3, [.null, .null, .null, .null, .int (nI 0), .int (nI 0), .int (nI 0)])) := ⟨_, rfl⟩
  have c_0 : E1 0 = .inr (3, [.null, .null, .null, .null, .int (nI 0), .int (nI 0), .int (nI 0)]) := by rw [hE1]; exact va_up_self _ _ _
  rw [← had1, ← hE1] at hH
  have hH : zw_H g (fun z : Nat => s.heap.size ≤ z) s.heap s 1 ad1 E1 H [] := hH
  refine W.eq (g2 := F0 m 3 ls [.ref (ad1 0)]) (by rw [had1]) ?_
  refine lv_dup X.1 X.2.1 d_L_law_3 rfl ?_
  refine zx_callv (zx_runI (As := []) (rest := [.ref (ad1 0)]) X hH mi_L_9 ((c_X_init g l ad1 E1 c_0) _) ⟨Nat.le_of_ble_eq_true rfl, Nat.le_of_ble_eq_true rfl⟩ rfl hl rfl (Nat.le_of_ble_eq_true rfl) d_L_law_4 ⟨Nat.le_of_ble_eq_true rfl, Nat.le_of_ble_eq_true rfl⟩) hH (fun N2 ad2 E2 H locs hq hH => ?_)
  obtain ⟨rfl, a2, hT⟩ := hq
  refine W.eq (g2 := F0 m 7 ls [.ref (ad2 0)]) (by rw [a2]) ?_
  refine lv_astore_n (lv' := [(1, .ref (ad2 0)), (0, .ref b)]) X.1 X.2.1 d_L_law_7 rfl hl (by decide) rfl (fun ls hl => ?_)
  refine zx_new (ci := 4) (fs := [.int (nI 0), .int (nI 0), .int (nI 0), .int (nI 0), .int (nI 0), .int (nI 0), .null, .null, .null, .null, .null, .null, .null, .null, .null, .null, .null, .null, .null, .null, .null, .null]) X hH rfl zI_M zY_M zP_M zk_L_10 zi_M zl_M (fun j hj => match j, hj with | 0, _ => rfl | 1, _ => rfl | 2, _ => rfl | 3, _ => rfl | 4, _ => rfl | 5, _ => rfl | 6, _ => rfl | 7, _ => rfl | 8, _ => rfl | 9, _ => rfl | 10, _ => rfl | 11, _ => rfl | 12, _ => rfl | 13, _ => rfl | 14, _ => rfl | 15, _ => rfl | 16, _ => rfl | 17, _ => rfl | 18, _ => rfl | 19, _ => rfl | 20, _ => rfl | 21, _ => rfl | (n + 22), h => absurd h (by omega)) (Nat.le_of_ble_eq_true rfl) (Nat.le_of_ble_eq_true rfl) d_L_law_8 (fun q8 H hH => ?_)
  obtain ⟨ad3, had3⟩ : ∃ x, x = va_up ad2 8 q8 := ⟨_, rfl⟩
  obtain ⟨E3, hE3⟩ : ∃ x, x = va_up E2 8 (.inr (4, [.int (nI 0), .int (nI 0), .int (nI 0), .int (nI 0), .int (nI 0), .int (nI 0), .null, .null, .null, .null, .null, .null, .null, .null, .null, .null, .null, .null, .null, .null, .null, .null])) := ⟨_, rfl⟩
  rw [← had3, ← hE3] at hH
  have hH : zw_H g (fun z : Nat => s.heap.size ≤ z) s.heap s 9 ad3 E3 H locs := hH
  have a3 : ∀ k, k < 8 → ad3 k = ad2 k := fun k hk => by rw [had3]; exact va_up_ne _ _ (by omega)
  have e3 : ∀ k, k < 8 → E3 k = E2 k := fun k hk => by rw [hE3]; exact va_up_ne _ _ (by omega)
  have n3 : E3 8 = .inr (4, [.int (nI 0), .int (nI 0), .int (nI 0), .int (nI 0), .int (nI 0), .int (nI 0), .null, .null, .null, .null, .null, .null, .null, .null, .null, .null, .null, .null, .null, .null, .null, .null]) := by rw [hE3]; exact va_up_self _ _ _
  refine W.eq (g2 := F0 m 11 ls [.ref (ad3 8)]) (by rw [had3]) ?_
  rw [← a3 0 (by decide)] at hl
  refine lv_dup X.1 X.2.1 d_L_law_11 rfl ?_
  refine zx_callv (zx_runI (As := []) (rest := [.ref (ad3 8)]) X hH mi_L_12 ((c_M_init g l ad3 E3 n3) _) ⟨Nat.le_of_ble_eq_true rfl, Nat.le_of_ble_eq_true rfl⟩ rfl hl rfl (Nat.le_of_ble_eq_true rfl) d_L_law_12 ⟨Nat.le_of_ble_eq_true rfl, Nat.le_of_ble_eq_true rfl⟩) hH (fun N4 ad4 E4 H locs hq hH => ?_)
  obtain ⟨rfl, a4, hM, e4⟩ := hq
  refine W.eq (g2 := F0 m 15 ls [.ref (ad4 8)]) (by rw [a4 8 (by decide)]) ?_
  rw [← a4 0 (by decide)] at hl
  refine lv_astore_n (lv' := [(2, .ref (ad4 8)), (1, .ref (ad4 0)), (0, .ref b)]) X.1 X.2.1 d_L_law_15 rfl hl (by decide) rfl (fun ls hl => ?_)
  refine lv_iconst (v := nI 0) X.1 X.2.1 d_L_law_16 (by decide) ?_
  refine lv_istore_n (lv' := [(3, .int (nI 0)), (2, .ref (ad4 8)), (1, .ref (ad4 0)), (0, .ref b)]) X.1 X.2.1 d_L_law_17 rfl hl (by decide) rfl (fun ls hl => ?_)
  refine W.widen (k := 25 + 5 * zp_q0 0 + zp_q0 4 + zp_q0 6) (n := 9100 + 174 * zp_q0 0 + 2 * zp_q0 4 + 2 * zp_q0 6) (Nat.le_of_ble_eq_true rfl) (Nat.le_of_ble_eq_true rfl) ?_
  exact law_loop hL X hr hlocks hX hbl 25 ad4 E4 zp_q0 (fun _ => (fun _ => 0, fun _ _ => 0)) (fun _ => 0) (fun _ => 0) (fun _ => 0) (fun _ => 0) (fun _ => 0) _ _ _ ⟨rfl, (hT 25 (fun _ => (fun _ => 0, fun _ _ => 0))).mv rfl (fun k hk => (a4 k (by omega)).trans (a3 k hk)) (fun k hk => (e4 k hk).trans (e3 k hk)), hM, zt_ok_0, zs_inv_0, fun _ _ => rfl, fun _ _ => rfl, fun _ => Nat.le_refl _⟩ hH hl
set_option maxHeartbeats 4000000 in
theorem lw_walk (l : Launch) (b : Addr) (xs : List Int32) : MetFree l x (headSpec (Jvm.Cond.code x code maxLocals ret :: tables_1) room_1) (lw_P b xs) (fun _ _ _ _ _ => True) lw_Q := by
  refine MetFree.of_bodyS (code := code) (maxLocals := maxLocals) (ret := ret) (by decide) ?_ ?_
  · intro args s m h hn
    obtain ⟨meth, c, h1, h2, h3, h4, h5, h6, -, -⟩ := Cond.code_spec hn (atoms_spec (ws := Jvm.Cond.code x code maxLocals ret :: tables_1) h _ List.mem_cons_self)
    exact ⟨meth, c, h1, h2, h3, h4, h5, h6⟩
  · intro p e s m args below meth c s₁ B hml0 hP _
    obtain ⟨rfl, hx, hbd, hgv⟩ := hP
    obtain ⟨scr, harrAt, hlist, hof, hsmall⟩ := hx
    obtain ⟨hcb, hkn, -, -⟩ := State.arrayAt?_spec harrAt
    have hown : s.vm.findClass R_law = some m.cls := findClass_of_methodNamed B.named
    have hts0 : ∀ c ∈ (Jvm.Cond.code x code maxLocals ret :: tables_1), c.before #[Value.ref b] s = true := atoms_spec (ws := Jvm.Cond.code x code maxLocals ret :: tables_1) B.pre
    have hts : ∀ w ∈ lw_tbl, w.before #[Value.ref b] s = true := k2_hts_sels lw_privs (fun w hw => hts0 w (List.mem_cons_of_mem _ hw)) lw_privs_ok
    have hml : c.maxLocals = 4 := B.maxLocals_eq (hts0 _ List.mem_cons_self)
    have X₀ : Stand p l e room_1 s m #[Value.ref b] below meth c s₁ [] 0 0 := Stand.of_body B
    have hh0 : s₁.heap = s.heap := by rw [B.state]; rfl
    have hsz : scr.slots.size = xs.length := by rw [← Array.length_toList, hlist, List.length_map]
    have hval : ∀ j : Nat, j < xs.length → scr.slots[j]? = some (.int (xs.getD j 0)) := fun j hj => by
      rw [← Array.getElem?_toList, hlist]
      simp [hj]
    have hbl : b < s.heap.size := (Array.getElem?_eq_some_iff.mp hcb).1
    have hX : va_X b xs.length (fun j => xs.getD j 0) s s.heap := ⟨scr, hcb, hof, hkn, hsz, hval⟩
    have K : W p l e room_1 s m #[Value.ref b] below meth c s₁.heap [] 0 0 (lw_Z below #[Value.ref b] s) (entryFrame m ([Value.ref b] : List Value).toArray 4) := by
      rw [hh0]
      exact whole_start l hbd ⟨B.exec, B.bytes, B.returns, hml, hown, hts, hX, hbl, B.notSynchronized, hgv⟩
    obtain ⟨t, a1, o, b1, b2, b3⟩ := K s₁ rfl X₀
    exact ⟨t, o, a1, b1, b2, b3⟩
theorem lw_pre_spec {args : Array Value} {s : State} (h : (Jvm.Cond.and given_1 narrow_1).before args s = true) (hr : rest_1_c.before args s = true) : ∃ (b : Addr) (xs : List Int32), lw_P b xs args s := by
  have hs := flat_of_before _ h
  have hq := flat_of_before _ hr
  have hc : (Cond.count 1).before args s = true := hs _ (by decide +kernel)
  have harr : (Cond.arrayOf (.arg 0) .int).before args s = true := hs _ (by decide +kernel)
  have hle : (Cond.le (.length (.arg 0)) (.int 2048)).before args s = true := hs _ (by decide +kernel)
  have hlen : (Cond.isInt (.length (.arg 0))).before args s = true := hq _ (by decide +kernel)
  have hall : (Cond.all (.arg 0) (.isInt (.elem (.arg 0) (.index 0)))).before args s = true := hq _ (by decide +kernel)
  obtain ⟨b, xs, hb, hx⟩ := State.ints_of_pre rfl harr hlen hall
  have hsm : xs.length < 2 ^ 31 := hx.choose_spec.2.2.2
  have hev : (Term.length (.arg 0)).eval args s none [] s = some (.int xs.length.toInt32) := hx.length_eval hb
  have hv := Cond.le_ints hev (show (Term.int 2048).eval args s none [] s = some (.int 2048) from rfl)
  have hd : xs.length.toInt32 ≤ 2048 := by
    simpa [Cond.before, Cond.holds, hv] using hle
  have hN : xs.length ≤ 2048 := (Int32.ofNat_le_ofNat hsm (by decide)).mp (show Int32.ofNat xs.length ≤ Int32.ofNat 2048 from hd)
  exact ⟨b, xs, Cond.one_arg hc (show args[0]? = some (.ref b) from hb), hx, hN, h⟩
theorem lw_comes (l : Launch) : Comes l x (Jvm.Cond.code x code maxLocals ret :: tables_1) room_1 (fun tb e args s => Calls_1 tb e args s ∧ rest_1 tb e args s ∧ Pre_1 tb e args s)
    (fun _ _ args s o t => lw_Q args s o t) := by
  intro p e ha hc hk s m args below hf hfit hheap happ hpre
  obtain ⟨b, xs, hP⟩ := lw_pre_spec hpre.2.2 hpre.2.1
  obtain ⟨k, o, h1, h2, h3, hQ⟩ := lw_walk l b xs p e ha hc hk s m args below hf ((Spec.applies_iff_loose hf).mp happ).1 hP trivial
  exact ⟨k, o, h1, h2, h3, hQ⟩
theorem lw_frame {s t : State} {o : Outcome} {args : Array Value} (h : Framed s o t [] 600000 7302250) :
    Framed s o t (fieldLocs frame_1_writes args s ++ arrayLocs frame_1_arrays args s ++ staticLocs frame_1_statics s) 600000 7302250 := h
theorem lw_limb (L : Cond) (hL : ∀ (args : Array Value) (s t : State), L.after args s (.returned (some (.int 1))) t = true) :
    ArmFor flags0 classFile x code maxLocals ret World_1 tables_1 room_1 Calls_1 rest_1 Pre_1
      (fun tb e a s o t => postC L tb e a s o t ∧ Framed s o t (fieldLocs frame_1_writes a s ++ arrayLocs frame_1_arrays a s ++ staticLocs frame_1_statics s) 600000 7302250) := by
  intro l _ _ _ p e ha hc hk s m args below hf hfit hheap happ hpre
  obtain ⟨k, o, h1, h2, h3, rfl, hF⟩ := lw_comes l p e ha hc hk s m args below hf hfit hheap happ hpre
  exact ⟨k, _, h1, h2, h3, hL args s _, lw_frame hF⟩
theorem i_vc : Claimed_1_1 ∧ Claimed_1_2 := ⟨lw_limb limb_1_1 (fun args s t => by simp [limb_1_1, Cond.after, Cond.holds, Cond.value]), lw_limb limb_1_2 (fun args s t => Cond.after_iff.mpr (by
  first | (rw [show limb_1_2 = Cond.eq .result (.int 1) from rfl, Cond.eq_ints (x := 1) (y := 1) rfl rfl]; simp; done) | (simp [limb_1_2, Cond.value, Term.eval]; done)))⟩
