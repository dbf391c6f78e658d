/-! THE CLAIM OUT OF ONE WALK OF THE LAW'S BODY. Your part is whole_start (and what it stands on); all else here is the same for every law, but numbers. -/
def R_law : String := "RegionThreadsLaw"
def lw_P (b : Addr) (xs : List Int32) (args : Array Value) (s : State) : Prop := args = #[.ref b] ∧ s.IntsAt b xs ∧ xs.length ≤ 2048 ∧ (Jvm.Cond.and given_1 narrow_1).before args s = true
def lw_Q (_ : Array Value) (s : State) (o : Outcome) (t : State) : Prop := o = .returned (some (.int 1)) ∧ Framed s o t [] 600000 7302250
def lw_Z (below : List Frame) (a : Array Value) (s : State) : State → Prop := fun t => ∃ o, t.status = .running ∧ Ended t below o ∧ lw_Q a s o t
/-- the law's own end, with 1 on the stack, nothing written that was there before, its room as the claim has it -/
theorem lw_ret {p : Program} {l : Launch} {e : Env} {s : State} {m : MethodId} {below : List Frame} {meth : Method} {c : Code} {b : Nat} (hx : p.tables.exec = Jvm.exec) (hb : c.code = code) (hr : meth.sig.returnType = ret) (hlocks : meth.locks = false) {pc : Nat} {H : Heap} {ls : Array Slot} (hdg : decode code pc = .ok (.ireturn, 1)) : W p l e room_1 s m #[Value.ref b] below meth c H [] 600000 7302250 (lw_Z below #[Value.ref b] s) (F0 m pc ls [.int 1]) := by
  intro T hT X
  obtain ⟨fs, hret, hrun, hended, hW, hframe⟩ := X.leave (v := some (.int 1)) (hlocks := hlocks) (fun h => by rw [hr] at h; cases h)
  have hmeth' : T.vm.method? m = some meth := X.method'
  refine ⟨T.setFrames fs, ?_, .returned (some (.int 1)), hrun, hended, rfl, ⟨_, rfl⟩, hW, hframe⟩
  jvm_step X.here [X.here.top, hx, hb, hdg, hmeth', hr, ret, narrow_b1]
  (try refine ⟨rfl, ?_⟩); (try refine ⟨rfl, ?_⟩)
  first | (intro acts; rw [hret _ acts rfl rfl rfl]) | rw [hret _ _ rfl rfl rfl]
  exact Steps.refl _
/-- what holds at the law's entry: the machine, the code, the tables' words (any of lw_tbl by 'hts w (by decide +kernel)'), the script of L ints xs at the cell b, what the Statement gives of the start (any of its parts by flat_of_before) -/
def lw_At (p : Program) (s : State) (m : MethodId) (meth : Method) (c : Code) (b L : Nat) (xs : Nat → Int32) : Prop :=
  p.tables.exec = Jvm.exec ∧ c.code = code ∧ meth.sig.returnType = ret ∧ c.maxLocals = 4 ∧ s.vm.findClass R_law = some m.cls ∧ (∀ w ∈ lw_tbl, w.before #[Value.ref b] s = true) ∧ va_X b L xs s s.heap ∧ b < s.heap.size ∧ meth.locks = false ∧ (Jvm.Cond.and given_1 narrow_1).before #[Value.ref b] s = true

/-- what holds at the loop's head with i ints read: N cells, the class's, the reference's, their numbers -/
def zl_inv (g : zw_G) (N : Nat) (ad : Nat → Nat) (E : Nat → va_E) (i : Nat) (q : Nat → Nat) (rg : zt_R) (ev sf lf fs fl : Nat → Nat) : Prop :=
  N = 25 + 5 * q 0 ∧ zt_at g ad E 25 q rg ev sf lf ∧ zm_at g ad E q rg ev fs fl ∧ zt_ok q rg ev sf ∧ zs_inv q rg ∧ (∀ j, j < q 3 → fs j = sf j) ∧ (∀ j, j < q 5 → fl j = lf j) ∧ ∀ j, ev j ≤ i
set_option maxHeartbeats 4000000 in
set_option maxRecDepth 100000 in
theorem law_loop {p : Program} {l : Launch} {e : Env} {s : State} {m : MethodId} {below : List Frame} {meth : Method} {c : Code} {b L : Nat} {xs : Nat → Int32} {g : zw_G} (hL : L ≤ 2048) (X : CallFix p m c code 4 s #[Value.ref b] zt_U zN_L) (hr : meth.sig.returnType = ret) (hlocks : meth.locks = false) (hX : va_X b L xs s s.heap) (hbl : b < s.heap.size)
    (N : Nat) (ad : Nat → Nat) (E : Nat → va_E) (q : Nat → Nat) (rg : zt_R) (ev sf lf fs fl : Nat → Nat) (H : Heap) (locs : List Loc) (ls : Array Slot) (hI : zl_inv g N ad E 0 q rg ev sf lf fs fl) (hH : zw_H g (fun z : Nat => s.heap.size ≤ z) s.heap s N ad E H locs) (hl : lv_has ls 4 [(3, .int (nI 0)), (2, .ref (ad 8)), (1, .ref (ad 0)), (0, .ref b)]) :
    W p l e room_1 s m #[Value.ref b] below meth c H locs (25 + 5 * q 0 + q 4 + q 6) (9100 + 174 * q 0 + 2 * q 4 + 2 * q 6) (lw_Z below #[Value.ref b] s) (F0 m 18 ls []) := by
  have hbA : ¬ (fun z : Nat => s.heap.size ≤ z) b := Nat.not_le.mpr hbl
  refine zx_loop (σ := Nat × (Nat × (Nat → Nat) × (Nat → va_E)) × (Nat → Nat) × zt_R × (Nat → Nat) × (Nat → Nat) × (Nat → Nat) × (Nat → Nat) × (Nat → Nat)) (fun x H locs ls => x.1 ≤ L ∧ zl_inv g x.2.1.1 x.2.1.2.1 x.2.1.2.2 x.1 x.2.2.1 x.2.2.2.1 x.2.2.2.2.1 x.2.2.2.2.2.1 x.2.2.2.2.2.2.1 x.2.2.2.2.2.2.2.1 x.2.2.2.2.2.2.2.2 ∧ zw_H g (fun z : Nat => s.heap.size ≤ z) s.heap s x.2.1.1 x.2.1.2.1 x.2.1.2.2 H locs ∧ lv_has ls 4 [(3, .int (nI x.1)), (2, .ref (x.2.1.2.1 8)), (1, .ref (x.2.1.2.1 0)), (0, .ref b)]) (fun x => L - x.1) (fun x => 25 + 5 * x.2.2.1 0 + x.2.2.1 4 + x.2.2.1 6) (fun x => 9100 + 174 * x.2.2.1 0 + 2 * x.2.2.1 4 + 2 * x.2.2.1 6) ?_ (0, (N, ad, E), q, rg, ev, sf, lf, fs, fl) _ _ _ ⟨Nat.zero_le _, hI, hH, hl⟩
  clear hI hH hl
  rintro ⟨i, ⟨N, ad, E⟩, q, rg, ev, sf, lf, fs, fl⟩ H locs ls ⟨hiL, hI, hH, hl⟩ ih
  dsimp only at hiL hI hH hl ih ⊢
  obtain ⟨hN, hT, hM, hok, hv, hfs, hfl, hev⟩ := hI
  obtain ⟨k0, k2, k3, k3a, k4, k4a, k5, k5a, k6, k6a⟩ := hok.1
  refine lv_iload_n X.1 X.2.1 d_L_law_18 rfl (lv_at hl 0 rfl) ?_
  refine lv_aload_n X.1 X.2.1 d_L_law_19 rfl (lv_at hl 3 rfl) ?_
  refine va_slen X.1 X.2.1 hX hbl hbA hH.2.2.2.1 d_L_law_20 ?_
  refine lv_iconst (v := nI 4) X.1 X.2.1 d_L_law_21 (by decide) ?_
  refine lv_isub X.1 X.2.1 d_L_law_22 ?_
  refine lv_icmp_gt (tgt := 493) X.1 X.2.1 d_L_law_23 (by decide) (fun c1 => ?_) (fun c1 => ?_)
  · refine lv_iconst (v := 1) X.1 X.2.1 d_L_law_493 (by decide) ?_
    refine va_forget (fun z hz => hH.2.2.2.1.2.2 z hz) ?_
    refine W.widen (k := 600000) (n := 7302250) (by omega) (by omega) ?_
    exact lw_ret X.1 X.2.1 hr hlocks d_L_law_494
  · have c1 := mt (zn_lt (pk_sub_toInt (a := L) (b := 4) (by omega) (by decide)) (nI_toInt (n := i) (by omega))).mpr c1
    have hi4 : i + 4 ≤ L := by omega
    refine lv_aload_n X.1 X.2.1 d_L_law_26 rfl (lv_at hl 3 rfl) ?_
    refine lv_iload_n X.1 X.2.1 d_L_law_27 rfl (lv_at hl 0 rfl) ?_
    refine zl_sld (j := i) X hH hX hbl hbA rfl (by omega) (by omega) d_L_law_28 ?_
    refine lv_bipush (v := nI 15) X.1 X.2.1 d_L_law_29 (by decide) ?_
    refine lv_iand X.1 X.2.1 d_L_law_31 ?_
    obtain ⟨k, hk, hk2⟩ := pk_andE (xs i) (m := nI 15) 4 (by decide)
    refine zx_top hk2 ?_
    have hk : k < 16 := hk
    clear hk2
    by_cases t0 : k = 0
    · subst t0
      refine lv_tableIn (off := 76) (tgt := 108) X.1 X.2.1 d_L_law_32 (by decide) (by decide) rfl (by decide) ?_
      obtain ⟨w1, w2, w3, w4, w5, w6, w7, w8⟩ := zs_reg_all (x := (xs (i + 1))) (y := (xs (i + 2))) hok hv
      refine lv_aload_n X.1 X.2.1 d_L_law_108 rfl (lv_at hl 2 rfl) ?_
      refine lv_aload_n X.1 X.2.1 d_L_law_109 rfl (lv_at hl 3 rfl) ?_
      refine lv_iload_n X.1 X.2.1 d_L_law_110 rfl (lv_at hl 0 rfl) ?_
      refine lv_iconst (v := nI 1) X.1 X.2.1 d_L_law_111 (by decide) ?_
      refine lv_iadd X.1 X.2.1 d_L_law_112 ?_
      refine zx_top (nI_add _ _) ?_
      refine zl_sld (j := i + 1) X hH hX hbl hbA rfl (by omega) (by omega) d_L_law_113 ?_
      refine lv_aload_n X.1 X.2.1 d_L_law_114 rfl (lv_at hl 3 rfl) ?_
      refine lv_iload_n X.1 X.2.1 d_L_law_115 rfl (lv_at hl 0 rfl) ?_
      refine lv_iconst (v := nI 2) X.1 X.2.1 d_L_law_116 (by decide) ?_
      refine lv_iadd X.1 X.2.1 d_L_law_117 ?_
      refine zx_top (nI_add _ _) ?_
      refine zl_sld (j := i + 2) X hH hX hbl hbA rfl (by omega) (by omega) d_L_law_118 ?_
      refine zx_calli (zx_runV (As := [.int (xs (i + 1)), .int (xs (i + 2))]) (rest := []) X hH mv_L_13 ((c_X_region g l N ad E 25 q rg ev sf lf (by decide) hN hT hok (xs (i + 1)) (xs (i + 2)) (5 * (zs_reg q rg (xs (i + 1)) (xs (i + 2))).2.1 0 - 5 * q 0) (174 * (zs_reg q rg (xs (i + 1)) (xs (i + 2))).2.1 0 - 174 * q 0) (by omega) (by omega)) _) (by omega) hT.1 rfl ⟨Nat.le_of_ble_eq_true rfl, Nat.le_of_ble_eq_true rfl⟩ rfl hl rfl (Nat.le_of_ble_eq_true rfl) d_L_law_119 ⟨by show _ ≤ 600000; dsimp only; omega, by show _ ≤ 7302250; dsimp only; omega⟩) hH (fun r N1 ad1 E1 H locs hq hH => ?_)
      obtain ⟨rfl, ha, rfl, hT, hf⟩ := hq
      have hM := hM.keep (E1 := E1) (ad1 := ad1) (fun k h1 h2 => hf k h1 h2) (fun k h1 h2 => ha k (by omega))
      rw [← ha 0 (by omega), ← ha 8 (by omega)] at hl
      refine lv_aload_n X.1 X.2.1 d_L_law_122 rfl (lv_at hl 1 rfl) ?_
      refine lv_aload_n X.1 X.2.1 d_L_law_123 rfl (lv_at hl 3 rfl) ?_
      refine lv_iload_n X.1 X.2.1 d_L_law_124 rfl (lv_at hl 0 rfl) ?_
      refine lv_iconst (v := nI 1) X.1 X.2.1 d_L_law_125 (by decide) ?_
      refine lv_iadd X.1 X.2.1 d_L_law_126 ?_
      refine zx_top (nI_add _ _) ?_
      refine zl_sld (j := i + 1) X hH hX hbl hbA rfl (by omega) (by omega) d_L_law_127 ?_
      refine lv_aload_n X.1 X.2.1 d_L_law_128 rfl (lv_at hl 3 rfl) ?_
      refine lv_iload_n X.1 X.2.1 d_L_law_129 rfl (lv_at hl 0 rfl) ?_
      refine lv_iconst (v := nI 2) X.1 X.2.1 d_L_law_130 (by decide) ?_
      refine lv_iadd X.1 X.2.1 d_L_law_131 ?_
      refine zx_top (nI_add _ _) ?_
      refine zl_sld (j := i + 2) X hH hX hbl hbA rfl (by omega) (by omega) d_L_law_132 ?_
      refine zx_calli (zx_runV (As := [.int (xs (i + 1)), .int (xs (i + 2))]) (rest := [.int (zs_reg q rg (xs (i + 1)) (xs (i + 2))).1]) X hH mv_L_17 ((c_M_region g l (25 + 5 * (zs_reg q rg (xs (i + 1)) (xs (i + 2))).2.1 0) ad1 E1 q rg ev sf fs fl (by omega) hok hv hM (xs (i + 1)) (xs (i + 2))) _) (by omega) hM.1 rfl ⟨Nat.le_of_ble_eq_true rfl, Nat.le_of_ble_eq_true rfl⟩ rfl hl rfl (Nat.le_of_ble_eq_true rfl) d_L_law_133 ⟨by show _ ≤ 600000; dsimp only; omega, by show _ ≤ 7302250; dsimp only; omega⟩) hH (fun r N2 ad2 E2 H locs hq hH => ?_)
      obtain ⟨rfl, rfl, rfl, hM, hf2⟩ := hq
      refine lv_icmp_eq (tgt := 487) X.1 X.2.1 d_L_law_136 (by decide) (fun _ => ?_) (fun z => absurd rfl z)
      have hT := hT.keep (E1 := E2) (fun k h1 => hf2 k h1)
      refine W.cs (cells' := 25 + 5 * ((zs_reg q rg (xs (i + 1)) (xs (i + 2))).2.1) 0 + ((zs_reg q rg (xs (i + 1)) (xs (i + 2))).2.1) 4 + ((zs_reg q rg (xs (i + 1)) (xs (i + 2))).2.1) 6) (slots' := 9100 + 174 * ((zs_reg q rg (xs (i + 1)) (xs (i + 2))).2.1) 0 + 2 * ((zs_reg q rg (xs (i + 1)) (xs (i + 2))).2.1) 4 + 2 * ((zs_reg q rg (xs (i + 1)) (xs (i + 2))).2.1) 6) (by dsimp only; omega) (by dsimp only; omega) ?_
      refine lv_iinc (v := nI (i + 4)) (lv' := [(3, .int (nI (i + 4))), (2, .ref (ad1 8)), (1, .ref (ad1 0)), (0, .ref b)]) X.1 X.2.1 d_L_law_487 hl (k := 0) rfl (nI_add _ _) (by decide) rfl (fun ls hl => ?_)
      refine lv_goto (tgt := 18) X.1 X.2.1 d_L_law_490 (by decide) ?_
      exact ih (i + 4, (25 + 5 * (zs_reg q rg (xs (i + 1)) (xs (i + 2))).2.1 0, ad1, E2), (zs_reg q rg (xs (i + 1)) (xs (i + 2))).2.1, (zs_reg q rg (xs (i + 1)) (xs (i + 2))).2.2, ev, sf, lf, fs, fl) _ _ _ ⟨hi4, ⟨rfl, hT, hM, w1, w2, fun j hj => hfs j (Nat.lt_of_lt_of_eq hj w5), fun j hj => hfl j (Nat.lt_of_lt_of_eq hj w7), (fun j => Nat.le_trans (hev j) (by omega))⟩, hH, hl⟩ (by show L - (i + 4) < L - i; omega)
    by_cases t1 : k = 1
    · subst t1
      refine lv_tableIn (off := 109) (tgt := 141) X.1 X.2.1 d_L_law_32 (by decide) (by decide) rfl (by decide) ?_
      obtain ⟨w1, w2⟩ := zs_waits_all (x := xs (i + 1)) (y := xs (i + 2)) (z := xs (i + 3)) hok hv
      refine lv_aload_n X.1 X.2.1 d_L_law_141 rfl (lv_at hl 2 rfl) ?_
      refine lv_aload_n X.1 X.2.1 d_L_law_142 rfl (lv_at hl 3 rfl) ?_
      refine lv_iload_n X.1 X.2.1 d_L_law_143 rfl (lv_at hl 0 rfl) ?_
      refine lv_iconst (v := nI 1) X.1 X.2.1 d_L_law_144 (by decide) ?_
      refine lv_iadd X.1 X.2.1 d_L_law_145 ?_
      refine zx_top (nI_add _ _) ?_
      refine zl_sld (j := i + 1) X hH hX hbl hbA rfl (by omega) (by omega) d_L_law_146 ?_
      refine lv_aload_n X.1 X.2.1 d_L_law_147 rfl (lv_at hl 3 rfl) ?_
      refine lv_iload_n X.1 X.2.1 d_L_law_148 rfl (lv_at hl 0 rfl) ?_
      refine lv_iconst (v := nI 2) X.1 X.2.1 d_L_law_149 (by decide) ?_
      refine lv_iadd X.1 X.2.1 d_L_law_150 ?_
      refine zx_top (nI_add _ _) ?_
      refine zl_sld (j := i + 2) X hH hX hbl hbA rfl (by omega) (by omega) d_L_law_151 ?_
      refine lv_aload_n X.1 X.2.1 d_L_law_152 rfl (lv_at hl 3 rfl) ?_
      refine lv_iload_n X.1 X.2.1 d_L_law_153 rfl (lv_at hl 0 rfl) ?_
      refine lv_iconst (v := nI 3) X.1 X.2.1 d_L_law_154 (by decide) ?_
      refine lv_iadd X.1 X.2.1 d_L_law_155 ?_
      refine zx_top (nI_add _ _) ?_
      refine zl_sld (j := i + 3) X hH hX hbl hbA rfl (by omega) (by omega) d_L_law_156 ?_
      refine zx_calli (zx_runV (As := [.int (xs (i + 1)), .int (xs (i + 2)), .int (xs (i + 3))]) (rest := []) X hH mv_L_18 ((c_X_waits g l N ad E 25 q rg ev sf lf (by decide) hN hT hok (xs (i + 1)) (xs (i + 2)) (xs (i + 3))) _) (by omega) hT.1 rfl ⟨Nat.le_of_ble_eq_true rfl, Nat.le_of_ble_eq_true rfl⟩ rfl hl rfl (Nat.le_of_ble_eq_true rfl) d_L_law_157 ⟨by show _ ≤ 600000; dsimp only; omega, by show _ ≤ 7302250; dsimp only; omega⟩) hH (fun r N1 ad1 E1 H locs hq hH => ?_)
      obtain ⟨rfl, rfl, rfl, hT, hf⟩ := hq
      have hM := hM.keep (E1 := E1) (ad1 := ad) (fun k h1 h2 => hf k h1 h2) (fun _ _ _ => rfl)
      refine lv_aload_n X.1 X.2.1 d_L_law_160 rfl (lv_at hl 1 rfl) ?_
      refine lv_aload_n X.1 X.2.1 d_L_law_161 rfl (lv_at hl 3 rfl) ?_
      refine lv_iload_n X.1 X.2.1 d_L_law_162 rfl (lv_at hl 0 rfl) ?_
      refine lv_iconst (v := nI 1) X.1 X.2.1 d_L_law_163 (by decide) ?_
      refine lv_iadd X.1 X.2.1 d_L_law_164 ?_
      refine zx_top (nI_add _ _) ?_
      refine zl_sld (j := i + 1) X hH hX hbl hbA rfl (by omega) (by omega) d_L_law_165 ?_
      refine lv_aload_n X.1 X.2.1 d_L_law_166 rfl (lv_at hl 3 rfl) ?_
      refine lv_iload_n X.1 X.2.1 d_L_law_167 rfl (lv_at hl 0 rfl) ?_
      refine lv_iconst (v := nI 2) X.1 X.2.1 d_L_law_168 (by decide) ?_
      refine lv_iadd X.1 X.2.1 d_L_law_169 ?_
      refine zx_top (nI_add _ _) ?_
      refine zl_sld (j := i + 2) X hH hX hbl hbA rfl (by omega) (by omega) d_L_law_170 ?_
      refine lv_aload_n X.1 X.2.1 d_L_law_171 rfl (lv_at hl 3 rfl) ?_
      refine lv_iload_n X.1 X.2.1 d_L_law_172 rfl (lv_at hl 0 rfl) ?_
      refine lv_iconst (v := nI 3) X.1 X.2.1 d_L_law_173 (by decide) ?_
      refine lv_iadd X.1 X.2.1 d_L_law_174 ?_
      refine zx_top (nI_add _ _) ?_
      refine zl_sld (j := i + 3) X hH hX hbl hbA rfl (by omega) (by omega) d_L_law_175 ?_
      refine zx_calli (zx_runV (As := [.int (xs (i + 1)), .int (xs (i + 2)), .int (xs (i + 3))]) (rest := [.int (zs_waits q rg (xs (i + 1)) (xs (i + 2)) (xs (i + 3))).1]) X hH mv_L_22 ((c_M_waits g l N ad E1 q rg ev sf fs fl (by omega) hok hv hM (xs (i + 1)) (xs (i + 2)) (xs (i + 3))) _) (by omega) hM.1 rfl ⟨Nat.le_of_ble_eq_true rfl, Nat.le_of_ble_eq_true rfl⟩ rfl hl rfl (Nat.le_of_ble_eq_true rfl) d_L_law_176 ⟨by show _ ≤ 600000; dsimp only; omega, by show _ ≤ 7302250; dsimp only; omega⟩) hH (fun r N2 ad2 E2 H locs hq hH => ?_)
      obtain ⟨rfl, rfl, rfl, hM, hf2⟩ := hq
      refine lv_icmp_eq (tgt := 487) X.1 X.2.1 d_L_law_179 (by decide) (fun _ => ?_) (fun z => absurd rfl z)
      have hT := hT.keep (E1 := E2) (fun k h1 => hf2 k h1)
      refine W.cs (cells' := 25 + 5 * (q) 0 + (q) 4 + (q) 6) (slots' := 9100 + 174 * (q) 0 + 2 * (q) 4 + 2 * (q) 6) (by dsimp only; omega) (by dsimp only; omega) ?_
      refine lv_iinc (v := nI (i + 4)) (lv' := [(3, .int (nI (i + 4))), (2, .ref (ad 8)), (1, .ref (ad 0)), (0, .ref b)]) X.1 X.2.1 d_L_law_487 hl (k := 0) rfl (nI_add _ _) (by decide) rfl (fun ls hl => ?_)
      refine lv_goto (tgt := 18) X.1 X.2.1 d_L_law_490 (by decide) ?_
      exact ih (i + 4, (N, ad, E2), q, (zs_waits q rg (xs (i + 1)) (xs (i + 2)) (xs (i + 3))).2, ev, sf, lf, fs, fl) _ _ _ ⟨hi4, ⟨hN, hT, hM, w1, w2, hfs, hfl, (fun j => Nat.le_trans (hev j) (by omega))⟩, hH, hl⟩ (by show L - (i + 4) < L - i; omega)
    by_cases t2 : k = 2
    · subst t2
      refine lv_tableIn (off := 152) (tgt := 184) X.1 X.2.1 d_L_law_32 (by decide) (by decide) rfl (by decide) ?_
      have w1 := zs_post_all (q := q) (x := (xs (i + 1))) hev
      refine lv_aload_n X.1 X.2.1 d_L_law_184 rfl (lv_at hl 2 rfl) ?_
      refine lv_aload_n X.1 X.2.1 d_L_law_185 rfl (lv_at hl 3 rfl) ?_
      refine lv_iload_n X.1 X.2.1 d_L_law_186 rfl (lv_at hl 0 rfl) ?_
      refine lv_iconst (v := nI 1) X.1 X.2.1 d_L_law_187 (by decide) ?_
      refine lv_iadd X.1 X.2.1 d_L_law_188 ?_
      refine zx_top (nI_add _ _) ?_
      refine zl_sld (j := i + 1) X hH hX hbl hbA rfl (by omega) (by omega) d_L_law_189 ?_
      refine zx_calli (zx_runV (As := [.int (xs (i + 1))]) (rest := []) X hH mv_L_23 ((c_X_post g l N ad E 25 q rg ev sf lf (by decide) hN hT hok (xs (i + 1))) _) (by omega) hT.1 rfl ⟨Nat.le_of_ble_eq_true rfl, Nat.le_of_ble_eq_true rfl⟩ rfl hl rfl (Nat.le_of_ble_eq_true rfl) d_L_law_190 ⟨by show _ ≤ 600000; dsimp only; omega, by show _ ≤ 7302250; dsimp only; omega⟩) hH (fun r N1 ad1 E1 H locs hq hH => ?_)
      obtain ⟨rfl, rfl, rfl, hT, hf⟩ := hq
      have hM := hM.keep (E1 := E1) (ad1 := ad) (fun k h1 h2 => hf k h1 h2) (fun _ _ _ => rfl)
      refine lv_aload_n X.1 X.2.1 d_L_law_193 rfl (lv_at hl 1 rfl) ?_
      refine lv_aload_n X.1 X.2.1 d_L_law_194 rfl (lv_at hl 3 rfl) ?_
      refine lv_iload_n X.1 X.2.1 d_L_law_195 rfl (lv_at hl 0 rfl) ?_
      refine lv_iconst (v := nI 1) X.1 X.2.1 d_L_law_196 (by decide) ?_
      refine lv_iadd X.1 X.2.1 d_L_law_197 ?_
      refine zx_top (nI_add _ _) ?_
      refine zl_sld (j := i + 1) X hH hX hbl hbA rfl (by omega) (by omega) d_L_law_198 ?_
      refine zx_calli (zx_runV (As := [.int (xs (i + 1))]) (rest := [.int (zs_post q ev (xs (i + 1))).1]) X hH mv_L_27 ((c_M_post g l N ad E1 q rg ev sf fs fl (by omega) hok hv hM (xs (i + 1))) _) (by omega) hM.1 rfl ⟨Nat.le_of_ble_eq_true rfl, Nat.le_of_ble_eq_true rfl⟩ rfl hl rfl (Nat.le_of_ble_eq_true rfl) d_L_law_199 ⟨by show _ ≤ 600000; dsimp only; omega, by show _ ≤ 7302250; dsimp only; omega⟩) hH (fun r N2 ad2 E2 H locs hq hH => ?_)
      obtain ⟨rfl, rfl, rfl, hM, hf2⟩ := hq
      refine lv_icmp_eq (tgt := 487) X.1 X.2.1 d_L_law_202 (by decide) (fun _ => ?_) (fun z => absurd rfl z)
      have hT := hT.keep (E1 := E2) (fun k h1 => hf2 k h1)
      refine W.cs (cells' := 25 + 5 * (q) 0 + (q) 4 + (q) 6) (slots' := 9100 + 174 * (q) 0 + 2 * (q) 4 + 2 * (q) 6) (by dsimp only; omega) (by dsimp only; omega) ?_
      refine lv_iinc (v := nI (i + 4)) (lv' := [(3, .int (nI (i + 4))), (2, .ref (ad 8)), (1, .ref (ad 0)), (0, .ref b)]) X.1 X.2.1 d_L_law_487 hl (k := 0) rfl (nI_add _ _) (by decide) rfl (fun ls hl => ?_)
      refine lv_goto (tgt := 18) X.1 X.2.1 d_L_law_490 (by decide) ?_
      exact ih (i + 4, (N, ad, E2), q, rg, (zs_post q ev (xs (i + 1))).2, sf, lf, fs, fl) _ _ _ ⟨hi4, ⟨hN, hT, hM, hok.evs (fun j => Nat.lt_of_le_of_lt (w1 j) (by omega)), hv, hfs, hfl, w1⟩, hH, hl⟩ (by show L - (i + 4) < L - i; omega)
    by_cases t3 : k = 3
    · subst t3
      refine lv_tableIn (off := 175) (tgt := 207) X.1 X.2.1 d_L_law_32 (by decide) (by decide) rfl (by decide) ?_
      obtain ⟨w1, w2, w3, w4, w5, w6⟩ := zs_turn_all (x := (xs (i + 1))) hok hv
      have w7 := w1.1.2.2.2.2.2.1
      refine lv_aload_n X.1 X.2.1 d_L_law_207 rfl (lv_at hl 2 rfl) ?_
      refine lv_aload_n X.1 X.2.1 d_L_law_208 rfl (lv_at hl 3 rfl) ?_
      refine lv_iload_n X.1 X.2.1 d_L_law_209 rfl (lv_at hl 0 rfl) ?_
      refine lv_iconst (v := nI 1) X.1 X.2.1 d_L_law_210 (by decide) ?_
      refine lv_iadd X.1 X.2.1 d_L_law_211 ?_
      refine zx_top (nI_add _ _) ?_
      refine zl_sld (j := i + 1) X hH hX hbl hbA rfl (by omega) (by omega) d_L_law_212 ?_
      refine zx_callv (zx_runV (As := [.int (xs (i + 1))]) (rest := []) X hH mv_L_28 ((c_X_turn g l N ad E 25 q rg ev sf lf (by decide) hN hT hok (xs (i + 1)) ((zs_turn q sf (xs (i + 1))).1 4 - q 4) (2 * ((zs_turn q sf (xs (i + 1))).1 4 - q 4)) (by omega) (by omega)) _) (by omega) hT.1 rfl ⟨Nat.le_of_ble_eq_true rfl, Nat.le_of_ble_eq_true rfl⟩ rfl hl rfl (Nat.le_of_ble_eq_true rfl) d_L_law_213 ⟨by show _ ≤ 600000; dsimp only; omega, by show _ ≤ 7302250; dsimp only; omega⟩) hH (fun N1 ad1 E1 H locs hq hH => ?_)
      obtain ⟨rfl, ha, hT, hf⟩ := hq
      have hM := hM.keep (E1 := E1) (ad1 := ad1) (fun k h1 h2 => hf k h1 h2) (fun k h1 h2 => ha k (by omega) (by omega))
      rw [← ha 0 (by decide) (by omega), ← ha 8 (by decide) (by omega)] at hl
      refine lv_aload_n X.1 X.2.1 d_L_law_216 rfl (lv_at hl 1 rfl) ?_
      refine lv_aload_n X.1 X.2.1 d_L_law_217 rfl (lv_at hl 3 rfl) ?_
      refine lv_iload_n X.1 X.2.1 d_L_law_218 rfl (lv_at hl 0 rfl) ?_
      refine lv_iconst (v := nI 1) X.1 X.2.1 d_L_law_219 (by decide) ?_
      refine lv_iadd X.1 X.2.1 d_L_law_220 ?_
      refine zx_top (nI_add _ _) ?_
      refine zl_sld (j := i + 1) X hH hX hbl hbA rfl (by omega) (by omega) d_L_law_221 ?_
      refine zx_callv (zx_runV (As := [.int (xs (i + 1))]) (rest := []) X hH mv_L_32 ((c_M_turn g l N ad1 E1 q rg ev sf fs fl (by omega) hok hv hM hfs (xs (i + 1))) _) (by omega) hM.1 rfl ⟨Nat.le_of_ble_eq_true rfl, Nat.le_of_ble_eq_true rfl⟩ rfl hl rfl (Nat.le_of_ble_eq_true rfl) d_L_law_222 ⟨by show _ ≤ 600000; dsimp only; omega, by show _ ≤ 7302250; dsimp only; omega⟩) hH (fun N2 ad2 E2 H locs hq hH => ?_)
      obtain ⟨rfl, rfl, ⟨fs1, hM, hfs1⟩, hf2⟩ := hq
      refine lv_goto (tgt := 487) X.1 X.2.1 d_L_law_225 (by decide) ?_
      have hT := hT.keep (E1 := E2) (fun k h1 => hf2 k h1)
      refine W.cs (cells' := 25 + 5 * ((zs_turn q sf (xs (i + 1))).1) 0 + ((zs_turn q sf (xs (i + 1))).1) 4 + ((zs_turn q sf (xs (i + 1))).1) 6) (slots' := 9100 + 174 * ((zs_turn q sf (xs (i + 1))).1) 0 + 2 * ((zs_turn q sf (xs (i + 1))).1) 4 + 2 * ((zs_turn q sf (xs (i + 1))).1) 6) (by dsimp only; omega) (by dsimp only; omega) ?_
      refine lv_iinc (v := nI (i + 4)) (lv' := [(3, .int (nI (i + 4))), (2, .ref (ad1 8)), (1, .ref (ad1 0)), (0, .ref b)]) X.1 X.2.1 d_L_law_487 hl (k := 0) rfl (nI_add _ _) (by decide) rfl (fun ls hl => ?_)
      refine lv_goto (tgt := 18) X.1 X.2.1 d_L_law_490 (by decide) ?_
      exact ih (i + 4, (N, ad1, E2), (zs_turn q sf (xs (i + 1))).1, rg, ev, (zs_turn q sf (xs (i + 1))).2, lf, fs1, fl) _ _ _ ⟨hi4, ⟨by rw [w3]; exact hN, hT, hM, w1, w2, hfs1, fun j hj => hfl j (Nat.lt_of_lt_of_eq hj w4), (fun j => Nat.le_trans (hev j) (by omega))⟩, hH, hl⟩ (by show L - (i + 4) < L - i; omega)
    by_cases t4 : k = 4
    · subst t4
      refine lv_tableIn (off := 196) (tgt := 228) X.1 X.2.1 d_L_law_32 (by decide) (by decide) rfl (by decide) ?_
      refine lv_aload_n X.1 X.2.1 d_L_law_228 rfl (lv_at hl 2 rfl) ?_
      by_cases hop : q 2 = 0
      · obtain ⟨w0, w2, w3, w4, w6, w7⟩ := zp_runs_fix sf (q 3) 0 (q, rg, ev, lf) 0
        have u1 := zt_ok.runs (sf := sf) (q 3) 0 (q, rg, ev, lf) 0 (by dsimp only; omega) hok
        have u2 := zs_inv.runs (sf := sf) (q 3) 0 (q, rg, ev, lf) 0 (by dsimp only; omega) hok hv
        have u3 := zp_runs_ev sf (q 3) 0 (q, rg, ev, lf) 0
        obtain ⟨G, hG⟩ : ∃ G, zp_runs sf (q 3) 0 (q, rg, ev, lf) 0 = G := ⟨_, rfl⟩
        rw [hG] at w0 w2 w3 w4 w6 w7 u1 u2 u3
        dsimp only at w0 w2 w3 w4 w6 w7 u3
        have u4 := u1.1.2.2.2.2.2.2.2.2.2
        refine zx_calli (zx_runV (As := []) (rest := []) X hH mv_L_33 ((c_X_run g l N ad E 25 q rg ev sf lf (by decide) hN hT hok (G.1.1 6 - q 6) (2 * (G.1.1 6 - q 6)) (by rw [hG]; omega) (by rw [hG]; omega) hop) _) (by omega) hT.1 rfl ⟨Nat.le_of_ble_eq_true rfl, Nat.le_of_ble_eq_true rfl⟩ rfl hl rfl (Nat.le_of_ble_eq_true rfl) d_L_law_229 ⟨by show _ ≤ 600000; dsimp only; omega, by show _ ≤ 7302250; dsimp only; omega⟩) hH (fun r N1 ad1 E1 H locs hq hH => ?_)
        obtain ⟨rfl, ha, rfl, hT, hf⟩ := hq
        rw [hG] at hT
        refine zx_top (b := nI G.2) (by rw [hG]) ?_
        have hM := hM.keep (E1 := E1) (ad1 := ad1) (fun k h1 h2 => hf k h1 h2) (fun k h1 h2 => ha k (by omega) (by omega))
        rw [← ha 0 (by decide) (by omega), ← ha 8 (by decide) (by omega)] at hl
        refine lv_aload_n X.1 X.2.1 d_L_law_232 rfl (lv_at hl 1 rfl) ?_
        refine zx_calli (zx_runV (As := []) (rest := [.int (nI G.2)]) X hH mv_L_37 ((c_M_run g l N ad1 E1 q rg ev sf fs fl (by omega) hok hv hM lf hfs hfl hop) _) (by omega) hM.1 rfl ⟨Nat.le_of_ble_eq_true rfl, Nat.le_of_ble_eq_true rfl⟩ rfl hl rfl (Nat.le_of_ble_eq_true rfl) d_L_law_233 ⟨by show _ ≤ 600000; dsimp only; omega, by show _ ≤ 7302250; dsimp only; omega⟩) hH (fun r N2 ad2 E2 H locs hq hH => ?_)
        obtain ⟨rfl, rfl, rfl, ⟨fl1, hM, hfl1⟩, hf2⟩ := hq
        rw [hG] at hM hfl1
        refine zx_top (b := nI G.2) (by rw [hG]) ?_
        refine lv_icmp_eq (tgt := 487) X.1 X.2.1 d_L_law_236 (by decide) (fun _ => ?_) (fun z => absurd rfl z)
        have hT := hT.keep (E1 := E2) (fun k h1 => hf2 k h1)
        refine W.cs (cells' := 25 + 5 * ((va_up G.1.1 3 0)) 0 + ((va_up G.1.1 3 0)) 4 + ((va_up G.1.1 3 0)) 6) (slots' := 9100 + 174 * ((va_up G.1.1 3 0)) 0 + 2 * ((va_up G.1.1 3 0)) 4 + 2 * ((va_up G.1.1 3 0)) 6) (by show _ = 25 + 5 * G.1.1 0 + G.1.1 4 + G.1.1 6; dsimp only; omega) (by show _ = 9100 + 174 * G.1.1 0 + 2 * G.1.1 4 + 2 * G.1.1 6; dsimp only; omega) ?_
        refine lv_iinc (v := nI (i + 4)) (lv' := [(3, .int (nI (i + 4))), (2, .ref (ad1 8)), (1, .ref (ad1 0)), (0, .ref b)]) X.1 X.2.1 d_L_law_487 hl (k := 0) rfl (nI_add _ _) (by decide) rfl (fun ls hl => ?_)
        refine lv_goto (tgt := 18) X.1 X.2.1 d_L_law_490 (by decide) ?_
        exact ih (i + 4, (N, ad1, E2), (va_up G.1.1 3 0), G.1.2.1, G.1.2.2.1, sf, G.1.2.2.2, fs, fl1) _ _ _ ⟨hi4, ⟨by show N = 25 + 5 * G.1.1 0; rw [w0]; exact hN, hT, hM, u1.clr, u2.q rfl rfl, fun j hj => absurd (show j < 0 from hj) (Nat.not_lt_zero _), hfl1, fun j => Nat.le_trans (Nat.le_trans (u3 j) (hev j)) (by omega)⟩, hH, hl⟩ (by show L - (i + 4) < L - i; omega)
      · skip
        refine zx_calli (zx_runV (As := []) (rest := []) X hH mv_L_33 ((c_X_run_off g l N ad E 25 q rg ev sf lf (by decide) hN hT hok hop) _) (by omega) hT.1 rfl ⟨Nat.le_of_ble_eq_true rfl, Nat.le_of_ble_eq_true rfl⟩ rfl hl rfl (Nat.le_of_ble_eq_true rfl) d_L_law_229 ⟨by show _ ≤ 600000; dsimp only; omega, by show _ ≤ 7302250; dsimp only; omega⟩) hH (fun r N1 ad1 E1 H locs hq hH => ?_)
        obtain ⟨rfl, rfl, rfl, rfl⟩ := hq
        refine lv_aload_n X.1 X.2.1 d_L_law_232 rfl (lv_at hl 1 rfl) ?_
        refine zx_calli (zx_runV (As := []) (rest := [.int (-5)]) X hH mv_L_37 ((c_M_run_off g l N ad E q rg ev sf fs fl (by omega) hok hv hM hop) _) (by omega) hM.1 rfl ⟨Nat.le_of_ble_eq_true rfl, Nat.le_of_ble_eq_true rfl⟩ rfl hl rfl (Nat.le_of_ble_eq_true rfl) d_L_law_233 ⟨by show _ ≤ 600000; dsimp only; omega, by show _ ≤ 7302250; dsimp only; omega⟩) hH (fun r N1 ad1 E1 H locs hq hH => ?_)
        obtain ⟨rfl, rfl, rfl, rfl⟩ := hq
        refine lv_icmp_eq (tgt := 487) X.1 X.2.1 d_L_law_236 (by decide) (fun _ => ?_) (fun z => absurd rfl z)
        refine W.cs (cells' := 25 + 5 * (q) 0 + (q) 4 + (q) 6) (slots' := 9100 + 174 * (q) 0 + 2 * (q) 4 + 2 * (q) 6) (by dsimp only; omega) (by dsimp only; omega) ?_
        refine lv_iinc (v := nI (i + 4)) (lv' := [(3, .int (nI (i + 4))), (2, .ref (ad 8)), (1, .ref (ad 0)), (0, .ref b)]) X.1 X.2.1 d_L_law_487 hl (k := 0) rfl (nI_add _ _) (by decide) rfl (fun ls hl => ?_)
        refine lv_goto (tgt := 18) X.1 X.2.1 d_L_law_490 (by decide) ?_
        exact ih (i + 4, (N, ad, E), q, rg, ev, sf, lf, fs, fl) _ _ _ ⟨hi4, ⟨hN, hT, hM, hok, hv, hfs, hfl, (fun j => Nat.le_trans (hev j) (by omega))⟩, hH, hl⟩ (by show L - (i + 4) < L - i; omega)
    by_cases t5 : k = 5
    · subst t5
      refine lv_tableIn (off := 209) (tgt := 241) X.1 X.2.1 d_L_law_32 (by decide) (by decide) rfl (by decide) ?_
      refine lv_aload_n X.1 X.2.1 d_L_law_241 rfl (lv_at hl 2 rfl) ?_
      refine lv_aload_n X.1 X.2.1 d_L_law_242 rfl (lv_at hl 3 rfl) ?_
      refine lv_iload_n X.1 X.2.1 d_L_law_243 rfl (lv_at hl 0 rfl) ?_
      refine lv_iconst (v := nI 1) X.1 X.2.1 d_L_law_244 (by decide) ?_
      refine lv_iadd X.1 X.2.1 d_L_law_245 ?_
      refine zx_top (nI_add _ _) ?_
      refine zl_sld (j := i + 1) X hH hX hbl hbA rfl (by omega) (by omega) d_L_law_246 ?_
      refine zx_calli (zx_runV (As := [.int (xs (i + 1))]) (rest := []) X hH mv_L_38 ((c_X_log g l N ad E 25 q rg ev sf lf (by decide) hN hT hok (xs (i + 1))) _) (by omega) hT.1 rfl ⟨Nat.le_of_ble_eq_true rfl, Nat.le_of_ble_eq_true rfl⟩ rfl hl rfl (Nat.le_of_ble_eq_true rfl) d_L_law_247 ⟨by show _ ≤ 600000; dsimp only; omega, by show _ ≤ 7302250; dsimp only; omega⟩) hH (fun r N1 ad1 E1 H locs hq hH => ?_)
      obtain ⟨rfl, rfl, rfl, rfl⟩ := hq
      refine lv_aload_n X.1 X.2.1 d_L_law_250 rfl (lv_at hl 1 rfl) ?_
      refine lv_aload_n X.1 X.2.1 d_L_law_251 rfl (lv_at hl 3 rfl) ?_
      refine lv_iload_n X.1 X.2.1 d_L_law_252 rfl (lv_at hl 0 rfl) ?_
      refine lv_iconst (v := nI 1) X.1 X.2.1 d_L_law_253 (by decide) ?_
      refine lv_iadd X.1 X.2.1 d_L_law_254 ?_
      refine zx_top (nI_add _ _) ?_
      refine zl_sld (j := i + 1) X hH hX hbl hbA rfl (by omega) (by omega) d_L_law_255 ?_
      refine zx_calli (zx_runV (As := [.int (xs (i + 1))]) (rest := [.int (nI (if 0 ≤ (xs (i + 1)).toInt ∧ (xs (i + 1)).toInt < (q 5 : Int) then lf (xs (i + 1)).toInt.toNat else 0))]) X hH mv_L_41 ((c_M_log g l N ad E q rg ev sf fs fl (by omega) hok hv hM (xs (i + 1))) _) (by omega) hM.1 rfl ⟨Nat.le_of_ble_eq_true rfl, Nat.le_of_ble_eq_true rfl⟩ rfl hl rfl (Nat.le_of_ble_eq_true rfl) d_L_law_256 ⟨by show _ ≤ 600000; dsimp only; omega, by show _ ≤ 7302250; dsimp only; omega⟩) hH (fun r N1 ad1 E1 H locs hq hH => ?_)
      obtain ⟨rfl, rfl, rfl, rfl⟩ := hq
      refine lv_icmp_eq (tgt := 487) X.1 X.2.1 d_L_law_259 (by decide) (fun _ => ?_) (fun z => absurd (by by_cases dz : 0 ≤ (xs (i + 1)).toInt ∧ (xs (i + 1)).toInt < (q 5 : Int); rw [if_pos dz, if_pos dz, hfl _ (by omega)]; rw [if_neg dz, if_neg dz]) z)
      refine W.cs (cells' := 25 + 5 * (q) 0 + (q) 4 + (q) 6) (slots' := 9100 + 174 * (q) 0 + 2 * (q) 4 + 2 * (q) 6) (by dsimp only; omega) (by dsimp only; omega) ?_
      refine lv_iinc (v := nI (i + 4)) (lv' := [(3, .int (nI (i + 4))), (2, .ref (ad 8)), (1, .ref (ad 0)), (0, .ref b)]) X.1 X.2.1 d_L_law_487 hl (k := 0) rfl (nI_add _ _) (by decide) rfl (fun ls hl => ?_)
      refine lv_goto (tgt := 18) X.1 X.2.1 d_L_law_490 (by decide) ?_
      exact ih (i + 4, (N, ad, E), q, rg, ev, sf, lf, fs, fl) _ _ _ ⟨hi4, ⟨hN, hT, hM, hok, hv, hfs, hfl, (fun j => Nat.le_trans (hev j) (by omega))⟩, hH, hl⟩ (by show L - (i + 4) < L - i; omega)
    by_cases t6 : k = 6
    · subst t6
      refine lv_tableIn (off := 232) (tgt := 264) X.1 X.2.1 d_L_law_32 (by decide) (by decide) rfl (by decide) ?_
      obtain ⟨w1, w2⟩ := zs_can_all (x := xs (i + 1)) hok hv
      refine lv_aload_n X.1 X.2.1 d_L_law_264 rfl (lv_at hl 2 rfl) ?_
      refine lv_aload_n X.1 X.2.1 d_L_law_265 rfl (lv_at hl 3 rfl) ?_
      refine lv_iload_n X.1 X.2.1 d_L_law_266 rfl (lv_at hl 0 rfl) ?_
      refine lv_iconst (v := nI 1) X.1 X.2.1 d_L_law_267 (by decide) ?_
      refine lv_iadd X.1 X.2.1 d_L_law_268 ?_
      refine zx_top (nI_add _ _) ?_
      refine zl_sld (j := i + 1) X hH hX hbl hbA rfl (by omega) (by omega) d_L_law_269 ?_
      refine zx_calli (zx_runV (As := [.int (xs (i + 1))]) (rest := []) X hH mv_L_42 ((c_X_cancel g l N ad E 25 q rg ev sf lf (by decide) hN hT hok (xs (i + 1))) _) (by omega) hT.1 rfl ⟨Nat.le_of_ble_eq_true rfl, Nat.le_of_ble_eq_true rfl⟩ rfl hl rfl (Nat.le_of_ble_eq_true rfl) d_L_law_270 ⟨by show _ ≤ 600000; dsimp only; omega, by show _ ≤ 7302250; dsimp only; omega⟩) hH (fun r N1 ad1 E1 H locs hq hH => ?_)
      obtain ⟨rfl, rfl, rfl, hT, hf⟩ := hq
      have hM := hM.keep (E1 := E1) (ad1 := ad) (fun k h1 h2 => hf k h1 h2) (fun _ _ _ => rfl)
      refine lv_aload_n X.1 X.2.1 d_L_law_273 rfl (lv_at hl 1 rfl) ?_
      refine lv_aload_n X.1 X.2.1 d_L_law_274 rfl (lv_at hl 3 rfl) ?_
      refine lv_iload_n X.1 X.2.1 d_L_law_275 rfl (lv_at hl 0 rfl) ?_
      refine lv_iconst (v := nI 1) X.1 X.2.1 d_L_law_276 (by decide) ?_
      refine lv_iadd X.1 X.2.1 d_L_law_277 ?_
      refine zx_top (nI_add _ _) ?_
      refine zl_sld (j := i + 1) X hH hX hbl hbA rfl (by omega) (by omega) d_L_law_278 ?_
      refine zx_calli (zx_runV (As := [.int (xs (i + 1))]) (rest := [.int (zs_can q rg (xs (i + 1))).1]) X hH mv_L_46 ((c_M_cancel g l N ad E1 q rg ev sf fs fl (by omega) hok hv hM (xs (i + 1))) _) (by omega) hM.1 rfl ⟨Nat.le_of_ble_eq_true rfl, Nat.le_of_ble_eq_true rfl⟩ rfl hl rfl (Nat.le_of_ble_eq_true rfl) d_L_law_279 ⟨by show _ ≤ 600000; dsimp only; omega, by show _ ≤ 7302250; dsimp only; omega⟩) hH (fun r N2 ad2 E2 H locs hq hH => ?_)
      obtain ⟨rfl, rfl, rfl, hM, hf2⟩ := hq
      refine lv_icmp_eq (tgt := 487) X.1 X.2.1 d_L_law_282 (by decide) (fun _ => ?_) (fun z => absurd rfl z)
      have hT := hT.keep (E1 := E2) (fun k h1 => hf2 k h1)
      refine W.cs (cells' := 25 + 5 * (q) 0 + (q) 4 + (q) 6) (slots' := 9100 + 174 * (q) 0 + 2 * (q) 4 + 2 * (q) 6) (by dsimp only; omega) (by dsimp only; omega) ?_
      refine lv_iinc (v := nI (i + 4)) (lv' := [(3, .int (nI (i + 4))), (2, .ref (ad 8)), (1, .ref (ad 0)), (0, .ref b)]) X.1 X.2.1 d_L_law_487 hl (k := 0) rfl (nI_add _ _) (by decide) rfl (fun ls hl => ?_)
      refine lv_goto (tgt := 18) X.1 X.2.1 d_L_law_490 (by decide) ?_
      exact ih (i + 4, (N, ad, E2), q, (zs_can q rg (xs (i + 1))).2, ev, sf, lf, fs, fl) _ _ _ ⟨hi4, ⟨hN, hT, hM, w1, w2, hfs, hfl, (fun j => Nat.le_trans (hev j) (by omega))⟩, hH, hl⟩ (by show L - (i + 4) < L - i; omega)
    by_cases t7 : k = 7
    · subst t7
      refine lv_tableIn (off := 255) (tgt := 287) X.1 X.2.1 d_L_law_32 (by decide) (by decide) rfl (by decide) ?_
      refine lv_aload_n X.1 X.2.1 d_L_law_287 rfl (lv_at hl 2 rfl) ?_
      refine lv_aload_n X.1 X.2.1 d_L_law_288 rfl (lv_at hl 3 rfl) ?_
      refine lv_iload_n X.1 X.2.1 d_L_law_289 rfl (lv_at hl 0 rfl) ?_
      refine lv_iconst (v := nI 1) X.1 X.2.1 d_L_law_290 (by decide) ?_
      refine lv_iadd X.1 X.2.1 d_L_law_291 ?_
      refine zx_top (nI_add _ _) ?_
      refine zl_sld (j := i + 1) X hH hX hbl hbA rfl (by omega) (by omega) d_L_law_292 ?_
      refine zx_calli (zx_runV (As := [.int (xs (i + 1))]) (rest := []) X hH mv_L_47 ((c_X_cleaned g l N ad E 25 q rg ev sf lf (by decide) hN hT hok (xs (i + 1))) _) (by omega) hT.1 rfl ⟨Nat.le_of_ble_eq_true rfl, Nat.le_of_ble_eq_true rfl⟩ rfl hl rfl (Nat.le_of_ble_eq_true rfl) d_L_law_293 ⟨by show _ ≤ 600000; dsimp only; omega, by show _ ≤ 7302250; dsimp only; omega⟩) hH (fun r N1 ad1 E1 H locs hq hH => ?_)
      obtain ⟨rfl, rfl, rfl, rfl⟩ := hq
      refine lv_aload_n X.1 X.2.1 d_L_law_296 rfl (lv_at hl 1 rfl) ?_
      refine lv_aload_n X.1 X.2.1 d_L_law_297 rfl (lv_at hl 3 rfl) ?_
      refine lv_iload_n X.1 X.2.1 d_L_law_298 rfl (lv_at hl 0 rfl) ?_
      refine lv_iconst (v := nI 1) X.1 X.2.1 d_L_law_299 (by decide) ?_
      refine lv_iadd X.1 X.2.1 d_L_law_300 ?_
      refine zx_top (nI_add _ _) ?_
      refine zl_sld (j := i + 1) X hH hX hbl hbA rfl (by omega) (by omega) d_L_law_301 ?_
      refine zx_calli (zx_runV (As := [.int (xs (i + 1))]) (rest := [.int (if 1 ≤ (xs (i + 1)).toInt ∧ (xs (i + 1)).toInt ≤ (q 0 : Int) then nI ((rg ((xs (i + 1)).toInt.toNat - 1)).1 6) else -2)]) X hH mv_L_50 ((c_M_cleaned g l N ad E q rg ev sf fs fl (by omega) hok hv hM (xs (i + 1))) _) (by omega) hM.1 rfl ⟨Nat.le_of_ble_eq_true rfl, Nat.le_of_ble_eq_true rfl⟩ rfl hl rfl (Nat.le_of_ble_eq_true rfl) d_L_law_302 ⟨by show _ ≤ 600000; dsimp only; omega, by show _ ≤ 7302250; dsimp only; omega⟩) hH (fun r N1 ad1 E1 H locs hq hH => ?_)
      obtain ⟨rfl, rfl, rfl, rfl⟩ := hq
      refine lv_icmp_eq (tgt := 487) X.1 X.2.1 d_L_law_305 (by decide) (fun _ => ?_) (fun z => absurd rfl z)
      refine W.cs (cells' := 25 + 5 * (q) 0 + (q) 4 + (q) 6) (slots' := 9100 + 174 * (q) 0 + 2 * (q) 4 + 2 * (q) 6) (by dsimp only; omega) (by dsimp only; omega) ?_
      refine lv_iinc (v := nI (i + 4)) (lv' := [(3, .int (nI (i + 4))), (2, .ref (ad 8)), (1, .ref (ad 0)), (0, .ref b)]) X.1 X.2.1 d_L_law_487 hl (k := 0) rfl (nI_add _ _) (by decide) rfl (fun ls hl => ?_)
      refine lv_goto (tgt := 18) X.1 X.2.1 d_L_law_490 (by decide) ?_
      exact ih (i + 4, (N, ad, E), q, rg, ev, sf, lf, fs, fl) _ _ _ ⟨hi4, ⟨hN, hT, hM, hok, hv, hfs, hfl, (fun j => Nat.le_trans (hev j) (by omega))⟩, hH, hl⟩ (by show L - (i + 4) < L - i; omega)
    by_cases t8 : k = 8
    · subst t8
      refine lv_tableIn (off := 278) (tgt := 310) X.1 X.2.1 d_L_law_32 (by decide) (by decide) rfl (by decide) ?_
      refine lv_aload_n X.1 X.2.1 d_L_law_310 rfl (lv_at hl 2 rfl) ?_
      refine lv_aload_n X.1 X.2.1 d_L_law_311 rfl (lv_at hl 3 rfl) ?_
      refine lv_iload_n X.1 X.2.1 d_L_law_312 rfl (lv_at hl 0 rfl) ?_
      refine lv_iconst (v := nI 1) X.1 X.2.1 d_L_law_313 (by decide) ?_
      refine lv_iadd X.1 X.2.1 d_L_law_314 ?_
      refine zx_top (nI_add _ _) ?_
      refine zl_sld (j := i + 1) X hH hX hbl hbA rfl (by omega) (by omega) d_L_law_315 ?_
      refine zx_calli (zx_runV (As := [.int (xs (i + 1))]) (rest := []) X hH mv_L_51 ((c_X_backed g l N ad E 25 q rg ev sf lf (by decide) hN hT hok (xs (i + 1))) _) (by omega) hT.1 rfl ⟨Nat.le_of_ble_eq_true rfl, Nat.le_of_ble_eq_true rfl⟩ rfl hl rfl (Nat.le_of_ble_eq_true rfl) d_L_law_316 ⟨by show _ ≤ 600000; dsimp only; omega, by show _ ≤ 7302250; dsimp only; omega⟩) hH (fun r N1 ad1 E1 H locs hq hH => ?_)
      obtain ⟨rfl, rfl, rfl, rfl⟩ := hq
      refine lv_aload_n X.1 X.2.1 d_L_law_319 rfl (lv_at hl 1 rfl) ?_
      refine lv_aload_n X.1 X.2.1 d_L_law_320 rfl (lv_at hl 3 rfl) ?_
      refine lv_iload_n X.1 X.2.1 d_L_law_321 rfl (lv_at hl 0 rfl) ?_
      refine lv_iconst (v := nI 1) X.1 X.2.1 d_L_law_322 (by decide) ?_
      refine lv_iadd X.1 X.2.1 d_L_law_323 ?_
      refine zx_top (nI_add _ _) ?_
      refine zl_sld (j := i + 1) X hH hX hbl hbA rfl (by omega) (by omega) d_L_law_324 ?_
      refine zx_calli (zx_runV (As := [.int (xs (i + 1))]) (rest := [.int (if 1 ≤ (xs (i + 1)).toInt ∧ (xs (i + 1)).toInt ≤ (q 0 : Int) then nI ((rg ((xs (i + 1)).toInt.toNat - 1)).1 5) else -2)]) X hH mv_L_54 ((c_M_backed g l N ad E q rg ev sf fs fl (by omega) hok hv hM (xs (i + 1))) _) (by omega) hM.1 rfl ⟨Nat.le_of_ble_eq_true rfl, Nat.le_of_ble_eq_true rfl⟩ rfl hl rfl (Nat.le_of_ble_eq_true rfl) d_L_law_325 ⟨by show _ ≤ 600000; dsimp only; omega, by show _ ≤ 7302250; dsimp only; omega⟩) hH (fun r N1 ad1 E1 H locs hq hH => ?_)
      obtain ⟨rfl, rfl, rfl, rfl⟩ := hq
      refine lv_icmp_eq (tgt := 487) X.1 X.2.1 d_L_law_328 (by decide) (fun _ => ?_) (fun z => absurd rfl z)
      refine W.cs (cells' := 25 + 5 * (q) 0 + (q) 4 + (q) 6) (slots' := 9100 + 174 * (q) 0 + 2 * (q) 4 + 2 * (q) 6) (by dsimp only; omega) (by dsimp only; omega) ?_
      refine lv_iinc (v := nI (i + 4)) (lv' := [(3, .int (nI (i + 4))), (2, .ref (ad 8)), (1, .ref (ad 0)), (0, .ref b)]) X.1 X.2.1 d_L_law_487 hl (k := 0) rfl (nI_add _ _) (by decide) rfl (fun ls hl => ?_)
      refine lv_goto (tgt := 18) X.1 X.2.1 d_L_law_490 (by decide) ?_
      exact ih (i + 4, (N, ad, E), q, rg, ev, sf, lf, fs, fl) _ _ _ ⟨hi4, ⟨hN, hT, hM, hok, hv, hfs, hfl, (fun j => Nat.le_trans (hev j) (by omega))⟩, hH, hl⟩ (by show L - (i + 4) < L - i; omega)
    by_cases t9 : k = 9
    · subst t9
      refine lv_tableIn (off := 301) (tgt := 333) X.1 X.2.1 d_L_law_32 (by decide) (by decide) rfl (by decide) ?_
      refine lv_aload_n X.1 X.2.1 d_L_law_333 rfl (lv_at hl 2 rfl) ?_
      refine lv_aload_n X.1 X.2.1 d_L_law_334 rfl (lv_at hl 3 rfl) ?_
      refine lv_iload_n X.1 X.2.1 d_L_law_335 rfl (lv_at hl 0 rfl) ?_
      refine lv_iconst (v := nI 1) X.1 X.2.1 d_L_law_336 (by decide) ?_
      refine lv_iadd X.1 X.2.1 d_L_law_337 ?_
      refine zx_top (nI_add _ _) ?_
      refine zl_sld (j := i + 1) X hH hX hbl hbA rfl (by omega) (by omega) d_L_law_338 ?_
      by_cases hb0 : xs (i + 1) = 0
      · refine lv_if_eq (tgt := 346) X.1 X.2.1 d_L_law_339 (by decide) (fun _ => ?_) (fun z => absurd hb0 z)
        refine lv_iconst (v := nI 0) X.1 X.2.1 d_L_law_346 (by decide) ?_
        by_cases hop : q 2 = 0
        · obtain ⟨w0, w1, w2, w3, w4, w6⟩ := zp_rnds_fix (q 0) 3031 ((va_up q 3 0), rg, ev, lf)
          have u1 := zt_ok.rnds (sf := sf) (q 0) 3031 ((va_up q 3 0), rg, ev, lf) (Nat.le_refl _) hok.clr
          have u2 := zs_inv.rnds (sf := sf) (q 0) 3031 ((va_up q 3 0), rg, ev, lf) (Nat.le_refl _) hok.clr (hv.q rfl rfl)
          have u3 := zp_rnds_ev (q 0) 3031 ((va_up q 3 0), rg, ev, lf)
          obtain ⟨G, hG⟩ : ∃ G, zp_rnds (q 0) 3031 ((va_up q 3 0), rg, ev, lf) = G := ⟨_, rfl⟩
          rw [hG] at w0 w1 w2 w3 w4 w6 u1 u2 u3
          have w0 : G.1 0 = q 0 := w0
          have w3 : G.1 3 = 0 := w3
          have w4 : G.1 4 = q 4 := w4
          have w6 : q 6 ≤ G.1 6 := w6
          have u4 := u1.1.2.2.2.2.2.2.2.2.2
          refine zx_calli (zx_runV (As := [.int (nI 0)]) (rest := []) X hH mv_L_55 ((c_X_slow g l N ad E 25 q rg ev sf lf (by decide) hN hT hok hop (G.1 6 - q 6) (2 * (G.1 6 - q 6)) (by rw [hG]; omega) (by rw [hG]; omega)) _) (by omega) hT.1 rfl ⟨Nat.le_of_ble_eq_true rfl, Nat.le_of_ble_eq_true rfl⟩ rfl hl rfl (Nat.le_of_ble_eq_true rfl) d_L_law_347 ⟨by show _ ≤ 600000; dsimp only; omega, by show _ ≤ 7302250; dsimp only; omega⟩) hH (fun r N1 ad1 E1 H locs hq hH => ?_)
          obtain ⟨rfl, ha, rfl, hT, hf⟩ := hq
          rw [hG] at hT
          refine zx_top (b := nI (zp_cnt (fun i => decide (((zp_map zp_canc G.2.1 (q 0)) i).1 2 = 0 ∧ 0 < ((zp_map zp_canc G.2.1 (q 0)) i).1 3 - ((zp_map zp_canc G.2.1 (q 0)) i).1 4)) (q 0))) (by rw [hG]) ?_
          have hM := hM.keep (E1 := E1) (ad1 := ad1) (fun k h1 h2 => hf k h1 h2) (fun k h1 h2 => ha k (by omega) (by omega))
          rw [← ha 0 (by decide) (by omega), ← ha 8 (by decide) (by omega)] at hl
          refine lv_aload_n X.1 X.2.1 d_L_law_350 rfl (lv_at hl 1 rfl) ?_
          refine lv_aload_n X.1 X.2.1 d_L_law_351 rfl (lv_at hl 3 rfl) ?_
          refine lv_iload_n X.1 X.2.1 d_L_law_352 rfl (lv_at hl 0 rfl) ?_
          refine lv_iconst (v := nI 1) X.1 X.2.1 d_L_law_353 (by decide) ?_
          refine lv_iadd X.1 X.2.1 d_L_law_354 ?_
          refine zx_top (nI_add _ _) ?_
          refine zl_sld (j := i + 1) X hH hX hbl hbA rfl (by omega) (by omega) d_L_law_355 ?_
          refine lv_if_eq (tgt := 363) X.1 X.2.1 d_L_law_356 (by decide) (fun _ => ?_) (fun z => absurd hb0 z)
          refine lv_iconst (v := nI 0) X.1 X.2.1 d_L_law_363 (by decide) ?_
          refine zx_calli (zx_runV (As := [.int (nI 0)]) (rest := [.int (nI (zp_cnt (fun i => decide (((zp_map zp_canc G.2.1 (q 0)) i).1 2 = 0 ∧ 0 < ((zp_map zp_canc G.2.1 (q 0)) i).1 3 - ((zp_map zp_canc G.2.1 (q 0)) i).1 4)) (q 0)))]) X hH mv_L_59 ((c_M_slow g l N ad1 E1 q rg ev sf fs fl (by omega) hok hv hM lf hfs hfl hop) _) (by omega) hM.1 rfl ⟨Nat.le_of_ble_eq_true rfl, Nat.le_of_ble_eq_true rfl⟩ rfl hl rfl (Nat.le_of_ble_eq_true rfl) d_L_law_364 ⟨by show _ ≤ 600000; dsimp only; omega, by show _ ≤ 7302250; dsimp only; omega⟩) hH (fun r N2 ad2 E2 H locs hq hH => ?_)
          obtain ⟨rfl, rfl, rfl, ⟨fl1, hM, hfl1⟩, hf2⟩ := hq
          rw [hG] at hM hfl1
          refine zx_top (b := nI (zp_cnt (fun i => decide (((zp_map zp_canc G.2.1 (q 0)) i).1 2 = 0 ∧ 0 < ((zp_map zp_canc G.2.1 (q 0)) i).1 3 - ((zp_map zp_canc G.2.1 (q 0)) i).1 4)) (q 0))) (by rw [hG]) ?_
          refine lv_icmp_eq (tgt := 487) X.1 X.2.1 d_L_law_367 (by decide) (fun _ => ?_) (fun z => absurd rfl z)
          have hT := hT.keep (E1 := E2) (fun k h1 => hf2 k h1)
          have y1 := (u1.map (fun _ h => zr_ok.canc h) (q 0)).map (fun _ h => zr_ok.left h) (q 0)
          have y2 := (u2.map (fun _ h => zs_r.canc h) zp_canc_3).map (fun _ h => zs_r.left h) zp_left_3
          rw [w0] at y2
          refine W.cs (cells' := 25 + 5 * (G.1) 0 + (G.1) 4 + (G.1) 6) (slots' := 9100 + 174 * (G.1) 0 + 2 * (G.1) 4 + 2 * (G.1) 6) (by dsimp only; omega) (by dsimp only; omega) ?_
          refine lv_iinc (v := nI (i + 4)) (lv' := [(3, .int (nI (i + 4))), (2, .ref (ad1 8)), (1, .ref (ad1 0)), (0, .ref b)]) X.1 X.2.1 d_L_law_487 hl (k := 0) rfl (nI_add _ _) (by decide) rfl (fun ls hl => ?_)
          refine lv_goto (tgt := 18) X.1 X.2.1 d_L_law_490 (by decide) ?_
          exact ih (i + 4, (N, ad1, E2), G.1, (zp_map zp_left (zp_map zp_canc G.2.1 (q 0)) (q 0)), G.2.2.1, sf, G.2.2.2, fs, fl1) _ _ _ ⟨hi4, ⟨by rw [w0]; exact hN, hT, hM, y1, y2, fun j hj => absurd (Nat.lt_of_lt_of_eq hj w3) (Nat.not_lt_zero _), hfl1, fun j => Nat.le_trans (Nat.le_trans (u3 j) (hev j)) (by omega)⟩, hH, hl⟩ (by show L - (i + 4) < L - i; omega)
        · skip
          refine zx_calli (zx_runV (As := [.int (nI 0)]) (rest := []) X hH mv_L_55 ((c_X_shutdown_off g l N ad E 25 q rg ev sf lf (by decide) hN hT hok hop 0) _) (by omega) hT.1 rfl ⟨Nat.le_of_ble_eq_true rfl, Nat.le_of_ble_eq_true rfl⟩ rfl hl rfl (Nat.le_of_ble_eq_true rfl) d_L_law_347 ⟨by show _ ≤ 600000; dsimp only; omega, by show _ ≤ 7302250; dsimp only; omega⟩) hH (fun r N1 ad1 E1 H locs hq hH => ?_)
          obtain ⟨rfl, rfl, rfl, rfl⟩ := hq
          refine lv_aload_n X.1 X.2.1 d_L_law_350 rfl (lv_at hl 1 rfl) ?_
          refine lv_aload_n X.1 X.2.1 d_L_law_351 rfl (lv_at hl 3 rfl) ?_
          refine lv_iload_n X.1 X.2.1 d_L_law_352 rfl (lv_at hl 0 rfl) ?_
          refine lv_iconst (v := nI 1) X.1 X.2.1 d_L_law_353 (by decide) ?_
          refine lv_iadd X.1 X.2.1 d_L_law_354 ?_
          refine zx_top (nI_add _ _) ?_
          refine zl_sld (j := i + 1) X hH hX hbl hbA rfl (by omega) (by omega) d_L_law_355 ?_
          refine lv_if_eq (tgt := 363) X.1 X.2.1 d_L_law_356 (by decide) (fun _ => ?_) (fun z => absurd hb0 z)
          refine lv_iconst (v := nI 0) X.1 X.2.1 d_L_law_363 (by decide) ?_
          refine zx_calli (zx_runV (As := [.int (nI 0)]) (rest := [.int (-5)]) X hH mv_L_59 ((c_M_shutdown_off g l N ad E q rg ev sf fs fl (by omega) hok hv hM hop 0) _) (by omega) hM.1 rfl ⟨Nat.le_of_ble_eq_true rfl, Nat.le_of_ble_eq_true rfl⟩ rfl hl rfl (Nat.le_of_ble_eq_true rfl) d_L_law_364 ⟨by show _ ≤ 600000; dsimp only; omega, by show _ ≤ 7302250; dsimp only; omega⟩) hH (fun r N1 ad1 E1 H locs hq hH => ?_)
          obtain ⟨rfl, rfl, rfl, rfl⟩ := hq
          refine lv_icmp_eq (tgt := 487) X.1 X.2.1 d_L_law_367 (by decide) (fun _ => ?_) (fun z => absurd rfl z)
          refine W.cs (cells' := 25 + 5 * (q) 0 + (q) 4 + (q) 6) (slots' := 9100 + 174 * (q) 0 + 2 * (q) 4 + 2 * (q) 6) (by dsimp only; omega) (by dsimp only; omega) ?_
          refine lv_iinc (v := nI (i + 4)) (lv' := [(3, .int (nI (i + 4))), (2, .ref (ad 8)), (1, .ref (ad 0)), (0, .ref b)]) X.1 X.2.1 d_L_law_487 hl (k := 0) rfl (nI_add _ _) (by decide) rfl (fun ls hl => ?_)
          refine lv_goto (tgt := 18) X.1 X.2.1 d_L_law_490 (by decide) ?_
          exact ih (i + 4, (N, ad, E), q, rg, ev, sf, lf, fs, fl) _ _ _ ⟨hi4, ⟨hN, hT, hM, hok, hv, hfs, hfl, (fun j => Nat.le_trans (hev j) (by omega))⟩, hH, hl⟩ (by show L - (i + 4) < L - i; omega)
      · refine lv_if_eq (tgt := 346) X.1 X.2.1 d_L_law_339 (by decide) (fun z => absurd z hb0) (fun _ => ?_)
        refine lv_iconst (v := nI 1) X.1 X.2.1 d_L_law_342 (by decide) ?_
        refine lv_goto (tgt := 347) X.1 X.2.1 d_L_law_343 (by decide) ?_
        by_cases hop : q 2 = 0
        · skip
          refine zx_calli (zx_runV (As := [.int (nI 1)]) (rest := []) X hH mv_L_55 ((c_X_quick g l N ad E 25 q rg ev sf lf (by decide) hN hT hok hop) _) (by omega) hT.1 rfl ⟨Nat.le_of_ble_eq_true rfl, Nat.le_of_ble_eq_true rfl⟩ rfl hl rfl (Nat.le_of_ble_eq_true rfl) d_L_law_347 ⟨by show _ ≤ 600000; dsimp only; omega, by show _ ≤ 7302250; dsimp only; omega⟩) hH (fun r N1 ad1 E1 H locs hq hH => ?_)
          obtain ⟨rfl, rfl, rfl, hT, hf⟩ := hq
          have hM := hM.keep (E1 := E1) (ad1 := ad) (fun k h1 h2 => hf k h1 h2) (fun _ _ _ => rfl)
          refine lv_aload_n X.1 X.2.1 d_L_law_350 rfl (lv_at hl 1 rfl) ?_
          refine lv_aload_n X.1 X.2.1 d_L_law_351 rfl (lv_at hl 3 rfl) ?_
          refine lv_iload_n X.1 X.2.1 d_L_law_352 rfl (lv_at hl 0 rfl) ?_
          refine lv_iconst (v := nI 1) X.1 X.2.1 d_L_law_353 (by decide) ?_
          refine lv_iadd X.1 X.2.1 d_L_law_354 ?_
          refine zx_top (nI_add _ _) ?_
          refine zl_sld (j := i + 1) X hH hX hbl hbA rfl (by omega) (by omega) d_L_law_355 ?_
          refine lv_if_eq (tgt := 363) X.1 X.2.1 d_L_law_356 (by decide) (fun z => absurd z hb0) (fun _ => ?_)
          refine lv_iconst (v := nI 1) X.1 X.2.1 d_L_law_359 (by decide) ?_
          refine lv_goto (tgt := 364) X.1 X.2.1 d_L_law_360 (by decide) ?_
          refine zx_calli (zx_runV (As := [.int (nI 1)]) (rest := [.int (nI (zp_cnt (fun i => decide ((rg i).1 2 = 0 ∧ 0 < (rg i).1 3 - (rg i).1 4)) (q 0)))]) X hH mv_L_59 ((c_M_quick g l N ad E1 q rg ev sf fs fl (by omega) hok hv hM hop) _) (by omega) hM.1 rfl ⟨Nat.le_of_ble_eq_true rfl, Nat.le_of_ble_eq_true rfl⟩ rfl hl rfl (Nat.le_of_ble_eq_true rfl) d_L_law_364 ⟨by show _ ≤ 600000; dsimp only; omega, by show _ ≤ 7302250; dsimp only; omega⟩) hH (fun r N2 ad2 E2 H locs hq hH => ?_)
          obtain ⟨rfl, rfl, rfl, hM, hf2⟩ := hq
          refine lv_icmp_eq (tgt := 487) X.1 X.2.1 d_L_law_367 (by decide) (fun _ => ?_) (fun z => absurd rfl z)
          have hT := hT.keep (E1 := E2) (fun k h1 => hf2 k h1)
          refine W.cs (cells' := 25 + 5 * ((va_up q 3 0)) 0 + ((va_up q 3 0)) 4 + ((va_up q 3 0)) 6) (slots' := 9100 + 174 * ((va_up q 3 0)) 0 + 2 * ((va_up q 3 0)) 4 + 2 * ((va_up q 3 0)) 6) (by show _ = 25 + 5 * q 0 + q 4 + q 6; dsimp only; omega) (by show _ = 9100 + 174 * q 0 + 2 * q 4 + 2 * q 6; dsimp only; omega) ?_
          refine lv_iinc (v := nI (i + 4)) (lv' := [(3, .int (nI (i + 4))), (2, .ref (ad 8)), (1, .ref (ad 0)), (0, .ref b)]) X.1 X.2.1 d_L_law_487 hl (k := 0) rfl (nI_add _ _) (by decide) rfl (fun ls hl => ?_)
          refine lv_goto (tgt := 18) X.1 X.2.1 d_L_law_490 (by decide) ?_
          exact ih (i + 4, (N, ad, E2), (va_up q 3 0), (zp_map zp_left rg (q 0)), ev, sf, lf, fs, fl) _ _ _ ⟨hi4, ⟨hN, hT, hM, (hok.clr).map (fun _ h => zr_ok.left h) (q 0), (hv.map (fun _ h => zs_r.left h) zp_left_3).q rfl rfl, fun j hj => absurd (show j < 0 from hj) (Nat.not_lt_zero _), hfl, (fun j => Nat.le_trans (hev j) (by omega))⟩, hH, hl⟩ (by show L - (i + 4) < L - i; omega)
        · skip
          refine zx_calli (zx_runV (As := [.int (nI 1)]) (rest := []) X hH mv_L_55 ((c_X_shutdown_off g l N ad E 25 q rg ev sf lf (by decide) hN hT hok hop 1) _) (by omega) hT.1 rfl ⟨Nat.le_of_ble_eq_true rfl, Nat.le_of_ble_eq_true rfl⟩ rfl hl rfl (Nat.le_of_ble_eq_true rfl) d_L_law_347 ⟨by show _ ≤ 600000; dsimp only; omega, by show _ ≤ 7302250; dsimp only; omega⟩) hH (fun r N1 ad1 E1 H locs hq hH => ?_)
          obtain ⟨rfl, rfl, rfl, rfl⟩ := hq
          refine lv_aload_n X.1 X.2.1 d_L_law_350 rfl (lv_at hl 1 rfl) ?_
          refine lv_aload_n X.1 X.2.1 d_L_law_351 rfl (lv_at hl 3 rfl) ?_
          refine lv_iload_n X.1 X.2.1 d_L_law_352 rfl (lv_at hl 0 rfl) ?_
          refine lv_iconst (v := nI 1) X.1 X.2.1 d_L_law_353 (by decide) ?_
          refine lv_iadd X.1 X.2.1 d_L_law_354 ?_
          refine zx_top (nI_add _ _) ?_
          refine zl_sld (j := i + 1) X hH hX hbl hbA rfl (by omega) (by omega) d_L_law_355 ?_
          refine lv_if_eq (tgt := 363) X.1 X.2.1 d_L_law_356 (by decide) (fun z => absurd z hb0) (fun _ => ?_)
          refine lv_iconst (v := nI 1) X.1 X.2.1 d_L_law_359 (by decide) ?_
          refine lv_goto (tgt := 364) X.1 X.2.1 d_L_law_360 (by decide) ?_
          refine zx_calli (zx_runV (As := [.int (nI 1)]) (rest := [.int (-5)]) X hH mv_L_59 ((c_M_shutdown_off g l N ad E q rg ev sf fs fl (by omega) hok hv hM hop 1) _) (by omega) hM.1 rfl ⟨Nat.le_of_ble_eq_true rfl, Nat.le_of_ble_eq_true rfl⟩ rfl hl rfl (Nat.le_of_ble_eq_true rfl) d_L_law_364 ⟨by show _ ≤ 600000; dsimp only; omega, by show _ ≤ 7302250; dsimp only; omega⟩) hH (fun r N1 ad1 E1 H locs hq hH => ?_)
          obtain ⟨rfl, rfl, rfl, rfl⟩ := hq
          refine lv_icmp_eq (tgt := 487) X.1 X.2.1 d_L_law_367 (by decide) (fun _ => ?_) (fun z => absurd rfl z)
          refine W.cs (cells' := 25 + 5 * (q) 0 + (q) 4 + (q) 6) (slots' := 9100 + 174 * (q) 0 + 2 * (q) 4 + 2 * (q) 6) (by dsimp only; omega) (by dsimp only; omega) ?_
          refine lv_iinc (v := nI (i + 4)) (lv' := [(3, .int (nI (i + 4))), (2, .ref (ad 8)), (1, .ref (ad 0)), (0, .ref b)]) X.1 X.2.1 d_L_law_487 hl (k := 0) rfl (nI_add _ _) (by decide) rfl (fun ls hl => ?_)
          refine lv_goto (tgt := 18) X.1 X.2.1 d_L_law_490 (by decide) ?_
          exact ih (i + 4, (N, ad, E), q, rg, ev, sf, lf, fs, fl) _ _ _ ⟨hi4, ⟨hN, hT, hM, hok, hv, hfs, hfl, (fun j => Nat.le_trans (hev j) (by omega))⟩, hH, hl⟩ (by show L - (i + 4) < L - i; omega)
    by_cases t10 : k = 10
    · subst t10
      refine lv_tableIn (off := 340) (tgt := 372) X.1 X.2.1 d_L_law_32 (by decide) (by decide) rfl (by decide) ?_
      obtain ⟨w1, w2⟩ := zs_dec_all (x := xs (i + 1)) (y := xs (i + 2)) hok hv
      refine lv_aload_n X.1 X.2.1 d_L_law_372 rfl (lv_at hl 2 rfl) ?_
      refine lv_aload_n X.1 X.2.1 d_L_law_373 rfl (lv_at hl 3 rfl) ?_
      refine lv_iload_n X.1 X.2.1 d_L_law_374 rfl (lv_at hl 0 rfl) ?_
      refine lv_iconst (v := nI 1) X.1 X.2.1 d_L_law_375 (by decide) ?_
      refine lv_iadd X.1 X.2.1 d_L_law_376 ?_
      refine zx_top (nI_add _ _) ?_
      refine zl_sld (j := i + 1) X hH hX hbl hbA rfl (by omega) (by omega) d_L_law_377 ?_
      refine lv_aload_n X.1 X.2.1 d_L_law_378 rfl (lv_at hl 3 rfl) ?_
      refine lv_iload_n X.1 X.2.1 d_L_law_379 rfl (lv_at hl 0 rfl) ?_
      refine lv_iconst (v := nI 2) X.1 X.2.1 d_L_law_380 (by decide) ?_
      refine lv_iadd X.1 X.2.1 d_L_law_381 ?_
      refine zx_top (nI_add _ _) ?_
      refine zl_sld (j := i + 2) X hH hX hbl hbA rfl (by omega) (by omega) d_L_law_382 ?_
      refine zx_calli (zx_runV (As := [.int (xs (i + 1)), .int (xs (i + 2))]) (rest := []) X hH mv_L_60 ((c_X_decision g l N ad E 25 q rg ev sf lf (by decide) hN hT hok (fun j hj => (hv.1 j hj).1) (xs (i + 1)) (xs (i + 2))) _) (by omega) hT.1 rfl ⟨Nat.le_of_ble_eq_true rfl, Nat.le_of_ble_eq_true rfl⟩ rfl hl rfl (Nat.le_of_ble_eq_true rfl) d_L_law_383 ⟨by show _ ≤ 600000; dsimp only; omega, by show _ ≤ 7302250; dsimp only; omega⟩) hH (fun r N1 ad1 E1 H locs hq hH => ?_)
      obtain ⟨rfl, rfl, rfl, hT, hf⟩ := hq
      have hM := hM.keep (E1 := E1) (ad1 := ad) (fun k h1 h2 => hf k h1 h2) (fun _ _ _ => rfl)
      refine lv_aload_n X.1 X.2.1 d_L_law_386 rfl (lv_at hl 1 rfl) ?_
      refine lv_aload_n X.1 X.2.1 d_L_law_387 rfl (lv_at hl 3 rfl) ?_
      refine lv_iload_n X.1 X.2.1 d_L_law_388 rfl (lv_at hl 0 rfl) ?_
      refine lv_iconst (v := nI 1) X.1 X.2.1 d_L_law_389 (by decide) ?_
      refine lv_iadd X.1 X.2.1 d_L_law_390 ?_
      refine zx_top (nI_add _ _) ?_
      refine zl_sld (j := i + 1) X hH hX hbl hbA rfl (by omega) (by omega) d_L_law_391 ?_
      refine lv_aload_n X.1 X.2.1 d_L_law_392 rfl (lv_at hl 3 rfl) ?_
      refine lv_iload_n X.1 X.2.1 d_L_law_393 rfl (lv_at hl 0 rfl) ?_
      refine lv_iconst (v := nI 2) X.1 X.2.1 d_L_law_394 (by decide) ?_
      refine lv_iadd X.1 X.2.1 d_L_law_395 ?_
      refine zx_top (nI_add _ _) ?_
      refine zl_sld (j := i + 2) X hH hX hbl hbA rfl (by omega) (by omega) d_L_law_396 ?_
      refine zx_calli (zx_runV (As := [.int (xs (i + 1)), .int (xs (i + 2))]) (rest := [.int (zs_dec q rg (xs (i + 1)) (xs (i + 2))).1]) X hH mv_L_63 ((c_M_decision g l N ad E1 q rg ev sf fs fl (by omega) hok hv hM (xs (i + 1)) (xs (i + 2))) _) (by omega) hM.1 rfl ⟨Nat.le_of_ble_eq_true rfl, Nat.le_of_ble_eq_true rfl⟩ rfl hl rfl (Nat.le_of_ble_eq_true rfl) d_L_law_397 ⟨by show _ ≤ 600000; dsimp only; omega, by show _ ≤ 7302250; dsimp only; omega⟩) hH (fun r N2 ad2 E2 H locs hq hH => ?_)
      obtain ⟨rfl, rfl, rfl, hM, hf2⟩ := hq
      refine lv_icmp_eq (tgt := 487) X.1 X.2.1 d_L_law_400 (by decide) (fun _ => ?_) (fun z => absurd rfl z)
      have hT := hT.keep (E1 := E2) (fun k h1 => hf2 k h1)
      refine W.cs (cells' := 25 + 5 * (q) 0 + (q) 4 + (q) 6) (slots' := 9100 + 174 * (q) 0 + 2 * (q) 4 + 2 * (q) 6) (by dsimp only; omega) (by dsimp only; omega) ?_
      refine lv_iinc (v := nI (i + 4)) (lv' := [(3, .int (nI (i + 4))), (2, .ref (ad 8)), (1, .ref (ad 0)), (0, .ref b)]) X.1 X.2.1 d_L_law_487 hl (k := 0) rfl (nI_add _ _) (by decide) rfl (fun ls hl => ?_)
      refine lv_goto (tgt := 18) X.1 X.2.1 d_L_law_490 (by decide) ?_
      exact ih (i + 4, (N, ad, E2), q, (zs_dec q rg (xs (i + 1)) (xs (i + 2))).2, ev, sf, lf, fs, fl) _ _ _ ⟨hi4, ⟨hN, hT, hM, w1, w2, hfs, hfl, (fun j => Nat.le_trans (hev j) (by omega))⟩, hH, hl⟩ (by show L - (i + 4) < L - i; omega)
    by_cases t11 : k = 11
    · subst t11
      refine lv_tableIn (off := 373) (tgt := 405) X.1 X.2.1 d_L_law_32 (by decide) (by decide) rfl (by decide) ?_
      refine lv_aload_n X.1 X.2.1 d_L_law_405 rfl (lv_at hl 2 rfl) ?_
      refine lv_aload_n X.1 X.2.1 d_L_law_406 rfl (lv_at hl 3 rfl) ?_
      refine lv_iload_n X.1 X.2.1 d_L_law_407 rfl (lv_at hl 0 rfl) ?_
      refine lv_iconst (v := nI 1) X.1 X.2.1 d_L_law_408 (by decide) ?_
      refine lv_iadd X.1 X.2.1 d_L_law_409 ?_
      refine zx_top (nI_add _ _) ?_
      refine zl_sld (j := i + 1) X hH hX hbl hbA rfl (by omega) (by omega) d_L_law_410 ?_
      refine zx_calli (zx_runV (As := [.int (xs (i + 1))]) (rest := []) X hH mv_L_64 ((c_X_finished g l N ad E 25 q rg ev sf lf (by decide) hN hT hok (xs (i + 1))) _) (by omega) hT.1 rfl ⟨Nat.le_of_ble_eq_true rfl, Nat.le_of_ble_eq_true rfl⟩ rfl hl rfl (Nat.le_of_ble_eq_true rfl) d_L_law_411 ⟨by show _ ≤ 600000; dsimp only; omega, by show _ ≤ 7302250; dsimp only; omega⟩) hH (fun r N1 ad1 E1 H locs hq hH => ?_)
      obtain ⟨rfl, rfl, rfl, rfl⟩ := hq
      refine lv_aload_n X.1 X.2.1 d_L_law_414 rfl (lv_at hl 1 rfl) ?_
      refine lv_aload_n X.1 X.2.1 d_L_law_415 rfl (lv_at hl 3 rfl) ?_
      refine lv_iload_n X.1 X.2.1 d_L_law_416 rfl (lv_at hl 0 rfl) ?_
      refine lv_iconst (v := nI 1) X.1 X.2.1 d_L_law_417 (by decide) ?_
      refine lv_iadd X.1 X.2.1 d_L_law_418 ?_
      refine zx_top (nI_add _ _) ?_
      refine zl_sld (j := i + 1) X hH hX hbl hbA rfl (by omega) (by omega) d_L_law_419 ?_
      refine zx_calli (zx_runV (As := [.int (xs (i + 1))]) (rest := [.int (if 1 ≤ (xs (i + 1)).toInt ∧ (xs (i + 1)).toInt ≤ (q 0 : Int) then nI ((rg ((xs (i + 1)).toInt.toNat - 1)).1 2) else -2)]) X hH mv_L_67 ((c_M_finished g l N ad E q rg ev sf fs fl (by omega) hok hv hM (xs (i + 1))) _) (by omega) hM.1 rfl ⟨Nat.le_of_ble_eq_true rfl, Nat.le_of_ble_eq_true rfl⟩ rfl hl rfl (Nat.le_of_ble_eq_true rfl) d_L_law_420 ⟨by show _ ≤ 600000; dsimp only; omega, by show _ ≤ 7302250; dsimp only; omega⟩) hH (fun r N1 ad1 E1 H locs hq hH => ?_)
      obtain ⟨rfl, rfl, rfl, rfl⟩ := hq
      refine lv_icmp_eq (tgt := 487) X.1 X.2.1 d_L_law_423 (by decide) (fun _ => ?_) (fun z => absurd rfl z)
      refine W.cs (cells' := 25 + 5 * (q) 0 + (q) 4 + (q) 6) (slots' := 9100 + 174 * (q) 0 + 2 * (q) 4 + 2 * (q) 6) (by dsimp only; omega) (by dsimp only; omega) ?_
      refine lv_iinc (v := nI (i + 4)) (lv' := [(3, .int (nI (i + 4))), (2, .ref (ad 8)), (1, .ref (ad 0)), (0, .ref b)]) X.1 X.2.1 d_L_law_487 hl (k := 0) rfl (nI_add _ _) (by decide) rfl (fun ls hl => ?_)
      refine lv_goto (tgt := 18) X.1 X.2.1 d_L_law_490 (by decide) ?_
      exact ih (i + 4, (N, ad, E), q, rg, ev, sf, lf, fs, fl) _ _ _ ⟨hi4, ⟨hN, hT, hM, hok, hv, hfs, hfl, (fun j => Nat.le_trans (hev j) (by omega))⟩, hH, hl⟩ (by show L - (i + 4) < L - i; omega)
    by_cases t12 : k = 12
    · subst t12
      refine lv_tableIn (off := 396) (tgt := 428) X.1 X.2.1 d_L_law_32 (by decide) (by decide) rfl (by decide) ?_
      refine lv_aload_n X.1 X.2.1 d_L_law_428 rfl (lv_at hl 2 rfl) ?_
      by_cases hop : q 2 = 0
      · skip
        refine zx_calli (zx_runV (As := []) (rest := []) X hH mv_L_68 ((c_X_close g l N ad E 25 q rg ev sf lf (by decide) hN hT hok hop) _) (by omega) hT.1 rfl ⟨Nat.le_of_ble_eq_true rfl, Nat.le_of_ble_eq_true rfl⟩ rfl hl rfl (Nat.le_of_ble_eq_true rfl) d_L_law_429 ⟨by show _ ≤ 600000; dsimp only; omega, by show _ ≤ 7302250; dsimp only; omega⟩) hH (fun r N1 ad1 E1 H locs hq hH => ?_)
        obtain ⟨rfl, rfl, rfl, hT, hf⟩ := hq
        have hM := hM.keep (E1 := E1) (ad1 := ad) (fun k h1 h2 => hf k h1 h2) (fun _ _ _ => rfl)
        refine lv_aload_n X.1 X.2.1 d_L_law_432 rfl (lv_at hl 1 rfl) ?_
        refine zx_calli (zx_runV (As := []) (rest := [.int (nI (zp_cnt (fun i => decide ((rg i).1 2 = 0)) (q 0)))]) X hH mv_L_71 ((c_M_close g l N ad E1 q rg ev sf fs fl (by omega) hok hv hM hop) _) (by omega) hM.1 rfl ⟨Nat.le_of_ble_eq_true rfl, Nat.le_of_ble_eq_true rfl⟩ rfl hl rfl (Nat.le_of_ble_eq_true rfl) d_L_law_433 ⟨by show _ ≤ 600000; dsimp only; omega, by show _ ≤ 7302250; dsimp only; omega⟩) hH (fun r N2 ad2 E2 H locs hq hH => ?_)
        obtain ⟨rfl, rfl, rfl, hM, hf2⟩ := hq
        refine lv_icmp_eq (tgt := 487) X.1 X.2.1 d_L_law_436 (by decide) (fun _ => ?_) (fun z => absurd rfl z)
        have hT := hT.keep (E1 := E2) (fun k h1 => hf2 k h1)
        refine W.cs (cells' := 25 + 5 * ((va_up (va_up q 2 1) 3 0)) 0 + ((va_up (va_up q 2 1) 3 0)) 4 + ((va_up (va_up q 2 1) 3 0)) 6) (slots' := 9100 + 174 * ((va_up (va_up q 2 1) 3 0)) 0 + 2 * ((va_up (va_up q 2 1) 3 0)) 4 + 2 * ((va_up (va_up q 2 1) 3 0)) 6) (by show _ = 25 + 5 * q 0 + q 4 + q 6; dsimp only; omega) (by show _ = 9100 + 174 * q 0 + 2 * q 4 + 2 * q 6; dsimp only; omega) ?_
        refine lv_iinc (v := nI (i + 4)) (lv' := [(3, .int (nI (i + 4))), (2, .ref (ad 8)), (1, .ref (ad 0)), (0, .ref b)]) X.1 X.2.1 d_L_law_487 hl (k := 0) rfl (nI_add _ _) (by decide) rfl (fun ls hl => ?_)
        refine lv_goto (tgt := 18) X.1 X.2.1 d_L_law_490 (by decide) ?_
        exact ih (i + 4, (N, ad, E2), (va_up (va_up q 2 1) 3 0), (zp_map zp_left rg (q 0)), ev, sf, lf, fs, fl) _ _ _ ⟨hi4, ⟨hN, hT, hM, ((hok.cls).clr).map (fun _ h => zr_ok.left h) (q 0), (hv.map (fun _ h => zs_r.left h) zp_left_3).q rfl rfl, fun j hj => absurd (show j < 0 from hj) (Nat.not_lt_zero _), hfl, (fun j => Nat.le_trans (hev j) (by omega))⟩, hH, hl⟩ (by show L - (i + 4) < L - i; omega)
      · skip
        refine zx_calli (zx_runV (As := []) (rest := []) X hH mv_L_68 ((c_X_close_off g l N ad E 25 q rg ev sf lf (by decide) hN hT hok hop) _) (by omega) hT.1 rfl ⟨Nat.le_of_ble_eq_true rfl, Nat.le_of_ble_eq_true rfl⟩ rfl hl rfl (Nat.le_of_ble_eq_true rfl) d_L_law_429 ⟨by show _ ≤ 600000; dsimp only; omega, by show _ ≤ 7302250; dsimp only; omega⟩) hH (fun r N1 ad1 E1 H locs hq hH => ?_)
        obtain ⟨rfl, rfl, rfl, rfl⟩ := hq
        refine lv_aload_n X.1 X.2.1 d_L_law_432 rfl (lv_at hl 1 rfl) ?_
        refine zx_calli (zx_runV (As := []) (rest := [.int (-5)]) X hH mv_L_71 ((c_M_close_off g l N ad E q rg ev sf fs fl (by omega) hok hv hM hop) _) (by omega) hM.1 rfl ⟨Nat.le_of_ble_eq_true rfl, Nat.le_of_ble_eq_true rfl⟩ rfl hl rfl (Nat.le_of_ble_eq_true rfl) d_L_law_433 ⟨by show _ ≤ 600000; dsimp only; omega, by show _ ≤ 7302250; dsimp only; omega⟩) hH (fun r N1 ad1 E1 H locs hq hH => ?_)
        obtain ⟨rfl, rfl, rfl, rfl⟩ := hq
        refine lv_icmp_eq (tgt := 487) X.1 X.2.1 d_L_law_436 (by decide) (fun _ => ?_) (fun z => absurd rfl z)
        refine W.cs (cells' := 25 + 5 * (q) 0 + (q) 4 + (q) 6) (slots' := 9100 + 174 * (q) 0 + 2 * (q) 4 + 2 * (q) 6) (by dsimp only; omega) (by dsimp only; omega) ?_
        refine lv_iinc (v := nI (i + 4)) (lv' := [(3, .int (nI (i + 4))), (2, .ref (ad 8)), (1, .ref (ad 0)), (0, .ref b)]) X.1 X.2.1 d_L_law_487 hl (k := 0) rfl (nI_add _ _) (by decide) rfl (fun ls hl => ?_)
        refine lv_goto (tgt := 18) X.1 X.2.1 d_L_law_490 (by decide) ?_
        exact ih (i + 4, (N, ad, E), q, rg, ev, sf, lf, fs, fl) _ _ _ ⟨hi4, ⟨hN, hT, hM, hok, hv, hfs, hfl, (fun j => Nat.le_trans (hev j) (by omega))⟩, hH, hl⟩ (by show L - (i + 4) < L - i; omega)
    by_cases t13 : k = 13
    · subst t13
      refine lv_tableIn (off := 409) (tgt := 441) X.1 X.2.1 d_L_law_32 (by decide) (by decide) rfl (by decide) ?_
      refine lv_aload_n X.1 X.2.1 d_L_law_441 rfl (lv_at hl 2 rfl) ?_
      refine lv_aload_n X.1 X.2.1 d_L_law_442 rfl (lv_at hl 3 rfl) ?_
      refine lv_iload_n X.1 X.2.1 d_L_law_443 rfl (lv_at hl 0 rfl) ?_
      refine lv_iconst (v := nI 1) X.1 X.2.1 d_L_law_444 (by decide) ?_
      refine lv_iadd X.1 X.2.1 d_L_law_445 ?_
      refine zx_top (nI_add _ _) ?_
      refine zl_sld (j := i + 1) X hH hX hbl hbA rfl (by omega) (by omega) d_L_law_446 ?_
      refine zx_calli (zx_runV (As := [.int (xs (i + 1))]) (rest := []) X hH mv_L_72 ((c_X_count g l N ad E 25 q rg ev sf lf (by decide) hN hT hok (xs (i + 1))) _) (by omega) hT.1 rfl ⟨Nat.le_of_ble_eq_true rfl, Nat.le_of_ble_eq_true rfl⟩ rfl hl rfl (Nat.le_of_ble_eq_true rfl) d_L_law_447 ⟨by show _ ≤ 600000; dsimp only; omega, by show _ ≤ 7302250; dsimp only; omega⟩) hH (fun r N1 ad1 E1 H locs hq hH => ?_)
      obtain ⟨rfl, rfl, rfl, rfl⟩ := hq
      refine lv_aload_n X.1 X.2.1 d_L_law_450 rfl (lv_at hl 1 rfl) ?_
      refine lv_aload_n X.1 X.2.1 d_L_law_451 rfl (lv_at hl 3 rfl) ?_
      refine lv_iload_n X.1 X.2.1 d_L_law_452 rfl (lv_at hl 0 rfl) ?_
      refine lv_iconst (v := nI 1) X.1 X.2.1 d_L_law_453 (by decide) ?_
      refine lv_iadd X.1 X.2.1 d_L_law_454 ?_
      refine zx_top (nI_add _ _) ?_
      refine zl_sld (j := i + 1) X hH hX hbl hbA rfl (by omega) (by omega) d_L_law_455 ?_
      refine zx_calli (zx_runV (As := [.int (xs (i + 1))]) (rest := [.int (zs_cnt q rg ev (xs (i + 1)))]) X hH mv_L_75 ((c_M_count g l N ad E q rg ev sf fs fl (by omega) hok hv hM (xs (i + 1))) _) (by omega) hM.1 rfl ⟨Nat.le_of_ble_eq_true rfl, Nat.le_of_ble_eq_true rfl⟩ rfl hl rfl (Nat.le_of_ble_eq_true rfl) d_L_law_456 ⟨by show _ ≤ 600000; dsimp only; omega, by show _ ≤ 7302250; dsimp only; omega⟩) hH (fun r N1 ad1 E1 H locs hq hH => ?_)
      obtain ⟨rfl, rfl, rfl, rfl⟩ := hq
      refine lv_icmp_eq (tgt := 487) X.1 X.2.1 d_L_law_459 (by decide) (fun _ => ?_) (fun z => absurd rfl z)
      refine W.cs (cells' := 25 + 5 * (q) 0 + (q) 4 + (q) 6) (slots' := 9100 + 174 * (q) 0 + 2 * (q) 4 + 2 * (q) 6) (by dsimp only; omega) (by dsimp only; omega) ?_
      refine lv_iinc (v := nI (i + 4)) (lv' := [(3, .int (nI (i + 4))), (2, .ref (ad 8)), (1, .ref (ad 0)), (0, .ref b)]) X.1 X.2.1 d_L_law_487 hl (k := 0) rfl (nI_add _ _) (by decide) rfl (fun ls hl => ?_)
      refine lv_goto (tgt := 18) X.1 X.2.1 d_L_law_490 (by decide) ?_
      exact ih (i + 4, (N, ad, E), q, rg, ev, sf, lf, fs, fl) _ _ _ ⟨hi4, ⟨hN, hT, hM, hok, hv, hfs, hfl, (fun j => Nat.le_trans (hev j) (by omega))⟩, hH, hl⟩ (by show L - (i + 4) < L - i; omega)
    by_cases t14 : k = 14
    · subst t14
      refine lv_tableIn (off := 432) (tgt := 464) X.1 X.2.1 d_L_law_32 (by decide) (by decide) rfl (by decide) ?_
      refine lv_aload_n X.1 X.2.1 d_L_law_464 rfl (lv_at hl 2 rfl) ?_
      refine lv_aload_n X.1 X.2.1 d_L_law_465 rfl (lv_at hl 3 rfl) ?_
      refine lv_iload_n X.1 X.2.1 d_L_law_466 rfl (lv_at hl 0 rfl) ?_
      refine lv_iconst (v := nI 1) X.1 X.2.1 d_L_law_467 (by decide) ?_
      refine lv_iadd X.1 X.2.1 d_L_law_468 ?_
      refine zx_top (nI_add _ _) ?_
      refine zl_sld (j := i + 1) X hH hX hbl hbA rfl (by omega) (by omega) d_L_law_469 ?_
      refine zx_calli (zx_runV (As := [.int (xs (i + 1))]) (rest := []) X hH mv_L_76 ((c_X_done g l N ad E 25 q rg ev sf lf (by decide) hN hT hok (xs (i + 1))) _) (by omega) hT.1 rfl ⟨Nat.le_of_ble_eq_true rfl, Nat.le_of_ble_eq_true rfl⟩ rfl hl rfl (Nat.le_of_ble_eq_true rfl) d_L_law_470 ⟨by show _ ≤ 600000; dsimp only; omega, by show _ ≤ 7302250; dsimp only; omega⟩) hH (fun r N1 ad1 E1 H locs hq hH => ?_)
      obtain ⟨rfl, rfl, rfl, rfl⟩ := hq
      refine lv_aload_n X.1 X.2.1 d_L_law_473 rfl (lv_at hl 1 rfl) ?_
      refine lv_aload_n X.1 X.2.1 d_L_law_474 rfl (lv_at hl 3 rfl) ?_
      refine lv_iload_n X.1 X.2.1 d_L_law_475 rfl (lv_at hl 0 rfl) ?_
      refine lv_iconst (v := nI 1) X.1 X.2.1 d_L_law_476 (by decide) ?_
      refine lv_iadd X.1 X.2.1 d_L_law_477 ?_
      refine zx_top (nI_add _ _) ?_
      refine zl_sld (j := i + 1) X hH hX hbl hbA rfl (by omega) (by omega) d_L_law_478 ?_
      refine zx_calli (zx_runV (As := [.int (xs (i + 1))]) (rest := [.int (if 1 ≤ (xs (i + 1)).toInt ∧ (xs (i + 1)).toInt ≤ (q 0 : Int) then nI ((rg ((xs (i + 1)).toInt.toNat - 1)).1 3) else -2)]) X hH mv_L_79 ((c_M_done g l N ad E q rg ev sf fs fl (by omega) hok hv hM (xs (i + 1))) _) (by omega) hM.1 rfl ⟨Nat.le_of_ble_eq_true rfl, Nat.le_of_ble_eq_true rfl⟩ rfl hl rfl (Nat.le_of_ble_eq_true rfl) d_L_law_479 ⟨by show _ ≤ 600000; dsimp only; omega, by show _ ≤ 7302250; dsimp only; omega⟩) hH (fun r N1 ad1 E1 H locs hq hH => ?_)
      obtain ⟨rfl, rfl, rfl, rfl⟩ := hq
      refine lv_icmp_eq (tgt := 487) X.1 X.2.1 d_L_law_482 (by decide) (fun _ => ?_) (fun z => absurd rfl z)
      refine W.cs (cells' := 25 + 5 * (q) 0 + (q) 4 + (q) 6) (slots' := 9100 + 174 * (q) 0 + 2 * (q) 4 + 2 * (q) 6) (by dsimp only; omega) (by dsimp only; omega) ?_
      refine lv_iinc (v := nI (i + 4)) (lv' := [(3, .int (nI (i + 4))), (2, .ref (ad 8)), (1, .ref (ad 0)), (0, .ref b)]) X.1 X.2.1 d_L_law_487 hl (k := 0) rfl (nI_add _ _) (by decide) rfl (fun ls hl => ?_)
      refine lv_goto (tgt := 18) X.1 X.2.1 d_L_law_490 (by decide) ?_
      exact ih (i + 4, (N, ad, E), q, rg, ev, sf, lf, fs, fl) _ _ _ ⟨hi4, ⟨hN, hT, hM, hok, hv, hfs, hfl, (fun j => Nat.le_trans (hev j) (by omega))⟩, hH, hl⟩ (by show L - (i + 4) < L - i; omega)
    have t15 : k = 15 := by omega
    subst t15
    refine lv_tableOut (tgt := 487) X.1 X.2.1 d_L_law_32 (by decide) (by decide) ?_
    refine W.cs (cells' := 25 + 5 * (q) 0 + (q) 4 + (q) 6) (slots' := 9100 + 174 * (q) 0 + 2 * (q) 4 + 2 * (q) 6) rfl rfl ?_
    refine lv_iinc (v := nI (i + 4)) (lv' := [(3, .int (nI (i + 4))), (2, .ref (ad 8)), (1, .ref (ad 0)), (0, .ref b)]) X.1 X.2.1 d_L_law_487 hl (k := 0) rfl (nI_add _ _) (by decide) rfl (fun ls hl => ?_)
    refine lv_goto (tgt := 18) X.1 X.2.1 d_L_law_490 (by decide) ?_
    exact ih (i + 4, (N, ad, E), q, rg, ev, sf, lf, fs, fl) _ _ _ ⟨hi4, ⟨hN, hT, hM, hok, hv, hfs, hfl, (fun j => Nat.le_trans (hev j) (by omega))⟩, hH, hl⟩ (by show L - (i + 4) < L - i; omega)
