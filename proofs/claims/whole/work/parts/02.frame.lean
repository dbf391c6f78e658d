/-! The world of a method as positions: position k holds the cell E k at the address ad k. -/
def zw_v (N : Nat) (ad : Nat → Nat) (E : Nat → va_E) : va_W := (List.range N).map (fun k => (ad k, E k))
theorem zw_len (N : Nat) (ad : Nat → Nat) (E : Nat → va_E) : (zw_v N ad E).length = N := by simp [zw_v]
theorem zw_get {N : Nat} {ad : Nat → Nat} {E : Nat → va_E} {k : Nat} (h : k < N) : (zw_v N ad E)[k]? = some (ad k, E k) := by
  unfold zw_v
  rw [List.getElem?_map, List.getElem?_range h]
  rfl
theorem zw_inv {N : Nat} {ad : Nat → Nat} {E : Nat → va_E} {k : Nat} {q : Nat × va_E} (h : (zw_v N ad E)[k]? = some q) : k < N ∧ q = (ad k, E k) := by
  have hk : k < N := by
    have h2 := (List.getElem?_eq_some_iff.mp h).1
    rw [zw_len] at h2
    exact h2
  rw [zw_get hk] at h
  exact ⟨hk, (Option.some.inj h).symm⟩
theorem zw_P {D : va_G} {cl : List vw_C} {N : Nat} {ad : Nat → Nat} {E : Nat → va_E} {H : Heap} : va_P D cl (zw_v N ad E) H ↔ ∀ k, k < N → va_at D cl (ad k, E k) H :=
  ⟨fun h k hk => h k _ (zw_get hk), fun h k q hq => by obtain ⟨hk, rfl⟩ := zw_inv hq; exact h k hk⟩
theorem zw_D {A : Nat → Prop} {N : Nat} {ad : Nat → Nat} {E : Nat → va_E} : va_D A (zw_v N ad E) ↔ (∀ i j, i < N → j < N → ad i = ad j → i = j) ∧ ∀ k, k < N → A (ad k) :=
  ⟨fun h => ⟨fun i j hi hj e => h.1 i j _ _ (zw_get hi) (zw_get hj) e, fun k hk => h.2 k _ (zw_get hk)⟩,
   fun h => ⟨fun i j p q hp hq e => by
      obtain ⟨hi, rfl⟩ := zw_inv hp
      obtain ⟨hj, rfl⟩ := zw_inv hq
      exact h.1 i j hi hj e, fun k q hq => by obtain ⟨hk, rfl⟩ := zw_inv hq; exact h.2 k hk⟩⟩
theorem zw_set (N : Nat) (ad : Nat → Nat) (E : Nat → va_E) (k : Nat) (e : va_E) : (zw_v N ad E).set k (ad k, e) = zw_v N ad (va_up E k e) := by
  apply List.ext_getElem?
  intro j
  rw [List.getElem?_set, zw_len]
  by_cases hj : k = j
  · subst hj
    rw [if_pos rfl]
    by_cases hk : k < N
    · rw [if_pos hk, zw_get hk, va_up_self]
    · rw [if_neg hk]
      exact (List.getElem?_eq_none (by rw [zw_len]; omega)).symm
  · rw [if_neg hj]
    by_cases hk : j < N
    · rw [zw_get hk, zw_get hk, va_up_ne _ _ (fun h => hj h.symm)]
    · rw [List.getElem?_eq_none (by rw [zw_len]; omega), List.getElem?_eq_none (by rw [zw_len]; omega)]
theorem zw_push (N : Nat) (ad : Nat → Nat) (E : Nat → va_E) (q : Nat) (e : va_E) : zw_v N ad E ++ [(q, e)] = zw_v (N + 1) (va_up ad N q) (va_up E N e) := by
  unfold zw_v
  rw [List.range_succ, List.map_append]
  congr 1
  · apply List.map_congr_left
    intro k hk
    have hn : k ≠ N := by
      have := List.mem_range.mp hk
      omega
    rw [va_up_ne _ _ hn, va_up_ne _ _ hn]
  · show [(q, e)] = [(va_up ad N q N, va_up E N e N)]
    rw [va_up_self, va_up_self]
/-- a world with one cell fewer: the last one stands at k now -/
theorem zw_swapP {D : va_G} {cl : List vw_C} {N k : Nat} {ad : Nat → Nat} {E : Nat → va_E} {H : Heap} (h : va_P D cl (zw_v (N + 1) ad E) H) : va_P D cl (zw_v N (va_up ad k (ad N)) (va_up E k (E N))) H := by
  rw [zw_P] at h ⊢
  intro j hj
  by_cases e : j = k
  · subst e
    rw [va_up_self, va_up_self]
    exact h N (by omega)
  · rw [va_up_ne _ _ e, va_up_ne _ _ e]
    exact h j (by omega)
theorem zw_swapD {A : Nat → Prop} {N k : Nat} {ad : Nat → Nat} {E : Nat → va_E} (h : va_D A (zw_v (N + 1) ad E)) : va_D A (zw_v N (va_up ad k (ad N)) (va_up E k (E N))) := by
  rw [zw_D] at h ⊢
  refine ⟨fun i j hi hj e => ?_, fun j hj => ?_⟩
  · by_cases e1 : i = k
    · by_cases e2 : j = k
      · omega
      · subst e1
        rw [va_up_self, va_up_ne _ _ e2] at e
        have := h.1 N j (by omega) (by omega) e
        omega
    · by_cases e2 : j = k
      · subst e2
        rw [va_up_self, va_up_ne _ _ e1] at e
        have := h.1 i N (by omega) (by omega) e
        omega
      · rw [va_up_ne _ _ e1, va_up_ne _ _ e2] at e
        exact h.1 i j (by omega) (by omega) e
  · by_cases e : j = k
    · subst e
      rw [va_up_self]
      exact h.2 N (by omega)
    · rw [va_up_ne _ _ e]
      exact h.2 j (by omega)
/-- the same cells in another order, or fewer of them -/
theorem zw_byP {D : va_G} {cl : List vw_C} {N M : Nat} {ad ad' : Nat → Nat} {E E' : Nat → va_E} {H : Heap} (f : Nat → Nat) (hf : ∀ k, k < M → f k < N ∧ ad' k = ad (f k) ∧ E' k = E (f k)) (h : va_P D cl (zw_v N ad E) H) : va_P D cl (zw_v M ad' E') H := by
  rw [zw_P] at h ⊢
  intro j hj
  obtain ⟨h1, h2, h3⟩ := hf j hj
  rw [h2, h3]
  exact h _ h1
theorem zw_byD {A : Nat → Prop} {N M : Nat} {ad ad' : Nat → Nat} {E E' : Nat → va_E} (f : Nat → Nat) (hf : ∀ k, k < M → f k < N ∧ ad' k = ad (f k)) (hi : ∀ i j, i < M → j < M → f i = f j → i = j) (h : va_D A (zw_v N ad E)) : va_D A (zw_v M ad' E') := by
  rw [zw_D] at h ⊢
  refine ⟨fun i j h1 h2 e => ?_, fun j hj => ?_⟩
  · obtain ⟨a1, a2⟩ := hf i h1
    obtain ⟨b1, b2⟩ := hf j h2
    rw [a2, b2] at e
    exact hi i j h1 h2 (h.1 _ _ a1 b1 e)
  · obtain ⟨a1, a2⟩ := hf j hj
    rw [a2]
    exact h.2 _ a1
/-! What a contract's numbers are: the tables (g.1), the array classes (g.2) -/
abbrev zw_G : Type := va_G × (Nat → ClassId)
/-- what the tables say and the words above don't carry -/
def zw_K (g : zw_G) (s : State) : Prop := va_K g.1 vwCl (zw_ty g) s ∧ va_Nw (.methodLinkNest zN_X 17 y_V_init "RegionThreads") s ∧ va_Nw (.methodLinkNest zN_V 15 y_X_isEvent "RegionThreads") s ∧ va_AO "RegionThreads$Region" s
theorem zw_K.warm {g : zw_G} {s U : State} (hW : s.WarmedH U.vm) (h : zw_K g s) : zw_K g U := ⟨va_K.moved hW.alike h.1, va_Nw.warmM hW h.2.1, va_Nw.warmM hW h.2.2.1, va_AO.moved hW.alike h.2.2.2⟩
def zw_H (g : zw_G) (A : Nat → Prop) (H0 : Heap) (s : State) (N : Nat) (ad : Nat → Nat) (E : Nat → va_E) (H : Heap) (locs : List Loc) : Prop :=
  zw_K g s ∧ va_P g.1 vwCl (zw_v N ad E) H ∧ va_D A (zw_v N ad E) ∧ va_S A H0 H locs ∧ ∀ q : Nat, H0.size ≤ q → A q
abbrev zw_U : Type := Nat × (Nat → Nat) × (Nat → va_E)
def zw_B (g : zw_G) (A : Nat → Prop) (u : zw_U) (t : State) : Prop := va_P g.1 vwCl (zw_v u.1 u.2.1 u.2.2) t.heap ∧ va_D A (zw_v u.1 u.2.1 u.2.2)
def zw_Pre (g : zw_G) (N : Nat) (ad : Nat → Nat) (E : Nat → va_E) (sz : Nat) (U : State) : Prop := U.heap.size = sz ∧ va_P g.1 vwCl (zw_v N ad E) U.heap ∧ zw_K g U ∧ va_D (fun _ => True) (zw_v N ad E)
abbrev zw_Pi : Type := Int32 → Nat → (Nat → Nat) → (Nat → va_E) → Prop
abbrev zw_Pv : Type := Nat → (Nat → Nat) → (Nat → va_E) → Prop
abbrev zw_Pq : Type := Option Nat → Nat → (Nat → Nat) → (Nat → va_E) → Prop
def zw_Qi (g : zw_G) (A : Nat → Prop) (post : zw_Pi) : Array Value → State → Outcome → State → Prop := va_Qi (fun r (u : zw_U) => post r u.1 u.2.1 u.2.2) (zw_B g A) A
def zw_Qv (g : zw_G) (A : Nat → Prop) (post : zw_Pv) : Array Value → State → Outcome → State → Prop := va_Qv (fun (u : zw_U) => post u.1 u.2.1 u.2.2) (zw_B g A) A
def zw_Qq (g : zw_G) (A : Nat → Prop) (post : zw_Pq) : Array Value → State → Outcome → State → Prop := va_Qq (fun r (u : zw_U) => post r u.1 u.2.1 u.2.2) (zw_B g A) A
def zw_w (y : MethodName) (b : ByteArray) (mL : Nat) (ret : Option FieldType) : List Cond := Cond.code y b mL ret :: zt_U
/-- the contract of a method with an int (a boolean), with nothing, with a reference or null as its answer -/
def zc_i (g : zw_G) (l : Launch) (y : MethodName) (b : ByteArray) (mL : Nat) (ret : Option FieldType) (rm : Room) (av : List Value) (N : Nat) (ad : Nat → Nat) (E : Nat → va_E) (post : zw_Pi) : Prop :=
  ∀ sz : Nat, Met l y (zw_w y b mL ret) rm (va_Pc av (zw_Pre g N ad E sz)) (zw_Qi g (va_A (zw_v N ad E) sz) post) rm.cells rm.slots (va_A (zw_v N ad E) sz)
def zc_v (g : zw_G) (l : Launch) (y : MethodName) (b : ByteArray) (mL : Nat) (rm : Room) (av : List Value) (N : Nat) (ad : Nat → Nat) (E : Nat → va_E) (post : zw_Pv) : Prop :=
  ∀ sz : Nat, Met l y (zw_w y b mL none) rm (va_Pc av (zw_Pre g N ad E sz)) (zw_Qv g (va_A (zw_v N ad E) sz) post) rm.cells rm.slots (va_A (zw_v N ad E) sz)
def zc_q (g : zw_G) (l : Launch) (y : MethodName) (b : ByteArray) (mL : Nat) (ret : Option FieldType) (rm : Room) (av : List Value) (N : Nat) (ad : Nat → Nat) (E : Nat → va_E) (post : zw_Pq) : Prop :=
  ∀ sz : Nat, Met l y (zw_w y b mL ret) rm (va_Pc av (zw_Pre g N ad E sz)) (zw_Qq g (va_A (zw_v N ad E) sz) post) rm.cells rm.slots (va_A (zw_v N ad E) sz)
/-- the goals of a walk -/
def zc_Zi (g : zw_G) (s : State) (A : Nat → Prop) (post : zw_Pi) (below : List Frame) (args : Array Value) (rm : Room) : State → Prop := MQ below (zw_Qi g A post) args s rm.cells rm.slots A
def zc_Zv (g : zw_G) (s : State) (A : Nat → Prop) (post : zw_Pv) (below : List Frame) (args : Array Value) (rm : Room) : State → Prop := MQ below (zw_Qv g A post) args s rm.cells rm.slots A
def zc_Zq (g : zw_G) (s : State) (A : Nat → Prop) (post : zw_Pq) (below : List Frame) (args : Array Value) (rm : Room) : State → Prop := MQ below (zw_Qq g A post) args s rm.cells rm.slots A
theorem zw_blind {g : zw_G} {N : Nat} {ad : Nat → Nat} {E : Nat → va_E} {sz : Nat} {av : List Value} : FrameBlind (va_Pc av (zw_Pre g N ad E sz)) := fun a U g1 mk q => by
  obtain ⟨q0, q1, qP, qK, qD⟩ := q
  exact ⟨q0, q1, qP, ⟨va_K.moved (u := U) (U := U.calling g1 mk a) (Vm.Alike.refl U.vm) qK.1, va_Nw.same rfl (u := U) (U := U.calling g1 mk a) rfl qK.2.1, va_Nw.same rfl (u := U) (U := U.calling g1 mk a) rfl qK.2.2.1, va_AO.moved (u := U) (U := U.calling g1 mk a) (Vm.Alike.refl U.vm) qK.2.2.2⟩, qD⟩
theorem zc_i.of {g : zw_G} {l : Launch} {y : MethodName} {b : ByteArray} {mL : Nat} {ret : Option FieldType} {rm : Room} {av : List Value} {N : Nat} {ad : Nat → Nat} {E : Nat → va_E} {post : zw_Pi} (hy : plainName y.cls = true) (hn : (lg_sl av).length ≤ mL)
    (body : ∀ (p : Program) (e : Env) (s : State) (m : MethodId) (below : List Frame) (meth : Method) (c : Code) (ls : Array Slot) (A : Nat → Prop), CallFix p m c b mL s av.toArray zt_U y.cls → meth.sig.returnType = ret → meth.locks = false → lv_has ls mL (lv_args 0 av) → zw_H g A s.heap s N ad E s.heap [] →
      W p l e rm s m av.toArray below meth c s.heap [] 0 0 (zc_Zi g s A post below av.toArray rm) (F0 m 0 ls [])) : zc_i g l y b mL ret rm av N ad E post := by
  intro sz
  refine Met.ofW (cc := b) (maxL := mL) (ret := ret) hy rfl ?_
  intro p e s m args below meth c s₁ B hml hv
  obtain ⟨rfl, hsz, hP, hK, hD0⟩ := hv
  subst hsz
  rw [lg_entry_eq]
  have hts := atoms_spec (ws := zw_w y b mL ret) B.pre
  exact body p e s m below meth c _ (va_A (zw_v N ad E) s.heap.size) ⟨B.exec, B.bytes, hml, findClass_of_methodNamed B.named, fun w h => hts w (List.mem_cons_of_mem _ h)⟩ B.returns B.notSynchronized (lv_entry av hn) ⟨hK, hP, hD0.self, va_S.rf, fun q h => Or.inr h⟩
theorem zc_v.of {g : zw_G} {l : Launch} {y : MethodName} {b : ByteArray} {mL : Nat} {rm : Room} {av : List Value} {N : Nat} {ad : Nat → Nat} {E : Nat → va_E} {post : zw_Pv} (hy : plainName y.cls = true) (hn : (lg_sl av).length ≤ mL)
    (body : ∀ (p : Program) (e : Env) (s : State) (m : MethodId) (below : List Frame) (meth : Method) (c : Code) (ls : Array Slot) (A : Nat → Prop), CallFix p m c b mL s av.toArray zt_U y.cls → meth.sig.returnType = none → meth.locks = false → meth.name = y.name → lv_has ls mL (lv_args 0 av) → zw_H g A s.heap s N ad E s.heap [] →
      W p l e rm s m av.toArray below meth c s.heap [] 0 0 (zc_Zv g s A post below av.toArray rm) (F0 m 0 ls [])) : zc_v g l y b mL rm av N ad E post := by
  intro sz
  refine Met.ofW (cc := b) (maxL := mL) (ret := none) hy rfl ?_
  intro p e s m args below meth c s₁ B hml hv
  obtain ⟨rfl, hsz, hP, hK, hD0⟩ := hv
  subst hsz
  rw [lg_entry_eq]
  have hts := atoms_spec (ws := zw_w y b mL none) B.pre
  exact body p e s m below meth c _ (va_A (zw_v N ad E) s.heap.size) ⟨B.exec, B.bytes, hml, findClass_of_methodNamed B.named, fun w h => hts w (List.mem_cons_of_mem _ h)⟩ B.returns B.notSynchronized (name_of_methodNamed B.named B.method).1 (lv_entry av hn) ⟨hK, hP, hD0.self, va_S.rf, fun q h => Or.inr h⟩
theorem zc_q.of {g : zw_G} {l : Launch} {y : MethodName} {b : ByteArray} {mL : Nat} {ret : Option FieldType} {rm : Room} {av : List Value} {N : Nat} {ad : Nat → Nat} {E : Nat → va_E} {post : zw_Pq} (hy : plainName y.cls = true) (hn : (lg_sl av).length ≤ mL)
    (body : ∀ (p : Program) (e : Env) (s : State) (m : MethodId) (below : List Frame) (meth : Method) (c : Code) (ls : Array Slot) (A : Nat → Prop), CallFix p m c b mL s av.toArray zt_U y.cls → meth.sig.returnType = ret → meth.locks = false → lv_has ls mL (lv_args 0 av) → zw_H g A s.heap s N ad E s.heap [] →
      W p l e rm s m av.toArray below meth c s.heap [] 0 0 (zc_Zq g s A post below av.toArray rm) (F0 m 0 ls [])) : zc_q g l y b mL ret rm av N ad E post := by
  intro sz
  refine Met.ofW (cc := b) (maxL := mL) (ret := ret) hy rfl ?_
  intro p e s m args below meth c s₁ B hml hv
  obtain ⟨rfl, hsz, hP, hK, hD0⟩ := hv
  subst hsz
  rw [lg_entry_eq]
  have hts := atoms_spec (ws := zw_w y b mL ret) B.pre
  exact body p e s m below meth c _ (va_A (zw_v N ad E) s.heap.size) ⟨B.exec, B.bytes, hml, findClass_of_methodNamed B.named, fun w h => hts w (List.mem_cons_of_mem _ h)⟩ B.returns B.notSynchronized (lv_entry av hn) ⟨hK, hP, hD0.self, va_S.rf, fun q h => Or.inr h⟩
/-- what a field's own rows of the tables say, for a read and for a write -/
def zf_g (own : String) (idx ci : Nat) (C : String) (T : u_T) (Nf j : Nat) : Prop := vwCl[ci]? = some (C, T, Nf) ∧ (∀ w ∈ u_ws C T Nf, w ∈ zt_U) ∧ j < Nf ∧ Cond.fieldLink own idx (T j).1 (T j).2.1 (T j).2.2.1 ∈ zt_U
def zf_p (own : String) (idx ci : Nat) (C : String) (T : u_T) (Nf j : Nat) (fin : Bool) (ty : FieldType) : Prop := zf_g own idx ci C T Nf j ∧ (∃ ty0 : Nat → FieldType, ∀ k, k < Nf → parseFieldDescriptor (T k).2.2.1 = some (ty0 k)) ∧ (∀ a, a < Nf → ∀ b, b < Nf → a ≠ b → (T a).2.1 ≠ (T b).2.1) ∧ (T j).2.2.2 = fin ∧ parseFieldDescriptor (T j).2.2.1 = some ty
section ZX
variable {p : Program} {l : Launch} {e : Env} {R : Room} {s : State} {m : MethodId} {args : Array Value} {below : List Frame} {meth : Method} {c : Code} {H : Heap} {locs : List Loc} {cells slots : Nat} {Q : State → Prop} {cc : ByteArray} {pc nL : Nat} {ls : Array Slot} {rest : List Value} {own : String} {g : zw_G} {A : Nat → Prop} {H0 : Heap} {N : Nat} {ad : Nat → Nat} {E : Nat → va_E}
theorem zx_get (X : CallFix p m c cc nL s args zt_U own) (hH : zw_H g A H0 s N ad E H locs) {k ci j idx Nf : Nat} {fs : List Value} {C : String} {T : u_T} {v : Value} (F : zf_g own idx ci C T Nf j) (hk : k < N) (hE : E k = .inr (ci, fs)) (hv : fs[j]? = some v) (hd : decode cc pc = .ok (.getfield idx, 3))
    (kk : W p l e R s m args below meth c H locs cells slots Q (F0 m (pc + 3) ls (v :: rest))) : W p l e R s m args below meth c H locs cells slots Q (F0 m pc ls (.ref (ad k) :: rest)) :=
  va_get (D := g.1) X.1 X.2.1 X.2.2.2.2 F.2.1 X.2.2.2.1 hH.1.1 hH.2.1 k (by rw [zw_get hk, hE]) F.1 j F.2.2.1 (X.2.2.2.2 _ F.2.2.2) (fun _ h => h) hv hd kk
theorem zx_put (X : CallFix p m c cc nL s args zt_U own) (hH : zw_H g A H0 s N ad E H locs) {k ci j idx Nf : Nat} {fs : List Value} {C : String} {T : u_T} {ty : FieldType} {v : Value} (F : zf_p own idx ci C T Nf j false ty) (hk : k < N) (hE : E k = .inr (ci, fs)) (hl : j < fs.length) (hn : narrow ty v = v) (hf : fits ty v = true) (hd : decode cc pc = .ok (.putfield idx, 3))
    (kk : ∀ (H1 : Heap) (locs1 : List Loc), zw_H g A H0 s N ad (va_up E k (.inr (ci, fs.set j v))) H1 locs1 → W p l e R s m args below meth c H1 locs1 cells slots Q (F0 m (pc + 3) ls rest)) : W p l e R s m args below meth c H locs cells slots Q (F0 m pc ls (v :: .ref (ad k) :: rest)) := by
  obtain ⟨G, ⟨ty0, hty⟩, hnm, hfin, hp⟩ := F
  refine va_put (D := g.1) X.1 X.2.1 X.2.2.2.2 G.2.1 ty0 hty hnm X.2.2.2.1 hH.1.1 hH.2.1 hH.2.2.1 hH.2.2.2.1 k (by rw [zw_get hk, hE]) G.1 j G.2.2.1 (X.2.2.2.2 _ G.2.2.2) (fun _ h => h) hfin hp hn hf hl hd (fun H1 locs1 hP hD hS => ?_)
  rw [zw_set] at hP hD
  exact kk H1 locs1 ⟨hH.1, hP, hD, hS, hH.2.2.2.2⟩
theorem zx_putF (X : CallFix p m c cc nL s args zt_U own) (hH : zw_H g A H0 s N ad E H locs) {k ci j idx Nf : Nat} {fs : List Value} {C : String} {T : u_T} {ty : FieldType} {v : Value} (F : zf_p own idx ci C T Nf j true ty) (hin : meth.name = "<init>") (ho : (T j).1 = own) (hk : k < N) (hE : E k = .inr (ci, fs)) (hl : j < fs.length) (hn : narrow ty v = v) (hf : fits ty v = true) (hd : decode cc pc = .ok (.putfield idx, 3))
    (kk : ∀ (H1 : Heap) (locs1 : List Loc), zw_H g A H0 s N ad (va_up E k (.inr (ci, fs.set j v))) H1 locs1 → W p l e R s m args below meth c H1 locs1 cells slots Q (F0 m (pc + 3) ls rest)) : W p l e R s m args below meth c H locs cells slots Q (F0 m pc ls (v :: .ref (ad k) :: rest)) := by
  obtain ⟨G, ⟨ty0, hty⟩, hnm, hfin, hp⟩ := F
  refine va_putF (D := g.1) X.1 X.2.1 X.2.2.2.2 G.2.1 ty0 hty hnm X.2.2.2.1 hH.1.1 hH.2.1 hH.2.2.1 hH.2.2.2.1 k (by rw [zw_get hk, hE]) G.1 j G.2.2.1 (X.2.2.2.2 _ G.2.2.2) (fun _ h => h) hfin hin ho hp hn hf hl hd (fun H1 locs1 hP hD hS => ?_)
  rw [zw_set] at hP hD
  exact kk H1 locs1 ⟨hH.1, hP, hD, hS, hH.2.2.2.2⟩
theorem zx_iald (X : CallFix p m c cc nL s args zt_U own) (hH : zw_H g A H0 s N ad E H locs) {k n j : Nat} {f : Nat → Int32} {i : Int32} (hk : k < N) (hE : E k = .inl (g.2 0, n, .inl f)) (hi : i = nI j) (hj : j < n) (hn : n < 2 ^ 31) (hd : decode cc pc = .ok (.iaload, 1))
    (kk : W p l e R s m args below meth c H locs cells slots Q (F0 m (pc + 1) ls (.int (f j) :: rest))) : W p l e R s m args below meth c H locs cells slots Q (F0 m pc ls (.int i :: .ref (ad k) :: rest)) := by
  subst hi
  refine va_iald (D := g.1) X.1 X.2.1 hH.1.1 hH.2.1 k 0 (by rw [zw_get hk, hE]) rfl (vp_in_nI hj hn) hd ?_
  rw [nI_clamp (by omega)]
  exact kk
theorem zx_zald (X : CallFix p m c cc nL s args zt_U own) (hH : zw_H g A H0 s N ad E H locs) {k n j : Nat} {f : Nat → Int32} {i : Int32} (hk : k < N) (hE : E k = .inl (g.2 1, n, .inl f)) (hi : i = nI j) (hj : j < n) (hn : n < 2 ^ 31) (hd : decode cc pc = .ok (.baload, 1))
    (kk : W p l e R s m args below meth c H locs cells slots Q (F0 m (pc + 1) ls (.int (f j) :: rest))) : W p l e R s m args below meth c H locs cells slots Q (F0 m pc ls (.int i :: .ref (ad k) :: rest)) := by
  subst hi
  refine va_zald (D := g.1) X.1 X.2.1 hH.1.1 hH.2.1 k 1 (by rw [zw_get hk, hE]) rfl (vp_in_nI hj hn) hd ?_
  rw [nI_clamp (by omega)]
  exact kk
theorem zx_aald (X : CallFix p m c cc nL s args zt_U own) (hH : zw_H g A H0 s N ad E H locs) {k n j : Nat} {f : Nat → Option Nat} {i : Int32} (hk : k < N) (hE : E k = .inl (g.2 2, n, .inr (.inr (.inr (.inr f))))) (hi : i = nI j) (hj : j < n) (hn : n < 2 ^ 31) (hd : decode cc pc = .ok (.aaload, 1))
    (kk : W p l e R s m args below meth c H locs cells slots Q (F0 m (pc + 1) ls (va_rf (f j) :: rest))) : W p l e R s m args below meth c H locs cells slots Q (F0 m pc ls (.int i :: .ref (ad k) :: rest)) := by
  subst hi
  refine va_aldq (D := g.1) X.1 X.2.1 hH.1.1 hH.2.1 k 2 (by rw [zw_get hk, hE]) rfl (vp_in_nI hj hn) hd ?_
  rw [nI_clamp (by omega)]
  exact kk
theorem zx_iast (X : CallFix p m c cc nL s args zt_U own) (hH : zw_H g A H0 s N ad E H locs) {k n j : Nat} {f : Nat → Int32} {i x : Int32} (hk : k < N) (hE : E k = .inl (g.2 0, n, .inl f)) (hi : i = nI j) (hj : j < n) (hn : n < 2 ^ 31) (hd : decode cc pc = .ok (.iastore, 1))
    (kk : ∀ (H1 : Heap) (locs1 : List Loc), zw_H g A H0 s N ad (va_up E k (.inl (g.2 0, n, .inl (upd f j x)))) H1 locs1 → W p l e R s m args below meth c H1 locs1 cells slots Q (F0 m (pc + 1) ls rest)) : W p l e R s m args below meth c H locs cells slots Q (F0 m pc ls (.int x :: .int i :: .ref (ad k) :: rest)) := by
  subst hi
  refine va_iast (D := g.1) X.1 X.2.1 hH.1.1 hH.2.1 hH.2.2.1 hH.2.2.2.1 k 0 (by rw [zw_get hk, hE]) rfl (vp_in_nI hj hn) hd (fun H1 locs1 hP hD hS => ?_)
  rw [nI_clamp (by omega), zw_set] at hP hD
  exact kk H1 locs1 ⟨hH.1, hP, hD, hS, hH.2.2.2.2⟩
theorem zx_alen (X : CallFix p m c cc nL s args zt_U own) (hH : zw_H g A H0 s N ad E H locs) {k n : Nat} {f : (Nat → Int32) ⊕ (Nat → Int64) ⊕ (Nat → UInt32) ⊕ (Nat → UInt64) ⊕ (Nat → Option Nat)} (hk : k < N) (hE : E k = .inl (g.2 0, n, f)) (hd : decode cc pc = .ok (.arraylength, 1))
    (kk : W p l e R s m args below meth c H locs cells slots Q (F0 m (pc + 1) ls (.int (nI n) :: rest))) : W p l e R s m args below meth c H locs cells slots Q (F0 m pc ls (.ref (ad k) :: rest)) :=
  va_alen (D := g.1) (x := (n, f)) X.1 X.2.1 hH.1.1 hH.2.1 k 0 (by rw [zw_get hk, hE]) rfl rfl hd kk
/-- the ends -/
theorem zx_iret (X : CallFix p m c cc nL s args zt_U own) (hr : meth.sig.returnType = some .int) (hlk : meth.locks = false) (hH : zw_H g A s.heap s N ad E H locs) {post : zw_Pi} {rm : Room} {v : Int32} (h1 : cells ≤ rm.cells) (h2 : slots ≤ rm.slots) (hd : decode cc pc = .ok (.ireturn, 1)) (hq : post v N ad E) :
    W p l e R s m args below meth c H locs cells slots (zc_Zi g s A post below args rm) (F0 m pc ls [.int v]) := by
  refine W.widen h1 h2 ?_
  exact W.iret X.1 X.2.1 hr (fun t ht hW => ⟨⟨v, (N, ad, E), rfl, hq, by rw [ht]; exact hH.2.1, hH.2.2.1⟩, hH.2.2.2.1.F ht⟩) hH.2.2.2.1.2.2 hd hlk
theorem zx_zret (X : CallFix p m c cc nL s args zt_U own) (hr : meth.sig.returnType = some .boolean) (hlk : meth.locks = false) (hH : zw_H g A s.heap s N ad E H locs) {post : zw_Pi} {rm : Room} {v : Int32} (h1 : cells ≤ rm.cells) (h2 : slots ≤ rm.slots) (hd : decode cc pc = .ok (.ireturn, 1)) (hn : narrow .boolean (.int v) = .int v) (hq : post v N ad E) :
    W p l e R s m args below meth c H locs cells slots (zc_Zi g s A post below args rm) (F0 m pc ls [.int v]) := by
  refine W.widen h1 h2 ?_
  exact W.zret X.1 X.2.1 hr hn (fun t ht hW => ⟨⟨v, (N, ad, E), rfl, hq, by rw [ht]; exact hH.2.1, hH.2.2.1⟩, hH.2.2.2.1.F ht⟩) hH.2.2.2.1.2.2 hd hlk
theorem zx_vret (X : CallFix p m c cc nL s args zt_U own) (hr : meth.sig.returnType = none) (hlk : meth.locks = false) (hH : zw_H g A s.heap s N ad E H locs) {post : zw_Pv} {rm : Room} (h1 : cells ≤ rm.cells) (h2 : slots ≤ rm.slots) (hd : decode cc pc = .ok (.return_, 1)) (hq : post N ad E) :
    W p l e R s m args below meth c H locs cells slots (zc_Zv g s A post below args rm) (F0 m pc ls []) := by
  refine W.widen h1 h2 ?_
  exact W.vret X.1 X.2.1 hr (fun t ht hW => ⟨⟨(N, ad, E), rfl, hq, by rw [ht]; exact hH.2.1, hH.2.2.1⟩, hH.2.2.2.1.F ht⟩) hH.2.2.2.1.2.2 hd hlk
theorem zx_aret (X : CallFix p m c cc nL s args zt_U own) {rt : FieldType} (hr : meth.sig.returnType = some rt) (hrt : (∃ n, rt = .object n) ∨ ∃ t, rt = .array t) (hlk : meth.locks = false) (hH : zw_H g A s.heap s N ad E H locs) {post : zw_Pq} {rm : Room} {v : Option Nat} {w : Value} (hw : w = va_rf v) (h1 : cells ≤ rm.cells) (h2 : slots ≤ rm.slots) (hd : decode cc pc = .ok (.areturn, 1)) (hq : post v N ad E) :
    W p l e R s m args below meth c H locs cells slots (zc_Zq g s A post below args rm) (F0 m pc ls [w]) := by
  subst hw
  refine W.widen h1 h2 ?_
  exact W.aret X.1 X.2.1 hr hrt (va_rf_or v) (fun t ht hW => ⟨⟨v, (N, ad, E), rfl, hq, by rw [ht]; exact hH.2.1, hH.2.2.1⟩, hH.2.2.2.1.F ht⟩) hH.2.2.2.1.2.2 hd hlk
theorem zw_free (hH : zw_H g A H0 s N ad E H locs) : ∀ q, va_A (zw_v N ad E) H.size q → A q := by
  obtain ⟨-, -, hD, hS, hA⟩ := hH
  intro q hq
  rcases hq with ⟨k, e, hk⟩ | h
  · obtain ⟨h1, h2⟩ := zw_inv hk
    have h3 := (zw_D.mp hD).2 k h1
    have h4 : q = ad k := congrArg Prod.fst h2
    rw [h4]
    exact h3
  · exact hA q (Nat.le_trans hS.1 h)
/-- behind a call -/
theorem zx_calli {mc ms : Nat} {st0 : List Value} {a : Array Value} {post : zw_Pi} (hr : va_Run p l e R s m args below meth c H locs cells slots mc ms (F0 m pc ls st0) rest (zw_Qi g (va_A (zw_v N ad E) H.size) post a) (va_A (zw_v N ad E) H.size)) (hH : zw_H g A H0 s N ad E H locs)
    (kk : ∀ (r : Int32) (N1 : Nat) (ad1 : Nat → Nat) (E1 : Nat → va_E) (H1 : Heap) (locs1 : List Loc), post r N1 ad1 E1 → zw_H g A H0 s N1 ad1 E1 H1 locs1 → W p l e R s m args below meth c H1 locs1 (cells + mc) (slots + ms) Q (F0 m (pc + 3) ls (.int r :: rest))) : W p l e R s m args below meth c H locs cells slots Q (F0 m pc ls st0) := by
  have hF := zw_free hH
  obtain ⟨hK, hP, hD, hS, hA⟩ := hH
  refine va_calli hr hS (fun q _ h => hF q h) hF (fun r u t H1 locs1 ht hvm hw hB hz1 hk1 hS1 => ?_)
  obtain ⟨hP1, hD1⟩ := hB
  rw [ht] at hP1
  exact kk r u.1 u.2.1 u.2.2 H1 locs1 hw ⟨hK, hP1, hD1.weaken (fun k q _ h => hF _ h), hS1, hA⟩
theorem zx_callv {mc ms : Nat} {st0 : List Value} {a : Array Value} {post : zw_Pv} (hr : va_Run p l e R s m args below meth c H locs cells slots mc ms (F0 m pc ls st0) rest (zw_Qv g (va_A (zw_v N ad E) H.size) post a) (va_A (zw_v N ad E) H.size)) (hH : zw_H g A H0 s N ad E H locs)
    (kk : ∀ (N1 : Nat) (ad1 : Nat → Nat) (E1 : Nat → va_E) (H1 : Heap) (locs1 : List Loc), post N1 ad1 E1 → zw_H g A H0 s N1 ad1 E1 H1 locs1 → W p l e R s m args below meth c H1 locs1 (cells + mc) (slots + ms) Q (F0 m (pc + 3) ls rest)) : W p l e R s m args below meth c H locs cells slots Q (F0 m pc ls st0) := by
  have hF := zw_free hH
  obtain ⟨hK, hP, hD, hS, hA⟩ := hH
  refine va_callv hr hS (fun q _ h => hF q h) hF (fun u t H1 locs1 ht hvm hw hB hz1 hk1 hS1 => ?_)
  obtain ⟨hP1, hD1⟩ := hB
  rw [ht] at hP1
  exact kk u.1 u.2.1 u.2.2 H1 locs1 hw ⟨hK, hP1, hD1.weaken (fun k q _ h => hF _ h), hS1, hA⟩
theorem zx_callq {mc ms : Nat} {st0 : List Value} {a : Array Value} {post : zw_Pq} (hr : va_Run p l e R s m args below meth c H locs cells slots mc ms (F0 m pc ls st0) rest (zw_Qq g (va_A (zw_v N ad E) H.size) post a) (va_A (zw_v N ad E) H.size)) (hH : zw_H g A H0 s N ad E H locs)
    (kk : ∀ (r : Option Nat) (N1 : Nat) (ad1 : Nat → Nat) (E1 : Nat → va_E) (H1 : Heap) (locs1 : List Loc), post r N1 ad1 E1 → zw_H g A H0 s N1 ad1 E1 H1 locs1 → W p l e R s m args below meth c H1 locs1 (cells + mc) (slots + ms) Q (F0 m (pc + 3) ls (va_rf r :: rest))) : W p l e R s m args below meth c H locs cells slots Q (F0 m pc ls st0) := by
  have hF := zw_free hH
  obtain ⟨hK, hP, hD, hS, hA⟩ := hH
  refine va_callq hr hS (fun q _ h => hF q h) hF (fun r u t H1 locs1 ht hvm hw hB hz1 hk1 hS1 => ?_)
  obtain ⟨hP1, hD1⟩ := hB
  rw [ht] at hP1
  exact kk r u.1 u.2.1 u.2.2 H1 locs1 hw ⟨hK, hP1, hD1.weaken (fun k q _ h => hF _ h), hS1, hA⟩
end ZX
/-- what the tables say of a call: by a reference, of a static method, of a constructor; N: of a nest mate's private one -/
def zm_b (y : MethodName) (b : ByteArray) (mL : Nat) (ret : Option FieldType) (n : Nat) : Prop := Cond.initialized y.cls ∈ zt_U ∧ Cond.code y b mL ret ∈ zt_U ∧ y.cls ≠ "java/lang/invoke/MethodHandle" ∧ y.cls ≠ "java/lang/invoke/VarHandle" ∧ (parseMethodDescriptor y.desc).map (fun d => d.parameters.length) = some n
def zm_v (own : String) (idx : Nat) (y : MethodName) (b : ByteArray) (mL : Nat) (ret : Option FieldType) (n : Nat) : Prop := zm_b y b mL ret n ∧ Cond.methodLink own idx y ∈ zt_U ∧ Cond.instanceMethod y ∈ zt_U ∧ Cond.selects y.cls y y ∈ zt_U
def zm_s (own : String) (idx : Nat) (y : MethodName) (b : ByteArray) (mL : Nat) (ret : Option FieldType) (n : Nat) : Prop := zm_b y b mL ret n ∧ Cond.methodLink own idx y ∈ zt_U ∧ Cond.static y ∈ zt_U
def zm_i (own : String) (idx : Nat) (y : MethodName) (b : ByteArray) (mL : Nat) (n : Nat) : Prop := zm_b y b mL none n ∧ Cond.methodLink own idx y ∈ zt_U ∧ Cond.instanceMethod y ∈ zt_U ∧ y.name = "<init>"
def zm_sN (y : MethodName) (b : ByteArray) (mL : Nat) (ret : Option FieldType) (n : Nat) : Prop := zm_b y b mL ret n ∧ Cond.static y ∈ zt_U
def zm_iN (y : MethodName) (b : ByteArray) (mL : Nat) (n : Nat) : Prop := zm_b y b mL none n ∧ Cond.instanceMethod y ∈ zt_U ∧ y.name = "<init>"
theorem zg_in {ws : List Cond} (h : ∀ w ∈ ws, w ∈ zt_U) : GoodIn zt_U ws := fun w hw => ⟨h w hw, zt_good w (h w hw)⟩
theorem zg_w {y : MethodName} {b : ByteArray} {mL : Nat} {ret : Option FieldType} {n : Nat} (M : zm_b y b mL ret n) : ∀ w ∈ zw_w y b mL ret, w ∈ zt_U := fun w hw => by
  rcases List.mem_cons.mp hw with h | h
  · rw [h]; exact M.2.1
  · exact h
section ZR
variable {p : Program} {l : Launch} {e : Env} {R : Room} {s : State} {m : MethodId} {args : Array Value} {below : List Frame} {meth : Method} {c : Code} {H : Heap} {locs : List Loc} {cells slots : Nat} {Q : State → Prop} {cc : ByteArray} {pc nL : Nat} {ls : Array Slot} {rest st0 As : List Value} {own : String} {g : zw_G} {A : Nat → Prop} {H0 : Heap} {N : Nat} {ad : Nat → Nat} {E : Nat → va_E} {y : MethodName} {b : ByteArray} {mL n idx : Nat} {ret : Option FieldType} {rm : Room} {Qc : Array Value → State → Outcome → State → Prop} {free : Addr → Prop} {lv : List (Nat × Value)} {host : String}
theorem zx_pre (hH : zw_H g A H0 s N ad E H locs) (av : List Value) : PreS s H (va_Pc av (zw_Pre g N ad E H.size)) av :=
  ⟨zw_blind, fun U hU hW => ⟨rfl, by rw [hU], by rw [hU]; exact hH.2.1, zw_K.warm hW hH.1, hH.2.2.1.weaken (fun _ _ _ _ => trivial)⟩⟩
theorem zx_runV (X : CallFix p m c cc nL s args zt_U own) (hH : zw_H g A H0 s N ad E H locs) {k ci Nf : Nat} {fs : List Value} {T : u_T} (M : zm_v own idx y b mL ret n) (hM : Met l y (zw_w y b mL ret) rm (va_Pc (.ref (ad k) :: As) (zw_Pre g N ad E H.size)) Qc rm.cells rm.slots free) (hk : k < N) (hE : E k = .inr (ci, fs)) (hc : vwCl[ci]? = some (y.cls, T, Nf)) (hR : rm.frames + 1 ≤ R.frames ∧ 8 + (mL + 11) + rm.locals ≤ R.locals) (hn : As.length = n) (hl : lv_has ls nL lv) (hst : st0 = As.reverse ++ .ref (ad k) :: rest) (hW : (rest.map fun v => v.category).sum ≤ 8) (hd : decode cc pc = .ok (.invokevirtual idx, 3)) (hf : cells + rm.cells ≤ R.cells ∧ slots + rm.slots ≤ R.slots) :
    va_Run p l e R s m args below meth c H locs cells slots rm.cells rm.slots (F0 m pc ls st0) rest (Qc (Value.ref (ad k) :: As).toArray) free := by
  obtain ⟨B, h1, h2, h3⟩ := M
  have hG : GoodIn zt_U (wsV own idx y.cls y (zw_w y b mL ret)) := zg_in (fun w hw => by
    unfold wsV at hw
    rcases List.mem_append.mp hw with h | h
    · simp only [List.mem_cons, List.not_mem_nil, or_false] at h
      rcases h with rfl | rfl | rfl | rfl
      · exact h1
      · exact h2
      · exact h3
      · exact B.1
    · exact zg_w B w h)
  have hp := zx_pre hH (.ref (ad k) :: As)
  exact va_runV (As := As) (rest := rest) X hM (cwV n X.2.2.2.2 hG rfl rfl rfl ⟨rfl, B.2.2.1, B.2.2.2.1, B.2.2.2.2⟩ hR) ⟨hp.1, va_recv hH.1.1 hH.2.1 hc (by rw [zw_get hk, hE]), hp.2⟩ rfl hn hl.1 hst (lv_room hW) hd hf
theorem zx_runS (X : CallFix p m c cc nL s args zt_U own) (hH : zw_H g A H0 s N ad E H locs) (M : zm_s own idx y b mL ret n) (hM : Met l y (zw_w y b mL ret) rm (va_Pc As (zw_Pre g N ad E H.size)) Qc rm.cells rm.slots free) (hR : rm.frames + 1 ≤ R.frames ∧ 8 + (mL + 11) + rm.locals ≤ R.locals) (hn : As.length = n) (hl : lv_has ls nL lv) (hst : st0 = As.reverse ++ rest) (hW : (rest.map fun v => v.category).sum ≤ 8) (hd : decode cc pc = .ok (.invokestatic idx, 3)) (hf : cells + rm.cells ≤ R.cells ∧ slots + rm.slots ≤ R.slots) :
    va_Run p l e R s m args below meth c H locs cells slots rm.cells rm.slots (F0 m pc ls st0) rest (Qc As.toArray) free := by
  obtain ⟨B, h1, h2⟩ := M
  have hG : GoodIn zt_U (va_wsS own idx y (zw_w y b mL ret)) := zg_in (fun w hw => by
    unfold va_wsS at hw
    rcases List.mem_append.mp hw with h | h
    · simp only [List.mem_cons, List.not_mem_nil, or_false] at h
      rcases h with rfl | rfl | rfl
      · exact h1
      · exact h2
      · exact B.1
    · exact zg_w B w h)
  exact va_runS (As := As) (rest := rest) X hM (va_cwS n X.2.2.2.2 hG rfl rfl rfl ⟨B.2.2.1, B.2.2.2.1, B.2.2.2.2⟩ hR) (zx_pre hH As) rfl hn hl.1 hst (lv_room hW) hd hf
theorem zx_runSN (X : CallFix p m c cc nL s args zt_U own) (hH : zw_H g A H0 s N ad E H locs) (M : zm_sN y b mL ret n) (hh : va_Nw (.methodLinkNest own idx y host) s) (hM : Met l y (zw_w y b mL ret) rm (va_Pc As (zw_Pre g N ad E H.size)) Qc rm.cells rm.slots free) (hR : rm.frames + 1 ≤ R.frames ∧ 8 + (mL + 11) + rm.locals ≤ R.locals) (hn : As.length = n) (hl : lv_has ls nL lv) (hst : st0 = As.reverse ++ rest) (hW : (rest.map fun v => v.category).sum ≤ 8) (hd : decode cc pc = .ok (.invokestatic idx, 3)) (hf : cells + rm.cells ≤ R.cells ∧ slots + rm.slots ≤ R.slots) :
    va_Run p l e R s m args below meth c H locs cells slots rm.cells rm.slots (F0 m pc ls st0) rest (Qc As.toArray) free := by
  obtain ⟨B, h2⟩ := M
  have ht := X.2.2.2.2
  exact va_runSN (As := As) (rest := rest) X hM ⟨va_cnB n ht (zg_in (zg_w B)) rfl rfl rfl hh (ht _ B.1) ⟨B.2.2.1, B.2.2.2.1, B.2.2.2.2⟩ hR, ht _ h2, trivial⟩ (zx_pre hH As) rfl hn hl.1 hst (lv_room hW) hd hf
theorem zx_runI (X : CallFix p m c cc nL s args zt_U own) (hH : zw_H g A H0 s N ad E H locs) {a : Nat} (M : zm_i own idx y b mL n) (hM : Met l y (zw_w y b mL none) rm (va_Pc (.ref a :: As) (zw_Pre g N ad E H.size)) Qc rm.cells rm.slots free) (hR : rm.frames + 1 ≤ R.frames ∧ 8 + (mL + 11) + rm.locals ≤ R.locals) (hn : As.length = n) (hl : lv_has ls nL lv) (hst : st0 = As.reverse ++ .ref a :: rest) (hW : (rest.map fun v => v.category).sum ≤ 8) (hd : decode cc pc = .ok (.invokespecial idx, 3)) (hf : cells + rm.cells ≤ R.cells ∧ slots + rm.slots ≤ R.slots) :
    va_Run p l e R s m args below meth c H locs cells slots rm.cells rm.slots (F0 m pc ls st0) rest (Qc (Value.ref a :: As).toArray) free := by
  obtain ⟨B, h1, h2, h3⟩ := M
  have ht := X.2.2.2.2
  exact va_runI (As := As) (rest := rest) X hM (cwI n ht (zg_in (zg_w B)) rfl rfl rfl (ht _ B.1) (ht _ h1) (ht _ h2) h3 ⟨B.2.2.1, B.2.2.2.1, B.2.2.2.2⟩ hR) (zx_pre hH (.ref a :: As)) rfl hn hl.1 hst (lv_room hW) hd hf
theorem zx_runIN (X : CallFix p m c cc nL s args zt_U own) (hH : zw_H g A H0 s N ad E H locs) {a : Nat} (M : zm_iN y b mL n) (hh : va_Nw (.methodLinkNest own idx y host) s) (hM : Met l y (zw_w y b mL none) rm (va_Pc (.ref a :: As) (zw_Pre g N ad E H.size)) Qc rm.cells rm.slots free) (hR : rm.frames + 1 ≤ R.frames ∧ 8 + (mL + 11) + rm.locals ≤ R.locals) (hn : As.length = n) (hl : lv_has ls nL lv) (hst : st0 = As.reverse ++ .ref a :: rest) (hW : (rest.map fun v => v.category).sum ≤ 8) (hd : decode cc pc = .ok (.invokespecial idx, 3)) (hf : cells + rm.cells ≤ R.cells ∧ slots + rm.slots ≤ R.slots) :
    va_Run p l e R s m args below meth c H locs cells slots rm.cells rm.slots (F0 m pc ls st0) rest (Qc (Value.ref a :: As).toArray) free := by
  obtain ⟨B, h2, h3⟩ := M
  have ht := X.2.2.2.2
  exact va_runIN (As := As) (rest := rest) X hM ⟨va_cnB n ht (zg_in (zg_w B)) rfl rfl rfl hh (ht _ B.1) ⟨B.2.2.1, B.2.2.2.1, B.2.2.2.2⟩ hR, h3, ht _ h2⟩ (zx_pre hH (.ref a :: As)) rfl hn hl.1 hst (lv_room hW) hd hf
/-- a new int array, of a length that is known -/
theorem zx_newi (X : CallFix p m c cc nL s args zt_U own) (hH : zw_H g A H0 s N ad E H locs) (hw : Cond.arrayClass .int ∈ zt_U) {i : Int32} {j : Nat} (hi : i = nI j) (hj : j ≤ 134217728) (hc : cells + 1 ≤ R.cells) (hs : slots + j ≤ R.slots) (hd : decode cc pc = .ok (.newarray .int, 2))
    (kk : ∀ (q : Nat) (H1 : Heap), zw_H g A H0 s (N + 1) (va_up ad N q) (va_up E N (.inl (g.2 0, j, .inl (fun _ => 0)))) H1 locs → W p l e R s m args below meth c H1 locs (cells + 1) (slots + j) Q (F0 m (pc + 2) ls (.ref (va_up ad N q N) :: rest))) : W p l e R s m args below meth c H locs cells slots Q (F0 m pc ls (.int i :: rest)) := by
  subst hi
  have hK := hH.1.1
  refine va_newa (D := g.1) (atype := .int) (a0 := (j, .inl (fun _ => 0))) (N' := j) X.1 X.2.1 (X.2.2.2.2 _ hw) rfl hH.1.1 hH.2.1 hH.2.2.1 hH.2.2.2.1 hH.2.2.2.2 (fun _ => rfl) (nI_pos (by omega)) (nI_clamp (by omega)) (by show j * 4 ≤ _; omega) hc hs hd (fun q cA H1 hK1 hP hD hS => ?_)
  have e1 := va_nm_int (hK1.2 (zw_ty g).length (cA, .int) (by rw [List.getElem?_append_right (Nat.le_refl _), Nat.sub_self]; rfl)).2
  have e2 := va_nm_int (hK.2 0 (g.2 0, .int) rfl).2
  have e3 : cA = g.2 0 := Option.some.inj (e1.symm.trans e2)
  subst e3
  rw [zw_push] at hP hD
  have k2 := kk q H1 ⟨hH.1, hP, hD, hS, hH.2.2.2.2⟩
  rw [va_up_self] at k2
  exact k2
theorem zx_newz (X : CallFix p m c cc nL s args zt_U own) (hH : zw_H g A H0 s N ad E H locs) (hw : Cond.arrayClass .boolean ∈ zt_U) {i : Int32} {j : Nat} (hi : i = nI j) (hj : j ≤ 134217728) (hc : cells + 1 ≤ R.cells) (hs : slots + j ≤ R.slots) (hd : decode cc pc = .ok (.newarray .boolean, 2))
    (kk : ∀ (q : Nat) (H1 : Heap), zw_H g A H0 s (N + 1) (va_up ad N q) (va_up E N (.inl (g.2 1, j, .inl (fun _ => 0)))) H1 locs → W p l e R s m args below meth c H1 locs (cells + 1) (slots + j) Q (F0 m (pc + 2) ls (.ref (va_up ad N q N) :: rest))) : W p l e R s m args below meth c H locs cells slots Q (F0 m pc ls (.int i :: rest)) := by
  subst hi
  have hK := hH.1.1
  refine va_newa (D := g.1) (atype := .boolean) (a0 := (j, .inl (fun _ => 0))) (N' := j) X.1 X.2.1 (X.2.2.2.2 _ hw) rfl hH.1.1 hH.2.1 hH.2.2.1 hH.2.2.2.1 hH.2.2.2.2 (fun _ => rfl) (nI_pos (by omega)) (nI_clamp (by omega)) (by show j * 1 ≤ _; omega) hc hs hd (fun q cA H1 hK1 hP hD hS => ?_)
  have e1 := va_nm_boolean (hK1.2 (zw_ty g).length (cA, .boolean) (by rw [List.getElem?_append_right (Nat.le_refl _), Nat.sub_self]; rfl)).2
  have e2 := va_nm_boolean (hK.2 1 (g.2 1, .boolean) rfl).2
  have e3 : cA = g.2 1 := Option.some.inj (e1.symm.trans e2)
  subst e3
  rw [zw_push] at hP hD
  have k2 := kk q H1 ⟨hH.1, hP, hD, hS, hH.2.2.2.2⟩
  rw [va_up_self] at k2
  exact k2
end ZR
/-! numbers of branches, as numbers of Int -/
theorem zn_0 : (0 : Int32).toInt = 0 := by decide
theorem zn_lt {x y : Int32} {a b : Int} (hx : x.toInt = a) (hy : y.toInt = b) : x < y ↔ a < b := by rw [Int32.lt_iff_toInt_lt, hx, hy]
theorem zn_le {x y : Int32} {a b : Int} (hx : x.toInt = a) (hy : y.toInt = b) : x ≤ y ↔ a ≤ b := by rw [Int32.le_iff_toInt_le, hx, hy]
theorem zn_eq {x y : Int32} {a b : Int} (hx : x.toInt = a) (hy : y.toInt = b) : x = y ↔ a = b := by rw [← Int32.toInt_inj, hx, hy]
theorem zn_of {x : Int32} {j : Nat} (h : x.toInt = (j : Int)) : x = nI j := by
  have h2 := Int32.toInt_lt x
  rw [← Int32.toInt_inj, nI_toInt (by omega), h]
theorem zn_nat {x : Int32} (h : 0 ≤ x.toInt) : x = nI x.toInt.toNat := zn_of (by omega)
section ZT
variable {p : Program} {l : Launch} {e : Env} {R : Room} {s : State} {m : MethodId} {args : Array Value} {below : List Frame} {meth : Method} {c : Code} {H : Heap} {locs : List Loc} {cells slots : Nat} {Q : State → Prop} {pc : Nat} {ls : Array Slot} {rest : List Value}
theorem zx_top {a b : Int32} (h : a = b) (k : W p l e R s m args below meth c H locs cells slots Q (F0 m pc ls (.int b :: rest))) : W p l e R s m args below meth c H locs cells slots Q (F0 m pc ls (.int a :: rest)) := by
  subst h; exact k
end ZT
section ZU
variable {p : Program} {l : Launch} {e : Env} {R : Room} {s : State} {m : MethodId} {args : Array Value} {below : List Frame} {meth : Method} {c : Code} {H : Heap} {locs : List Loc} {cells slots : Nat} {Q : State → Prop} {cc : ByteArray} {pc nL : Nat} {ls : Array Slot} {rest : List Value} {own : String} {g : zw_G} {A : Nat → Prop} {H0 : Heap} {N : Nat} {ad : Nat → Nat} {E : Nat → va_E}
theorem zx_zast (X : CallFix p m c cc nL s args zt_U own) (hH : zw_H g A H0 s N ad E H locs) {k n j : Nat} {f : Nat → Int32} {i x : Int32} (hk : k < N) (hE : E k = .inl (g.2 1, n, .inl f)) (hi : i = nI j) (hj : j < n) (hn : n < 2 ^ 31) (hx : vp_nar .boolean x = x) (hd : decode cc pc = .ok (.bastore, 1))
    (kk : ∀ (H1 : Heap) (locs1 : List Loc), zw_H g A H0 s N ad (va_up E k (.inl (g.2 1, n, .inl (upd f j x)))) H1 locs1 → W p l e R s m args below meth c H1 locs1 cells slots Q (F0 m (pc + 1) ls rest)) : W p l e R s m args below meth c H locs cells slots Q (F0 m pc ls (.int x :: .int i :: .ref (ad k) :: rest)) := by
  subst hi
  refine va_zast (D := g.1) X.1 X.2.1 hH.1.1 hH.2.1 hH.2.2.1 hH.2.2.2.1 k 1 (by rw [zw_get hk, hE]) rfl (vp_in_nI hj hn) hd (fun H1 locs1 hP hD hS => ?_)
  rw [nI_clamp (by omega), hx, zw_set] at hP hD
  exact kk H1 locs1 ⟨hH.1, hP, hD, hS, hH.2.2.2.2⟩
/-- a loop: its states x, what holds at its head, what falls -/
theorem zx_loop {σ : Type} (P : σ → Heap → List Loc → Array Slot → Prop) (μ : σ → Nat) (kc ks : σ → Nat)
    (step : ∀ (x : σ) (H : Heap) (locs : List Loc) (ls : Array Slot), P x H locs ls → (∀ (x1 : σ) (H1 : Heap) (locs1 : List Loc) (ls1 : Array Slot), P x1 H1 locs1 ls1 → μ x1 < μ x → W p l e R s m args below meth c H1 locs1 (kc x1) (ks x1) Q (F0 m pc ls1 [])) → W p l e R s m args below meth c H locs (kc x) (ks x) Q (F0 m pc ls []))
    (x : σ) (H : Heap) (locs : List Loc) (ls : Array Slot) (h : P x H locs ls) : W p l e R s m args below meth c H locs (kc x) (ks x) Q (F0 m pc ls []) := by
  have key : ∀ (n : Nat) (x : σ) (H : Heap) (locs : List Loc) (ls : Array Slot), μ x < n → P x H locs ls → W p l e R s m args below meth c H locs (kc x) (ks x) Q (F0 m pc ls []) := by
    intro n
    induction n with
    | zero => intro x H locs ls h; exact absurd h (Nat.not_lt_zero _)
    | succ n ih =>
      intro x H locs ls hn hP
      exact step x H locs ls hP (fun x1 H1 locs1 ls1 hP1 h1 => ih x1 H1 locs1 ls1 (by omega) hP1)
  exact key (μ x + 1) x H locs ls (by omega) h
end ZU
/-- the last cell takes another one's place -/
theorem zw_swap {g : zw_G} {A : Nat → Prop} {H0 : Heap} {s : State} {N : Nat} {ad : Nat → Nat} {E : Nat → va_E} {H : Heap} {locs : List Loc} (k : Nat) (h : zw_H g A H0 s (N + 1) ad E H locs) : zw_H g A H0 s N (va_up ad k (ad N)) (va_up E k (E N)) H locs :=
  ⟨h.1, zw_swapP h.2.1, zw_swapD h.2.2.1, h.2.2.2⟩
theorem zn_pred {x : Int32} (h : 1 ≤ x.toInt) : x - nI 1 = nI (x.toInt.toNat - 1) := by
  have h2 := Int32.toInt_lt x
  conv => lhs; rw [zn_nat (x := x) (by omega)]
  exact pk_sub (by omega)
