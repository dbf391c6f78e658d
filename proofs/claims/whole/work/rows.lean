section
-- ===== PART A: goes FIRST, ahead of the names: the tables' words, and 'selects' of the private methods out of them =====
/-- a private method of a class that the tables say can be made, by its rows of tables_1 -/
def lw_okq (q : MethodName × Nat) : Prop := (q.1.cls ≠ "java/lang/invoke/MethodHandle" ∧ q.1.cls ≠ "java/lang/invoke/VarHandle") ∧ Cond.instantiable q.1.cls q.2 ∈ tables_1 ∧ Cond.privateMethod q.1 ∈ tables_1 ∧ Cond.instanceMethod q.1 ∈ tables_1
theorem lw_p0 : lw_okq (⟨"RegionThreads", "find", "(I)LRegionThreads$Region;"⟩, 7) := ⟨⟨by decide +kernel, by decide +kernel⟩, List.mem_of_getElem? (i := 10) (by decide +kernel), List.mem_of_getElem? (i := 131) (by decide +kernel), List.mem_of_getElem? (i := 132) (by decide +kernel)⟩
theorem lw_p1 : lw_okq (⟨"RegionThreads", "giveTurn", "(I)I"⟩, 7) := ⟨⟨by decide +kernel, by decide +kernel⟩, List.mem_of_getElem? (i := 10) (by decide +kernel), List.mem_of_getElem? (i := 195) (by decide +kernel), List.mem_of_getElem? (i := 196) (by decide +kernel)⟩
theorem lw_p2 : lw_okq (⟨"RegionThreads$Region", "halfOf", "(I)I"⟩, 13) := ⟨⟨by decide +kernel, by decide +kernel⟩, List.mem_of_getElem? (i := 73) (by decide +kernel), List.mem_of_getElem? (i := 207) (by decide +kernel), List.mem_of_getElem? (i := 208) (by decide +kernel)⟩
theorem lw_p3 : lw_okq (⟨"RegionThreads$Region", "endAs", "(I)V"⟩, 13) := ⟨⟨by decide +kernel, by decide +kernel⟩, List.mem_of_getElem? (i := 73) (by decide +kernel), List.mem_of_getElem? (i := 219) (by decide +kernel), List.mem_of_getElem? (i := 220) (by decide +kernel)⟩
theorem lw_p4 : lw_okq (⟨"RegionThreads$Region", "takeWaitsAt", "(ILRegionThreads$Events;)Z"⟩, 13) := ⟨⟨by decide +kernel, by decide +kernel⟩, List.mem_of_getElem? (i := 73) (by decide +kernel), List.mem_of_getElem? (i := 223) (by decide +kernel), List.mem_of_getElem? (i := 224) (by decide +kernel)⟩
theorem lw_p5 : lw_okq (⟨"RegionThreads$Region", "doStep", "(I)V"⟩, 13) := ⟨⟨by decide +kernel, by decide +kernel⟩, List.mem_of_getElem? (i := 73) (by decide +kernel), List.mem_of_getElem? (i := 231) (by decide +kernel), List.mem_of_getElem? (i := 232) (by decide +kernel)⟩
theorem lw_p6 : lw_okq (⟨"RegionThreads", "giveRounds", "()V"⟩, 7) := ⟨⟨by decide +kernel, by decide +kernel⟩, List.mem_of_getElem? (i := 10) (by decide +kernel), List.mem_of_getElem? (i := 260) (by decide +kernel), List.mem_of_getElem? (i := 261) (by decide +kernel)⟩
theorem lw_p7 : lw_okq (⟨"RegionThreads", "giveOneRound", "()Z"⟩, 7) := ⟨⟨by decide +kernel, by decide +kernel⟩, List.mem_of_getElem? (i := 10) (by decide +kernel), List.mem_of_getElem? (i := 264) (by decide +kernel), List.mem_of_getElem? (i := 265) (by decide +kernel)⟩
theorem lw_p8 : lw_okq (⟨"RegionThreads", "cancelThoseThatMay", "()V"⟩, 7) := ⟨⟨by decide +kernel, by decide +kernel⟩, List.mem_of_getElem? (i := 10) (by decide +kernel), List.mem_of_getElem? (i := 268) (by decide +kernel), List.mem_of_getElem? (i := 269) (by decide +kernel)⟩
theorem lw_p9 : lw_okq (⟨"RegionThreads", "countOpenUnits", "()I"⟩, 7) := ⟨⟨by decide +kernel, by decide +kernel⟩, List.mem_of_getElem? (i := 10) (by decide +kernel), List.mem_of_getElem? (i := 274) (by decide +kernel), List.mem_of_getElem? (i := 275) (by decide +kernel)⟩
theorem lw_p10 : lw_okq (⟨"RegionThreads", "leaveAll", "()V"⟩, 7) := ⟨⟨by decide +kernel, by decide +kernel⟩, List.mem_of_getElem? (i := 10) (by decide +kernel), List.mem_of_getElem? (i := 279) (by decide +kernel), List.mem_of_getElem? (i := 280) (by decide +kernel)⟩
theorem lw_p11 : lw_okq (⟨"RegionThreads", "countGoingOn", "()I"⟩, 7) := ⟨⟨by decide +kernel, by decide +kernel⟩, List.mem_of_getElem? (i := 10) (by decide +kernel), List.mem_of_getElem? (i := 299) (by decide +kernel), List.mem_of_getElem? (i := 300) (by decide +kernel)⟩
theorem lw_p12 : lw_okq (⟨"RegionThreadsModel", "isRegion", "(I)Z"⟩, 22) := ⟨⟨by decide +kernel, by decide +kernel⟩, List.mem_of_getElem? (i := 311) (by decide +kernel), List.mem_of_getElem? (i := 392) (by decide +kernel), List.mem_of_getElem? (i := 393) (by decide +kernel)⟩
theorem lw_p13 : lw_okq (⟨"RegionThreadsModel", "goes", "(I)I"⟩, 22) := ⟨⟨by decide +kernel, by decide +kernel⟩, List.mem_of_getElem? (i := 311) (by decide +kernel), List.mem_of_getElem? (i := 415) (by decide +kernel), List.mem_of_getElem? (i := 416) (by decide +kernel)⟩
theorem lw_p14 : lw_okq (⟨"RegionThreadsModel", "isBetween", "(I)Z"⟩, 22) := ⟨⟨by decide +kernel, by decide +kernel⟩, List.mem_of_getElem? (i := 311) (by decide +kernel), List.mem_of_getElem? (i := 419) (by decide +kernel), List.mem_of_getElem? (i := 420) (by decide +kernel)⟩
theorem lw_p15 : lw_okq (⟨"RegionThreadsModel", "end", "(II)V"⟩, 22) := ⟨⟨by decide +kernel, by decide +kernel⟩, List.mem_of_getElem? (i := 311) (by decide +kernel), List.mem_of_getElem? (i := 423) (by decide +kernel), List.mem_of_getElem? (i := 424) (by decide +kernel)⟩
def lw_privs_1 : List (MethodName × Nat) := [(⟨"RegionThreads", "find", "(I)LRegionThreads$Region;"⟩, 7), (⟨"RegionThreads", "giveTurn", "(I)I"⟩, 7), (⟨"RegionThreads$Region", "halfOf", "(I)I"⟩, 13), (⟨"RegionThreads$Region", "endAs", "(I)V"⟩, 13), (⟨"RegionThreads$Region", "takeWaitsAt", "(ILRegionThreads$Events;)Z"⟩, 13), (⟨"RegionThreads$Region", "doStep", "(I)V"⟩, 13), (⟨"RegionThreads", "giveRounds", "()V"⟩, 7), (⟨"RegionThreads", "giveOneRound", "()Z"⟩, 7), (⟨"RegionThreads", "cancelThoseThatMay", "()V"⟩, 7), (⟨"RegionThreads", "countOpenUnits", "()I"⟩, 7), (⟨"RegionThreads", "leaveAll", "()V"⟩, 7), (⟨"RegionThreads", "countGoingOn", "()I"⟩, 7), (⟨"RegionThreadsModel", "isRegion", "(I)Z"⟩, 22), (⟨"RegionThreadsModel", "goes", "(I)I"⟩, 22), (⟨"RegionThreadsModel", "isBetween", "(I)Z"⟩, 22), (⟨"RegionThreadsModel", "end", "(II)V"⟩, 22)]
theorem lw_r1 : ∀ q ∈ lw_privs_1, lw_okq q := List.forall_mem_cons.mpr ⟨lw_p0, List.forall_mem_cons.mpr ⟨lw_p1, List.forall_mem_cons.mpr ⟨lw_p2, List.forall_mem_cons.mpr ⟨lw_p3, List.forall_mem_cons.mpr ⟨lw_p4, List.forall_mem_cons.mpr ⟨lw_p5, List.forall_mem_cons.mpr ⟨lw_p6, List.forall_mem_cons.mpr ⟨lw_p7, List.forall_mem_cons.mpr ⟨lw_p8, List.forall_mem_cons.mpr ⟨lw_p9, List.forall_mem_cons.mpr ⟨lw_p10, List.forall_mem_cons.mpr ⟨lw_p11, List.forall_mem_cons.mpr ⟨lw_p12, List.forall_mem_cons.mpr ⟨lw_p13, List.forall_mem_cons.mpr ⟨lw_p14, List.forall_mem_cons.mpr ⟨lw_p15, fun _ h => absurd h List.not_mem_nil⟩⟩⟩⟩⟩⟩⟩⟩⟩⟩⟩⟩⟩⟩⟩⟩
theorem lw_p16 : lw_okq (⟨"RegionThreadsModel", "isFree", "(I)Z"⟩, 22) := ⟨⟨by decide +kernel, by decide +kernel⟩, List.mem_of_getElem? (i := 311) (by decide +kernel), List.mem_of_getElem? (i := 427) (by decide +kernel), List.mem_of_getElem? (i := 428) (by decide +kernel)⟩
theorem lw_p17 : lw_okq (⟨"RegionThreadsModel", "leave", "(I)I"⟩, 22) := ⟨⟨by decide +kernel, by decide +kernel⟩, List.mem_of_getElem? (i := 311) (by decide +kernel), List.mem_of_getElem? (i := 439) (by decide +kernel), List.mem_of_getElem? (i := 440) (by decide +kernel)⟩
def lw_privs_2 : List (MethodName × Nat) := [(⟨"RegionThreadsModel", "isFree", "(I)Z"⟩, 22), (⟨"RegionThreadsModel", "leave", "(I)I"⟩, 22)]
theorem lw_r2 : ∀ q ∈ lw_privs_2, lw_okq q := List.forall_mem_cons.mpr ⟨lw_p16, List.forall_mem_cons.mpr ⟨lw_p17, fun _ h => absurd h List.not_mem_nil⟩⟩
def lw_privs : List (MethodName × Nat) := lw_privs_1 ++ (lw_privs_2)
def lw_tbl : List Cond := k2_sels lw_privs ++ tables_1
theorem lw_privs_ok : ∀ q ∈ lw_privs, lw_okq q := by
  show ∀ q ∈ lw_privs_1 ++ (lw_privs_2), lw_okq q
  exact List.forall_mem_append.mpr ⟨lw_r1, lw_r2⟩

/-- the words that go on from a method to those that it calls -/
def zt_U : List Cond := lw_tbl.filter goodWord
theorem zt_in {w : Cond} (h : w ∈ lw_tbl) (hg : goodWord w = true) : w ∈ zt_U := List.mem_filter.mpr ⟨h, hg⟩
theorem zt_good : ∀ w ∈ zt_U, (w.onTables && w.keeps) = true ∨ ∃ ty, w = .arrayClass ty := fun w h => good_of_word (List.mem_filter.mp h).2
-- the names: classes, fields in the order of the slots, methods
def zN_V : String := "RegionThreads$Events"
def zT_V : u_T := fun k => match k with
  | _ => ("RegionThreads$Events", "postings", "[I", true)
def zY_V : Nat → FieldType := fun k => match k with
  | _ => .array .int
theorem zI_V : ∀ w ∈ u_ws zN_V zT_V 1, w ∈ zt_U := by decide +kernel
theorem zD_V : ∀ a, a < 1 → ∀ b, b < 1 → a ≠ b → (zT_V a).2.1 ≠ (zT_V b).2.1 := by decide +kernel
theorem zP_V : ∀ k, k < 1 → parseFieldDescriptor (zT_V k).2.2.1 = some (zY_V k) := by decide +kernel
def zN_R : String := "RegionThreads$Region"
def zT_R : u_T := fun k => match k with
  | 0 => ("RegionThreads$Region", "steps", "I", true)
  | 1 => ("RegionThreads$Region", "failsAt", "I", true)
  | 2 => ("RegionThreads$Region", "state", "I", false)
  | 3 => ("RegionThreads$Region", "stepsDone", "I", false)
  | 4 => ("RegionThreads$Region", "latestEnd", "I", false)
  | 5 => ("RegionThreads$Region", "stepsBackedOut", "I", false)
  | 6 => ("RegionThreads$Region", "timesCleaned", "I", false)
  | 7 => ("RegionThreads$Region", "toBeCancelled", "Z", false)
  | 8 => ("RegionThreads$Region", "waitCount", "I", false)
  | 9 => ("RegionThreads$Region", "waitStep", "[I", true)
  | 10 => ("RegionThreads$Region", "waitEvent", "[I", true)
  | 11 => ("RegionThreads$Region", "waitTaken", "[Z", true)
  | _ => ("RegionThreads$Region", "half", "[I", true)
def zY_R : Nat → FieldType := fun k => match k with
  | 0 => .int
  | 1 => .int
  | 2 => .int
  | 3 => .int
  | 4 => .int
  | 5 => .int
  | 6 => .int
  | 7 => .boolean
  | 8 => .int
  | 9 => .array .int
  | 10 => .array .int
  | 11 => .array .boolean
  | _ => .array .int
theorem zI_R : ∀ w ∈ u_ws zN_R zT_R 13, w ∈ zt_U := by decide +kernel
theorem zD_R : ∀ a, a < 13 → ∀ b, b < 13 → a ≠ b → (zT_R a).2.1 ≠ (zT_R b).2.1 := by decide +kernel
theorem zP_R : ∀ k, k < 13 → parseFieldDescriptor (zT_R k).2.2.1 = some (zY_R k) := by decide +kernel
def zN_O : String := "RegionThreads$Row"
def zT_O : u_T := fun k => match k with
  | 0 => ("RegionThreads$Row", "limit", "I", true)
  | 1 => ("RegionThreads$Row", "numbers", "[I", false)
  | _ => ("RegionThreads$Row", "length", "I", false)
def zY_O : Nat → FieldType := fun k => match k with
  | 0 => .int
  | 1 => .array .int
  | _ => .int
theorem zI_O : ∀ w ∈ u_ws zN_O zT_O 3, w ∈ zt_U := by decide +kernel
theorem zD_O : ∀ a, a < 3 → ∀ b, b < 3 → a ≠ b → (zT_O a).2.1 ≠ (zT_O b).2.1 := by decide +kernel
theorem zP_O : ∀ k, k < 3 → parseFieldDescriptor (zT_O k).2.2.1 = some (zY_O k) := by decide +kernel
def zN_X : String := "RegionThreads"
def zT_X : u_T := fun k => match k with
  | 0 => ("RegionThreads", "regions", "[LRegionThreads$Region;", true)
  | 1 => ("RegionThreads", "events", "LRegionThreads$Events;", true)
  | 2 => ("RegionThreads", "schedule", "LRegionThreads$Row;", true)
  | 3 => ("RegionThreads", "entries", "LRegionThreads$Row;", true)
  | 4 => ("RegionThreads", "regionCount", "I", false)
  | 5 => ("RegionThreads", "turnsPassedOver", "I", false)
  | _ => ("RegionThreads", "closed", "Z", false)
def zY_X : Nat → FieldType := fun k => match k with
  | 0 => .array (.object "RegionThreads$Region")
  | 1 => .object "RegionThreads$Events"
  | 2 => .object "RegionThreads$Row"
  | 3 => .object "RegionThreads$Row"
  | 4 => .int
  | 5 => .int
  | _ => .boolean
theorem zI_X : ∀ w ∈ u_ws zN_X zT_X 7, w ∈ zt_U := by decide +kernel
theorem zD_X : ∀ a, a < 7 → ∀ b, b < 7 → a ≠ b → (zT_X a).2.1 ≠ (zT_X b).2.1 := by decide +kernel
theorem zP_X : ∀ k, k < 7 → parseFieldDescriptor (zT_X k).2.2.1 = some (zY_X k) := by decide +kernel
def zN_M : String := "RegionThreadsModel"
def zT_M : u_T := fun k => match k with
  | 0 => ("RegionThreadsModel", "code", "I", false)
  | 1 => ("RegionThreadsModel", "regions", "I", false)
  | 2 => ("RegionThreadsModel", "turns", "I", false)
  | 3 => ("RegionThreadsModel", "logged", "I", false)
  | 4 => ("RegionThreadsModel", "passed", "I", false)
  | 5 => ("RegionThreadsModel", "closed", "Z", false)
  | 6 => ("RegionThreadsModel", "steps", "[I", true)
  | 7 => ("RegionThreadsModel", "fails", "[I", true)
  | 8 => ("RegionThreadsModel", "states", "[I", true)
  | 9 => ("RegionThreadsModel", "done", "[I", true)
  | 10 => ("RegionThreadsModel", "ends", "[I", true)
  | 11 => ("RegionThreadsModel", "cleaned", "[I", true)
  | 12 => ("RegionThreadsModel", "backed", "[I", true)
  | 13 => ("RegionThreadsModel", "many", "[I", true)
  | 14 => ("RegionThreadsModel", "told", "[Z", true)
  | 15 => ("RegionThreadsModel", "taken", "[Z", true)
  | 16 => ("RegionThreadsModel", "decisions", "[I", true)
  | 17 => ("RegionThreadsModel", "waitSteps", "[I", true)
  | 18 => ("RegionThreadsModel", "waitOns", "[I", true)
  | 19 => ("RegionThreadsModel", "schedule", "[I", true)
  | 20 => ("RegionThreadsModel", "postings", "[I", true)
  | _ => ("RegionThreadsModel", "log", "[I", true)
def zY_M : Nat → FieldType := fun k => match k with
  | 0 => .int
  | 1 => .int
  | 2 => .int
  | 3 => .int
  | 4 => .int
  | 5 => .boolean
  | 6 => .array .int
  | 7 => .array .int
  | 8 => .array .int
  | 9 => .array .int
  | 10 => .array .int
  | 11 => .array .int
  | 12 => .array .int
  | 13 => .array .int
  | 14 => .array .boolean
  | 15 => .array .boolean
  | 16 => .array .int
  | 17 => .array .int
  | 18 => .array .int
  | 19 => .array .int
  | 20 => .array .int
  | _ => .array .int
theorem zI_M : ∀ w ∈ u_ws zN_M zT_M 22, w ∈ zt_U := by decide +kernel
theorem zD_M : ∀ a, a < 22 → ∀ b, b < 22 → a ≠ b → (zT_M a).2.1 ≠ (zT_M b).2.1 := by decide +kernel
theorem zP_M : ∀ k, k < 22 → parseFieldDescriptor (zT_M k).2.2.1 = some (zY_M k) := by decide +kernel
def zN_L : String := "RegionThreadsLaw"
def zN_J : String := "java/util/Arrays"
def zN_K : String := "java/lang/Math"
abbrev vwCl : List vw_C := [(zN_V, zT_V, 1), (zN_R, zT_R, 13), (zN_O, zT_O, 3), (zN_X, zT_X, 7), (zN_M, zT_M, 22)]
def zw_ty (g : va_G × (Nat → ClassId)) : List (ClassId × FieldType) := [(g.2 0, .int), (g.2 1, .boolean), (g.2 2, .object "RegionThreads$Region")]
abbrev b_X_init : ByteArray := prog_1_method_1_code
def y_X_init : MethodName := ⟨"RegionThreads", "<init>", "()V"⟩
abbrev b_V_init : ByteArray := prog_2_method_1_code
def y_V_init : MethodName := ⟨"RegionThreads$Events", "<init>", "()V"⟩
abbrev b_O_init : ByteArray := prog_4_method_1_code
def y_O_init : MethodName := ⟨"RegionThreads$Row", "<init>", "(I)V"⟩
abbrev b_X_region : ByteArray := prog_1_method_2_code
def y_X_region : MethodName := ⟨"RegionThreads", "region", "(II)I"⟩
abbrev b_R_init : ByteArray := prog_3_method_1_code
def y_R_init : MethodName := ⟨"RegionThreads$Region", "<init>", "(II)V"⟩
abbrev b_X_waits : ByteArray := prog_1_method_3_code
def y_X_waits : MethodName := ⟨"RegionThreads", "waits", "(III)I"⟩
abbrev b_X_find : ByteArray := prog_1_method_17_code
def y_X_find : MethodName := ⟨"RegionThreads", "find", "(I)LRegionThreads$Region;"⟩
abbrev b_X_isEvent : ByteArray := prog_1_method_18_code
def y_X_isEvent : MethodName := ⟨"RegionThreads", "isEvent", "(I)Z"⟩
abbrev b_R_isAheadOf : ByteArray := prog_3_method_3_code
def y_R_isAheadOf : MethodName := ⟨"RegionThreads$Region", "isAheadOf", "(I)Z"⟩
abbrev b_R_goesOn : ByteArray := prog_3_method_2_code
def y_R_goesOn : MethodName := ⟨"RegionThreads$Region", "goesOn", "()Z"⟩
abbrev b_R_addWait : ByteArray := prog_3_method_6_code
def y_R_addWait : MethodName := ⟨"RegionThreads$Region", "addWait", "(II)Z"⟩
abbrev b_X_post : ByteArray := prog_1_method_4_code
def y_X_post : MethodName := ⟨"RegionThreads", "post", "(I)I"⟩
abbrev b_V_addPosting : ByteArray := prog_2_method_2_code
def y_V_addPosting : MethodName := ⟨"RegionThreads$Events", "addPosting", "(I)V"⟩
abbrev b_V_untaken : ByteArray := prog_2_method_4_code
def y_V_untaken : MethodName := ⟨"RegionThreads$Events", "untaken", "(I)I"⟩
abbrev b_X_turn : ByteArray := prog_1_method_5_code
def y_X_turn : MethodName := ⟨"RegionThreads", "turn", "(I)V"⟩
abbrev b_O_append : ByteArray := prog_4_method_2_code
def y_O_append : MethodName := ⟨"RegionThreads$Row", "append", "(I)V"⟩
abbrev b_J_copyOf : ByteArray := prog_10_method_123_code
def y_J_copyOf : MethodName := ⟨"java/util/Arrays", "copyOf", "([II)[I"⟩
abbrev b_K_min : ByteArray := prog_8_method_69_code
def y_K_min : MethodName := ⟨"java/lang/Math", "min", "(II)I"⟩
abbrev b_X_run : ByteArray := prog_1_method_6_code
def y_X_run : MethodName := ⟨"RegionThreads", "run", "()I"⟩
abbrev b_O_at : ByteArray := prog_4_method_3_code
def y_O_at : MethodName := ⟨"RegionThreads$Row", "at", "(I)I"⟩
abbrev b_X_giveTurn : ByteArray := prog_1_method_19_code
def y_X_giveTurn : MethodName := ⟨"RegionThreads", "giveTurn", "(I)I"⟩
abbrev b_R_takeTurn : ByteArray := prog_3_method_8_code
def y_R_takeTurn : MethodName := ⟨"RegionThreads$Region", "takeTurn", "(LRegionThreads$Events;)I"⟩
abbrev b_R_isInsideDecision : ByteArray := prog_3_method_4_code
def y_R_isInsideDecision : MethodName := ⟨"RegionThreads$Region", "isInsideDecision", "()Z"⟩
abbrev b_R_halfOf : ByteArray := prog_3_method_13_code
def y_R_halfOf : MethodName := ⟨"RegionThreads$Region", "halfOf", "(I)I"⟩
abbrev b_R_backOut : ByteArray := prog_3_method_9_code
def y_R_backOut : MethodName := ⟨"RegionThreads$Region", "backOut", "(I)V"⟩
abbrev b_R_openSteps : ByteArray := prog_3_method_5_code
def y_R_openSteps : MethodName := ⟨"RegionThreads$Region", "openSteps", "()I"⟩
abbrev b_R_endAs : ByteArray := prog_3_method_11_code
def y_R_endAs : MethodName := ⟨"RegionThreads$Region", "endAs", "(I)V"⟩
abbrev b_R_takeWaitsAt : ByteArray := prog_3_method_12_code
def y_R_takeWaitsAt : MethodName := ⟨"RegionThreads$Region", "takeWaitsAt", "(ILRegionThreads$Events;)Z"⟩
abbrev b_V_takePosting : ByteArray := prog_2_method_3_code
def y_V_takePosting : MethodName := ⟨"RegionThreads$Events", "takePosting", "(I)Z"⟩
abbrev b_R_doStep : ByteArray := prog_3_method_10_code
def y_R_doStep : MethodName := ⟨"RegionThreads$Region", "doStep", "(I)V"⟩
abbrev b_O_makeEmpty : ByteArray := prog_4_method_4_code
def y_O_makeEmpty : MethodName := ⟨"RegionThreads$Row", "makeEmpty", "()V"⟩
abbrev b_X_log : ByteArray := prog_1_method_7_code
def y_X_log : MethodName := ⟨"RegionThreads", "log", "(I)I"⟩
abbrev b_X_cancel : ByteArray := prog_1_method_8_code
def y_X_cancel : MethodName := ⟨"RegionThreads", "cancel", "(I)Z"⟩
abbrev b_X_cleaned : ByteArray := prog_1_method_9_code
def y_X_cleaned : MethodName := ⟨"RegionThreads", "cleaned", "(I)I"⟩
abbrev b_X_backed : ByteArray := prog_1_method_10_code
def y_X_backed : MethodName := ⟨"RegionThreads", "backed", "(I)I"⟩
abbrev b_X_shutdown : ByteArray := prog_1_method_11_code
def y_X_shutdown : MethodName := ⟨"RegionThreads", "shutdown", "(Z)I"⟩
abbrev b_X_giveRounds : ByteArray := prog_1_method_20_code
def y_X_giveRounds : MethodName := ⟨"RegionThreads", "giveRounds", "()V"⟩
abbrev b_X_giveOneRound : ByteArray := prog_1_method_21_code
def y_X_giveOneRound : MethodName := ⟨"RegionThreads", "giveOneRound", "()Z"⟩
abbrev b_X_cancelThoseThatMay : ByteArray := prog_1_method_22_code
def y_X_cancelThoseThatMay : MethodName := ⟨"RegionThreads", "cancelThoseThatMay", "()V"⟩
abbrev b_X_countOpenUnits : ByteArray := prog_1_method_23_code
def y_X_countOpenUnits : MethodName := ⟨"RegionThreads", "countOpenUnits", "()I"⟩
abbrev b_X_leaveAll : ByteArray := prog_1_method_25_code
def y_X_leaveAll : MethodName := ⟨"RegionThreads", "leaveAll", "()V"⟩
abbrev b_X_decision : ByteArray := prog_1_method_12_code
def y_X_decision : MethodName := ⟨"RegionThreads", "decision", "(II)I"⟩
abbrev b_R_addDecision : ByteArray := prog_3_method_7_code
def y_R_addDecision : MethodName := ⟨"RegionThreads$Region", "addDecision", "(I)Z"⟩
abbrev b_X_finished : ByteArray := prog_1_method_13_code
def y_X_finished : MethodName := ⟨"RegionThreads", "finished", "(I)I"⟩
abbrev b_X_close : ByteArray := prog_1_method_14_code
def y_X_close : MethodName := ⟨"RegionThreads", "close", "()I"⟩
abbrev b_X_countGoingOn : ByteArray := prog_1_method_24_code
def y_X_countGoingOn : MethodName := ⟨"RegionThreads", "countGoingOn", "()I"⟩
abbrev b_X_count : ByteArray := prog_1_method_15_code
def y_X_count : MethodName := ⟨"RegionThreads", "count", "(I)I"⟩
abbrev b_X_done : ByteArray := prog_1_method_16_code
def y_X_done : MethodName := ⟨"RegionThreads", "done", "(I)I"⟩
abbrev b_M_init : ByteArray := prog_6_method_1_code
def y_M_init : MethodName := ⟨"RegionThreadsModel", "<init>", "()V"⟩
abbrev b_M_region : ByteArray := prog_6_method_4_code
def y_M_region : MethodName := ⟨"RegionThreadsModel", "region", "(II)I"⟩
abbrev b_M_waits : ByteArray := prog_6_method_5_code
def y_M_waits : MethodName := ⟨"RegionThreadsModel", "waits", "(III)I"⟩
abbrev b_M_isRegion : ByteArray := prog_6_method_3_code
def y_M_isRegion : MethodName := ⟨"RegionThreadsModel", "isRegion", "(I)Z"⟩
abbrev b_M_post : ByteArray := prog_6_method_6_code
def y_M_post : MethodName := ⟨"RegionThreadsModel", "post", "(I)I"⟩
abbrev b_M_turn : ByteArray := prog_6_method_7_code
def y_M_turn : MethodName := ⟨"RegionThreadsModel", "turn", "(I)V"⟩
abbrev b_M_decision : ByteArray := prog_6_method_9_code
def y_M_decision : MethodName := ⟨"RegionThreadsModel", "decision", "(II)I"⟩
abbrev b_M_of : ByteArray := prog_6_method_8_code
def y_M_of : MethodName := ⟨"RegionThreadsModel", "of", "(II)I"⟩
abbrev b_M_run : ByteArray := prog_6_method_14_code
def y_M_run : MethodName := ⟨"RegionThreadsModel", "run", "()I"⟩
abbrev b_M_goes : ByteArray := prog_6_method_13_code
def y_M_goes : MethodName := ⟨"RegionThreadsModel", "goes", "(I)I"⟩
abbrev b_M_isBetween : ByteArray := prog_6_method_10_code
def y_M_isBetween : MethodName := ⟨"RegionThreadsModel", "isBetween", "(I)Z"⟩
abbrev b_M_end : ByteArray := prog_6_method_11_code
def y_M_end : MethodName := ⟨"RegionThreadsModel", "end", "(II)V"⟩
abbrev b_M_isFree : ByteArray := prog_6_method_12_code
def y_M_isFree : MethodName := ⟨"RegionThreadsModel", "isFree", "(I)Z"⟩
abbrev b_M_cancel : ByteArray := prog_6_method_15_code
def y_M_cancel : MethodName := ⟨"RegionThreadsModel", "cancel", "(I)Z"⟩
abbrev b_M_shutdown : ByteArray := prog_6_method_17_code
def y_M_shutdown : MethodName := ⟨"RegionThreadsModel", "shutdown", "(Z)I"⟩
abbrev b_M_leave : ByteArray := prog_6_method_16_code
def y_M_leave : MethodName := ⟨"RegionThreadsModel", "leave", "(I)I"⟩
abbrev b_M_close : ByteArray := prog_6_method_18_code
def y_M_close : MethodName := ⟨"RegionThreadsModel", "close", "()I"⟩
abbrev b_M_log : ByteArray := prog_6_method_19_code
def y_M_log : MethodName := ⟨"RegionThreadsModel", "log", "(I)I"⟩
abbrev b_M_cleaned : ByteArray := prog_6_method_20_code
def y_M_cleaned : MethodName := ⟨"RegionThreadsModel", "cleaned", "(I)I"⟩
abbrev b_M_backed : ByteArray := prog_6_method_21_code
def y_M_backed : MethodName := ⟨"RegionThreadsModel", "backed", "(I)I"⟩
abbrev b_M_finished : ByteArray := prog_6_method_22_code
def y_M_finished : MethodName := ⟨"RegionThreadsModel", "finished", "(I)I"⟩
abbrev b_M_done : ByteArray := prog_6_method_23_code
def y_M_done : MethodName := ⟨"RegionThreadsModel", "done", "(I)I"⟩
abbrev b_M_count : ByteArray := prog_6_method_24_code
def y_M_count : MethodName := ⟨"RegionThreadsModel", "count", "(I)I"⟩
abbrev b_L_law : ByteArray := code
end
section
/-! The world of a method as positions: position k holds the cell E k at the address ad k. -/
def zw_v (N : Nat) (ad : Nat → Nat) (E : Nat → va_E) : va_W := (List.range N).map (fun k => (ad k, E k))
theorem zw_len (N : Nat) (ad : Nat → Nat) (E : Nat → va_E) : (zw_v N ad E).length = N := by simp [zw_v]
theorem zw_get {N : Nat} {ad : Nat → Nat} {E : Nat → va_E} {k : Nat} (h : k < N) : (zw_v N ad E)[k]? = some (ad k, E k) := by
  unfold zw_v
  rw [List.getElem?_map, List.getElem?_range h]
  rfl
theorem zw_inv {N : Nat} {ad : Nat → Nat} {E : Nat → va_E} {k : Nat} {q : Nat × va_E} (h : (zw_v N ad E)[k]? = some q) : k < N ∧ q = (ad k, E k) := by
  have hk : k < N := by
    have h2 := (List.getElem?_eq_some_iff.mp h).1
    rw [zw_len] at h2
    exact h2
  rw [zw_get hk] at h
  exact ⟨hk, (Option.some.inj h).symm⟩
theorem zw_P {D : va_G} {cl : List vw_C} {N : Nat} {ad : Nat → Nat} {E : Nat → va_E} {H : Heap} : va_P D cl (zw_v N ad E) H ↔ ∀ k, k < N → va_at D cl (ad k, E k) H :=
  ⟨fun h k hk => h k _ (zw_get hk), fun h k q hq => by obtain ⟨hk, rfl⟩ := zw_inv hq; exact h k hk⟩
theorem zw_D {A : Nat → Prop} {N : Nat} {ad : Nat → Nat} {E : Nat → va_E} : va_D A (zw_v N ad E) ↔ (∀ i j, i < N → j < N → ad i = ad j → i = j) ∧ ∀ k, k < N → A (ad k) :=
  ⟨fun h => ⟨fun i j hi hj e => h.1 i j _ _ (zw_get hi) (zw_get hj) e, fun k hk => h.2 k _ (zw_get hk)⟩,
   fun h => ⟨fun i j p q hp hq e => by
      obtain ⟨hi, rfl⟩ := zw_inv hp
      obtain ⟨hj, rfl⟩ := zw_inv hq
      exact h.1 i j hi hj e, fun k q hq => by obtain ⟨hk, rfl⟩ := zw_inv hq; exact h.2 k hk⟩⟩
theorem zw_set (N : Nat) (ad : Nat → Nat) (E : Nat → va_E) (k : Nat) (e : va_E) : (zw_v N ad E).set k (ad k, e) = zw_v N ad (va_up E k e) := by
  apply List.ext_getElem?
  intro j
  rw [List.getElem?_set, zw_len]
  by_cases hj : k = j
  · subst hj
    rw [if_pos rfl]
    by_cases hk : k < N
    · rw [if_pos hk, zw_get hk, va_up_self]
    · rw [if_neg hk]
      exact (List.getElem?_eq_none (by rw [zw_len]; omega)).symm
  · rw [if_neg hj]
    by_cases hk : j < N
    · rw [zw_get hk, zw_get hk, va_up_ne _ _ (fun h => hj h.symm)]
    · rw [List.getElem?_eq_none (by rw [zw_len]; omega), List.getElem?_eq_none (by rw [zw_len]; omega)]
theorem zw_push (N : Nat) (ad : Nat → Nat) (E : Nat → va_E) (q : Nat) (e : va_E) : zw_v N ad E ++ [(q, e)] = zw_v (N + 1) (va_up ad N q) (va_up E N e) := by
  unfold zw_v
  rw [List.range_succ, List.map_append]
  congr 1
  · apply List.map_congr_left
    intro k hk
    have hn : k ≠ N := by
      have := List.mem_range.mp hk
      omega
    rw [va_up_ne _ _ hn, va_up_ne _ _ hn]
  · show [(q, e)] = [(va_up ad N q N, va_up E N e N)]
    rw [va_up_self, va_up_self]
/-- a world with one cell fewer: the last one stands at k now -/
theorem zw_swapP {D : va_G} {cl : List vw_C} {N k : Nat} {ad : Nat → Nat} {E : Nat → va_E} {H : Heap} (h : va_P D cl (zw_v (N + 1) ad E) H) : va_P D cl (zw_v N (va_up ad k (ad N)) (va_up E k (E N))) H := by
  rw [zw_P] at h ⊢
  intro j hj
  by_cases e : j = k
  · subst e
    rw [va_up_self, va_up_self]
    exact h N (by omega)
  · rw [va_up_ne _ _ e, va_up_ne _ _ e]
    exact h j (by omega)
theorem zw_swapD {A : Nat → Prop} {N k : Nat} {ad : Nat → Nat} {E : Nat → va_E} (h : va_D A (zw_v (N + 1) ad E)) : va_D A (zw_v N (va_up ad k (ad N)) (va_up E k (E N))) := by
  rw [zw_D] at h ⊢
  refine ⟨fun i j hi hj e => ?_, fun j hj => ?_⟩
  · by_cases e1 : i = k
    · by_cases e2 : j = k
      · omega
      · subst e1
        rw [va_up_self, va_up_ne _ _ e2] at e
        have := h.1 N j (by omega) (by omega) e
        omega
    · by_cases e2 : j = k
      · subst e2
        rw [va_up_self, va_up_ne _ _ e1] at e
        have := h.1 i N (by omega) (by omega) e
        omega
      · rw [va_up_ne _ _ e1, va_up_ne _ _ e2] at e
        exact h.1 i j (by omega) (by omega) e
  · by_cases e : j = k
    · subst e
      rw [va_up_self]
      exact h.2 N (by omega)
    · rw [va_up_ne _ _ e]
      exact h.2 j (by omega)
/-- the same cells in another order, or fewer of them -/
theorem zw_byP {D : va_G} {cl : List vw_C} {N M : Nat} {ad ad' : Nat → Nat} {E E' : Nat → va_E} {H : Heap} (f : Nat → Nat) (hf : ∀ k, k < M → f k < N ∧ ad' k = ad (f k) ∧ E' k = E (f k)) (h : va_P D cl (zw_v N ad E) H) : va_P D cl (zw_v M ad' E') H := by
  rw [zw_P] at h ⊢
  intro j hj
  obtain ⟨h1, h2, h3⟩ := hf j hj
  rw [h2, h3]
  exact h _ h1
theorem zw_byD {A : Nat → Prop} {N M : Nat} {ad ad' : Nat → Nat} {E E' : Nat → va_E} (f : Nat → Nat) (hf : ∀ k, k < M → f k < N ∧ ad' k = ad (f k)) (hi : ∀ i j, i < M → j < M → f i = f j → i = j) (h : va_D A (zw_v N ad E)) : va_D A (zw_v M ad' E') := by
  rw [zw_D] at h ⊢
  refine ⟨fun i j h1 h2 e => ?_, fun j hj => ?_⟩
  · obtain ⟨a1, a2⟩ := hf i h1
    obtain ⟨b1, b2⟩ := hf j h2
    rw [a2, b2] at e
    exact hi i j h1 h2 (h.1 _ _ a1 b1 e)
  · obtain ⟨a1, a2⟩ := hf j hj
    rw [a2]
    exact h.2 _ a1
/-! What a contract's numbers are: the tables (g.1), the array classes (g.2) -/
abbrev zw_G : Type := va_G × (Nat → ClassId)
/-- what the tables say and the words above don't carry -/
def zw_K (g : zw_G) (s : State) : Prop := va_K g.1 vwCl (zw_ty g) s ∧ va_Nw (.methodLinkNest zN_X 17 y_V_init "RegionThreads") s ∧ va_Nw (.methodLinkNest zN_V 15 y_X_isEvent "RegionThreads") s ∧ va_AO "RegionThreads$Region" s
theorem zw_K.warm {g : zw_G} {s U : State} (hW : s.WarmedH U.vm) (h : zw_K g s) : zw_K g U := ⟨va_K.moved hW.alike h.1, va_Nw.warmM hW h.2.1, va_Nw.warmM hW h.2.2.1, va_AO.moved hW.alike h.2.2.2⟩
def zw_H (g : zw_G) (A : Nat → Prop) (H0 : Heap) (s : State) (N : Nat) (ad : Nat → Nat) (E : Nat → va_E) (H : Heap) (locs : List Loc) : Prop :=
  zw_K g s ∧ va_P g.1 vwCl (zw_v N ad E) H ∧ va_D A (zw_v N ad E) ∧ va_S A H0 H locs ∧ ∀ q : Nat, H0.size ≤ q → A q
abbrev zw_U : Type := Nat × (Nat → Nat) × (Nat → va_E)
def zw_B (g : zw_G) (A : Nat → Prop) (u : zw_U) (t : State) : Prop := va_P g.1 vwCl (zw_v u.1 u.2.1 u.2.2) t.heap ∧ va_D A (zw_v u.1 u.2.1 u.2.2)
def zw_Pre (g : zw_G) (N : Nat) (ad : Nat → Nat) (E : Nat → va_E) (sz : Nat) (U : State) : Prop := U.heap.size = sz ∧ va_P g.1 vwCl (zw_v N ad E) U.heap ∧ zw_K g U ∧ va_D (fun _ => True) (zw_v N ad E)
abbrev zw_Pi : Type := Int32 → Nat → (Nat → Nat) → (Nat → va_E) → Prop
abbrev zw_Pv : Type := Nat → (Nat → Nat) → (Nat → va_E) → Prop
abbrev zw_Pq : Type := Option Nat → Nat → (Nat → Nat) → (Nat → va_E) → Prop
def zw_Qi (g : zw_G) (A : Nat → Prop) (post : zw_Pi) : Array Value → State → Outcome → State → Prop := va_Qi (fun r (u : zw_U) => post r u.1 u.2.1 u.2.2) (zw_B g A) A
def zw_Qv (g : zw_G) (A : Nat → Prop) (post : zw_Pv) : Array Value → State → Outcome → State → Prop := va_Qv (fun (u : zw_U) => post u.1 u.2.1 u.2.2) (zw_B g A) A
def zw_Qq (g : zw_G) (A : Nat → Prop) (post : zw_Pq) : Array Value → State → Outcome → State → Prop := va_Qq (fun r (u : zw_U) => post r u.1 u.2.1 u.2.2) (zw_B g A) A
def zw_w (y : MethodName) (b : ByteArray) (mL : Nat) (ret : Option FieldType) : List Cond := Cond.code y b mL ret :: zt_U
/-- the contract of a method with an int (a boolean), with nothing, with a reference or null as its answer -/
def zc_i (g : zw_G) (l : Launch) (y : MethodName) (b : ByteArray) (mL : Nat) (ret : Option FieldType) (rm : Room) (av : List Value) (N : Nat) (ad : Nat → Nat) (E : Nat → va_E) (post : zw_Pi) : Prop :=
  ∀ sz : Nat, Met l y (zw_w y b mL ret) rm (va_Pc av (zw_Pre g N ad E sz)) (zw_Qi g (va_A (zw_v N ad E) sz) post) rm.cells rm.slots (va_A (zw_v N ad E) sz)
def zc_v (g : zw_G) (l : Launch) (y : MethodName) (b : ByteArray) (mL : Nat) (rm : Room) (av : List Value) (N : Nat) (ad : Nat → Nat) (E : Nat → va_E) (post : zw_Pv) : Prop :=
  ∀ sz : Nat, Met l y (zw_w y b mL none) rm (va_Pc av (zw_Pre g N ad E sz)) (zw_Qv g (va_A (zw_v N ad E) sz) post) rm.cells rm.slots (va_A (zw_v N ad E) sz)
def zc_q (g : zw_G) (l : Launch) (y : MethodName) (b : ByteArray) (mL : Nat) (ret : Option FieldType) (rm : Room) (av : List Value) (N : Nat) (ad : Nat → Nat) (E : Nat → va_E) (post : zw_Pq) : Prop :=
  ∀ sz : Nat, Met l y (zw_w y b mL ret) rm (va_Pc av (zw_Pre g N ad E sz)) (zw_Qq g (va_A (zw_v N ad E) sz) post) rm.cells rm.slots (va_A (zw_v N ad E) sz)
/-- the goals of a walk -/
def zc_Zi (g : zw_G) (s : State) (A : Nat → Prop) (post : zw_Pi) (below : List Frame) (args : Array Value) (rm : Room) : State → Prop := MQ below (zw_Qi g A post) args s rm.cells rm.slots A
def zc_Zv (g : zw_G) (s : State) (A : Nat → Prop) (post : zw_Pv) (below : List Frame) (args : Array Value) (rm : Room) : State → Prop := MQ below (zw_Qv g A post) args s rm.cells rm.slots A
def zc_Zq (g : zw_G) (s : State) (A : Nat → Prop) (post : zw_Pq) (below : List Frame) (args : Array Value) (rm : Room) : State → Prop := MQ below (zw_Qq g A post) args s rm.cells rm.slots A
theorem zw_blind {g : zw_G} {N : Nat} {ad : Nat → Nat} {E : Nat → va_E} {sz : Nat} {av : List Value} : FrameBlind (va_Pc av (zw_Pre g N ad E sz)) := fun a U g1 mk q => by
  obtain ⟨q0, q1, qP, qK, qD⟩ := q
  exact ⟨q0, q1, qP, ⟨va_K.moved (u := U) (U := U.calling g1 mk a) (Vm.Alike.refl U.vm) qK.1, va_Nw.same rfl (u := U) (U := U.calling g1 mk a) rfl qK.2.1, va_Nw.same rfl (u := U) (U := U.calling g1 mk a) rfl qK.2.2.1, va_AO.moved (u := U) (U := U.calling g1 mk a) (Vm.Alike.refl U.vm) qK.2.2.2⟩, qD⟩
theorem zc_i.of {g : zw_G} {l : Launch} {y : MethodName} {b : ByteArray} {mL : Nat} {ret : Option FieldType} {rm : Room} {av : List Value} {N : Nat} {ad : Nat → Nat} {E : Nat → va_E} {post : zw_Pi} (hy : plainName y.cls = true) (hn : (lg_sl av).length ≤ mL)
    (body : ∀ (p : Program) (e : Env) (s : State) (m : MethodId) (below : List Frame) (meth : Method) (c : Code) (ls : Array Slot) (A : Nat → Prop), CallFix p m c b mL s av.toArray zt_U y.cls → meth.sig.returnType = ret → meth.locks = false → lv_has ls mL (lv_args 0 av) → zw_H g A s.heap s N ad E s.heap [] →
      W p l e rm s m av.toArray below meth c s.heap [] 0 0 (zc_Zi g s A post below av.toArray rm) (F0 m 0 ls [])) : zc_i g l y b mL ret rm av N ad E post := by
  intro sz
  refine Met.ofW (cc := b) (maxL := mL) (ret := ret) hy rfl ?_
  intro p e s m args below meth c s₁ B hml hv
  obtain ⟨rfl, hsz, hP, hK, hD0⟩ := hv
  subst hsz
  rw [lg_entry_eq]
  have hts := atoms_spec (ws := zw_w y b mL ret) B.pre
  exact body p e s m below meth c _ (va_A (zw_v N ad E) s.heap.size) ⟨B.exec, B.bytes, hml, findClass_of_methodNamed B.named, fun w h => hts w (List.mem_cons_of_mem _ h)⟩ B.returns B.notSynchronized (lv_entry av hn) ⟨hK, hP, hD0.self, va_S.rf, fun q h => Or.inr h⟩
theorem zc_v.of {g : zw_G} {l : Launch} {y : MethodName} {b : ByteArray} {mL : Nat} {rm : Room} {av : List Value} {N : Nat} {ad : Nat → Nat} {E : Nat → va_E} {post : zw_Pv} (hy : plainName y.cls = true) (hn : (lg_sl av).length ≤ mL)
    (body : ∀ (p : Program) (e : Env) (s : State) (m : MethodId) (below : List Frame) (meth : Method) (c : Code) (ls : Array Slot) (A : Nat → Prop), CallFix p m c b mL s av.toArray zt_U y.cls → meth.sig.returnType = none → meth.locks = false → meth.name = y.name → lv_has ls mL (lv_args 0 av) → zw_H g A s.heap s N ad E s.heap [] →
      W p l e rm s m av.toArray below meth c s.heap [] 0 0 (zc_Zv g s A post below av.toArray rm) (F0 m 0 ls [])) : zc_v g l y b mL rm av N ad E post := by
  intro sz
  refine Met.ofW (cc := b) (maxL := mL) (ret := none) hy rfl ?_
  intro p e s m args below meth c s₁ B hml hv
  obtain ⟨rfl, hsz, hP, hK, hD0⟩ := hv
  subst hsz
  rw [lg_entry_eq]
  have hts := atoms_spec (ws := zw_w y b mL none) B.pre
  exact body p e s m below meth c _ (va_A (zw_v N ad E) s.heap.size) ⟨B.exec, B.bytes, hml, findClass_of_methodNamed B.named, fun w h => hts w (List.mem_cons_of_mem _ h)⟩ B.returns B.notSynchronized (name_of_methodNamed B.named B.method).1 (lv_entry av hn) ⟨hK, hP, hD0.self, va_S.rf, fun q h => Or.inr h⟩
theorem zc_q.of {g : zw_G} {l : Launch} {y : MethodName} {b : ByteArray} {mL : Nat} {ret : Option FieldType} {rm : Room} {av : List Value} {N : Nat} {ad : Nat → Nat} {E : Nat → va_E} {post : zw_Pq} (hy : plainName y.cls = true) (hn : (lg_sl av).length ≤ mL)
    (body : ∀ (p : Program) (e : Env) (s : State) (m : MethodId) (below : List Frame) (meth : Method) (c : Code) (ls : Array Slot) (A : Nat → Prop), CallFix p m c b mL s av.toArray zt_U y.cls → meth.sig.returnType = ret → meth.locks = false → lv_has ls mL (lv_args 0 av) → zw_H g A s.heap s N ad E s.heap [] →
      W p l e rm s m av.toArray below meth c s.heap [] 0 0 (zc_Zq g s A post below av.toArray rm) (F0 m 0 ls [])) : zc_q g l y b mL ret rm av N ad E post := by
  intro sz
  refine Met.ofW (cc := b) (maxL := mL) (ret := ret) hy rfl ?_
  intro p e s m args below meth c s₁ B hml hv
  obtain ⟨rfl, hsz, hP, hK, hD0⟩ := hv
  subst hsz
  rw [lg_entry_eq]
  have hts := atoms_spec (ws := zw_w y b mL ret) B.pre
  exact body p e s m below meth c _ (va_A (zw_v N ad E) s.heap.size) ⟨B.exec, B.bytes, hml, findClass_of_methodNamed B.named, fun w h => hts w (List.mem_cons_of_mem _ h)⟩ B.returns B.notSynchronized (lv_entry av hn) ⟨hK, hP, hD0.self, va_S.rf, fun q h => Or.inr h⟩
/-- what a field's own rows of the tables say, for a read and for a write -/
def zf_g (own : String) (idx ci : Nat) (C : String) (T : u_T) (Nf j : Nat) : Prop := vwCl[ci]? = some (C, T, Nf) ∧ (∀ w ∈ u_ws C T Nf, w ∈ zt_U) ∧ j < Nf ∧ Cond.fieldLink own idx (T j).1 (T j).2.1 (T j).2.2.1 ∈ zt_U
def zf_p (own : String) (idx ci : Nat) (C : String) (T : u_T) (Nf j : Nat) (fin : Bool) (ty : FieldType) : Prop := zf_g own idx ci C T Nf j ∧ (∃ ty0 : Nat → FieldType, ∀ k, k < Nf → parseFieldDescriptor (T k).2.2.1 = some (ty0 k)) ∧ (∀ a, a < Nf → ∀ b, b < Nf → a ≠ b → (T a).2.1 ≠ (T b).2.1) ∧ (T j).2.2.2 = fin ∧ parseFieldDescriptor (T j).2.2.1 = some ty
section ZX
variable {p : Program} {l : Launch} {e : Env} {R : Room} {s : State} {m : MethodId} {args : Array Value} {below : List Frame} {meth : Method} {c : Code} {H : Heap} {locs : List Loc} {cells slots : Nat} {Q : State → Prop} {cc : ByteArray} {pc nL : Nat} {ls : Array Slot} {rest : List Value} {own : String} {g : zw_G} {A : Nat → Prop} {H0 : Heap} {N : Nat} {ad : Nat → Nat} {E : Nat → va_E}
theorem zx_get (X : CallFix p m c cc nL s args zt_U own) (hH : zw_H g A H0 s N ad E H locs) {k ci j idx Nf : Nat} {fs : List Value} {C : String} {T : u_T} {v : Value} (F : zf_g own idx ci C T Nf j) (hk : k < N) (hE : E k = .inr (ci, fs)) (hv : fs[j]? = some v) (hd : decode cc pc = .ok (.getfield idx, 3))
    (kk : W p l e R s m args below meth c H locs cells slots Q (F0 m (pc + 3) ls (v :: rest))) : W p l e R s m args below meth c H locs cells slots Q (F0 m pc ls (.ref (ad k) :: rest)) :=
  va_get (D := g.1) X.1 X.2.1 X.2.2.2.2 F.2.1 X.2.2.2.1 hH.1.1 hH.2.1 k (by rw [zw_get hk, hE]) F.1 j F.2.2.1 (X.2.2.2.2 _ F.2.2.2) (fun _ h => h) hv hd kk
theorem zx_put (X : CallFix p m c cc nL s args zt_U own) (hH : zw_H g A H0 s N ad E H locs) {k ci j idx Nf : Nat} {fs : List Value} {C : String} {T : u_T} {ty : FieldType} {v : Value} (F : zf_p own idx ci C T Nf j false ty) (hk : k < N) (hE : E k = .inr (ci, fs)) (hl : j < fs.length) (hn : narrow ty v = v) (hf : fits ty v = true) (hd : decode cc pc = .ok (.putfield idx, 3))
    (kk : ∀ (H1 : Heap) (locs1 : List Loc), zw_H g A H0 s N ad (va_up E k (.inr (ci, fs.set j v))) H1 locs1 → W p l e R s m args below meth c H1 locs1 cells slots Q (F0 m (pc + 3) ls rest)) : W p l e R s m args below meth c H locs cells slots Q (F0 m pc ls (v :: .ref (ad k) :: rest)) := by
  obtain ⟨G, ⟨ty0, hty⟩, hnm, hfin, hp⟩ := F
  refine va_put (D := g.1) X.1 X.2.1 X.2.2.2.2 G.2.1 ty0 hty hnm X.2.2.2.1 hH.1.1 hH.2.1 hH.2.2.1 hH.2.2.2.1 k (by rw [zw_get hk, hE]) G.1 j G.2.2.1 (X.2.2.2.2 _ G.2.2.2) (fun _ h => h) hfin hp hn hf hl hd (fun H1 locs1 hP hD hS => ?_)
  rw [zw_set] at hP hD
  exact kk H1 locs1 ⟨hH.1, hP, hD, hS, hH.2.2.2.2⟩
theorem zx_putF (X : CallFix p m c cc nL s args zt_U own) (hH : zw_H g A H0 s N ad E H locs) {k ci j idx Nf : Nat} {fs : List Value} {C : String} {T : u_T} {ty : FieldType} {v : Value} (F : zf_p own idx ci C T Nf j true ty) (hin : meth.name = "<init>") (ho : (T j).1 = own) (hk : k < N) (hE : E k = .inr (ci, fs)) (hl : j < fs.length) (hn : narrow ty v = v) (hf : fits ty v = true) (hd : decode cc pc = .ok (.putfield idx, 3))
    (kk : ∀ (H1 : Heap) (locs1 : List Loc), zw_H g A H0 s N ad (va_up E k (.inr (ci, fs.set j v))) H1 locs1 → W p l e R s m args below meth c H1 locs1 cells slots Q (F0 m (pc + 3) ls rest)) : W p l e R s m args below meth c H locs cells slots Q (F0 m pc ls (v :: .ref (ad k) :: rest)) := by
  obtain ⟨G, ⟨ty0, hty⟩, hnm, hfin, hp⟩ := F
  refine va_putF (D := g.1) X.1 X.2.1 X.2.2.2.2 G.2.1 ty0 hty hnm X.2.2.2.1 hH.1.1 hH.2.1 hH.2.2.1 hH.2.2.2.1 k (by rw [zw_get hk, hE]) G.1 j G.2.2.1 (X.2.2.2.2 _ G.2.2.2) (fun _ h => h) hfin hin ho hp hn hf hl hd (fun H1 locs1 hP hD hS => ?_)
  rw [zw_set] at hP hD
  exact kk H1 locs1 ⟨hH.1, hP, hD, hS, hH.2.2.2.2⟩
theorem zx_iald (X : CallFix p m c cc nL s args zt_U own) (hH : zw_H g A H0 s N ad E H locs) {k n j : Nat} {f : Nat → Int32} {i : Int32} (hk : k < N) (hE : E k = .inl (g.2 0, n, .inl f)) (hi : i = nI j) (hj : j < n) (hn : n < 2 ^ 31) (hd : decode cc pc = .ok (.iaload, 1))
    (kk : W p l e R s m args below meth c H locs cells slots Q (F0 m (pc + 1) ls (.int (f j) :: rest))) : W p l e R s m args below meth c H locs cells slots Q (F0 m pc ls (.int i :: .ref (ad k) :: rest)) := by
  subst hi
  refine va_iald (D := g.1) X.1 X.2.1 hH.1.1 hH.2.1 k 0 (by rw [zw_get hk, hE]) rfl (vp_in_nI hj hn) hd ?_
  rw [nI_clamp (by omega)]
  exact kk
theorem zx_zald (X : CallFix p m c cc nL s args zt_U own) (hH : zw_H g A H0 s N ad E H locs) {k n j : Nat} {f : Nat → Int32} {i : Int32} (hk : k < N) (hE : E k = .inl (g.2 1, n, .inl f)) (hi : i = nI j) (hj : j < n) (hn : n < 2 ^ 31) (hd : decode cc pc = .ok (.baload, 1))
    (kk : W p l e R s m args below meth c H locs cells slots Q (F0 m (pc + 1) ls (.int (f j) :: rest))) : W p l e R s m args below meth c H locs cells slots Q (F0 m pc ls (.int i :: .ref (ad k) :: rest)) := by
  subst hi
  refine va_zald (D := g.1) X.1 X.2.1 hH.1.1 hH.2.1 k 1 (by rw [zw_get hk, hE]) rfl (vp_in_nI hj hn) hd ?_
  rw [nI_clamp (by omega)]
  exact kk
theorem zx_aald (X : CallFix p m c cc nL s args zt_U own) (hH : zw_H g A H0 s N ad E H locs) {k n j : Nat} {f : Nat → Option Nat} {i : Int32} (hk : k < N) (hE : E k = .inl (g.2 2, n, .inr (.inr (.inr (.inr f))))) (hi : i = nI j) (hj : j < n) (hn : n < 2 ^ 31) (hd : decode cc pc = .ok (.aaload, 1))
    (kk : W p l e R s m args below meth c H locs cells slots Q (F0 m (pc + 1) ls (va_rf (f j) :: rest))) : W p l e R s m args below meth c H locs cells slots Q (F0 m pc ls (.int i :: .ref (ad k) :: rest)) := by
  subst hi
  refine va_aldq (D := g.1) X.1 X.2.1 hH.1.1 hH.2.1 k 2 (by rw [zw_get hk, hE]) rfl (vp_in_nI hj hn) hd ?_
  rw [nI_clamp (by omega)]
  exact kk
theorem zx_iast (X : CallFix p m c cc nL s args zt_U own) (hH : zw_H g A H0 s N ad E H locs) {k n j : Nat} {f : Nat → Int32} {i x : Int32} (hk : k < N) (hE : E k = .inl (g.2 0, n, .inl f)) (hi : i = nI j) (hj : j < n) (hn : n < 2 ^ 31) (hd : decode cc pc = .ok (.iastore, 1))
    (kk : ∀ (H1 : Heap) (locs1 : List Loc), zw_H g A H0 s N ad (va_up E k (.inl (g.2 0, n, .inl (upd f j x)))) H1 locs1 → W p l e R s m args below meth c H1 locs1 cells slots Q (F0 m (pc + 1) ls rest)) : W p l e R s m args below meth c H locs cells slots Q (F0 m pc ls (.int x :: .int i :: .ref (ad k) :: rest)) := by
  subst hi
  refine va_iast (D := g.1) X.1 X.2.1 hH.1.1 hH.2.1 hH.2.2.1 hH.2.2.2.1 k 0 (by rw [zw_get hk, hE]) rfl (vp_in_nI hj hn) hd (fun H1 locs1 hP hD hS => ?_)
  rw [nI_clamp (by omega), zw_set] at hP hD
  exact kk H1 locs1 ⟨hH.1, hP, hD, hS, hH.2.2.2.2⟩
theorem zx_alen (X : CallFix p m c cc nL s args zt_U own) (hH : zw_H g A H0 s N ad E H locs) {k n : Nat} {f : (Nat → Int32) ⊕ (Nat → Int64) ⊕ (Nat → UInt32) ⊕ (Nat → UInt64) ⊕ (Nat → Option Nat)} (hk : k < N) (hE : E k = .inl (g.2 0, n, f)) (hd : decode cc pc = .ok (.arraylength, 1))
    (kk : W p l e R s m args below meth c H locs cells slots Q (F0 m (pc + 1) ls (.int (nI n) :: rest))) : W p l e R s m args below meth c H locs cells slots Q (F0 m pc ls (.ref (ad k) :: rest)) :=
  va_alen (D := g.1) (x := (n, f)) X.1 X.2.1 hH.1.1 hH.2.1 k 0 (by rw [zw_get hk, hE]) rfl rfl hd kk
/-- the ends -/
theorem zx_iret (X : CallFix p m c cc nL s args zt_U own) (hr : meth.sig.returnType = some .int) (hlk : meth.locks = false) (hH : zw_H g A s.heap s N ad E H locs) {post : zw_Pi} {rm : Room} {v : Int32} (h1 : cells ≤ rm.cells) (h2 : slots ≤ rm.slots) (hd : decode cc pc = .ok (.ireturn, 1)) (hq : post v N ad E) :
    W p l e R s m args below meth c H locs cells slots (zc_Zi g s A post below args rm) (F0 m pc ls [.int v]) := by
  refine W.widen h1 h2 ?_
  exact W.iret X.1 X.2.1 hr (fun t ht hW => ⟨⟨v, (N, ad, E), rfl, hq, by rw [ht]; exact hH.2.1, hH.2.2.1⟩, hH.2.2.2.1.F ht⟩) hH.2.2.2.1.2.2 hd hlk
theorem zx_zret (X : CallFix p m c cc nL s args zt_U own) (hr : meth.sig.returnType = some .boolean) (hlk : meth.locks = false) (hH : zw_H g A s.heap s N ad E H locs) {post : zw_Pi} {rm : Room} {v : Int32} (h1 : cells ≤ rm.cells) (h2 : slots ≤ rm.slots) (hd : decode cc pc = .ok (.ireturn, 1)) (hn : narrow .boolean (.int v) = .int v) (hq : post v N ad E) :
    W p l e R s m args below meth c H locs cells slots (zc_Zi g s A post below args rm) (F0 m pc ls [.int v]) := by
  refine W.widen h1 h2 ?_
  exact W.zret X.1 X.2.1 hr hn (fun t ht hW => ⟨⟨v, (N, ad, E), rfl, hq, by rw [ht]; exact hH.2.1, hH.2.2.1⟩, hH.2.2.2.1.F ht⟩) hH.2.2.2.1.2.2 hd hlk
theorem zx_vret (X : CallFix p m c cc nL s args zt_U own) (hr : meth.sig.returnType = none) (hlk : meth.locks = false) (hH : zw_H g A s.heap s N ad E H locs) {post : zw_Pv} {rm : Room} (h1 : cells ≤ rm.cells) (h2 : slots ≤ rm.slots) (hd : decode cc pc = .ok (.return_, 1)) (hq : post N ad E) :
    W p l e R s m args below meth c H locs cells slots (zc_Zv g s A post below args rm) (F0 m pc ls []) := by
  refine W.widen h1 h2 ?_
  exact W.vret X.1 X.2.1 hr (fun t ht hW => ⟨⟨(N, ad, E), rfl, hq, by rw [ht]; exact hH.2.1, hH.2.2.1⟩, hH.2.2.2.1.F ht⟩) hH.2.2.2.1.2.2 hd hlk
theorem zx_aret (X : CallFix p m c cc nL s args zt_U own) {rt : FieldType} (hr : meth.sig.returnType = some rt) (hrt : (∃ n, rt = .object n) ∨ ∃ t, rt = .array t) (hlk : meth.locks = false) (hH : zw_H g A s.heap s N ad E H locs) {post : zw_Pq} {rm : Room} {v : Option Nat} {w : Value} (hw : w = va_rf v) (h1 : cells ≤ rm.cells) (h2 : slots ≤ rm.slots) (hd : decode cc pc = .ok (.areturn, 1)) (hq : post v N ad E) :
    W p l e R s m args below meth c H locs cells slots (zc_Zq g s A post below args rm) (F0 m pc ls [w]) := by
  subst hw
  refine W.widen h1 h2 ?_
  exact W.aret X.1 X.2.1 hr hrt (va_rf_or v) (fun t ht hW => ⟨⟨v, (N, ad, E), rfl, hq, by rw [ht]; exact hH.2.1, hH.2.2.1⟩, hH.2.2.2.1.F ht⟩) hH.2.2.2.1.2.2 hd hlk
theorem zw_free (hH : zw_H g A H0 s N ad E H locs) : ∀ q, va_A (zw_v N ad E) H.size q → A q := by
  obtain ⟨-, -, hD, hS, hA⟩ := hH
  intro q hq
  rcases hq with ⟨k, e, hk⟩ | h
  · obtain ⟨h1, h2⟩ := zw_inv hk
    have h3 := (zw_D.mp hD).2 k h1
    have h4 : q = ad k := congrArg Prod.fst h2
    rw [h4]
    exact h3
  · exact hA q (Nat.le_trans hS.1 h)
/-- behind a call -/
theorem zx_calli {mc ms : Nat} {st0 : List Value} {a : Array Value} {post : zw_Pi} (hr : va_Run p l e R s m args below meth c H locs cells slots mc ms (F0 m pc ls st0) rest (zw_Qi g (va_A (zw_v N ad E) H.size) post a) (va_A (zw_v N ad E) H.size)) (hH : zw_H g A H0 s N ad E H locs)
    (kk : ∀ (r : Int32) (N1 : Nat) (ad1 : Nat → Nat) (E1 : Nat → va_E) (H1 : Heap) (locs1 : List Loc), post r N1 ad1 E1 → zw_H g A H0 s N1 ad1 E1 H1 locs1 → W p l e R s m args below meth c H1 locs1 (cells + mc) (slots + ms) Q (F0 m (pc + 3) ls (.int r :: rest))) : W p l e R s m args below meth c H locs cells slots Q (F0 m pc ls st0) := by
  have hF := zw_free hH
  obtain ⟨hK, hP, hD, hS, hA⟩ := hH
  refine va_calli hr hS (fun q _ h => hF q h) hF (fun r u t H1 locs1 ht hvm hw hB hz1 hk1 hS1 => ?_)
  obtain ⟨hP1, hD1⟩ := hB
  rw [ht] at hP1
  exact kk r u.1 u.2.1 u.2.2 H1 locs1 hw ⟨hK, hP1, hD1.weaken (fun k q _ h => hF _ h), hS1, hA⟩
theorem zx_callv {mc ms : Nat} {st0 : List Value} {a : Array Value} {post : zw_Pv} (hr : va_Run p l e R s m args below meth c H locs cells slots mc ms (F0 m pc ls st0) rest (zw_Qv g (va_A (zw_v N ad E) H.size) post a) (va_A (zw_v N ad E) H.size)) (hH : zw_H g A H0 s N ad E H locs)
    (kk : ∀ (N1 : Nat) (ad1 : Nat → Nat) (E1 : Nat → va_E) (H1 : Heap) (locs1 : List Loc), post N1 ad1 E1 → zw_H g A H0 s N1 ad1 E1 H1 locs1 → W p l e R s m args below meth c H1 locs1 (cells + mc) (slots + ms) Q (F0 m (pc + 3) ls rest)) : W p l e R s m args below meth c H locs cells slots Q (F0 m pc ls st0) := by
  have hF := zw_free hH
  obtain ⟨hK, hP, hD, hS, hA⟩ := hH
  refine va_callv hr hS (fun q _ h => hF q h) hF (fun u t H1 locs1 ht hvm hw hB hz1 hk1 hS1 => ?_)
  obtain ⟨hP1, hD1⟩ := hB
  rw [ht] at hP1
  exact kk u.1 u.2.1 u.2.2 H1 locs1 hw ⟨hK, hP1, hD1.weaken (fun k q _ h => hF _ h), hS1, hA⟩
theorem zx_callq {mc ms : Nat} {st0 : List Value} {a : Array Value} {post : zw_Pq} (hr : va_Run p l e R s m args below meth c H locs cells slots mc ms (F0 m pc ls st0) rest (zw_Qq g (va_A (zw_v N ad E) H.size) post a) (va_A (zw_v N ad E) H.size)) (hH : zw_H g A H0 s N ad E H locs)
    (kk : ∀ (r : Option Nat) (N1 : Nat) (ad1 : Nat → Nat) (E1 : Nat → va_E) (H1 : Heap) (locs1 : List Loc), post r N1 ad1 E1 → zw_H g A H0 s N1 ad1 E1 H1 locs1 → W p l e R s m args below meth c H1 locs1 (cells + mc) (slots + ms) Q (F0 m (pc + 3) ls (va_rf r :: rest))) : W p l e R s m args below meth c H locs cells slots Q (F0 m pc ls st0) := by
  have hF := zw_free hH
  obtain ⟨hK, hP, hD, hS, hA⟩ := hH
  refine va_callq hr hS (fun q _ h => hF q h) hF (fun r u t H1 locs1 ht hvm hw hB hz1 hk1 hS1 => ?_)
  obtain ⟨hP1, hD1⟩ := hB
  rw [ht] at hP1
  exact kk r u.1 u.2.1 u.2.2 H1 locs1 hw ⟨hK, hP1, hD1.weaken (fun k q _ h => hF _ h), hS1, hA⟩
end ZX
/-- what the tables say of a call: by a reference, of a static method, of a constructor; N: of a nest mate's private one -/
def zm_b (y : MethodName) (b : ByteArray) (mL : Nat) (ret : Option FieldType) (n : Nat) : Prop := Cond.initialized y.cls ∈ zt_U ∧ Cond.code y b mL ret ∈ zt_U ∧ y.cls ≠ "java/lang/invoke/MethodHandle" ∧ y.cls ≠ "java/lang/invoke/VarHandle" ∧ (parseMethodDescriptor y.desc).map (fun d => d.parameters.length) = some n
def zm_v (own : String) (idx : Nat) (y : MethodName) (b : ByteArray) (mL : Nat) (ret : Option FieldType) (n : Nat) : Prop := zm_b y b mL ret n ∧ Cond.methodLink own idx y ∈ zt_U ∧ Cond.instanceMethod y ∈ zt_U ∧ Cond.selects y.cls y y ∈ zt_U
def zm_s (own : String) (idx : Nat) (y : MethodName) (b : ByteArray) (mL : Nat) (ret : Option FieldType) (n : Nat) : Prop := zm_b y b mL ret n ∧ Cond.methodLink own idx y ∈ zt_U ∧ Cond.static y ∈ zt_U
def zm_i (own : String) (idx : Nat) (y : MethodName) (b : ByteArray) (mL : Nat) (n : Nat) : Prop := zm_b y b mL none n ∧ Cond.methodLink own idx y ∈ zt_U ∧ Cond.instanceMethod y ∈ zt_U ∧ y.name = "<init>"
def zm_sN (y : MethodName) (b : ByteArray) (mL : Nat) (ret : Option FieldType) (n : Nat) : Prop := zm_b y b mL ret n ∧ Cond.static y ∈ zt_U
def zm_iN (y : MethodName) (b : ByteArray) (mL : Nat) (n : Nat) : Prop := zm_b y b mL none n ∧ Cond.instanceMethod y ∈ zt_U ∧ y.name = "<init>"
theorem zg_in {ws : List Cond} (h : ∀ w ∈ ws, w ∈ zt_U) : GoodIn zt_U ws := fun w hw => ⟨h w hw, zt_good w (h w hw)⟩
theorem zg_w {y : MethodName} {b : ByteArray} {mL : Nat} {ret : Option FieldType} {n : Nat} (M : zm_b y b mL ret n) : ∀ w ∈ zw_w y b mL ret, w ∈ zt_U := fun w hw => by
  rcases List.mem_cons.mp hw with h | h
  · rw [h]; exact M.2.1
  · exact h
section ZR
variable {p : Program} {l : Launch} {e : Env} {R : Room} {s : State} {m : MethodId} {args : Array Value} {below : List Frame} {meth : Method} {c : Code} {H : Heap} {locs : List Loc} {cells slots : Nat} {Q : State → Prop} {cc : ByteArray} {pc nL : Nat} {ls : Array Slot} {rest st0 As : List Value} {own : String} {g : zw_G} {A : Nat → Prop} {H0 : Heap} {N : Nat} {ad : Nat → Nat} {E : Nat → va_E} {y : MethodName} {b : ByteArray} {mL n idx : Nat} {ret : Option FieldType} {rm : Room} {Qc : Array Value → State → Outcome → State → Prop} {free : Addr → Prop} {lv : List (Nat × Value)} {host : String}
theorem zx_pre (hH : zw_H g A H0 s N ad E H locs) (av : List Value) : PreS s H (va_Pc av (zw_Pre g N ad E H.size)) av :=
  ⟨zw_blind, fun U hU hW => ⟨rfl, by rw [hU], by rw [hU]; exact hH.2.1, zw_K.warm hW hH.1, hH.2.2.1.weaken (fun _ _ _ _ => trivial)⟩⟩
theorem zx_runV (X : CallFix p m c cc nL s args zt_U own) (hH : zw_H g A H0 s N ad E H locs) {k ci Nf : Nat} {fs : List Value} {T : u_T} (M : zm_v own idx y b mL ret n) (hM : Met l y (zw_w y b mL ret) rm (va_Pc (.ref (ad k) :: As) (zw_Pre g N ad E H.size)) Qc rm.cells rm.slots free) (hk : k < N) (hE : E k = .inr (ci, fs)) (hc : vwCl[ci]? = some (y.cls, T, Nf)) (hR : rm.frames + 1 ≤ R.frames ∧ 8 + (mL + 11) + rm.locals ≤ R.locals) (hn : As.length = n) (hl : lv_has ls nL lv) (hst : st0 = As.reverse ++ .ref (ad k) :: rest) (hW : (rest.map fun v => v.category).sum ≤ 8) (hd : decode cc pc = .ok (.invokevirtual idx, 3)) (hf : cells + rm.cells ≤ R.cells ∧ slots + rm.slots ≤ R.slots) :
    va_Run p l e R s m args below meth c H locs cells slots rm.cells rm.slots (F0 m pc ls st0) rest (Qc (Value.ref (ad k) :: As).toArray) free := by
  obtain ⟨B, h1, h2, h3⟩ := M
  have hG : GoodIn zt_U (wsV own idx y.cls y (zw_w y b mL ret)) := zg_in (fun w hw => by
    unfold wsV at hw
    rcases List.mem_append.mp hw with h | h
    · simp only [List.mem_cons, List.not_mem_nil, or_false] at h
      rcases h with rfl | rfl | rfl | rfl
      · exact h1
      · exact h2
      · exact h3
      · exact B.1
    · exact zg_w B w h)
  have hp := zx_pre hH (.ref (ad k) :: As)
  exact va_runV (As := As) (rest := rest) X hM (cwV n X.2.2.2.2 hG rfl rfl rfl ⟨rfl, B.2.2.1, B.2.2.2.1, B.2.2.2.2⟩ hR) ⟨hp.1, va_recv hH.1.1 hH.2.1 hc (by rw [zw_get hk, hE]), hp.2⟩ rfl hn hl.1 hst (lv_room hW) hd hf
theorem zx_runS (X : CallFix p m c cc nL s args zt_U own) (hH : zw_H g A H0 s N ad E H locs) (M : zm_s own idx y b mL ret n) (hM : Met l y (zw_w y b mL ret) rm (va_Pc As (zw_Pre g N ad E H.size)) Qc rm.cells rm.slots free) (hR : rm.frames + 1 ≤ R.frames ∧ 8 + (mL + 11) + rm.locals ≤ R.locals) (hn : As.length = n) (hl : lv_has ls nL lv) (hst : st0 = As.reverse ++ rest) (hW : (rest.map fun v => v.category).sum ≤ 8) (hd : decode cc pc = .ok (.invokestatic idx, 3)) (hf : cells + rm.cells ≤ R.cells ∧ slots + rm.slots ≤ R.slots) :
    va_Run p l e R s m args below meth c H locs cells slots rm.cells rm.slots (F0 m pc ls st0) rest (Qc As.toArray) free := by
  obtain ⟨B, h1, h2⟩ := M
  have hG : GoodIn zt_U (va_wsS own idx y (zw_w y b mL ret)) := zg_in (fun w hw => by
    unfold va_wsS at hw
    rcases List.mem_append.mp hw with h | h
    · simp only [List.mem_cons, List.not_mem_nil, or_false] at h
      rcases h with rfl | rfl | rfl
      · exact h1
      · exact h2
      · exact B.1
    · exact zg_w B w h)
  exact va_runS (As := As) (rest := rest) X hM (va_cwS n X.2.2.2.2 hG rfl rfl rfl ⟨B.2.2.1, B.2.2.2.1, B.2.2.2.2⟩ hR) (zx_pre hH As) rfl hn hl.1 hst (lv_room hW) hd hf
theorem zx_runSN (X : CallFix p m c cc nL s args zt_U own) (hH : zw_H g A H0 s N ad E H locs) (M : zm_sN y b mL ret n) (hh : va_Nw (.methodLinkNest own idx y host) s) (hM : Met l y (zw_w y b mL ret) rm (va_Pc As (zw_Pre g N ad E H.size)) Qc rm.cells rm.slots free) (hR : rm.frames + 1 ≤ R.frames ∧ 8 + (mL + 11) + rm.locals ≤ R.locals) (hn : As.length = n) (hl : lv_has ls nL lv) (hst : st0 = As.reverse ++ rest) (hW : (rest.map fun v => v.category).sum ≤ 8) (hd : decode cc pc = .ok (.invokestatic idx, 3)) (hf : cells + rm.cells ≤ R.cells ∧ slots + rm.slots ≤ R.slots) :
    va_Run p l e R s m args below meth c H locs cells slots rm.cells rm.slots (F0 m pc ls st0) rest (Qc As.toArray) free := by
  obtain ⟨B, h2⟩ := M
  have ht := X.2.2.2.2
  exact va_runSN (As := As) (rest := rest) X hM ⟨va_cnB n ht (zg_in (zg_w B)) rfl rfl rfl hh (ht _ B.1) ⟨B.2.2.1, B.2.2.2.1, B.2.2.2.2⟩ hR, ht _ h2, trivial⟩ (zx_pre hH As) rfl hn hl.1 hst (lv_room hW) hd hf
theorem zx_runI (X : CallFix p m c cc nL s args zt_U own) (hH : zw_H g A H0 s N ad E H locs) {a : Nat} (M : zm_i own idx y b mL n) (hM : Met l y (zw_w y b mL none) rm (va_Pc (.ref a :: As) (zw_Pre g N ad E H.size)) Qc rm.cells rm.slots free) (hR : rm.frames + 1 ≤ R.frames ∧ 8 + (mL + 11) + rm.locals ≤ R.locals) (hn : As.length = n) (hl : lv_has ls nL lv) (hst : st0 = As.reverse ++ .ref a :: rest) (hW : (rest.map fun v => v.category).sum ≤ 8) (hd : decode cc pc = .ok (.invokespecial idx, 3)) (hf : cells + rm.cells ≤ R.cells ∧ slots + rm.slots ≤ R.slots) :
    va_Run p l e R s m args below meth c H locs cells slots rm.cells rm.slots (F0 m pc ls st0) rest (Qc (Value.ref a :: As).toArray) free := by
  obtain ⟨B, h1, h2, h3⟩ := M
  have ht := X.2.2.2.2
  exact va_runI (As := As) (rest := rest) X hM (cwI n ht (zg_in (zg_w B)) rfl rfl rfl (ht _ B.1) (ht _ h1) (ht _ h2) h3 ⟨B.2.2.1, B.2.2.2.1, B.2.2.2.2⟩ hR) (zx_pre hH (.ref a :: As)) rfl hn hl.1 hst (lv_room hW) hd hf
theorem zx_runIN (X : CallFix p m c cc nL s args zt_U own) (hH : zw_H g A H0 s N ad E H locs) {a : Nat} (M : zm_iN y b mL n) (hh : va_Nw (.methodLinkNest own idx y host) s) (hM : Met l y (zw_w y b mL none) rm (va_Pc (.ref a :: As) (zw_Pre g N ad E H.size)) Qc rm.cells rm.slots free) (hR : rm.frames + 1 ≤ R.frames ∧ 8 + (mL + 11) + rm.locals ≤ R.locals) (hn : As.length = n) (hl : lv_has ls nL lv) (hst : st0 = As.reverse ++ .ref a :: rest) (hW : (rest.map fun v => v.category).sum ≤ 8) (hd : decode cc pc = .ok (.invokespecial idx, 3)) (hf : cells + rm.cells ≤ R.cells ∧ slots + rm.slots ≤ R.slots) :
    va_Run p l e R s m args below meth c H locs cells slots rm.cells rm.slots (F0 m pc ls st0) rest (Qc (Value.ref a :: As).toArray) free := by
  obtain ⟨B, h2, h3⟩ := M
  have ht := X.2.2.2.2
  exact va_runIN (As := As) (rest := rest) X hM ⟨va_cnB n ht (zg_in (zg_w B)) rfl rfl rfl hh (ht _ B.1) ⟨B.2.2.1, B.2.2.2.1, B.2.2.2.2⟩ hR, h3, ht _ h2⟩ (zx_pre hH (.ref a :: As)) rfl hn hl.1 hst (lv_room hW) hd hf
/-- a new int array, of a length that is known -/
theorem zx_newi (X : CallFix p m c cc nL s args zt_U own) (hH : zw_H g A H0 s N ad E H locs) (hw : Cond.arrayClass .int ∈ zt_U) {i : Int32} {j : Nat} (hi : i = nI j) (hj : j ≤ 134217728) (hc : cells + 1 ≤ R.cells) (hs : slots + j ≤ R.slots) (hd : decode cc pc = .ok (.newarray .int, 2))
    (kk : ∀ (q : Nat) (H1 : Heap), zw_H g A H0 s (N + 1) (va_up ad N q) (va_up E N (.inl (g.2 0, j, .inl (fun _ => 0)))) H1 locs → W p l e R s m args below meth c H1 locs (cells + 1) (slots + j) Q (F0 m (pc + 2) ls (.ref (va_up ad N q N) :: rest))) : W p l e R s m args below meth c H locs cells slots Q (F0 m pc ls (.int i :: rest)) := by
  subst hi
  have hK := hH.1.1
  refine va_newa (D := g.1) (atype := .int) (a0 := (j, .inl (fun _ => 0))) (N' := j) X.1 X.2.1 (X.2.2.2.2 _ hw) rfl hH.1.1 hH.2.1 hH.2.2.1 hH.2.2.2.1 hH.2.2.2.2 (fun _ => rfl) (nI_pos (by omega)) (nI_clamp (by omega)) (by show j * 4 ≤ _; omega) hc hs hd (fun q cA H1 hK1 hP hD hS => ?_)
  have e1 := va_nm_int (hK1.2 (zw_ty g).length (cA, .int) (by rw [List.getElem?_append_right (Nat.le_refl _), Nat.sub_self]; rfl)).2
  have e2 := va_nm_int (hK.2 0 (g.2 0, .int) rfl).2
  have e3 : cA = g.2 0 := Option.some.inj (e1.symm.trans e2)
  subst e3
  rw [zw_push] at hP hD
  have k2 := kk q H1 ⟨hH.1, hP, hD, hS, hH.2.2.2.2⟩
  rw [va_up_self] at k2
  exact k2
theorem zx_newz (X : CallFix p m c cc nL s args zt_U own) (hH : zw_H g A H0 s N ad E H locs) (hw : Cond.arrayClass .boolean ∈ zt_U) {i : Int32} {j : Nat} (hi : i = nI j) (hj : j ≤ 134217728) (hc : cells + 1 ≤ R.cells) (hs : slots + j ≤ R.slots) (hd : decode cc pc = .ok (.newarray .boolean, 2))
    (kk : ∀ (q : Nat) (H1 : Heap), zw_H g A H0 s (N + 1) (va_up ad N q) (va_up E N (.inl (g.2 1, j, .inl (fun _ => 0)))) H1 locs → W p l e R s m args below meth c H1 locs (cells + 1) (slots + j) Q (F0 m (pc + 2) ls (.ref (va_up ad N q N) :: rest))) : W p l e R s m args below meth c H locs cells slots Q (F0 m pc ls (.int i :: rest)) := by
  subst hi
  have hK := hH.1.1
  refine va_newa (D := g.1) (atype := .boolean) (a0 := (j, .inl (fun _ => 0))) (N' := j) X.1 X.2.1 (X.2.2.2.2 _ hw) rfl hH.1.1 hH.2.1 hH.2.2.1 hH.2.2.2.1 hH.2.2.2.2 (fun _ => rfl) (nI_pos (by omega)) (nI_clamp (by omega)) (by show j * 1 ≤ _; omega) hc hs hd (fun q cA H1 hK1 hP hD hS => ?_)
  have e1 := va_nm_boolean (hK1.2 (zw_ty g).length (cA, .boolean) (by rw [List.getElem?_append_right (Nat.le_refl _), Nat.sub_self]; rfl)).2
  have e2 := va_nm_boolean (hK.2 1 (g.2 1, .boolean) rfl).2
  have e3 : cA = g.2 1 := Option.some.inj (e1.symm.trans e2)
  subst e3
  rw [zw_push] at hP hD
  have k2 := kk q H1 ⟨hH.1, hP, hD, hS, hH.2.2.2.2⟩
  rw [va_up_self] at k2
  exact k2
end ZR
/-! numbers of branches, as numbers of Int -/
theorem zn_0 : (0 : Int32).toInt = 0 := by decide
theorem zn_lt {x y : Int32} {a b : Int} (hx : x.toInt = a) (hy : y.toInt = b) : x < y ↔ a < b := by rw [Int32.lt_iff_toInt_lt, hx, hy]
theorem zn_le {x y : Int32} {a b : Int} (hx : x.toInt = a) (hy : y.toInt = b) : x ≤ y ↔ a ≤ b := by rw [Int32.le_iff_toInt_le, hx, hy]
theorem zn_eq {x y : Int32} {a b : Int} (hx : x.toInt = a) (hy : y.toInt = b) : x = y ↔ a = b := by rw [← Int32.toInt_inj, hx, hy]
theorem zn_of {x : Int32} {j : Nat} (h : x.toInt = (j : Int)) : x = nI j := by
  have h2 := Int32.toInt_lt x
  rw [← Int32.toInt_inj, nI_toInt (by omega), h]
theorem zn_nat {x : Int32} (h : 0 ≤ x.toInt) : x = nI x.toInt.toNat := zn_of (by omega)
section ZT
variable {p : Program} {l : Launch} {e : Env} {R : Room} {s : State} {m : MethodId} {args : Array Value} {below : List Frame} {meth : Method} {c : Code} {H : Heap} {locs : List Loc} {cells slots : Nat} {Q : State → Prop} {pc : Nat} {ls : Array Slot} {rest : List Value}
theorem zx_top {a b : Int32} (h : a = b) (k : W p l e R s m args below meth c H locs cells slots Q (F0 m pc ls (.int b :: rest))) : W p l e R s m args below meth c H locs cells slots Q (F0 m pc ls (.int a :: rest)) := by
  subst h; exact k
end ZT
section ZU
variable {p : Program} {l : Launch} {e : Env} {R : Room} {s : State} {m : MethodId} {args : Array Value} {below : List Frame} {meth : Method} {c : Code} {H : Heap} {locs : List Loc} {cells slots : Nat} {Q : State → Prop} {cc : ByteArray} {pc nL : Nat} {ls : Array Slot} {rest : List Value} {own : String} {g : zw_G} {A : Nat → Prop} {H0 : Heap} {N : Nat} {ad : Nat → Nat} {E : Nat → va_E}
theorem zx_zast (X : CallFix p m c cc nL s args zt_U own) (hH : zw_H g A H0 s N ad E H locs) {k n j : Nat} {f : Nat → Int32} {i x : Int32} (hk : k < N) (hE : E k = .inl (g.2 1, n, .inl f)) (hi : i = nI j) (hj : j < n) (hn : n < 2 ^ 31) (hx : vp_nar .boolean x = x) (hd : decode cc pc = .ok (.bastore, 1))
    (kk : ∀ (H1 : Heap) (locs1 : List Loc), zw_H g A H0 s N ad (va_up E k (.inl (g.2 1, n, .inl (upd f j x)))) H1 locs1 → W p l e R s m args below meth c H1 locs1 cells slots Q (F0 m (pc + 1) ls rest)) : W p l e R s m args below meth c H locs cells slots Q (F0 m pc ls (.int x :: .int i :: .ref (ad k) :: rest)) := by
  subst hi
  refine va_zast (D := g.1) X.1 X.2.1 hH.1.1 hH.2.1 hH.2.2.1 hH.2.2.2.1 k 1 (by rw [zw_get hk, hE]) rfl (vp_in_nI hj hn) hd (fun H1 locs1 hP hD hS => ?_)
  rw [nI_clamp (by omega), hx, zw_set] at hP hD
  exact kk H1 locs1 ⟨hH.1, hP, hD, hS, hH.2.2.2.2⟩
/-- a loop: its states x, what holds at its head, what falls -/
theorem zx_loop {σ : Type} (P : σ → Heap → List Loc → Array Slot → Prop) (μ : σ → Nat) (kc ks : σ → Nat)
    (step : ∀ (x : σ) (H : Heap) (locs : List Loc) (ls : Array Slot), P x H locs ls → (∀ (x1 : σ) (H1 : Heap) (locs1 : List Loc) (ls1 : Array Slot), P x1 H1 locs1 ls1 → μ x1 < μ x → W p l e R s m args below meth c H1 locs1 (kc x1) (ks x1) Q (F0 m pc ls1 [])) → W p l e R s m args below meth c H locs (kc x) (ks x) Q (F0 m pc ls []))
    (x : σ) (H : Heap) (locs : List Loc) (ls : Array Slot) (h : P x H locs ls) : W p l e R s m args below meth c H locs (kc x) (ks x) Q (F0 m pc ls []) := by
  have key : ∀ (n : Nat) (x : σ) (H : Heap) (locs : List Loc) (ls : Array Slot), μ x < n → P x H locs ls → W p l e R s m args below meth c H locs (kc x) (ks x) Q (F0 m pc ls []) := by
    intro n
    induction n with
    | zero => intro x H locs ls h; exact absurd h (Nat.not_lt_zero _)
    | succ n ih =>
      intro x H locs ls hn hP
      exact step x H locs ls hP (fun x1 H1 locs1 ls1 hP1 h1 => ih x1 H1 locs1 ls1 (by omega) hP1)
  exact key (μ x + 1) x H locs ls (by omega) h
end ZU
/-- the last cell takes another one's place -/
theorem zw_swap {g : zw_G} {A : Nat → Prop} {H0 : Heap} {s : State} {N : Nat} {ad : Nat → Nat} {E : Nat → va_E} {H : Heap} {locs : List Loc} (k : Nat) (h : zw_H g A H0 s (N + 1) ad E H locs) : zw_H g A H0 s N (va_up ad k (ad N)) (va_up E k (E N)) H locs :=
  ⟨h.1, zw_swapP h.2.1, zw_swapD h.2.2.1, h.2.2.2⟩
theorem zn_pred {x : Int32} (h : 1 ≤ x.toInt) : x - nI 1 = nI (x.toInt.toNat - 1) := by
  have h2 := Int32.toInt_lt x
  conv => lhs; rw [zn_nat (x := x) (by omega)]
  exact pk_sub (by omega)
end
section
-- what the tables say of each field link, of each call
theorem zq_link : True := trivial
theorem fg_X_11 : zf_g zN_X 11 3 zN_X zT_X 7 0 := ⟨rfl, zI_X, by decide, (zt_in (List.mem_of_getElem? (i := 65) (by decide +kernel)) rfl)⟩
theorem fp_X_11 : zf_p zN_X 11 3 zN_X zT_X 7 0 true (.array (.object "RegionThreads$Region")) := ⟨fg_X_11, ⟨zY_X, zP_X⟩, zD_X, rfl, by decide +kernel⟩
theorem zb_V_init : zm_b y_V_init b_V_init 1 (none) 0 := ⟨(zt_in (List.mem_of_getElem? (i := 20) (by decide +kernel)) rfl), (zt_in (List.mem_of_getElem? (i := 41) (by decide +kernel)) rfl), by decide, by decide, by decide +kernel⟩
theorem zh_X_17 : Cond.methodLinkNest zN_X 17 y_V_init "RegionThreads" ∈ lw_tbl := (List.mem_of_getElem? (i := 39) (by decide +kernel))
theorem mi_X_17 : zm_iN y_V_init b_V_init 1 0 := ⟨zb_V_init, (zt_in (List.mem_of_getElem? (i := 40) (by decide +kernel)) rfl), rfl⟩
theorem fg_X_18 : zf_g zN_X 18 3 zN_X zT_X 7 1 := ⟨rfl, zI_X, by decide, (zt_in (List.mem_of_getElem? (i := 66) (by decide +kernel)) rfl)⟩
theorem fp_X_18 : zf_p zN_X 18 3 zN_X zT_X 7 1 true (.object "RegionThreads$Events") := ⟨fg_X_18, ⟨zY_X, zP_X⟩, zD_X, rfl, by decide +kernel⟩
theorem zb_O_init : zm_b y_O_init b_O_init 2 (none) 1 := ⟨(zt_in (List.mem_of_getElem? (i := 21) (by decide +kernel)) rfl), (zt_in (List.mem_of_getElem? (i := 52) (by decide +kernel)) rfl), by decide, by decide, by decide +kernel⟩
theorem mi_X_24 : zm_i zN_X 24 y_O_init b_O_init 2 1 := ⟨zb_O_init, (zt_in (List.mem_of_getElem? (i := 50) (by decide +kernel)) rfl), (zt_in (List.mem_of_getElem? (i := 51) (by decide +kernel)) rfl), rfl⟩
theorem fg_X_27 : zf_g zN_X 27 3 zN_X zT_X 7 2 := ⟨rfl, zI_X, by decide, (zt_in (List.mem_of_getElem? (i := 67) (by decide +kernel)) rfl)⟩
theorem fp_X_27 : zf_p zN_X 27 3 zN_X zT_X 7 2 true (.object "RegionThreads$Row") := ⟨fg_X_27, ⟨zY_X, zP_X⟩, zD_X, rfl, by decide +kernel⟩
theorem fg_X_31 : zf_g zN_X 31 3 zN_X zT_X 7 3 := ⟨rfl, zI_X, by decide, (zt_in (List.mem_of_getElem? (i := 68) (by decide +kernel)) rfl)⟩
theorem fp_X_31 : zf_p zN_X 31 3 zN_X zT_X 7 3 true (.object "RegionThreads$Row") := ⟨fg_X_31, ⟨zY_X, zP_X⟩, zD_X, rfl, by decide +kernel⟩
theorem fg_X_34 : zf_g zN_X 34 3 zN_X zT_X 7 6 := ⟨rfl, zI_X, by decide, (zt_in (List.mem_of_getElem? (i := 71) (by decide +kernel)) rfl)⟩
theorem fp_X_34 : zf_p zN_X 34 3 zN_X zT_X 7 6 false (.boolean) := ⟨fg_X_34, ⟨zY_X, zP_X⟩, zD_X, rfl, by decide +kernel⟩
theorem fg_X_38 : zf_g zN_X 38 3 zN_X zT_X 7 4 := ⟨rfl, zI_X, by decide, (zt_in (List.mem_of_getElem? (i := 69) (by decide +kernel)) rfl)⟩
theorem fp_X_38 : zf_p zN_X 38 3 zN_X zT_X 7 4 false (.int) := ⟨fg_X_38, ⟨zY_X, zP_X⟩, zD_X, rfl, by decide +kernel⟩
theorem zb_R_init : zm_b y_R_init b_R_init 3 (none) 2 := ⟨(zt_in (List.mem_of_getElem? (i := 23) (by decide +kernel)) rfl), (zt_in (List.mem_of_getElem? (i := 94) (by decide +kernel)) rfl), by decide, by decide, by decide +kernel⟩
theorem mi_X_42 : zm_i zN_X 42 y_R_init b_R_init 3 2 := ⟨zb_R_init, (zt_in (List.mem_of_getElem? (i := 92) (by decide +kernel)) rfl), (zt_in (List.mem_of_getElem? (i := 93) (by decide +kernel)) rfl), rfl⟩
theorem zb_X_find : zm_b y_X_find b_X_find 2 (some (.object "RegionThreads$Region")) 1 := ⟨(zt_in (List.mem_of_getElem? (i := 19) (by decide +kernel)) rfl), (zt_in (List.mem_of_getElem? (i := 151) (by decide +kernel)) rfl), by decide, by decide, by decide +kernel⟩
theorem mv_X_45 : zm_v zN_X 45 y_X_find b_X_find 2 (some (.object "RegionThreads$Region")) 1 := ⟨zb_X_find, (zt_in (List.mem_of_getElem? (i := 148) (by decide +kernel)) rfl), (zt_in (List.mem_of_getElem? (i := 150) (by decide +kernel)) rfl), (zt_in (List.mem_of_getElem? (i := 0) (by decide +kernel)) rfl)⟩
theorem fg_X_49 : zf_g zN_X 49 1 zN_R zT_R 13 0 := ⟨rfl, zI_R, by decide, (zt_in (List.mem_of_getElem? (i := 97) (by decide +kernel)) rfl)⟩
theorem fp_X_49 : zf_p zN_X 49 1 zN_R zT_R 13 0 true (.int) := ⟨fg_X_49, ⟨zY_R, zP_R⟩, zD_R, rfl, by decide +kernel⟩
theorem zb_X_isEvent : zm_b y_X_isEvent b_X_isEvent 1 (some .boolean) 1 := ⟨(zt_in (List.mem_of_getElem? (i := 19) (by decide +kernel)) rfl), (zt_in (List.mem_of_getElem? (i := 154) (by decide +kernel)) rfl), by decide, by decide, by decide +kernel⟩
theorem ms_X_52 : zm_s zN_X 52 y_X_isEvent b_X_isEvent 1 (some .boolean) 1 := ⟨zb_X_isEvent, (zt_in (List.mem_of_getElem? (i := 152) (by decide +kernel)) rfl), (zt_in (List.mem_of_getElem? (i := 153) (by decide +kernel)) rfl)⟩
theorem zb_R_isAheadOf : zm_b y_R_isAheadOf b_R_isAheadOf 2 (some .boolean) 1 := ⟨(zt_in (List.mem_of_getElem? (i := 23) (by decide +kernel)) rfl), (zt_in (List.mem_of_getElem? (i := 158) (by decide +kernel)) rfl), by decide, by decide, by decide +kernel⟩
theorem mv_X_56 : zm_v zN_X 56 y_R_isAheadOf b_R_isAheadOf 2 (some .boolean) 1 := ⟨zb_R_isAheadOf, (zt_in (List.mem_of_getElem? (i := 155) (by decide +kernel)) rfl), (zt_in (List.mem_of_getElem? (i := 156) (by decide +kernel)) rfl), (zt_in (List.mem_of_getElem? (i := 157) (by decide +kernel)) rfl)⟩
theorem zb_R_addWait : zm_b y_R_addWait b_R_addWait 3 (some .boolean) 2 := ⟨(zt_in (List.mem_of_getElem? (i := 23) (by decide +kernel)) rfl), (zt_in (List.mem_of_getElem? (i := 166) (by decide +kernel)) rfl), by decide, by decide, by decide +kernel⟩
theorem mv_X_59 : zm_v zN_X 59 y_R_addWait b_R_addWait 3 (some .boolean) 2 := ⟨zb_R_addWait, (zt_in (List.mem_of_getElem? (i := 163) (by decide +kernel)) rfl), (zt_in (List.mem_of_getElem? (i := 164) (by decide +kernel)) rfl), (zt_in (List.mem_of_getElem? (i := 165) (by decide +kernel)) rfl)⟩
theorem fg_X_63 : zf_g zN_X 63 1 zN_R zT_R 13 8 := ⟨rfl, zI_R, by decide, (zt_in (List.mem_of_getElem? (i := 110) (by decide +kernel)) rfl)⟩
theorem fp_X_63 : zf_p zN_X 63 1 zN_R zT_R 13 8 false (.int) := ⟨fg_X_63, ⟨zY_R, zP_R⟩, zD_R, rfl, by decide +kernel⟩
theorem zb_V_addPosting : zm_b y_V_addPosting b_V_addPosting 2 (none) 1 := ⟨(zt_in (List.mem_of_getElem? (i := 20) (by decide +kernel)) rfl), (zt_in (List.mem_of_getElem? (i := 174) (by decide +kernel)) rfl), by decide, by decide, by decide +kernel⟩
theorem mv_X_66 : zm_v zN_X 66 y_V_addPosting b_V_addPosting 2 (none) 1 := ⟨zb_V_addPosting, (zt_in (List.mem_of_getElem? (i := 171) (by decide +kernel)) rfl), (zt_in (List.mem_of_getElem? (i := 172) (by decide +kernel)) rfl), (zt_in (List.mem_of_getElem? (i := 173) (by decide +kernel)) rfl)⟩
theorem zb_V_untaken : zm_b y_V_untaken b_V_untaken 2 (some .int) 1 := ⟨(zt_in (List.mem_of_getElem? (i := 20) (by decide +kernel)) rfl), (zt_in (List.mem_of_getElem? (i := 179) (by decide +kernel)) rfl), by decide, by decide, by decide +kernel⟩
theorem mv_X_69 : zm_v zN_X 69 y_V_untaken b_V_untaken 2 (some .int) 1 := ⟨zb_V_untaken, (zt_in (List.mem_of_getElem? (i := 176) (by decide +kernel)) rfl), (zt_in (List.mem_of_getElem? (i := 177) (by decide +kernel)) rfl), (zt_in (List.mem_of_getElem? (i := 178) (by decide +kernel)) rfl)⟩
theorem zb_O_append : zm_b y_O_append b_O_append 2 (none) 1 := ⟨(zt_in (List.mem_of_getElem? (i := 21) (by decide +kernel)) rfl), (zt_in (List.mem_of_getElem? (i := 187) (by decide +kernel)) rfl), by decide, by decide, by decide +kernel⟩
theorem mv_X_73 : zm_v zN_X 73 y_O_append b_O_append 2 (none) 1 := ⟨zb_O_append, (zt_in (List.mem_of_getElem? (i := 184) (by decide +kernel)) rfl), (zt_in (List.mem_of_getElem? (i := 185) (by decide +kernel)) rfl), (zt_in (List.mem_of_getElem? (i := 186) (by decide +kernel)) rfl)⟩
theorem fg_X_76 : zf_g zN_X 76 2 zN_O zT_O 3 2 := ⟨rfl, zI_O, by decide, (zt_in (List.mem_of_getElem? (i := 57) (by decide +kernel)) rfl)⟩
theorem fp_X_76 : zf_p zN_X 76 2 zN_O zT_O 3 2 false (.int) := ⟨fg_X_76, ⟨zY_O, zP_O⟩, zD_O, rfl, by decide +kernel⟩
theorem zb_O_at : zm_b y_O_at b_O_at 2 (some .int) 1 := ⟨(zt_in (List.mem_of_getElem? (i := 21) (by decide +kernel)) rfl), (zt_in (List.mem_of_getElem? (i := 211) (by decide +kernel)) rfl), by decide, by decide, by decide +kernel⟩
theorem mv_X_79 : zm_v zN_X 79 y_O_at b_O_at 2 (some .int) 1 := ⟨zb_O_at, (zt_in (List.mem_of_getElem? (i := 208) (by decide +kernel)) rfl), (zt_in (List.mem_of_getElem? (i := 209) (by decide +kernel)) rfl), (zt_in (List.mem_of_getElem? (i := 210) (by decide +kernel)) rfl)⟩
theorem zb_X_giveTurn : zm_b y_X_giveTurn b_X_giveTurn 4 (some .int) 1 := ⟨(zt_in (List.mem_of_getElem? (i := 19) (by decide +kernel)) rfl), (zt_in (List.mem_of_getElem? (i := 215) (by decide +kernel)) rfl), by decide, by decide, by decide +kernel⟩
theorem mv_X_82 : zm_v zN_X 82 y_X_giveTurn b_X_giveTurn 4 (some .int) 1 := ⟨zb_X_giveTurn, (zt_in (List.mem_of_getElem? (i := 212) (by decide +kernel)) rfl), (zt_in (List.mem_of_getElem? (i := 214) (by decide +kernel)) rfl), (zt_in (List.mem_of_getElem? (i := 1) (by decide +kernel)) rfl)⟩
theorem fg_X_85 : zf_g zN_X 85 3 zN_X zT_X 7 5 := ⟨rfl, zI_X, by decide, (zt_in (List.mem_of_getElem? (i := 70) (by decide +kernel)) rfl)⟩
theorem fp_X_85 : zf_p zN_X 85 3 zN_X zT_X 7 5 false (.int) := ⟨fg_X_85, ⟨zY_X, zP_X⟩, zD_X, rfl, by decide +kernel⟩
theorem zb_O_makeEmpty : zm_b y_O_makeEmpty b_O_makeEmpty 1 (none) 0 := ⟨(zt_in (List.mem_of_getElem? (i := 21) (by decide +kernel)) rfl), (zt_in (List.mem_of_getElem? (i := 255) (by decide +kernel)) rfl), by decide, by decide, by decide +kernel⟩
theorem mv_X_88 : zm_v zN_X 88 y_O_makeEmpty b_O_makeEmpty 1 (none) 0 := ⟨zb_O_makeEmpty, (zt_in (List.mem_of_getElem? (i := 252) (by decide +kernel)) rfl), (zt_in (List.mem_of_getElem? (i := 253) (by decide +kernel)) rfl), (zt_in (List.mem_of_getElem? (i := 254) (by decide +kernel)) rfl)⟩
theorem zb_R_goesOn : zm_b y_R_goesOn b_R_goesOn 1 (some .boolean) 0 := ⟨(zt_in (List.mem_of_getElem? (i := 23) (by decide +kernel)) rfl), (zt_in (List.mem_of_getElem? (i := 162) (by decide +kernel)) rfl), by decide, by decide, by decide +kernel⟩
theorem mv_X_91 : zm_v zN_X 91 y_R_goesOn b_R_goesOn 1 (some .boolean) 0 := ⟨zb_R_goesOn, (zt_in (List.mem_of_getElem? (i := 264) (by decide +kernel)) rfl), (zt_in (List.mem_of_getElem? (i := 160) (by decide +kernel)) rfl), (zt_in (List.mem_of_getElem? (i := 161) (by decide +kernel)) rfl)⟩
theorem fg_X_95 : zf_g zN_X 95 1 zN_R zT_R 13 7 := ⟨rfl, zI_R, by decide, (zt_in (List.mem_of_getElem? (i := 109) (by decide +kernel)) rfl)⟩
theorem fp_X_95 : zf_p zN_X 95 1 zN_R zT_R 13 7 false (.boolean) := ⟨fg_X_95, ⟨zY_R, zP_R⟩, zD_R, rfl, by decide +kernel⟩
theorem fg_X_98 : zf_g zN_X 98 1 zN_R zT_R 13 6 := ⟨rfl, zI_R, by decide, (zt_in (List.mem_of_getElem? (i := 106) (by decide +kernel)) rfl)⟩
theorem fp_X_98 : zf_p zN_X 98 1 zN_R zT_R 13 6 false (.int) := ⟨fg_X_98, ⟨zY_R, zP_R⟩, zD_R, rfl, by decide +kernel⟩
theorem fg_X_101 : zf_g zN_X 101 1 zN_R zT_R 13 5 := ⟨rfl, zI_R, by decide, (zt_in (List.mem_of_getElem? (i := 105) (by decide +kernel)) rfl)⟩
theorem fp_X_101 : zf_p zN_X 101 1 zN_R zT_R 13 5 false (.int) := ⟨fg_X_101, ⟨zY_R, zP_R⟩, zD_R, rfl, by decide +kernel⟩
theorem zb_X_giveRounds : zm_b y_X_giveRounds b_X_giveRounds 3 (none) 0 := ⟨(zt_in (List.mem_of_getElem? (i := 19) (by decide +kernel)) rfl), (zt_in (List.mem_of_getElem? (i := 280) (by decide +kernel)) rfl), by decide, by decide, by decide +kernel⟩
theorem mv_X_104 : zm_v zN_X 104 y_X_giveRounds b_X_giveRounds 3 (none) 0 := ⟨zb_X_giveRounds, (zt_in (List.mem_of_getElem? (i := 277) (by decide +kernel)) rfl), (zt_in (List.mem_of_getElem? (i := 279) (by decide +kernel)) rfl), (zt_in (List.mem_of_getElem? (i := 6) (by decide +kernel)) rfl)⟩
theorem zb_X_cancelThoseThatMay : zm_b y_X_cancelThoseThatMay b_X_cancelThoseThatMay 3 (none) 0 := ⟨(zt_in (List.mem_of_getElem? (i := 19) (by decide +kernel)) rfl), (zt_in (List.mem_of_getElem? (i := 288) (by decide +kernel)) rfl), by decide, by decide, by decide +kernel⟩
theorem mv_X_107 : zm_v zN_X 107 y_X_cancelThoseThatMay b_X_cancelThoseThatMay 3 (none) 0 := ⟨zb_X_cancelThoseThatMay, (zt_in (List.mem_of_getElem? (i := 285) (by decide +kernel)) rfl), (zt_in (List.mem_of_getElem? (i := 287) (by decide +kernel)) rfl), (zt_in (List.mem_of_getElem? (i := 8) (by decide +kernel)) rfl)⟩
theorem zb_X_countOpenUnits : zm_b y_X_countOpenUnits b_X_countOpenUnits 4 (some .int) 0 := ⟨(zt_in (List.mem_of_getElem? (i := 19) (by decide +kernel)) rfl), (zt_in (List.mem_of_getElem? (i := 294) (by decide +kernel)) rfl), by decide, by decide, by decide +kernel⟩
theorem mv_X_110 : zm_v zN_X 110 y_X_countOpenUnits b_X_countOpenUnits 4 (some .int) 0 := ⟨zb_X_countOpenUnits, (zt_in (List.mem_of_getElem? (i := 291) (by decide +kernel)) rfl), (zt_in (List.mem_of_getElem? (i := 293) (by decide +kernel)) rfl), (zt_in (List.mem_of_getElem? (i := 9) (by decide +kernel)) rfl)⟩
theorem zb_X_leaveAll : zm_b y_X_leaveAll b_X_leaveAll 3 (none) 0 := ⟨(zt_in (List.mem_of_getElem? (i := 19) (by decide +kernel)) rfl), (zt_in (List.mem_of_getElem? (i := 299) (by decide +kernel)) rfl), by decide, by decide, by decide +kernel⟩
theorem mv_X_114 : zm_v zN_X 114 y_X_leaveAll b_X_leaveAll 3 (none) 0 := ⟨zb_X_leaveAll, (zt_in (List.mem_of_getElem? (i := 296) (by decide +kernel)) rfl), (zt_in (List.mem_of_getElem? (i := 298) (by decide +kernel)) rfl), (zt_in (List.mem_of_getElem? (i := 10) (by decide +kernel)) rfl)⟩
theorem zb_R_addDecision : zm_b y_R_addDecision b_R_addDecision 2 (some .boolean) 1 := ⟨(zt_in (List.mem_of_getElem? (i := 23) (by decide +kernel)) rfl), (zt_in (List.mem_of_getElem? (i := 307) (by decide +kernel)) rfl), by decide, by decide, by decide +kernel⟩
theorem mv_X_117 : zm_v zN_X 117 y_R_addDecision b_R_addDecision 2 (some .boolean) 1 := ⟨zb_R_addDecision, (zt_in (List.mem_of_getElem? (i := 304) (by decide +kernel)) rfl), (zt_in (List.mem_of_getElem? (i := 305) (by decide +kernel)) rfl), (zt_in (List.mem_of_getElem? (i := 306) (by decide +kernel)) rfl)⟩
theorem fg_X_120 : zf_g zN_X 120 1 zN_R zT_R 13 2 := ⟨rfl, zI_R, by decide, (zt_in (List.mem_of_getElem? (i := 100) (by decide +kernel)) rfl)⟩
theorem fp_X_120 : zf_p zN_X 120 1 zN_R zT_R 13 2 false (.int) := ⟨fg_X_120, ⟨zY_R, zP_R⟩, zD_R, rfl, by decide +kernel⟩
theorem zb_X_countGoingOn : zm_b y_X_countGoingOn b_X_countGoingOn 4 (some .int) 0 := ⟨(zt_in (List.mem_of_getElem? (i := 19) (by decide +kernel)) rfl), (zt_in (List.mem_of_getElem? (i := 319) (by decide +kernel)) rfl), by decide, by decide, by decide +kernel⟩
theorem mv_X_123 : zm_v zN_X 123 y_X_countGoingOn b_X_countGoingOn 4 (some .int) 0 := ⟨zb_X_countGoingOn, (zt_in (List.mem_of_getElem? (i := 316) (by decide +kernel)) rfl), (zt_in (List.mem_of_getElem? (i := 318) (by decide +kernel)) rfl), (zt_in (List.mem_of_getElem? (i := 11) (by decide +kernel)) rfl)⟩
theorem fg_X_126 : zf_g zN_X 126 1 zN_R zT_R 13 3 := ⟨rfl, zI_R, by decide, (zt_in (List.mem_of_getElem? (i := 102) (by decide +kernel)) rfl)⟩
theorem fp_X_126 : zf_p zN_X 126 1 zN_R zT_R 13 3 false (.int) := ⟨fg_X_126, ⟨zY_R, zP_R⟩, zD_R, rfl, by decide +kernel⟩
theorem zb_R_takeTurn : zm_b y_R_takeTurn b_R_takeTurn 3 (some .int) 1 := ⟨(zt_in (List.mem_of_getElem? (i := 23) (by decide +kernel)) rfl), (zt_in (List.mem_of_getElem? (i := 219) (by decide +kernel)) rfl), by decide, by decide, by decide +kernel⟩
theorem mv_X_129 : zm_v zN_X 129 y_R_takeTurn b_R_takeTurn 3 (some .int) 1 := ⟨zb_R_takeTurn, (zt_in (List.mem_of_getElem? (i := 216) (by decide +kernel)) rfl), (zt_in (List.mem_of_getElem? (i := 217) (by decide +kernel)) rfl), (zt_in (List.mem_of_getElem? (i := 218) (by decide +kernel)) rfl)⟩
theorem zb_X_giveOneRound : zm_b y_X_giveOneRound b_X_giveOneRound 3 (some .boolean) 0 := ⟨(zt_in (List.mem_of_getElem? (i := 19) (by decide +kernel)) rfl), (zt_in (List.mem_of_getElem? (i := 284) (by decide +kernel)) rfl), by decide, by decide, by decide +kernel⟩
theorem mv_X_133 : zm_v zN_X 133 y_X_giveOneRound b_X_giveOneRound 3 (some .boolean) 0 := ⟨zb_X_giveOneRound, (zt_in (List.mem_of_getElem? (i := 281) (by decide +kernel)) rfl), (zt_in (List.mem_of_getElem? (i := 283) (by decide +kernel)) rfl), (zt_in (List.mem_of_getElem? (i := 7) (by decide +kernel)) rfl)⟩
theorem zb_R_isInsideDecision : zm_b y_R_isInsideDecision b_R_isInsideDecision 1 (some .boolean) 0 := ⟨(zt_in (List.mem_of_getElem? (i := 23) (by decide +kernel)) rfl), (zt_in (List.mem_of_getElem? (i := 223) (by decide +kernel)) rfl), by decide, by decide, by decide +kernel⟩
theorem mv_X_136 : zm_v zN_X 136 y_R_isInsideDecision b_R_isInsideDecision 1 (some .boolean) 0 := ⟨zb_R_isInsideDecision, (zt_in (List.mem_of_getElem? (i := 289) (by decide +kernel)) rfl), (zt_in (List.mem_of_getElem? (i := 221) (by decide +kernel)) rfl), (zt_in (List.mem_of_getElem? (i := 222) (by decide +kernel)) rfl)⟩
theorem zb_R_backOut : zm_b y_R_backOut b_R_backOut 2 (none) 1 := ⟨(zt_in (List.mem_of_getElem? (i := 23) (by decide +kernel)) rfl), (zt_in (List.mem_of_getElem? (i := 231) (by decide +kernel)) rfl), by decide, by decide, by decide +kernel⟩
theorem mv_X_139 : zm_v zN_X 139 y_R_backOut b_R_backOut 2 (none) 1 := ⟨zb_R_backOut, (zt_in (List.mem_of_getElem? (i := 290) (by decide +kernel)) rfl), (zt_in (List.mem_of_getElem? (i := 229) (by decide +kernel)) rfl), (zt_in (List.mem_of_getElem? (i := 230) (by decide +kernel)) rfl)⟩
theorem zb_R_openSteps : zm_b y_R_openSteps b_R_openSteps 1 (some .int) 0 := ⟨(zt_in (List.mem_of_getElem? (i := 23) (by decide +kernel)) rfl), (zt_in (List.mem_of_getElem? (i := 235) (by decide +kernel)) rfl), by decide, by decide, by decide +kernel⟩
theorem mv_X_142 : zm_v zN_X 142 y_R_openSteps b_R_openSteps 1 (some .int) 0 := ⟨zb_R_openSteps, (zt_in (List.mem_of_getElem? (i := 295) (by decide +kernel)) rfl), (zt_in (List.mem_of_getElem? (i := 233) (by decide +kernel)) rfl), (zt_in (List.mem_of_getElem? (i := 234) (by decide +kernel)) rfl)⟩
theorem fg_M_7 : zf_g zN_M 7 4 zN_M zT_M 22 6 := ⟨rfl, zI_M, by decide, (zt_in (List.mem_of_getElem? (i := 340) (by decide +kernel)) rfl)⟩
theorem fp_M_7 : zf_p zN_M 7 4 zN_M zT_M 22 6 true (.array .int) := ⟨fg_M_7, ⟨zY_M, zP_M⟩, zD_M, rfl, by decide +kernel⟩
theorem fg_M_13 : zf_g zN_M 13 4 zN_M zT_M 22 7 := ⟨rfl, zI_M, by decide, (zt_in (List.mem_of_getElem? (i := 341) (by decide +kernel)) rfl)⟩
theorem fp_M_13 : zf_p zN_M 13 4 zN_M zT_M 22 7 true (.array .int) := ⟨fg_M_13, ⟨zY_M, zP_M⟩, zD_M, rfl, by decide +kernel⟩
theorem fg_M_16 : zf_g zN_M 16 4 zN_M zT_M 22 8 := ⟨rfl, zI_M, by decide, (zt_in (List.mem_of_getElem? (i := 342) (by decide +kernel)) rfl)⟩
theorem fp_M_16 : zf_p zN_M 16 4 zN_M zT_M 22 8 true (.array .int) := ⟨fg_M_16, ⟨zY_M, zP_M⟩, zD_M, rfl, by decide +kernel⟩
theorem fg_M_19 : zf_g zN_M 19 4 zN_M zT_M 22 9 := ⟨rfl, zI_M, by decide, (zt_in (List.mem_of_getElem? (i := 343) (by decide +kernel)) rfl)⟩
theorem fp_M_19 : zf_p zN_M 19 4 zN_M zT_M 22 9 true (.array .int) := ⟨fg_M_19, ⟨zY_M, zP_M⟩, zD_M, rfl, by decide +kernel⟩
theorem fg_M_22 : zf_g zN_M 22 4 zN_M zT_M 22 10 := ⟨rfl, zI_M, by decide, (zt_in (List.mem_of_getElem? (i := 344) (by decide +kernel)) rfl)⟩
theorem fp_M_22 : zf_p zN_M 22 4 zN_M zT_M 22 10 true (.array .int) := ⟨fg_M_22, ⟨zY_M, zP_M⟩, zD_M, rfl, by decide +kernel⟩
theorem fg_M_25 : zf_g zN_M 25 4 zN_M zT_M 22 11 := ⟨rfl, zI_M, by decide, (zt_in (List.mem_of_getElem? (i := 345) (by decide +kernel)) rfl)⟩
theorem fp_M_25 : zf_p zN_M 25 4 zN_M zT_M 22 11 true (.array .int) := ⟨fg_M_25, ⟨zY_M, zP_M⟩, zD_M, rfl, by decide +kernel⟩
theorem fg_M_28 : zf_g zN_M 28 4 zN_M zT_M 22 12 := ⟨rfl, zI_M, by decide, (zt_in (List.mem_of_getElem? (i := 346) (by decide +kernel)) rfl)⟩
theorem fp_M_28 : zf_p zN_M 28 4 zN_M zT_M 22 12 true (.array .int) := ⟨fg_M_28, ⟨zY_M, zP_M⟩, zD_M, rfl, by decide +kernel⟩
theorem fg_M_31 : zf_g zN_M 31 4 zN_M zT_M 22 13 := ⟨rfl, zI_M, by decide, (zt_in (List.mem_of_getElem? (i := 347) (by decide +kernel)) rfl)⟩
theorem fp_M_31 : zf_p zN_M 31 4 zN_M zT_M 22 13 true (.array .int) := ⟨fg_M_31, ⟨zY_M, zP_M⟩, zD_M, rfl, by decide +kernel⟩
theorem fg_M_34 : zf_g zN_M 34 4 zN_M zT_M 22 14 := ⟨rfl, zI_M, by decide, (zt_in (List.mem_of_getElem? (i := 348) (by decide +kernel)) rfl)⟩
theorem fp_M_34 : zf_p zN_M 34 4 zN_M zT_M 22 14 true (.array .boolean) := ⟨fg_M_34, ⟨zY_M, zP_M⟩, zD_M, rfl, by decide +kernel⟩
theorem fg_M_38 : zf_g zN_M 38 4 zN_M zT_M 22 15 := ⟨rfl, zI_M, by decide, (zt_in (List.mem_of_getElem? (i := 349) (by decide +kernel)) rfl)⟩
theorem fp_M_38 : zf_p zN_M 38 4 zN_M zT_M 22 15 true (.array .boolean) := ⟨fg_M_38, ⟨zY_M, zP_M⟩, zD_M, rfl, by decide +kernel⟩
theorem fg_M_41 : zf_g zN_M 41 4 zN_M zT_M 22 16 := ⟨rfl, zI_M, by decide, (zt_in (List.mem_of_getElem? (i := 350) (by decide +kernel)) rfl)⟩
theorem fp_M_41 : zf_p zN_M 41 4 zN_M zT_M 22 16 true (.array .int) := ⟨fg_M_41, ⟨zY_M, zP_M⟩, zD_M, rfl, by decide +kernel⟩
theorem fg_M_44 : zf_g zN_M 44 4 zN_M zT_M 22 17 := ⟨rfl, zI_M, by decide, (zt_in (List.mem_of_getElem? (i := 351) (by decide +kernel)) rfl)⟩
theorem fp_M_44 : zf_p zN_M 44 4 zN_M zT_M 22 17 true (.array .int) := ⟨fg_M_44, ⟨zY_M, zP_M⟩, zD_M, rfl, by decide +kernel⟩
theorem fg_M_47 : zf_g zN_M 47 4 zN_M zT_M 22 18 := ⟨rfl, zI_M, by decide, (zt_in (List.mem_of_getElem? (i := 352) (by decide +kernel)) rfl)⟩
theorem fp_M_47 : zf_p zN_M 47 4 zN_M zT_M 22 18 true (.array .int) := ⟨fg_M_47, ⟨zY_M, zP_M⟩, zD_M, rfl, by decide +kernel⟩
theorem fg_M_50 : zf_g zN_M 50 4 zN_M zT_M 22 19 := ⟨rfl, zI_M, by decide, (zt_in (List.mem_of_getElem? (i := 353) (by decide +kernel)) rfl)⟩
theorem fp_M_50 : zf_p zN_M 50 4 zN_M zT_M 22 19 true (.array .int) := ⟨fg_M_50, ⟨zY_M, zP_M⟩, zD_M, rfl, by decide +kernel⟩
theorem fg_M_53 : zf_g zN_M 53 4 zN_M zT_M 22 20 := ⟨rfl, zI_M, by decide, (zt_in (List.mem_of_getElem? (i := 354) (by decide +kernel)) rfl)⟩
theorem fp_M_53 : zf_p zN_M 53 4 zN_M zT_M 22 20 true (.array .int) := ⟨fg_M_53, ⟨zY_M, zP_M⟩, zD_M, rfl, by decide +kernel⟩
theorem fg_M_56 : zf_g zN_M 56 4 zN_M zT_M 22 21 := ⟨rfl, zI_M, by decide, (zt_in (List.mem_of_getElem? (i := 355) (by decide +kernel)) rfl)⟩
theorem fp_M_56 : zf_p zN_M 56 4 zN_M zT_M 22 21 true (.array .int) := ⟨fg_M_56, ⟨zY_M, zP_M⟩, zD_M, rfl, by decide +kernel⟩
theorem fg_M_63 : zf_g zN_M 63 4 zN_M zT_M 22 1 := ⟨rfl, zI_M, by decide, (zt_in (List.mem_of_getElem? (i := 335) (by decide +kernel)) rfl)⟩
theorem fp_M_63 : zf_p zN_M 63 4 zN_M zT_M 22 1 false (.int) := ⟨fg_M_63, ⟨zY_M, zP_M⟩, zD_M, rfl, by decide +kernel⟩
theorem fg_M_59 : zf_g zN_M 59 4 zN_M zT_M 22 0 := ⟨rfl, zI_M, by decide, (zt_in (List.mem_of_getElem? (i := 334) (by decide +kernel)) rfl)⟩
theorem fp_M_59 : zf_p zN_M 59 4 zN_M zT_M 22 0 false (.int) := ⟨fg_M_59, ⟨zY_M, zP_M⟩, zD_M, rfl, by decide +kernel⟩
theorem fg_M_66 : zf_g zN_M 66 4 zN_M zT_M 22 5 := ⟨rfl, zI_M, by decide, (zt_in (List.mem_of_getElem? (i := 339) (by decide +kernel)) rfl)⟩
theorem fp_M_66 : zf_p zN_M 66 4 zN_M zT_M 22 5 false (.boolean) := ⟨fg_M_66, ⟨zY_M, zP_M⟩, zD_M, rfl, by decide +kernel⟩
theorem zb_M_isRegion : zm_b y_M_isRegion b_M_isRegion 2 (some .boolean) 1 := ⟨(zt_in (List.mem_of_getElem? (i := 22) (by decide +kernel)) rfl), (zt_in (List.mem_of_getElem? (i := 412) (by decide +kernel)) rfl), by decide, by decide, by decide +kernel⟩
theorem mv_M_70 : zm_v zN_M 70 y_M_isRegion b_M_isRegion 2 (some .boolean) 1 := ⟨zb_M_isRegion, (zt_in (List.mem_of_getElem? (i := 409) (by decide +kernel)) rfl), (zt_in (List.mem_of_getElem? (i := 411) (by decide +kernel)) rfl), (zt_in (List.mem_of_getElem? (i := 12) (by decide +kernel)) rfl)⟩
theorem fg_M_74 : zf_g zN_M 74 4 zN_M zT_M 22 2 := ⟨rfl, zI_M, by decide, (zt_in (List.mem_of_getElem? (i := 336) (by decide +kernel)) rfl)⟩
theorem fp_M_74 : zf_p zN_M 74 4 zN_M zT_M 22 2 false (.int) := ⟨fg_M_74, ⟨zY_M, zP_M⟩, zD_M, rfl, by decide +kernel⟩
theorem zb_M_of : zm_b y_M_of b_M_of 2 (some .int) 2 := ⟨(zt_in (List.mem_of_getElem? (i := 22) (by decide +kernel)) rfl), (zt_in (List.mem_of_getElem? (i := 427) (by decide +kernel)) rfl), by decide, by decide, by decide +kernel⟩
theorem ms_M_77 : zm_s zN_M 77 y_M_of b_M_of 2 (some .int) 2 := ⟨zb_M_of, (zt_in (List.mem_of_getElem? (i := 425) (by decide +kernel)) rfl), (zt_in (List.mem_of_getElem? (i := 426) (by decide +kernel)) rfl)⟩
theorem zb_M_isBetween : zm_b y_M_isBetween b_M_isBetween 2 (some .boolean) 1 := ⟨(zt_in (List.mem_of_getElem? (i := 22) (by decide +kernel)) rfl), (zt_in (List.mem_of_getElem? (i := 439) (by decide +kernel)) rfl), by decide, by decide, by decide +kernel⟩
theorem mv_M_81 : zm_v zN_M 81 y_M_isBetween b_M_isBetween 2 (some .boolean) 1 := ⟨zb_M_isBetween, (zt_in (List.mem_of_getElem? (i := 436) (by decide +kernel)) rfl), (zt_in (List.mem_of_getElem? (i := 438) (by decide +kernel)) rfl), (zt_in (List.mem_of_getElem? (i := 14) (by decide +kernel)) rfl)⟩
theorem zb_M_end : zm_b y_M_end b_M_end 3 (none) 2 := ⟨(zt_in (List.mem_of_getElem? (i := 22) (by decide +kernel)) rfl), (zt_in (List.mem_of_getElem? (i := 443) (by decide +kernel)) rfl), by decide, by decide, by decide +kernel⟩
theorem mv_M_84 : zm_v zN_M 84 y_M_end b_M_end 3 (none) 2 := ⟨zb_M_end, (zt_in (List.mem_of_getElem? (i := 440) (by decide +kernel)) rfl), (zt_in (List.mem_of_getElem? (i := 442) (by decide +kernel)) rfl), (zt_in (List.mem_of_getElem? (i := 15) (by decide +kernel)) rfl)⟩
theorem zb_M_isFree : zm_b y_M_isFree b_M_isFree 3 (some .boolean) 1 := ⟨(zt_in (List.mem_of_getElem? (i := 22) (by decide +kernel)) rfl), (zt_in (List.mem_of_getElem? (i := 447) (by decide +kernel)) rfl), by decide, by decide, by decide +kernel⟩
theorem mv_M_88 : zm_v zN_M 88 y_M_isFree b_M_isFree 3 (some .boolean) 1 := ⟨zb_M_isFree, (zt_in (List.mem_of_getElem? (i := 444) (by decide +kernel)) rfl), (zt_in (List.mem_of_getElem? (i := 446) (by decide +kernel)) rfl), (zt_in (List.mem_of_getElem? (i := 16) (by decide +kernel)) rfl)⟩
theorem fg_M_91 : zf_g zN_M 91 4 zN_M zT_M 22 3 := ⟨rfl, zI_M, by decide, (zt_in (List.mem_of_getElem? (i := 337) (by decide +kernel)) rfl)⟩
theorem fp_M_91 : zf_p zN_M 91 4 zN_M zT_M 22 3 false (.int) := ⟨fg_M_91, ⟨zY_M, zP_M⟩, zD_M, rfl, by decide +kernel⟩
theorem zb_M_goes : zm_b y_M_goes b_M_goes 2 (some .int) 1 := ⟨(zt_in (List.mem_of_getElem? (i := 22) (by decide +kernel)) rfl), (zt_in (List.mem_of_getElem? (i := 435) (by decide +kernel)) rfl), by decide, by decide, by decide +kernel⟩
theorem mv_M_94 : zm_v zN_M 94 y_M_goes b_M_goes 2 (some .int) 1 := ⟨zb_M_goes, (zt_in (List.mem_of_getElem? (i := 432) (by decide +kernel)) rfl), (zt_in (List.mem_of_getElem? (i := 434) (by decide +kernel)) rfl), (zt_in (List.mem_of_getElem? (i := 13) (by decide +kernel)) rfl)⟩
theorem fg_M_98 : zf_g zN_M 98 4 zN_M zT_M 22 4 := ⟨rfl, zI_M, by decide, (zt_in (List.mem_of_getElem? (i := 338) (by decide +kernel)) rfl)⟩
theorem fp_M_98 : zf_p zN_M 98 4 zN_M zT_M 22 4 false (.int) := ⟨fg_M_98, ⟨zY_M, zP_M⟩, zD_M, rfl, by decide +kernel⟩
theorem zb_M_leave : zm_b y_M_leave b_M_leave 2 (some .int) 1 := ⟨(zt_in (List.mem_of_getElem? (i := 22) (by decide +kernel)) rfl), (zt_in (List.mem_of_getElem? (i := 459) (by decide +kernel)) rfl), by decide, by decide, by decide +kernel⟩
theorem mv_M_101 : zm_v zN_M 101 y_M_leave b_M_leave 2 (some .int) 1 := ⟨zb_M_leave, (zt_in (List.mem_of_getElem? (i := 456) (by decide +kernel)) rfl), (zt_in (List.mem_of_getElem? (i := 458) (by decide +kernel)) rfl), (zt_in (List.mem_of_getElem? (i := 17) (by decide +kernel)) rfl)⟩
theorem fg_V_9 : zf_g zN_V 9 0 zN_V zT_V 1 0 := ⟨rfl, zI_V, by decide, (zt_in (List.mem_of_getElem? (i := 43) (by decide +kernel)) rfl)⟩
theorem fp_V_9 : zf_p zN_V 9 0 zN_V zT_V 1 0 true (.array .int) := ⟨fg_V_9, ⟨zY_V, zP_V⟩, zD_V, rfl, by decide +kernel⟩
theorem zh_V_15 : Cond.methodLinkNest zN_V 15 y_X_isEvent "RegionThreads" ∈ lw_tbl := (List.mem_of_getElem? (i := 175) (by decide +kernel))
theorem ms_V_15 : zm_sN y_X_isEvent b_X_isEvent 1 (some .boolean) 1 := ⟨zb_X_isEvent, (zt_in (List.mem_of_getElem? (i := 153) (by decide +kernel)) rfl)⟩
theorem fg_R_9 : zf_g zN_R 9 1 zN_R zT_R 13 2 := ⟨rfl, zI_R, by decide, (zt_in (List.mem_of_getElem? (i := 99) (by decide +kernel)) rfl)⟩
theorem fp_R_9 : zf_p zN_R 9 1 zN_R zT_R 13 2 false (.int) := ⟨fg_R_9, ⟨zY_R, zP_R⟩, zD_R, rfl, by decide +kernel⟩
theorem fg_R_15 : zf_g zN_R 15 1 zN_R zT_R 13 9 := ⟨rfl, zI_R, by decide, (zt_in (List.mem_of_getElem? (i := 112) (by decide +kernel)) rfl)⟩
theorem fp_R_15 : zf_p zN_R 15 1 zN_R zT_R 13 9 true (.array .int) := ⟨fg_R_15, ⟨zY_R, zP_R⟩, zD_R, rfl, by decide +kernel⟩
theorem fg_R_19 : zf_g zN_R 19 1 zN_R zT_R 13 10 := ⟨rfl, zI_R, by decide, (zt_in (List.mem_of_getElem? (i := 113) (by decide +kernel)) rfl)⟩
theorem fp_R_19 : zf_p zN_R 19 1 zN_R zT_R 13 10 true (.array .int) := ⟨fg_R_19, ⟨zY_R, zP_R⟩, zD_R, rfl, by decide +kernel⟩
theorem fg_R_22 : zf_g zN_R 22 1 zN_R zT_R 13 11 := ⟨rfl, zI_R, by decide, (zt_in (List.mem_of_getElem? (i := 114) (by decide +kernel)) rfl)⟩
theorem fp_R_22 : zf_p zN_R 22 1 zN_R zT_R 13 11 true (.array .boolean) := ⟨fg_R_22, ⟨zY_R, zP_R⟩, zD_R, rfl, by decide +kernel⟩
theorem fg_R_26 : zf_g zN_R 26 1 zN_R zT_R 13 12 := ⟨rfl, zI_R, by decide, (zt_in (List.mem_of_getElem? (i := 115) (by decide +kernel)) rfl)⟩
theorem fp_R_26 : zf_p zN_R 26 1 zN_R zT_R 13 12 true (.array .int) := ⟨fg_R_26, ⟨zY_R, zP_R⟩, zD_R, rfl, by decide +kernel⟩
theorem fg_R_29 : zf_g zN_R 29 1 zN_R zT_R 13 0 := ⟨rfl, zI_R, by decide, (zt_in (List.mem_of_getElem? (i := 96) (by decide +kernel)) rfl)⟩
theorem fp_R_29 : zf_p zN_R 29 1 zN_R zT_R 13 0 true (.int) := ⟨fg_R_29, ⟨zY_R, zP_R⟩, zD_R, rfl, by decide +kernel⟩
theorem fg_R_32 : zf_g zN_R 32 1 zN_R zT_R 13 1 := ⟨rfl, zI_R, by decide, (zt_in (List.mem_of_getElem? (i := 98) (by decide +kernel)) rfl)⟩
theorem fp_R_32 : zf_p zN_R 32 1 zN_R zT_R 13 1 true (.int) := ⟨fg_R_32, ⟨zY_R, zP_R⟩, zD_R, rfl, by decide +kernel⟩
theorem mv_R_35 : zm_v zN_R 35 y_R_goesOn b_R_goesOn 1 (some .boolean) 0 := ⟨zb_R_goesOn, (zt_in (List.mem_of_getElem? (i := 159) (by decide +kernel)) rfl), (zt_in (List.mem_of_getElem? (i := 160) (by decide +kernel)) rfl), (zt_in (List.mem_of_getElem? (i := 161) (by decide +kernel)) rfl)⟩
theorem fg_R_39 : zf_g zN_R 39 1 zN_R zT_R 13 3 := ⟨rfl, zI_R, by decide, (zt_in (List.mem_of_getElem? (i := 101) (by decide +kernel)) rfl)⟩
theorem fp_R_39 : zf_p zN_R 39 1 zN_R zT_R 13 3 false (.int) := ⟨fg_R_39, ⟨zY_R, zP_R⟩, zD_R, rfl, by decide +kernel⟩
theorem zb_R_halfOf : zm_b y_R_halfOf b_R_halfOf 2 (some .int) 1 := ⟨(zt_in (List.mem_of_getElem? (i := 23) (by decide +kernel)) rfl), (zt_in (List.mem_of_getElem? (i := 227) (by decide +kernel)) rfl), by decide, by decide, by decide +kernel⟩
theorem mv_R_42 : zm_v zN_R 42 y_R_halfOf b_R_halfOf 2 (some .int) 1 := ⟨zb_R_halfOf, (zt_in (List.mem_of_getElem? (i := 224) (by decide +kernel)) rfl), (zt_in (List.mem_of_getElem? (i := 226) (by decide +kernel)) rfl), (zt_in (List.mem_of_getElem? (i := 2) (by decide +kernel)) rfl)⟩
theorem fg_R_46 : zf_g zN_R 46 1 zN_R zT_R 13 4 := ⟨rfl, zI_R, by decide, (zt_in (List.mem_of_getElem? (i := 103) (by decide +kernel)) rfl)⟩
theorem fp_R_46 : zf_p zN_R 46 1 zN_R zT_R 13 4 false (.int) := ⟨fg_R_46, ⟨zY_R, zP_R⟩, zD_R, rfl, by decide +kernel⟩
theorem fg_R_49 : zf_g zN_R 49 1 zN_R zT_R 13 8 := ⟨rfl, zI_R, by decide, (zt_in (List.mem_of_getElem? (i := 111) (by decide +kernel)) rfl)⟩
theorem fp_R_49 : zf_p zN_R 49 1 zN_R zT_R 13 8 false (.int) := ⟨fg_R_49, ⟨zY_R, zP_R⟩, zD_R, rfl, by decide +kernel⟩
theorem fg_R_52 : zf_g zN_R 52 1 zN_R zT_R 13 7 := ⟨rfl, zI_R, by decide, (zt_in (List.mem_of_getElem? (i := 108) (by decide +kernel)) rfl)⟩
theorem fp_R_52 : zf_p zN_R 52 1 zN_R zT_R 13 7 false (.boolean) := ⟨fg_R_52, ⟨zY_R, zP_R⟩, zD_R, rfl, by decide +kernel⟩
theorem mv_R_56 : zm_v zN_R 56 y_R_isInsideDecision b_R_isInsideDecision 1 (some .boolean) 0 := ⟨zb_R_isInsideDecision, (zt_in (List.mem_of_getElem? (i := 220) (by decide +kernel)) rfl), (zt_in (List.mem_of_getElem? (i := 221) (by decide +kernel)) rfl), (zt_in (List.mem_of_getElem? (i := 222) (by decide +kernel)) rfl)⟩
theorem mv_R_59 : zm_v zN_R 59 y_R_backOut b_R_backOut 2 (none) 1 := ⟨zb_R_backOut, (zt_in (List.mem_of_getElem? (i := 228) (by decide +kernel)) rfl), (zt_in (List.mem_of_getElem? (i := 229) (by decide +kernel)) rfl), (zt_in (List.mem_of_getElem? (i := 230) (by decide +kernel)) rfl)⟩
theorem zb_R_takeWaitsAt : zm_b y_R_takeWaitsAt b_R_takeWaitsAt 4 (some .boolean) 2 := ⟨(zt_in (List.mem_of_getElem? (i := 23) (by decide +kernel)) rfl), (zt_in (List.mem_of_getElem? (i := 243) (by decide +kernel)) rfl), by decide, by decide, by decide +kernel⟩
theorem mv_R_63 : zm_v zN_R 63 y_R_takeWaitsAt b_R_takeWaitsAt 4 (some .boolean) 2 := ⟨zb_R_takeWaitsAt, (zt_in (List.mem_of_getElem? (i := 240) (by decide +kernel)) rfl), (zt_in (List.mem_of_getElem? (i := 242) (by decide +kernel)) rfl), (zt_in (List.mem_of_getElem? (i := 4) (by decide +kernel)) rfl)⟩
theorem zb_R_doStep : zm_b y_R_doStep b_R_doStep 2 (none) 1 := ⟨(zt_in (List.mem_of_getElem? (i := 23) (by decide +kernel)) rfl), (zt_in (List.mem_of_getElem? (i := 251) (by decide +kernel)) rfl), by decide, by decide, by decide +kernel⟩
theorem mv_R_67 : zm_v zN_R 67 y_R_doStep b_R_doStep 2 (none) 1 := ⟨zb_R_doStep, (zt_in (List.mem_of_getElem? (i := 248) (by decide +kernel)) rfl), (zt_in (List.mem_of_getElem? (i := 250) (by decide +kernel)) rfl), (zt_in (List.mem_of_getElem? (i := 5) (by decide +kernel)) rfl)⟩
theorem mv_R_70 : zm_v zN_R 70 y_R_openSteps b_R_openSteps 1 (some .int) 0 := ⟨zb_R_openSteps, (zt_in (List.mem_of_getElem? (i := 232) (by decide +kernel)) rfl), (zt_in (List.mem_of_getElem? (i := 233) (by decide +kernel)) rfl), (zt_in (List.mem_of_getElem? (i := 234) (by decide +kernel)) rfl)⟩
theorem fg_R_74 : zf_g zN_R 74 1 zN_R zT_R 13 5 := ⟨rfl, zI_R, by decide, (zt_in (List.mem_of_getElem? (i := 104) (by decide +kernel)) rfl)⟩
theorem fp_R_74 : zf_p zN_R 74 1 zN_R zT_R 13 5 false (.int) := ⟨fg_R_74, ⟨zY_R, zP_R⟩, zD_R, rfl, by decide +kernel⟩
theorem zb_R_endAs : zm_b y_R_endAs b_R_endAs 2 (none) 1 := ⟨(zt_in (List.mem_of_getElem? (i := 23) (by decide +kernel)) rfl), (zt_in (List.mem_of_getElem? (i := 239) (by decide +kernel)) rfl), by decide, by decide, by decide +kernel⟩
theorem mv_R_77 : zm_v zN_R 77 y_R_endAs b_R_endAs 2 (none) 1 := ⟨zb_R_endAs, (zt_in (List.mem_of_getElem? (i := 236) (by decide +kernel)) rfl), (zt_in (List.mem_of_getElem? (i := 238) (by decide +kernel)) rfl), (zt_in (List.mem_of_getElem? (i := 3) (by decide +kernel)) rfl)⟩
theorem fg_R_80 : zf_g zN_R 80 1 zN_R zT_R 13 6 := ⟨rfl, zI_R, by decide, (zt_in (List.mem_of_getElem? (i := 107) (by decide +kernel)) rfl)⟩
theorem fp_R_80 : zf_p zN_R 80 1 zN_R zT_R 13 6 false (.int) := ⟨fg_R_80, ⟨zY_R, zP_R⟩, zD_R, rfl, by decide +kernel⟩
theorem zb_V_takePosting : zm_b y_V_takePosting b_V_takePosting 2 (some .boolean) 1 := ⟨(zt_in (List.mem_of_getElem? (i := 20) (by decide +kernel)) rfl), (zt_in (List.mem_of_getElem? (i := 247) (by decide +kernel)) rfl), by decide, by decide, by decide +kernel⟩
theorem mv_R_83 : zm_v zN_R 83 y_V_takePosting b_V_takePosting 2 (some .boolean) 1 := ⟨zb_V_takePosting, (zt_in (List.mem_of_getElem? (i := 244) (by decide +kernel)) rfl), (zt_in (List.mem_of_getElem? (i := 245) (by decide +kernel)) rfl), (zt_in (List.mem_of_getElem? (i := 246) (by decide +kernel)) rfl)⟩
theorem fg_O_9 : zf_g zN_O 9 2 zN_O zT_O 3 1 := ⟨rfl, zI_O, by decide, (zt_in (List.mem_of_getElem? (i := 55) (by decide +kernel)) rfl)⟩
theorem fp_O_9 : zf_p zN_O 9 2 zN_O zT_O 3 1 false (.array .int) := ⟨fg_O_9, ⟨zY_O, zP_O⟩, zD_O, rfl, by decide +kernel⟩
theorem fg_O_13 : zf_g zN_O 13 2 zN_O zT_O 3 0 := ⟨rfl, zI_O, by decide, (zt_in (List.mem_of_getElem? (i := 54) (by decide +kernel)) rfl)⟩
theorem fp_O_13 : zf_p zN_O 13 2 zN_O zT_O 3 0 true (.int) := ⟨fg_O_13, ⟨zY_O, zP_O⟩, zD_O, rfl, by decide +kernel⟩
theorem fg_O_17 : zf_g zN_O 17 2 zN_O zT_O 3 2 := ⟨rfl, zI_O, by decide, (zt_in (List.mem_of_getElem? (i := 56) (by decide +kernel)) rfl)⟩
theorem fp_O_17 : zf_p zN_O 17 2 zN_O zT_O 3 2 false (.int) := ⟨fg_O_17, ⟨zY_O, zP_O⟩, zD_O, rfl, by decide +kernel⟩
theorem zb_J_copyOf : zm_b y_J_copyOf b_J_copyOf 3 (some (.array .int)) 2 := ⟨(zt_in (List.mem_of_getElem? (i := 24) (by decide +kernel)) rfl), (zt_in (List.mem_of_getElem? (i := 190) (by decide +kernel)) rfl), by decide, by decide, by decide +kernel⟩
theorem ms_O_20 : zm_s zN_O 20 y_J_copyOf b_J_copyOf 3 (some (.array .int)) 2 := ⟨zb_J_copyOf, (zt_in (List.mem_of_getElem? (i := 188) (by decide +kernel)) rfl), (zt_in (List.mem_of_getElem? (i := 189) (by decide +kernel)) rfl)⟩
theorem zb_X_init : zm_b y_X_init b_X_init 1 (none) 0 := ⟨(zt_in (List.mem_of_getElem? (i := 19) (by decide +kernel)) rfl), (zt_in (List.mem_of_getElem? (i := 31) (by decide +kernel)) rfl), by decide, by decide, by decide +kernel⟩
theorem mi_L_9 : zm_i zN_L 9 y_X_init b_X_init 1 0 := ⟨zb_X_init, (zt_in (List.mem_of_getElem? (i := 29) (by decide +kernel)) rfl), (zt_in (List.mem_of_getElem? (i := 30) (by decide +kernel)) rfl), rfl⟩
theorem zb_M_init : zm_b y_M_init b_M_init 1 (none) 0 := ⟨(zt_in (List.mem_of_getElem? (i := 22) (by decide +kernel)) rfl), (zt_in (List.mem_of_getElem? (i := 332) (by decide +kernel)) rfl), by decide, by decide, by decide +kernel⟩
theorem mi_L_12 : zm_i zN_L 12 y_M_init b_M_init 1 0 := ⟨zb_M_init, (zt_in (List.mem_of_getElem? (i := 330) (by decide +kernel)) rfl), (zt_in (List.mem_of_getElem? (i := 331) (by decide +kernel)) rfl), rfl⟩
theorem zb_X_region : zm_b y_X_region b_X_region 3 (some .int) 2 := ⟨(zt_in (List.mem_of_getElem? (i := 19) (by decide +kernel)) rfl), (zt_in (List.mem_of_getElem? (i := 90) (by decide +kernel)) rfl), by decide, by decide, by decide +kernel⟩
theorem mv_L_13 : zm_v zN_L 13 y_X_region b_X_region 3 (some .int) 2 := ⟨zb_X_region, (zt_in (List.mem_of_getElem? (i := 87) (by decide +kernel)) rfl), (zt_in (List.mem_of_getElem? (i := 88) (by decide +kernel)) rfl), (zt_in (List.mem_of_getElem? (i := 89) (by decide +kernel)) rfl)⟩
theorem zb_M_region : zm_b y_M_region b_M_region 3 (some .int) 2 := ⟨(zt_in (List.mem_of_getElem? (i := 22) (by decide +kernel)) rfl), (zt_in (List.mem_of_getElem? (i := 404) (by decide +kernel)) rfl), by decide, by decide, by decide +kernel⟩
theorem mv_L_17 : zm_v zN_L 17 y_M_region b_M_region 3 (some .int) 2 := ⟨zb_M_region, (zt_in (List.mem_of_getElem? (i := 401) (by decide +kernel)) rfl), (zt_in (List.mem_of_getElem? (i := 402) (by decide +kernel)) rfl), (zt_in (List.mem_of_getElem? (i := 403) (by decide +kernel)) rfl)⟩
theorem zb_X_waits : zm_b y_X_waits b_X_waits 5 (some .int) 3 := ⟨(zt_in (List.mem_of_getElem? (i := 19) (by decide +kernel)) rfl), (zt_in (List.mem_of_getElem? (i := 147) (by decide +kernel)) rfl), by decide, by decide, by decide +kernel⟩
theorem mv_L_18 : zm_v zN_L 18 y_X_waits b_X_waits 5 (some .int) 3 := ⟨zb_X_waits, (zt_in (List.mem_of_getElem? (i := 144) (by decide +kernel)) rfl), (zt_in (List.mem_of_getElem? (i := 145) (by decide +kernel)) rfl), (zt_in (List.mem_of_getElem? (i := 146) (by decide +kernel)) rfl)⟩
theorem zb_M_waits : zm_b y_M_waits b_M_waits 4 (some .int) 3 := ⟨(zt_in (List.mem_of_getElem? (i := 22) (by decide +kernel)) rfl), (zt_in (List.mem_of_getElem? (i := 408) (by decide +kernel)) rfl), by decide, by decide, by decide +kernel⟩
theorem mv_L_22 : zm_v zN_L 22 y_M_waits b_M_waits 4 (some .int) 3 := ⟨zb_M_waits, (zt_in (List.mem_of_getElem? (i := 405) (by decide +kernel)) rfl), (zt_in (List.mem_of_getElem? (i := 406) (by decide +kernel)) rfl), (zt_in (List.mem_of_getElem? (i := 407) (by decide +kernel)) rfl)⟩
theorem zb_X_post : zm_b y_X_post b_X_post 2 (some .int) 1 := ⟨(zt_in (List.mem_of_getElem? (i := 19) (by decide +kernel)) rfl), (zt_in (List.mem_of_getElem? (i := 170) (by decide +kernel)) rfl), by decide, by decide, by decide +kernel⟩
theorem mv_L_23 : zm_v zN_L 23 y_X_post b_X_post 2 (some .int) 1 := ⟨zb_X_post, (zt_in (List.mem_of_getElem? (i := 167) (by decide +kernel)) rfl), (zt_in (List.mem_of_getElem? (i := 168) (by decide +kernel)) rfl), (zt_in (List.mem_of_getElem? (i := 169) (by decide +kernel)) rfl)⟩
theorem zb_M_post : zm_b y_M_post b_M_post 2 (some .int) 1 := ⟨(zt_in (List.mem_of_getElem? (i := 22) (by decide +kernel)) rfl), (zt_in (List.mem_of_getElem? (i := 416) (by decide +kernel)) rfl), by decide, by decide, by decide +kernel⟩
theorem mv_L_27 : zm_v zN_L 27 y_M_post b_M_post 2 (some .int) 1 := ⟨zb_M_post, (zt_in (List.mem_of_getElem? (i := 413) (by decide +kernel)) rfl), (zt_in (List.mem_of_getElem? (i := 414) (by decide +kernel)) rfl), (zt_in (List.mem_of_getElem? (i := 415) (by decide +kernel)) rfl)⟩
theorem zb_X_turn : zm_b y_X_turn b_X_turn 2 (none) 1 := ⟨(zt_in (List.mem_of_getElem? (i := 19) (by decide +kernel)) rfl), (zt_in (List.mem_of_getElem? (i := 183) (by decide +kernel)) rfl), by decide, by decide, by decide +kernel⟩
theorem mv_L_28 : zm_v zN_L 28 y_X_turn b_X_turn 2 (none) 1 := ⟨zb_X_turn, (zt_in (List.mem_of_getElem? (i := 180) (by decide +kernel)) rfl), (zt_in (List.mem_of_getElem? (i := 181) (by decide +kernel)) rfl), (zt_in (List.mem_of_getElem? (i := 182) (by decide +kernel)) rfl)⟩
theorem zb_M_turn : zm_b y_M_turn b_M_turn 2 (none) 1 := ⟨(zt_in (List.mem_of_getElem? (i := 22) (by decide +kernel)) rfl), (zt_in (List.mem_of_getElem? (i := 420) (by decide +kernel)) rfl), by decide, by decide, by decide +kernel⟩
theorem mv_L_32 : zm_v zN_L 32 y_M_turn b_M_turn 2 (none) 1 := ⟨zb_M_turn, (zt_in (List.mem_of_getElem? (i := 417) (by decide +kernel)) rfl), (zt_in (List.mem_of_getElem? (i := 418) (by decide +kernel)) rfl), (zt_in (List.mem_of_getElem? (i := 419) (by decide +kernel)) rfl)⟩
theorem zb_X_run : zm_b y_X_run b_X_run 4 (some .int) 0 := ⟨(zt_in (List.mem_of_getElem? (i := 19) (by decide +kernel)) rfl), (zt_in (List.mem_of_getElem? (i := 207) (by decide +kernel)) rfl), by decide, by decide, by decide +kernel⟩
theorem mv_L_33 : zm_v zN_L 33 y_X_run b_X_run 4 (some .int) 0 := ⟨zb_X_run, (zt_in (List.mem_of_getElem? (i := 204) (by decide +kernel)) rfl), (zt_in (List.mem_of_getElem? (i := 205) (by decide +kernel)) rfl), (zt_in (List.mem_of_getElem? (i := 206) (by decide +kernel)) rfl)⟩
theorem zb_M_run : zm_b y_M_run b_M_run 4 (some .int) 0 := ⟨(zt_in (List.mem_of_getElem? (i := 22) (by decide +kernel)) rfl), (zt_in (List.mem_of_getElem? (i := 431) (by decide +kernel)) rfl), by decide, by decide, by decide +kernel⟩
theorem mv_L_37 : zm_v zN_L 37 y_M_run b_M_run 4 (some .int) 0 := ⟨zb_M_run, (zt_in (List.mem_of_getElem? (i := 428) (by decide +kernel)) rfl), (zt_in (List.mem_of_getElem? (i := 429) (by decide +kernel)) rfl), (zt_in (List.mem_of_getElem? (i := 430) (by decide +kernel)) rfl)⟩
theorem zb_X_log : zm_b y_X_log b_X_log 2 (some .int) 1 := ⟨(zt_in (List.mem_of_getElem? (i := 19) (by decide +kernel)) rfl), (zt_in (List.mem_of_getElem? (i := 259) (by decide +kernel)) rfl), by decide, by decide, by decide +kernel⟩
theorem mv_L_38 : zm_v zN_L 38 y_X_log b_X_log 2 (some .int) 1 := ⟨zb_X_log, (zt_in (List.mem_of_getElem? (i := 256) (by decide +kernel)) rfl), (zt_in (List.mem_of_getElem? (i := 257) (by decide +kernel)) rfl), (zt_in (List.mem_of_getElem? (i := 258) (by decide +kernel)) rfl)⟩
theorem zb_M_log : zm_b y_M_log b_M_log 2 (some .int) 1 := ⟨(zt_in (List.mem_of_getElem? (i := 22) (by decide +kernel)) rfl), (zt_in (List.mem_of_getElem? (i := 467) (by decide +kernel)) rfl), by decide, by decide, by decide +kernel⟩
theorem mv_L_41 : zm_v zN_L 41 y_M_log b_M_log 2 (some .int) 1 := ⟨zb_M_log, (zt_in (List.mem_of_getElem? (i := 464) (by decide +kernel)) rfl), (zt_in (List.mem_of_getElem? (i := 465) (by decide +kernel)) rfl), (zt_in (List.mem_of_getElem? (i := 466) (by decide +kernel)) rfl)⟩
theorem zb_X_cancel : zm_b y_X_cancel b_X_cancel 3 (some .boolean) 1 := ⟨(zt_in (List.mem_of_getElem? (i := 19) (by decide +kernel)) rfl), (zt_in (List.mem_of_getElem? (i := 263) (by decide +kernel)) rfl), by decide, by decide, by decide +kernel⟩
theorem mv_L_42 : zm_v zN_L 42 y_X_cancel b_X_cancel 3 (some .boolean) 1 := ⟨zb_X_cancel, (zt_in (List.mem_of_getElem? (i := 260) (by decide +kernel)) rfl), (zt_in (List.mem_of_getElem? (i := 261) (by decide +kernel)) rfl), (zt_in (List.mem_of_getElem? (i := 262) (by decide +kernel)) rfl)⟩
theorem zb_M_cancel : zm_b y_M_cancel b_M_cancel 2 (some .boolean) 1 := ⟨(zt_in (List.mem_of_getElem? (i := 22) (by decide +kernel)) rfl), (zt_in (List.mem_of_getElem? (i := 451) (by decide +kernel)) rfl), by decide, by decide, by decide +kernel⟩
theorem mv_L_46 : zm_v zN_L 46 y_M_cancel b_M_cancel 2 (some .boolean) 1 := ⟨zb_M_cancel, (zt_in (List.mem_of_getElem? (i := 448) (by decide +kernel)) rfl), (zt_in (List.mem_of_getElem? (i := 449) (by decide +kernel)) rfl), (zt_in (List.mem_of_getElem? (i := 450) (by decide +kernel)) rfl)⟩
theorem zb_X_cleaned : zm_b y_X_cleaned b_X_cleaned 3 (some .int) 1 := ⟨(zt_in (List.mem_of_getElem? (i := 19) (by decide +kernel)) rfl), (zt_in (List.mem_of_getElem? (i := 268) (by decide +kernel)) rfl), by decide, by decide, by decide +kernel⟩
theorem mv_L_47 : zm_v zN_L 47 y_X_cleaned b_X_cleaned 3 (some .int) 1 := ⟨zb_X_cleaned, (zt_in (List.mem_of_getElem? (i := 265) (by decide +kernel)) rfl), (zt_in (List.mem_of_getElem? (i := 266) (by decide +kernel)) rfl), (zt_in (List.mem_of_getElem? (i := 267) (by decide +kernel)) rfl)⟩
theorem zb_M_cleaned : zm_b y_M_cleaned b_M_cleaned 2 (some .int) 1 := ⟨(zt_in (List.mem_of_getElem? (i := 22) (by decide +kernel)) rfl), (zt_in (List.mem_of_getElem? (i := 471) (by decide +kernel)) rfl), by decide, by decide, by decide +kernel⟩
theorem mv_L_50 : zm_v zN_L 50 y_M_cleaned b_M_cleaned 2 (some .int) 1 := ⟨zb_M_cleaned, (zt_in (List.mem_of_getElem? (i := 468) (by decide +kernel)) rfl), (zt_in (List.mem_of_getElem? (i := 469) (by decide +kernel)) rfl), (zt_in (List.mem_of_getElem? (i := 470) (by decide +kernel)) rfl)⟩
theorem zb_X_backed : zm_b y_X_backed b_X_backed 3 (some .int) 1 := ⟨(zt_in (List.mem_of_getElem? (i := 19) (by decide +kernel)) rfl), (zt_in (List.mem_of_getElem? (i := 272) (by decide +kernel)) rfl), by decide, by decide, by decide +kernel⟩
theorem mv_L_51 : zm_v zN_L 51 y_X_backed b_X_backed 3 (some .int) 1 := ⟨zb_X_backed, (zt_in (List.mem_of_getElem? (i := 269) (by decide +kernel)) rfl), (zt_in (List.mem_of_getElem? (i := 270) (by decide +kernel)) rfl), (zt_in (List.mem_of_getElem? (i := 271) (by decide +kernel)) rfl)⟩
theorem zb_M_backed : zm_b y_M_backed b_M_backed 2 (some .int) 1 := ⟨(zt_in (List.mem_of_getElem? (i := 22) (by decide +kernel)) rfl), (zt_in (List.mem_of_getElem? (i := 475) (by decide +kernel)) rfl), by decide, by decide, by decide +kernel⟩
theorem mv_L_54 : zm_v zN_L 54 y_M_backed b_M_backed 2 (some .int) 1 := ⟨zb_M_backed, (zt_in (List.mem_of_getElem? (i := 472) (by decide +kernel)) rfl), (zt_in (List.mem_of_getElem? (i := 473) (by decide +kernel)) rfl), (zt_in (List.mem_of_getElem? (i := 474) (by decide +kernel)) rfl)⟩
theorem zb_X_shutdown : zm_b y_X_shutdown b_X_shutdown 3 (some .int) 1 := ⟨(zt_in (List.mem_of_getElem? (i := 19) (by decide +kernel)) rfl), (zt_in (List.mem_of_getElem? (i := 276) (by decide +kernel)) rfl), by decide, by decide, by decide +kernel⟩
theorem mv_L_55 : zm_v zN_L 55 y_X_shutdown b_X_shutdown 3 (some .int) 1 := ⟨zb_X_shutdown, (zt_in (List.mem_of_getElem? (i := 273) (by decide +kernel)) rfl), (zt_in (List.mem_of_getElem? (i := 274) (by decide +kernel)) rfl), (zt_in (List.mem_of_getElem? (i := 275) (by decide +kernel)) rfl)⟩
theorem zb_M_shutdown : zm_b y_M_shutdown b_M_shutdown 5 (some .int) 1 := ⟨(zt_in (List.mem_of_getElem? (i := 22) (by decide +kernel)) rfl), (zt_in (List.mem_of_getElem? (i := 455) (by decide +kernel)) rfl), by decide, by decide, by decide +kernel⟩
theorem mv_L_59 : zm_v zN_L 59 y_M_shutdown b_M_shutdown 5 (some .int) 1 := ⟨zb_M_shutdown, (zt_in (List.mem_of_getElem? (i := 452) (by decide +kernel)) rfl), (zt_in (List.mem_of_getElem? (i := 453) (by decide +kernel)) rfl), (zt_in (List.mem_of_getElem? (i := 454) (by decide +kernel)) rfl)⟩
theorem zb_X_decision : zm_b y_X_decision b_X_decision 4 (some .int) 2 := ⟨(zt_in (List.mem_of_getElem? (i := 19) (by decide +kernel)) rfl), (zt_in (List.mem_of_getElem? (i := 303) (by decide +kernel)) rfl), by decide, by decide, by decide +kernel⟩
theorem mv_L_60 : zm_v zN_L 60 y_X_decision b_X_decision 4 (some .int) 2 := ⟨zb_X_decision, (zt_in (List.mem_of_getElem? (i := 300) (by decide +kernel)) rfl), (zt_in (List.mem_of_getElem? (i := 301) (by decide +kernel)) rfl), (zt_in (List.mem_of_getElem? (i := 302) (by decide +kernel)) rfl)⟩
theorem zb_M_decision : zm_b y_M_decision b_M_decision 3 (some .int) 2 := ⟨(zt_in (List.mem_of_getElem? (i := 22) (by decide +kernel)) rfl), (zt_in (List.mem_of_getElem? (i := 424) (by decide +kernel)) rfl), by decide, by decide, by decide +kernel⟩
theorem mv_L_63 : zm_v zN_L 63 y_M_decision b_M_decision 3 (some .int) 2 := ⟨zb_M_decision, (zt_in (List.mem_of_getElem? (i := 421) (by decide +kernel)) rfl), (zt_in (List.mem_of_getElem? (i := 422) (by decide +kernel)) rfl), (zt_in (List.mem_of_getElem? (i := 423) (by decide +kernel)) rfl)⟩
theorem zb_X_finished : zm_b y_X_finished b_X_finished 3 (some .int) 1 := ⟨(zt_in (List.mem_of_getElem? (i := 19) (by decide +kernel)) rfl), (zt_in (List.mem_of_getElem? (i := 311) (by decide +kernel)) rfl), by decide, by decide, by decide +kernel⟩
theorem mv_L_64 : zm_v zN_L 64 y_X_finished b_X_finished 3 (some .int) 1 := ⟨zb_X_finished, (zt_in (List.mem_of_getElem? (i := 308) (by decide +kernel)) rfl), (zt_in (List.mem_of_getElem? (i := 309) (by decide +kernel)) rfl), (zt_in (List.mem_of_getElem? (i := 310) (by decide +kernel)) rfl)⟩
theorem zb_M_finished : zm_b y_M_finished b_M_finished 2 (some .int) 1 := ⟨(zt_in (List.mem_of_getElem? (i := 22) (by decide +kernel)) rfl), (zt_in (List.mem_of_getElem? (i := 479) (by decide +kernel)) rfl), by decide, by decide, by decide +kernel⟩
theorem mv_L_67 : zm_v zN_L 67 y_M_finished b_M_finished 2 (some .int) 1 := ⟨zb_M_finished, (zt_in (List.mem_of_getElem? (i := 476) (by decide +kernel)) rfl), (zt_in (List.mem_of_getElem? (i := 477) (by decide +kernel)) rfl), (zt_in (List.mem_of_getElem? (i := 478) (by decide +kernel)) rfl)⟩
theorem zb_X_close : zm_b y_X_close b_X_close 2 (some .int) 0 := ⟨(zt_in (List.mem_of_getElem? (i := 19) (by decide +kernel)) rfl), (zt_in (List.mem_of_getElem? (i := 315) (by decide +kernel)) rfl), by decide, by decide, by decide +kernel⟩
theorem mv_L_68 : zm_v zN_L 68 y_X_close b_X_close 2 (some .int) 0 := ⟨zb_X_close, (zt_in (List.mem_of_getElem? (i := 312) (by decide +kernel)) rfl), (zt_in (List.mem_of_getElem? (i := 313) (by decide +kernel)) rfl), (zt_in (List.mem_of_getElem? (i := 314) (by decide +kernel)) rfl)⟩
theorem zb_M_close : zm_b y_M_close b_M_close 3 (some .int) 0 := ⟨(zt_in (List.mem_of_getElem? (i := 22) (by decide +kernel)) rfl), (zt_in (List.mem_of_getElem? (i := 463) (by decide +kernel)) rfl), by decide, by decide, by decide +kernel⟩
theorem mv_L_71 : zm_v zN_L 71 y_M_close b_M_close 3 (some .int) 0 := ⟨zb_M_close, (zt_in (List.mem_of_getElem? (i := 460) (by decide +kernel)) rfl), (zt_in (List.mem_of_getElem? (i := 461) (by decide +kernel)) rfl), (zt_in (List.mem_of_getElem? (i := 462) (by decide +kernel)) rfl)⟩
theorem zb_X_count : zm_b y_X_count b_X_count 3 (some .int) 1 := ⟨(zt_in (List.mem_of_getElem? (i := 19) (by decide +kernel)) rfl), (zt_in (List.mem_of_getElem? (i := 323) (by decide +kernel)) rfl), by decide, by decide, by decide +kernel⟩
theorem mv_L_72 : zm_v zN_L 72 y_X_count b_X_count 3 (some .int) 1 := ⟨zb_X_count, (zt_in (List.mem_of_getElem? (i := 320) (by decide +kernel)) rfl), (zt_in (List.mem_of_getElem? (i := 321) (by decide +kernel)) rfl), (zt_in (List.mem_of_getElem? (i := 322) (by decide +kernel)) rfl)⟩
theorem zb_M_count : zm_b y_M_count b_M_count 4 (some .int) 1 := ⟨(zt_in (List.mem_of_getElem? (i := 22) (by decide +kernel)) rfl), (zt_in (List.mem_of_getElem? (i := 487) (by decide +kernel)) rfl), by decide, by decide, by decide +kernel⟩
theorem mv_L_75 : zm_v zN_L 75 y_M_count b_M_count 4 (some .int) 1 := ⟨zb_M_count, (zt_in (List.mem_of_getElem? (i := 484) (by decide +kernel)) rfl), (zt_in (List.mem_of_getElem? (i := 485) (by decide +kernel)) rfl), (zt_in (List.mem_of_getElem? (i := 486) (by decide +kernel)) rfl)⟩
theorem zb_X_done : zm_b y_X_done b_X_done 3 (some .int) 1 := ⟨(zt_in (List.mem_of_getElem? (i := 19) (by decide +kernel)) rfl), (zt_in (List.mem_of_getElem? (i := 327) (by decide +kernel)) rfl), by decide, by decide, by decide +kernel⟩
theorem mv_L_76 : zm_v zN_L 76 y_X_done b_X_done 3 (some .int) 1 := ⟨zb_X_done, (zt_in (List.mem_of_getElem? (i := 324) (by decide +kernel)) rfl), (zt_in (List.mem_of_getElem? (i := 325) (by decide +kernel)) rfl), (zt_in (List.mem_of_getElem? (i := 326) (by decide +kernel)) rfl)⟩
theorem zb_M_done : zm_b y_M_done b_M_done 2 (some .int) 1 := ⟨(zt_in (List.mem_of_getElem? (i := 22) (by decide +kernel)) rfl), (zt_in (List.mem_of_getElem? (i := 483) (by decide +kernel)) rfl), by decide, by decide, by decide +kernel⟩
theorem mv_L_79 : zm_v zN_L 79 y_M_done b_M_done 2 (some .int) 1 := ⟨zb_M_done, (zt_in (List.mem_of_getElem? (i := 480) (by decide +kernel)) rfl), (zt_in (List.mem_of_getElem? (i := 481) (by decide +kernel)) rfl), (zt_in (List.mem_of_getElem? (i := 482) (by decide +kernel)) rfl)⟩
theorem zw_arrI : Cond.arrayClass .int ∈ zt_U := (zt_in (List.mem_of_getElem? (i := 47) (by decide +kernel)) rfl)
theorem zw_arrZ : Cond.arrayClass .boolean ∈ zt_U := (zt_in (List.mem_of_getElem? (i := 143) (by decide +kernel)) rfl)
theorem zw_over : Cond.arrayOver (.object "RegionThreads$Region") ∈ lw_tbl := (List.mem_of_getElem? (i := 36) (by decide +kernel))
theorem zj_X : Cond.methodLink zN_X 3 objectInit ∈ zt_U := (zt_in (List.mem_of_getElem? (i := 32) (by decide +kernel)) rfl)
theorem zj_M : Cond.methodLink zN_M 1 objectInit ∈ zt_U := (zt_in (List.mem_of_getElem? (i := 333) (by decide +kernel)) rfl)
theorem zj_V : Cond.methodLink zN_V 3 objectInit ∈ zt_U := (zt_in (List.mem_of_getElem? (i := 42) (by decide +kernel)) rfl)
theorem zj_R : Cond.methodLink zN_R 3 objectInit ∈ zt_U := (zt_in (List.mem_of_getElem? (i := 95) (by decide +kernel)) rfl)
theorem zj_O : Cond.methodLink zN_O 1 objectInit ∈ zt_U := (zt_in (List.mem_of_getElem? (i := 53) (by decide +kernel)) rfl)
theorem zj_inst : Cond.instanceMethod objectInit ∈ zt_U := (zt_in (List.mem_of_getElem? (i := 33) (by decide +kernel)) rfl)
theorem zj_code : Cond.code objectInit ⟨#[0xb1]⟩ 1 none ∈ zt_U := (zt_in (List.mem_of_getElem? (i := 34) (by decide +kernel)) rfl)
theorem zk_L_7 : Cond.classLink zN_L 7 zN_X ∈ zt_U := (zt_in (List.mem_of_getElem? (i := 27) (by decide +kernel)) rfl)
theorem zk_X_9 : Cond.classLink zN_X 9 zN_R ∈ zt_U := (zt_in (List.mem_of_getElem? (i := 35) (by decide +kernel)) rfl)
theorem zk_X_15 : Cond.classLink zN_X 15 zN_V ∈ zt_U := (zt_in (List.mem_of_getElem? (i := 37) (by decide +kernel)) rfl)
theorem zk_X_22 : Cond.classLink zN_X 22 zN_O ∈ zt_U := (zt_in (List.mem_of_getElem? (i := 48) (by decide +kernel)) rfl)
theorem zk_L_10 : Cond.classLink zN_L 10 zN_M ∈ zt_U := (zt_in (List.mem_of_getElem? (i := 328) (by decide +kernel)) rfl)
theorem zi_V : Cond.instantiable zN_V 1 ∈ zt_U := (zt_in (List.mem_of_getElem? (i := 38) (by decide +kernel)) rfl)
theorem zl_V : Cond.initialized zN_V ∈ zt_U := (zt_in (List.mem_of_getElem? (i := 20) (by decide +kernel)) rfl)
theorem zi_R : Cond.instantiable zN_R 13 ∈ zt_U := (zt_in (List.mem_of_getElem? (i := 91) (by decide +kernel)) rfl)
theorem zl_R : Cond.initialized zN_R ∈ zt_U := (zt_in (List.mem_of_getElem? (i := 23) (by decide +kernel)) rfl)
theorem zi_O : Cond.instantiable zN_O 3 ∈ zt_U := (zt_in (List.mem_of_getElem? (i := 49) (by decide +kernel)) rfl)
theorem zl_O : Cond.initialized zN_O ∈ zt_U := (zt_in (List.mem_of_getElem? (i := 21) (by decide +kernel)) rfl)
theorem zi_X : Cond.instantiable zN_X 7 ∈ zt_U := (zt_in (List.mem_of_getElem? (i := 28) (by decide +kernel)) rfl)
theorem zl_X : Cond.initialized zN_X ∈ zt_U := (zt_in (List.mem_of_getElem? (i := 19) (by decide +kernel)) rfl)
theorem zi_M : Cond.instantiable zN_M 22 ∈ zt_U := (zt_in (List.mem_of_getElem? (i := 329) (by decide +kernel)) rfl)
theorem zl_M : Cond.initialized zN_M ∈ zt_U := (zt_in (List.mem_of_getElem? (i := 22) (by decide +kernel)) rfl)
end
section
/-! the objects' cells -/
def zr_o (ad : Nat → Nat) (b : Nat) (sc : Nat → Nat) : va_E := .inr (1, [.int (nI (sc 0)), .int (nI (sc 1)), .int (nI (sc 2)), .int (nI (sc 3)), .int (nI (sc 4)), .int (nI (sc 5)), .int (nI (sc 6)), .int (nI (sc 7)), .int (nI (sc 8)), .ref (ad (b + 1)), .ref (ad (b + 2)), .ref (ad (b + 3)), .ref (ad (b + 4))])
def ze_o (ad : Nat → Nat) (pp : Nat) : va_E := .inr (0, [.ref (ad pp)])
def zo_o (ad : Nat → Nat) (pn lim len : Nat) : va_E := .inr (2, [.int (nI lim), .ref (ad pn), .int (nI len)])
def zt_o (ad : Nat → Nat) (q : Nat → Nat) : va_E := .inr (3, [.ref (ad 1), .ref (ad 2), .ref (ad 4), .ref (ad 6), .int (nI (q 0)), .int (nI (q 1)), .int (nI (q 2))])
/-! What the class's cells are. A region: its numbers sc (by slot), its arrays ar (0 waitStep, 1 waitEvent, 2 waitTaken, 3 half), its cells at b .. b + 4 -/
theorem zr_upd (f : Nat → Nat) (k v : Nat) : upd (fun j => nI (f j)) k (nI v) = fun j => nI (va_up f k v j) := by
  funext j
  unfold upd va_up
  by_cases h : j = k
  · rw [if_pos h, if_pos h]
  · rw [if_neg h, if_neg h]
def zr_ia (g : zw_G) (n : Nat) (f : Nat → Nat) : va_E := .inl (g.2 0, n, .inl (fun j => nI (f j)))
def zr_za (g : zw_G) (n : Nat) (f : Nat → Nat) : va_E := .inl (g.2 1, n, .inl (fun j => nI (f j)))
def zr_at (g : zw_G) (ad : Nat → Nat) (E : Nat → va_E) (b : Nat) (sc : Nat → Nat) (ar : Nat → Nat → Nat) : Prop :=
  E b = zr_o ad b sc ∧ E (b + 1) = zr_ia g 20 (ar 0) ∧ E (b + 2) = zr_ia g 20 (ar 1) ∧ E (b + 3) = zr_za g 20 (ar 2) ∧ E (b + 4) = zr_ia g 101 (ar 3)
/-- nothing but the region's cells has changed -/
def zr_fr (E E1 : Nat → va_E) (b : Nat) : Prop := ∀ k, (k < b ∨ b + 5 ≤ k) → E1 k = E k
theorem zr_fr.rf {E : Nat → va_E} {b : Nat} : zr_fr E E b := fun _ _ => rfl
theorem zr_fr.up {E E1 : Nat → va_E} {b k : Nat} {x : va_E} (h : zr_fr E E1 b) (h1 : b ≤ k) (h2 : k < b + 5) : zr_fr E (va_up E1 k x) b := fun j hj => by
  rw [va_up_ne _ _ (by omega)]; exact h j hj
theorem zr_fr.tr {E E1 E2 : Nat → va_E} {b : Nat} (h : zr_fr E E1 b) (h2 : zr_fr E1 E2 b) : zr_fr E E2 b := fun j hj => (h2 j hj).trans (h j hj)
theorem zr_at.sc {g : zw_G} {ad : Nat → Nat} {E : Nat → va_E} {b : Nat} {sc : Nat → Nat} {ar : Nat → Nat → Nat} (h : zr_at g ad E b sc ar) (sc' : Nat → Nat) : zr_at g ad (va_up E b (zr_o ad b sc')) b sc' ar := by
  obtain ⟨-, h1, h2, h3, h4⟩ := h
  exact ⟨va_up_self _ _ _, by rw [va_up_ne _ _ (by omega)]; exact h1, by rw [va_up_ne _ _ (by omega)]; exact h2, by rw [va_up_ne _ _ (by omega)]; exact h3, by rw [va_up_ne _ _ (by omega)]; exact h4⟩
theorem zr_at.a0 {g : zw_G} {ad : Nat → Nat} {E : Nat → va_E} {b : Nat} {sc : Nat → Nat} {ar : Nat → Nat → Nat} (h : zr_at g ad E b sc ar) (f : Nat → Nat) : zr_at g ad (va_up E (b + 1) (zr_ia g 20 f)) b sc (va_up ar 0 f) := by
  obtain ⟨h0, h1, h2, h3, h4⟩ := h
  exact ⟨by rw [va_up_ne _ _ (by omega)]; exact h0, va_up_self _ _ _, by rw [va_up_ne _ _ (by omega)]; exact h2, by rw [va_up_ne _ _ (by omega)]; exact h3, by rw [va_up_ne _ _ (by omega)]; exact h4⟩
theorem zr_at.a1 {g : zw_G} {ad : Nat → Nat} {E : Nat → va_E} {b : Nat} {sc : Nat → Nat} {ar : Nat → Nat → Nat} (h : zr_at g ad E b sc ar) (f : Nat → Nat) : zr_at g ad (va_up E (b + 2) (zr_ia g 20 f)) b sc (va_up ar 1 f) := by
  obtain ⟨h0, h1, h2, h3, h4⟩ := h
  exact ⟨by rw [va_up_ne _ _ (by omega)]; exact h0, by rw [va_up_ne _ _ (by omega)]; exact h1, va_up_self _ _ _, by rw [va_up_ne _ _ (by omega)]; exact h3, by rw [va_up_ne _ _ (by omega)]; exact h4⟩
theorem zr_at.a2 {g : zw_G} {ad : Nat → Nat} {E : Nat → va_E} {b : Nat} {sc : Nat → Nat} {ar : Nat → Nat → Nat} (h : zr_at g ad E b sc ar) (f : Nat → Nat) : zr_at g ad (va_up E (b + 3) (zr_za g 20 f)) b sc (va_up ar 2 f) := by
  obtain ⟨h0, h1, h2, h3, h4⟩ := h
  exact ⟨by rw [va_up_ne _ _ (by omega)]; exact h0, by rw [va_up_ne _ _ (by omega)]; exact h1, by rw [va_up_ne _ _ (by omega)]; exact h2, va_up_self _ _ _, by rw [va_up_ne _ _ (by omega)]; exact h4⟩
theorem zr_at.a3 {g : zw_G} {ad : Nat → Nat} {E : Nat → va_E} {b : Nat} {sc : Nat → Nat} {ar : Nat → Nat → Nat} (h : zr_at g ad E b sc ar) (f : Nat → Nat) : zr_at g ad (va_up E (b + 4) (zr_ia g 101 f)) b sc (va_up ar 3 f) := by
  obtain ⟨h0, h1, h2, h3, h4⟩ := h
  exact ⟨by rw [va_up_ne _ _ (by omega)]; exact h0, by rw [va_up_ne _ _ (by omega)]; exact h1, by rw [va_up_ne _ _ (by omega)]; exact h2, by rw [va_up_ne _ _ (by omega)]; exact h3, va_up_self _ _ _⟩
/-- the cells don't change where the region's own don't -/
theorem zr_at.keep {g : zw_G} {ad : Nat → Nat} {E E1 : Nat → va_E} {b : Nat} {sc : Nat → Nat} {ar : Nat → Nat → Nat} (h : zr_at g ad E b sc ar) (hk : ∀ k, b ≤ k → k < b + 5 → E1 k = E k) : zr_at g ad E1 b sc ar := by
  obtain ⟨h0, h1, h2, h3, h4⟩ := h
  exact ⟨by rw [hk _ (by omega) (by omega)]; exact h0, by rw [hk _ (by omega) (by omega)]; exact h1, by rw [hk _ (by omega) (by omega)]; exact h2, by rw [hk _ (by omega) (by omega)]; exact h3, by rw [hk _ (by omega) (by omega)]; exact h4⟩
/-- the events, at pe and pp -/
def ze_at (g : zw_G) (ad : Nat → Nat) (E : Nat → va_E) (pe pp : Nat) (ev : Nat → Nat) : Prop := E pe = ze_o ad pp ∧ E pp = zr_ia g 16 ev
/-- a row of numbers, at pr and pn, with room for cap -/
def zo_at (g : zw_G) (ad : Nat → Nat) (E : Nat → va_E) (pr pn lim len cap : Nat) (f : Nat → Nat) : Prop := E pr = zo_o ad pn lim len ∧ E pn = zr_ia g cap f
/-- what the numbers of a region keep -/
def zr_ok (sc : Nat → Nat) (ar : Nat → Nat → Nat) : Prop := (sc 0 ≤ 100 ∧ sc 1 ≤ 100 ∧ sc 2 ≤ 4 ∧ sc 3 ≤ sc 0 ∧ sc 4 ≤ sc 3 ∧ sc 5 ≤ 100 ∧ sc 7 ≤ 1 ∧ sc 8 ≤ 20 ∧ (sc 2 = 0 → sc 3 < sc 0)) ∧ (∀ j, ar 0 j ≤ 100) ∧ (∀ j, ar 1 j < 16) ∧ (∀ j, ar 2 j ≤ 1) ∧ ∀ j, ar 3 j ≤ 2
/-- its steps are backed out, it ends as k -/
def zp_back (sc : Nat → Nat) (k : Nat) : Nat → Nat := va_up (va_up (va_up sc 5 (sc 3 - sc 4)) 2 k) 6 (sc 6 + 1)
def zp_s2 (sc : Nat → Nat) (ar : Nat → Nat → Nat) (t : Nat) : Nat → Nat := if ar 3 t = 2 then va_up (va_up sc 3 t) 4 t else va_up sc 3 t
/-- step t is done -/
def zp_step (sc : Nat → Nat) (ar : Nat → Nat → Nat) (t : Nat) : Nat → Nat := if sc 0 ≤ t then va_up (va_up (zp_s2 sc ar t) 2 1) 6 (sc 6 + 1) else zp_s2 sc ar t
/-- the waits at step t, from the i-th on, k of them: whether all are taken, what is taken then, what is posted then -/
def zp_tw (wf vf : Nat → Nat) (t : Nat) : Nat → Nat → (Nat → Nat) → (Nat → Nat) → Bool × (Nat → Nat) × (Nat → Nat)
  | 0, _, tk, ev => (true, tk, ev)
  | k + 1, i, tk, ev => if wf i = t ∧ tk i = 0 then (if ev (vf i) = 0 then (false, tk, ev) else zp_tw wf vf t k (i + 1) (va_up tk i 1) (va_up ev (vf i) (ev (vf i) - 1))) else zp_tw wf vf t k (i + 1) tk ev
theorem zp_tw_0 (wf vf : Nat → Nat) (t i : Nat) (tk ev : Nat → Nat) : zp_tw wf vf t 0 i tk ev = (true, tk, ev) := rfl
theorem zp_tw_no {wf vf : Nat → Nat} {t k i : Nat} {tk ev : Nat → Nat} (h : ¬ (wf i = t ∧ tk i = 0)) : zp_tw wf vf t (k + 1) i tk ev = zp_tw wf vf t k (i + 1) tk ev := by
  rw [zp_tw, if_neg h]
theorem zp_tw_stop {wf vf : Nat → Nat} {t k i : Nat} {tk ev : Nat → Nat} (h : wf i = t ∧ tk i = 0) (h2 : ev (vf i) = 0) : zp_tw wf vf t (k + 1) i tk ev = (false, tk, ev) := by
  rw [zp_tw, if_pos h, if_pos h2]
theorem zp_tw_take {wf vf : Nat → Nat} {t k i : Nat} {tk ev : Nat → Nat} (h : wf i = t ∧ tk i = 0) (h2 : ¬ ev (vf i) = 0) : zp_tw wf vf t (k + 1) i tk ev = zp_tw wf vf t k (i + 1) (va_up tk i 1) (va_up ev (vf i) (ev (vf i) - 1)) := by
  rw [zp_tw, if_pos h, if_neg h2]
/-- nothing but the region's cells and the postings has changed -/
def zr_f3 (E E1 : Nat → va_E) (b pp : Nat) : Prop := ∀ k, (k < b ∨ b + 5 ≤ k) → k ≠ pp → E1 k = E k
theorem zr_f3.rf {E : Nat → va_E} {b pp : Nat} : zr_f3 E E b pp := fun _ _ _ => rfl
theorem zr_f3.up {E E1 : Nat → va_E} {b pp k : Nat} {x : va_E} (h : zr_f3 E E1 b pp) (h1 : (b ≤ k ∧ k < b + 5) ∨ k = pp) : zr_f3 E (va_up E1 k x) b pp := fun j hj hp => by
  rw [va_up_ne _ _ (by omega)]; exact h j hj hp
theorem zr_f3.tr {E E1 E2 : Nat → va_E} {b pp : Nat} (h : zr_f3 E E1 b pp) (h2 : zr_f3 E1 E2 b pp) : zr_f3 E E2 b pp := fun j hj hp => (h2 j hj hp).trans (h j hj hp)
theorem zr_f3.tf {E E1 E2 : Nat → va_E} {b pp : Nat} (h : zr_f3 E E1 b pp) (h2 : zr_fr E1 E2 b) : zr_f3 E E2 b pp := fun j hj hp => (h2 j hj).trans (h j hj hp)
theorem ze_at.keep {g : zw_G} {ad : Nat → Nat} {E E1 : Nat → va_E} {pe pp : Nat} {ev : Nat → Nat} (h : ze_at g ad E pe pp ev) (h1 : E1 pe = E pe) (h2 : E1 pp = E pp) : ze_at g ad E1 pe pp ev := ⟨h1.trans h.1, h2.trans h.2⟩
theorem ze_at.up {g : zw_G} {ad : Nat → Nat} {E : Nat → va_E} {pe pp : Nat} {ev : Nat → Nat} (h : ze_at g ad E pe pp ev) (hn : pe ≠ pp) (ev' : Nat → Nat) : ze_at g ad (va_up E pp (zr_ia g 16 ev')) pe pp ev' := ⟨by rw [va_up_ne _ _ hn]; exact h.1, va_up_self _ _ _⟩
theorem zr_at.arr {g : zw_G} {ad : Nat → Nat} {E : Nat → va_E} {b : Nat} {sc : Nat → Nat} {ar ar' : Nat → Nat → Nat} (h : zr_at g ad E b sc ar) (e : ar = ar') : zr_at g ad E b sc ar' := e ▸ h
theorem zr_id {α : Type} (f : Nat → α) (k : Nat) : f = va_up f k (f k) := by
  funext j
  unfold va_up
  by_cases h : j = k
  · rw [if_pos h, h]
  · rw [if_neg h]
theorem zp_tw_tk (wf vf : Nat → Nat) (t : Nat) : ∀ (k i : Nat) (tk ev : Nat → Nat), (∀ j, tk j ≤ 1) → ∀ j, (zp_tw wf vf t k i tk ev).2.1 j ≤ 1 := by
  intro k
  induction k with
  | zero => intro i tk ev h j; exact h j
  | succ k ih =>
    intro i tk ev h j
    by_cases h1 : wf i = t ∧ tk i = 0
    · by_cases h2 : ev (vf i) = 0
      · rw [zp_tw_stop h1 h2]; exact h j
      · rw [zp_tw_take h1 h2]
        exact ih _ _ _ (fun x => by have := h x; unfold va_up; split <;> omega) j
    · rw [zp_tw_no h1]; exact ih _ _ _ h j
theorem zp_tw_ev (wf vf : Nat → Nat) (t : Nat) : ∀ (k i : Nat) (tk ev : Nat → Nat), ∀ j, (zp_tw wf vf t k i tk ev).2.2 j ≤ ev j := by
  intro k
  induction k with
  | zero => intro i tk ev j; exact Nat.le_refl _
  | succ k ih =>
    intro i tk ev j
    by_cases h1 : wf i = t ∧ tk i = 0
    · by_cases h2 : ev (vf i) = 0
      · rw [zp_tw_stop h1 h2]; exact Nat.le_refl _
      · rw [zp_tw_take h1 h2]
        refine Nat.le_trans (ih _ _ _ j) ?_
        unfold va_up
        by_cases e : j = vf i
        · rw [if_pos e, e]; omega
        · rw [if_neg e]; exact Nat.le_refl _
    · rw [zp_tw_no h1]; exact ih _ _ _ j
theorem zr_ok.tw {sc : Nat → Nat} {ar : Nat → Nat → Nat} (h : zr_ok sc ar) (t : Nat) (ev : Nat → Nat) : zr_ok sc (va_up ar 2 (zp_tw (ar 0) (ar 1) t (sc 8) 0 (ar 2) ev).2.1) :=
  ⟨h.1, h.2.1, h.2.2.1, fun j => zp_tw_tk _ _ _ _ _ _ _ h.2.2.2.1 j, h.2.2.2.2⟩
/-- a turn: what came of it (0 passed over, 1 a step, 2 an end), the region then, the postings then -/
def zp_turn (sc : Nat → Nat) (ar : Nat → Nat → Nat) (ev : Nat → Nat) : Nat × (Nat → Nat) × (Nat → Nat → Nat) × (Nat → Nat) :=
  if sc 2 = 0 then
    (if sc 7 = 1 ∧ ¬ ar 3 (sc 3) = 1 then (2, zp_back sc 3, ar, ev)
    else if (zp_tw (ar 0) (ar 1) (sc 3 + 1) (sc 8) 0 (ar 2) ev).1 = true then
      (if sc 3 + 1 = sc 1 then (2, zp_back sc 2, va_up ar 2 (zp_tw (ar 0) (ar 1) (sc 3 + 1) (sc 8) 0 (ar 2) ev).2.1, (zp_tw (ar 0) (ar 1) (sc 3 + 1) (sc 8) 0 (ar 2) ev).2.2)
      else (1, zp_step sc (va_up ar 2 (zp_tw (ar 0) (ar 1) (sc 3 + 1) (sc 8) 0 (ar 2) ev).2.1) (sc 3 + 1), va_up ar 2 (zp_tw (ar 0) (ar 1) (sc 3 + 1) (sc 8) 0 (ar 2) ev).2.1, (zp_tw (ar 0) (ar 1) (sc 3 + 1) (sc 8) 0 (ar 2) ev).2.2))
    else (0, sc, va_up ar 2 (zp_tw (ar 0) (ar 1) (sc 3 + 1) (sc 8) 0 (ar 2) ev).2.1, (zp_tw (ar 0) (ar 1) (sc 3 + 1) (sc 8) 0 (ar 2) ev).2.2))
  else (0, sc, ar, ev)
section ZTU
variable {sc : Nat → Nat} {ar : Nat → Nat → Nat} {ev : Nat → Nat}
theorem zp_turn_off (h : ¬ sc 2 = 0) : zp_turn sc ar ev = (0, sc, ar, ev) := by
  unfold zp_turn; rw [if_neg h]
theorem zp_turn_cancel (h : sc 2 = 0) (h1 : sc 7 = 1) (h2 : ¬ ar 3 (sc 3) = 1) : zp_turn sc ar ev = (2, zp_back sc 3, ar, ev) := by
  unfold zp_turn; rw [if_pos h, if_pos ⟨h1, h2⟩]
theorem zp_turn_wait (h : sc 2 = 0) (h1 : ¬ (sc 7 = 1 ∧ ¬ ar 3 (sc 3) = 1)) (h2 : ¬ (zp_tw (ar 0) (ar 1) (sc 3 + 1) (sc 8) 0 (ar 2) ev).1 = true) : zp_turn sc ar ev = (0, sc, va_up ar 2 (zp_tw (ar 0) (ar 1) (sc 3 + 1) (sc 8) 0 (ar 2) ev).2.1, (zp_tw (ar 0) (ar 1) (sc 3 + 1) (sc 8) 0 (ar 2) ev).2.2) := by
  unfold zp_turn; rw [if_pos h, if_neg h1, if_neg h2]
theorem zp_turn_fail (h : sc 2 = 0) (h1 : ¬ (sc 7 = 1 ∧ ¬ ar 3 (sc 3) = 1)) (h2 : (zp_tw (ar 0) (ar 1) (sc 3 + 1) (sc 8) 0 (ar 2) ev).1 = true) (h3 : sc 3 + 1 = sc 1) : zp_turn sc ar ev = (2, zp_back sc 2, va_up ar 2 (zp_tw (ar 0) (ar 1) (sc 3 + 1) (sc 8) 0 (ar 2) ev).2.1, (zp_tw (ar 0) (ar 1) (sc 3 + 1) (sc 8) 0 (ar 2) ev).2.2) := by
  unfold zp_turn; rw [if_pos h, if_neg h1, if_pos h2, if_pos h3]
theorem zp_turn_step (h : sc 2 = 0) (h1 : ¬ (sc 7 = 1 ∧ ¬ ar 3 (sc 3) = 1)) (h2 : (zp_tw (ar 0) (ar 1) (sc 3 + 1) (sc 8) 0 (ar 2) ev).1 = true) (h3 : ¬ sc 3 + 1 = sc 1) : zp_turn sc ar ev = (1, zp_step sc (va_up ar 2 (zp_tw (ar 0) (ar 1) (sc 3 + 1) (sc 8) 0 (ar 2) ev).2.1) (sc 3 + 1), va_up ar 2 (zp_tw (ar 0) (ar 1) (sc 3 + 1) (sc 8) 0 (ar 2) ev).2.1, (zp_tw (ar 0) (ar 1) (sc 3 + 1) (sc 8) 0 (ar 2) ev).2.2) := by
  unfold zp_turn; rw [if_pos h, if_neg h1, if_pos h2, if_neg h3]
end ZTU
theorem zo_at.len {g : zw_G} {ad : Nat → Nat} {E : Nat → va_E} {pr pn lim len cap : Nat} {f : Nat → Nat} (h : zo_at g ad E pr pn lim len cap f) (hne : pr ≠ pn) (len' : Nat) : zo_at g ad (va_up E pr (zo_o ad pn lim len')) pr pn lim len' cap f := ⟨va_up_self _ _ _, by rw [va_up_ne _ _ (fun e => hne e.symm)]; exact h.2⟩
theorem zo_at.num {g : zw_G} {ad : Nat → Nat} {E : Nat → va_E} {pr pn lim len cap : Nat} {f : Nat → Nat} (h : zo_at g ad E pr pn lim len cap f) (hne : pr ≠ pn) (f' : Nat → Nat) : zo_at g ad (va_up E pn (zr_ia g cap f')) pr pn lim len cap f' := ⟨by rw [va_up_ne _ _ hne]; exact h.1, va_up_self _ _ _⟩
/-- nothing but a row's two cells has changed -/
def zo_fr (E E1 : Nat → va_E) (pr pn : Nat) : Prop := ∀ k, k ≠ pr → k ≠ pn → E1 k = E k
theorem zo_fr.rf {E : Nat → va_E} {pr pn : Nat} : zo_fr E E pr pn := fun _ _ _ => rfl
theorem zo_fr.up {E E1 : Nat → va_E} {pr pn k : Nat} {x : va_E} (h : zo_fr E E1 pr pn) (h1 : k = pr ∨ k = pn) : zo_fr E (va_up E1 k x) pr pn := fun j hj hp => by
  rw [va_up_ne _ _ (by omega)]; exact h j hj hp
end
section
theorem d_V_init_0 : decode b_V_init 0 = .ok (.aload_n 0, 1) := by decide +kernel
theorem d_V_init_1 : decode b_V_init 1 = .ok (.invokespecial 3, 3) := by decide +kernel
theorem d_V_init_4 : decode b_V_init 4 = .ok (.aload_n 0, 1) := by decide +kernel
theorem d_V_init_5 : decode b_V_init 5 = .ok (.bipush 16, 2) := by decide +kernel
theorem d_V_init_7 : decode b_V_init 7 = .ok (.newarray .int, 2) := by decide +kernel
theorem d_V_init_9 : decode b_V_init 9 = .ok (.putfield 9, 3) := by decide +kernel
theorem d_V_init_12 : decode b_V_init 12 = .ok (.return_, 1) := by decide +kernel
theorem d_V_addPosting_0 : decode b_V_addPosting 0 = .ok (.iload_n 1, 1) := by decide +kernel
theorem d_V_addPosting_1 : decode b_V_addPosting 1 = .ok (.invokestatic 15, 3) := by decide +kernel
theorem d_V_addPosting_4 : decode b_V_addPosting 4 = .ok (.ifCond .eq 13, 3) := by decide +kernel
theorem d_V_addPosting_7 : decode b_V_addPosting 7 = .ok (.aload_n 0, 1) := by decide +kernel
theorem d_V_addPosting_8 : decode b_V_addPosting 8 = .ok (.getfield 9, 3) := by decide +kernel
theorem d_V_addPosting_11 : decode b_V_addPosting 11 = .ok (.iload_n 1, 1) := by decide +kernel
theorem d_V_addPosting_12 : decode b_V_addPosting 12 = .ok (.dup2, 1) := by decide +kernel
theorem d_V_addPosting_13 : decode b_V_addPosting 13 = .ok (.iaload, 1) := by decide +kernel
theorem d_V_addPosting_14 : decode b_V_addPosting 14 = .ok (.iconst 1, 1) := by decide +kernel
theorem d_V_addPosting_15 : decode b_V_addPosting 15 = .ok (.iadd, 1) := by decide +kernel
theorem d_V_addPosting_16 : decode b_V_addPosting 16 = .ok (.iastore, 1) := by decide +kernel
theorem d_V_addPosting_17 : decode b_V_addPosting 17 = .ok (.return_, 1) := by decide +kernel
theorem d_V_takePosting_0 : decode b_V_takePosting 0 = .ok (.iload_n 1, 1) := by decide +kernel
theorem d_V_takePosting_1 : decode b_V_takePosting 1 = .ok (.invokestatic 15, 3) := by decide +kernel
theorem d_V_takePosting_4 : decode b_V_takePosting 4 = .ok (.ifCond .eq 12, 3) := by decide +kernel
theorem d_V_takePosting_7 : decode b_V_takePosting 7 = .ok (.aload_n 0, 1) := by decide +kernel
theorem d_V_takePosting_8 : decode b_V_takePosting 8 = .ok (.getfield 9, 3) := by decide +kernel
theorem d_V_takePosting_11 : decode b_V_takePosting 11 = .ok (.iload_n 1, 1) := by decide +kernel
theorem d_V_takePosting_12 : decode b_V_takePosting 12 = .ok (.iaload, 1) := by decide +kernel
theorem d_V_takePosting_13 : decode b_V_takePosting 13 = .ok (.ifCond .gt 5, 3) := by decide +kernel
theorem d_V_takePosting_16 : decode b_V_takePosting 16 = .ok (.iconst 0, 1) := by decide +kernel
theorem d_V_takePosting_17 : decode b_V_takePosting 17 = .ok (.ireturn, 1) := by decide +kernel
theorem d_V_takePosting_18 : decode b_V_takePosting 18 = .ok (.aload_n 0, 1) := by decide +kernel
theorem d_V_takePosting_19 : decode b_V_takePosting 19 = .ok (.getfield 9, 3) := by decide +kernel
theorem d_V_takePosting_22 : decode b_V_takePosting 22 = .ok (.iload_n 1, 1) := by decide +kernel
theorem d_V_takePosting_23 : decode b_V_takePosting 23 = .ok (.dup2, 1) := by decide +kernel
theorem d_V_takePosting_24 : decode b_V_takePosting 24 = .ok (.iaload, 1) := by decide +kernel
theorem d_V_takePosting_25 : decode b_V_takePosting 25 = .ok (.iconst 1, 1) := by decide +kernel
theorem d_V_takePosting_26 : decode b_V_takePosting 26 = .ok (.isub, 1) := by decide +kernel
theorem d_V_takePosting_27 : decode b_V_takePosting 27 = .ok (.iastore, 1) := by decide +kernel
theorem d_V_takePosting_28 : decode b_V_takePosting 28 = .ok (.iconst 1, 1) := by decide +kernel
theorem d_V_takePosting_29 : decode b_V_takePosting 29 = .ok (.ireturn, 1) := by decide +kernel
theorem d_V_untaken_0 : decode b_V_untaken 0 = .ok (.iload_n 1, 1) := by decide +kernel
theorem d_V_untaken_1 : decode b_V_untaken 1 = .ok (.invokestatic 15, 3) := by decide +kernel
theorem d_V_untaken_4 : decode b_V_untaken 4 = .ok (.ifCond .eq 12, 3) := by decide +kernel
theorem d_V_untaken_7 : decode b_V_untaken 7 = .ok (.aload_n 0, 1) := by decide +kernel
theorem d_V_untaken_8 : decode b_V_untaken 8 = .ok (.getfield 9, 3) := by decide +kernel
theorem d_V_untaken_11 : decode b_V_untaken 11 = .ok (.iload_n 1, 1) := by decide +kernel
theorem d_V_untaken_12 : decode b_V_untaken 12 = .ok (.iaload, 1) := by decide +kernel
theorem d_V_untaken_13 : decode b_V_untaken 13 = .ok (.goto 4, 3) := by decide +kernel
theorem d_V_untaken_16 : decode b_V_untaken 16 = .ok (.iconst 0, 1) := by decide +kernel
theorem d_V_untaken_17 : decode b_V_untaken 17 = .ok (.ireturn, 1) := by decide +kernel
theorem d_R_init_0 : decode b_R_init 0 = .ok (.aload_n 0, 1) := by decide +kernel
theorem d_R_init_1 : decode b_R_init 1 = .ok (.invokespecial 3, 3) := by decide +kernel
theorem d_R_init_4 : decode b_R_init 4 = .ok (.aload_n 0, 1) := by decide +kernel
theorem d_R_init_5 : decode b_R_init 5 = .ok (.iconst 0, 1) := by decide +kernel
theorem d_R_init_6 : decode b_R_init 6 = .ok (.putfield 9, 3) := by decide +kernel
theorem d_R_init_9 : decode b_R_init 9 = .ok (.aload_n 0, 1) := by decide +kernel
theorem d_R_init_10 : decode b_R_init 10 = .ok (.bipush 20, 2) := by decide +kernel
theorem d_R_init_12 : decode b_R_init 12 = .ok (.newarray .int, 2) := by decide +kernel
theorem d_R_init_14 : decode b_R_init 14 = .ok (.putfield 15, 3) := by decide +kernel
theorem d_R_init_17 : decode b_R_init 17 = .ok (.aload_n 0, 1) := by decide +kernel
theorem d_R_init_18 : decode b_R_init 18 = .ok (.bipush 20, 2) := by decide +kernel
theorem d_R_init_20 : decode b_R_init 20 = .ok (.newarray .int, 2) := by decide +kernel
theorem d_R_init_22 : decode b_R_init 22 = .ok (.putfield 19, 3) := by decide +kernel
theorem d_R_init_25 : decode b_R_init 25 = .ok (.aload_n 0, 1) := by decide +kernel
theorem d_R_init_26 : decode b_R_init 26 = .ok (.bipush 20, 2) := by decide +kernel
theorem d_R_init_28 : decode b_R_init 28 = .ok (.newarray .boolean, 2) := by decide +kernel
theorem d_R_init_30 : decode b_R_init 30 = .ok (.putfield 22, 3) := by decide +kernel
theorem d_R_init_33 : decode b_R_init 33 = .ok (.aload_n 0, 1) := by decide +kernel
theorem d_R_init_34 : decode b_R_init 34 = .ok (.bipush 101, 2) := by decide +kernel
theorem d_R_init_36 : decode b_R_init 36 = .ok (.newarray .int, 2) := by decide +kernel
theorem d_R_init_38 : decode b_R_init 38 = .ok (.putfield 26, 3) := by decide +kernel
theorem d_R_init_41 : decode b_R_init 41 = .ok (.aload_n 0, 1) := by decide +kernel
theorem d_R_init_42 : decode b_R_init 42 = .ok (.iload_n 1, 1) := by decide +kernel
theorem d_R_init_43 : decode b_R_init 43 = .ok (.putfield 29, 3) := by decide +kernel
theorem d_R_init_46 : decode b_R_init 46 = .ok (.aload_n 0, 1) := by decide +kernel
theorem d_R_init_47 : decode b_R_init 47 = .ok (.iload_n 2, 1) := by decide +kernel
theorem d_R_init_48 : decode b_R_init 48 = .ok (.putfield 32, 3) := by decide +kernel
theorem d_R_init_51 : decode b_R_init 51 = .ok (.return_, 1) := by decide +kernel
theorem d_R_goesOn_0 : decode b_R_goesOn 0 = .ok (.aload_n 0, 1) := by decide +kernel
theorem d_R_goesOn_1 : decode b_R_goesOn 1 = .ok (.getfield 9, 3) := by decide +kernel
theorem d_R_goesOn_4 : decode b_R_goesOn 4 = .ok (.ifCond .ne 7, 3) := by decide +kernel
theorem d_R_goesOn_7 : decode b_R_goesOn 7 = .ok (.iconst 1, 1) := by decide +kernel
theorem d_R_goesOn_8 : decode b_R_goesOn 8 = .ok (.goto 4, 3) := by decide +kernel
theorem d_R_goesOn_11 : decode b_R_goesOn 11 = .ok (.iconst 0, 1) := by decide +kernel
theorem d_R_goesOn_12 : decode b_R_goesOn 12 = .ok (.ireturn, 1) := by decide +kernel
theorem d_R_isAheadOf_0 : decode b_R_isAheadOf 0 = .ok (.aload_n 0, 1) := by decide +kernel
theorem d_R_isAheadOf_1 : decode b_R_isAheadOf 1 = .ok (.invokevirtual 35, 3) := by decide +kernel
theorem d_R_isAheadOf_4 : decode b_R_isAheadOf 4 = .ok (.ifCond .eq 15, 3) := by decide +kernel
theorem d_R_isAheadOf_7 : decode b_R_isAheadOf 7 = .ok (.iload_n 1, 1) := by decide +kernel
theorem d_R_isAheadOf_8 : decode b_R_isAheadOf 8 = .ok (.aload_n 0, 1) := by decide +kernel
theorem d_R_isAheadOf_9 : decode b_R_isAheadOf 9 = .ok (.getfield 39, 3) := by decide +kernel
theorem d_R_isAheadOf_12 : decode b_R_isAheadOf 12 = .ok (.if_icmp .le 7, 3) := by decide +kernel
theorem d_R_isAheadOf_15 : decode b_R_isAheadOf 15 = .ok (.iconst 1, 1) := by decide +kernel
theorem d_R_isAheadOf_16 : decode b_R_isAheadOf 16 = .ok (.goto 4, 3) := by decide +kernel
theorem d_R_isAheadOf_19 : decode b_R_isAheadOf 19 = .ok (.iconst 0, 1) := by decide +kernel
theorem d_R_isAheadOf_20 : decode b_R_isAheadOf 20 = .ok (.ireturn, 1) := by decide +kernel
theorem d_R_isInsideDecision_0 : decode b_R_isInsideDecision 0 = .ok (.aload_n 0, 1) := by decide +kernel
theorem d_R_isInsideDecision_1 : decode b_R_isInsideDecision 1 = .ok (.aload_n 0, 1) := by decide +kernel
theorem d_R_isInsideDecision_2 : decode b_R_isInsideDecision 2 = .ok (.getfield 39, 3) := by decide +kernel
theorem d_R_isInsideDecision_5 : decode b_R_isInsideDecision 5 = .ok (.invokevirtual 42, 3) := by decide +kernel
theorem d_R_isInsideDecision_8 : decode b_R_isInsideDecision 8 = .ok (.iconst 1, 1) := by decide +kernel
theorem d_R_isInsideDecision_9 : decode b_R_isInsideDecision 9 = .ok (.if_icmp .ne 7, 3) := by decide +kernel
theorem d_R_isInsideDecision_12 : decode b_R_isInsideDecision 12 = .ok (.iconst 1, 1) := by decide +kernel
theorem d_R_isInsideDecision_13 : decode b_R_isInsideDecision 13 = .ok (.goto 4, 3) := by decide +kernel
theorem d_R_isInsideDecision_16 : decode b_R_isInsideDecision 16 = .ok (.iconst 0, 1) := by decide +kernel
theorem d_R_isInsideDecision_17 : decode b_R_isInsideDecision 17 = .ok (.ireturn, 1) := by decide +kernel
theorem d_R_openSteps_0 : decode b_R_openSteps 0 = .ok (.aload_n 0, 1) := by decide +kernel
theorem d_R_openSteps_1 : decode b_R_openSteps 1 = .ok (.getfield 39, 3) := by decide +kernel
theorem d_R_openSteps_4 : decode b_R_openSteps 4 = .ok (.aload_n 0, 1) := by decide +kernel
theorem d_R_openSteps_5 : decode b_R_openSteps 5 = .ok (.getfield 46, 3) := by decide +kernel
theorem d_R_openSteps_8 : decode b_R_openSteps 8 = .ok (.isub, 1) := by decide +kernel
theorem d_R_openSteps_9 : decode b_R_openSteps 9 = .ok (.ireturn, 1) := by decide +kernel
theorem d_R_addWait_0 : decode b_R_addWait 0 = .ok (.aload_n 0, 1) := by decide +kernel
theorem d_R_addWait_1 : decode b_R_addWait 1 = .ok (.getfield 49, 3) := by decide +kernel
theorem d_R_addWait_4 : decode b_R_addWait 4 = .ok (.bipush 20, 2) := by decide +kernel
theorem d_R_addWait_6 : decode b_R_addWait 6 = .ok (.if_icmp .lt 5, 3) := by decide +kernel
theorem d_R_addWait_9 : decode b_R_addWait 9 = .ok (.iconst 0, 1) := by decide +kernel
theorem d_R_addWait_10 : decode b_R_addWait 10 = .ok (.ireturn, 1) := by decide +kernel
theorem d_R_addWait_11 : decode b_R_addWait 11 = .ok (.aload_n 0, 1) := by decide +kernel
theorem d_R_addWait_12 : decode b_R_addWait 12 = .ok (.getfield 15, 3) := by decide +kernel
theorem d_R_addWait_15 : decode b_R_addWait 15 = .ok (.aload_n 0, 1) := by decide +kernel
theorem d_R_addWait_16 : decode b_R_addWait 16 = .ok (.getfield 49, 3) := by decide +kernel
theorem d_R_addWait_19 : decode b_R_addWait 19 = .ok (.iload_n 1, 1) := by decide +kernel
theorem d_R_addWait_20 : decode b_R_addWait 20 = .ok (.iastore, 1) := by decide +kernel
theorem d_R_addWait_21 : decode b_R_addWait 21 = .ok (.aload_n 0, 1) := by decide +kernel
theorem d_R_addWait_22 : decode b_R_addWait 22 = .ok (.getfield 19, 3) := by decide +kernel
theorem d_R_addWait_25 : decode b_R_addWait 25 = .ok (.aload_n 0, 1) := by decide +kernel
theorem d_R_addWait_26 : decode b_R_addWait 26 = .ok (.getfield 49, 3) := by decide +kernel
theorem d_R_addWait_29 : decode b_R_addWait 29 = .ok (.iload_n 2, 1) := by decide +kernel
theorem d_R_addWait_30 : decode b_R_addWait 30 = .ok (.iastore, 1) := by decide +kernel
theorem d_R_addWait_31 : decode b_R_addWait 31 = .ok (.aload_n 0, 1) := by decide +kernel
theorem d_R_addWait_32 : decode b_R_addWait 32 = .ok (.dup, 1) := by decide +kernel
theorem d_R_addWait_33 : decode b_R_addWait 33 = .ok (.getfield 49, 3) := by decide +kernel
theorem d_R_addWait_36 : decode b_R_addWait 36 = .ok (.iconst 1, 1) := by decide +kernel
theorem d_R_addWait_37 : decode b_R_addWait 37 = .ok (.iadd, 1) := by decide +kernel
theorem d_R_addWait_38 : decode b_R_addWait 38 = .ok (.putfield 49, 3) := by decide +kernel
theorem d_R_addWait_41 : decode b_R_addWait 41 = .ok (.iconst 1, 1) := by decide +kernel
theorem d_R_addWait_42 : decode b_R_addWait 42 = .ok (.ireturn, 1) := by decide +kernel
theorem d_R_addDecision_0 : decode b_R_addDecision 0 = .ok (.iload_n 1, 1) := by decide +kernel
theorem d_R_addDecision_1 : decode b_R_addDecision 1 = .ok (.iconst 1, 1) := by decide +kernel
theorem d_R_addDecision_2 : decode b_R_addDecision 2 = .ok (.if_icmp .lt 27, 3) := by decide +kernel
theorem d_R_addDecision_5 : decode b_R_addDecision 5 = .ok (.iload_n 1, 1) := by decide +kernel
theorem d_R_addDecision_6 : decode b_R_addDecision 6 = .ok (.bipush 100, 2) := by decide +kernel
theorem d_R_addDecision_8 : decode b_R_addDecision 8 = .ok (.if_icmp .ge 21, 3) := by decide +kernel
theorem d_R_addDecision_11 : decode b_R_addDecision 11 = .ok (.aload_n 0, 1) := by decide +kernel
theorem d_R_addDecision_12 : decode b_R_addDecision 12 = .ok (.iload_n 1, 1) := by decide +kernel
theorem d_R_addDecision_13 : decode b_R_addDecision 13 = .ok (.invokevirtual 42, 3) := by decide +kernel
theorem d_R_addDecision_16 : decode b_R_addDecision 16 = .ok (.ifCond .ne 13, 3) := by decide +kernel
theorem d_R_addDecision_19 : decode b_R_addDecision 19 = .ok (.aload_n 0, 1) := by decide +kernel
theorem d_R_addDecision_20 : decode b_R_addDecision 20 = .ok (.iload_n 1, 1) := by decide +kernel
theorem d_R_addDecision_21 : decode b_R_addDecision 21 = .ok (.iconst 1, 1) := by decide +kernel
theorem d_R_addDecision_22 : decode b_R_addDecision 22 = .ok (.iadd, 1) := by decide +kernel
theorem d_R_addDecision_23 : decode b_R_addDecision 23 = .ok (.invokevirtual 42, 3) := by decide +kernel
theorem d_R_addDecision_26 : decode b_R_addDecision 26 = .ok (.ifCond .eq 5, 3) := by decide +kernel
theorem d_R_addDecision_29 : decode b_R_addDecision 29 = .ok (.iconst 0, 1) := by decide +kernel
theorem d_R_addDecision_30 : decode b_R_addDecision 30 = .ok (.ireturn, 1) := by decide +kernel
theorem d_R_addDecision_31 : decode b_R_addDecision 31 = .ok (.aload_n 0, 1) := by decide +kernel
theorem d_R_addDecision_32 : decode b_R_addDecision 32 = .ok (.getfield 26, 3) := by decide +kernel
theorem d_R_addDecision_35 : decode b_R_addDecision 35 = .ok (.iload_n 1, 1) := by decide +kernel
theorem d_R_addDecision_36 : decode b_R_addDecision 36 = .ok (.iconst 1, 1) := by decide +kernel
theorem d_R_addDecision_37 : decode b_R_addDecision 37 = .ok (.iastore, 1) := by decide +kernel
theorem d_R_addDecision_38 : decode b_R_addDecision 38 = .ok (.aload_n 0, 1) := by decide +kernel
theorem d_R_addDecision_39 : decode b_R_addDecision 39 = .ok (.getfield 26, 3) := by decide +kernel
theorem d_R_addDecision_42 : decode b_R_addDecision 42 = .ok (.iload_n 1, 1) := by decide +kernel
theorem d_R_addDecision_43 : decode b_R_addDecision 43 = .ok (.iconst 1, 1) := by decide +kernel
theorem d_R_addDecision_44 : decode b_R_addDecision 44 = .ok (.iadd, 1) := by decide +kernel
theorem d_R_addDecision_45 : decode b_R_addDecision 45 = .ok (.iconst 2, 1) := by decide +kernel
theorem d_R_addDecision_46 : decode b_R_addDecision 46 = .ok (.iastore, 1) := by decide +kernel
theorem d_R_addDecision_47 : decode b_R_addDecision 47 = .ok (.iconst 1, 1) := by decide +kernel
theorem d_R_addDecision_48 : decode b_R_addDecision 48 = .ok (.ireturn, 1) := by decide +kernel
theorem d_R_takeTurn_0 : decode b_R_takeTurn 0 = .ok (.aload_n 0, 1) := by decide +kernel
theorem d_R_takeTurn_1 : decode b_R_takeTurn 1 = .ok (.invokevirtual 35, 3) := by decide +kernel
theorem d_R_takeTurn_4 : decode b_R_takeTurn 4 = .ok (.ifCond .ne 5, 3) := by decide +kernel
theorem d_R_takeTurn_7 : decode b_R_takeTurn 7 = .ok (.iconst 0, 1) := by decide +kernel
theorem d_R_takeTurn_8 : decode b_R_takeTurn 8 = .ok (.ireturn, 1) := by decide +kernel
theorem d_R_takeTurn_9 : decode b_R_takeTurn 9 = .ok (.aload_n 0, 1) := by decide +kernel
theorem d_R_takeTurn_10 : decode b_R_takeTurn 10 = .ok (.getfield 52, 3) := by decide +kernel
theorem d_R_takeTurn_13 : decode b_R_takeTurn 13 = .ok (.ifCond .eq 17, 3) := by decide +kernel
theorem d_R_takeTurn_16 : decode b_R_takeTurn 16 = .ok (.aload_n 0, 1) := by decide +kernel
theorem d_R_takeTurn_17 : decode b_R_takeTurn 17 = .ok (.invokevirtual 56, 3) := by decide +kernel
theorem d_R_takeTurn_20 : decode b_R_takeTurn 20 = .ok (.ifCond .ne 10, 3) := by decide +kernel
theorem d_R_takeTurn_23 : decode b_R_takeTurn 23 = .ok (.aload_n 0, 1) := by decide +kernel
theorem d_R_takeTurn_24 : decode b_R_takeTurn 24 = .ok (.iconst 3, 1) := by decide +kernel
theorem d_R_takeTurn_25 : decode b_R_takeTurn 25 = .ok (.invokevirtual 59, 3) := by decide +kernel
theorem d_R_takeTurn_28 : decode b_R_takeTurn 28 = .ok (.iconst 2, 1) := by decide +kernel
theorem d_R_takeTurn_29 : decode b_R_takeTurn 29 = .ok (.ireturn, 1) := by decide +kernel
theorem d_R_takeTurn_30 : decode b_R_takeTurn 30 = .ok (.aload_n 0, 1) := by decide +kernel
theorem d_R_takeTurn_31 : decode b_R_takeTurn 31 = .ok (.getfield 39, 3) := by decide +kernel
theorem d_R_takeTurn_34 : decode b_R_takeTurn 34 = .ok (.iconst 1, 1) := by decide +kernel
theorem d_R_takeTurn_35 : decode b_R_takeTurn 35 = .ok (.iadd, 1) := by decide +kernel
theorem d_R_takeTurn_36 : decode b_R_takeTurn 36 = .ok (.istore_n 2, 1) := by decide +kernel
theorem d_R_takeTurn_37 : decode b_R_takeTurn 37 = .ok (.aload_n 0, 1) := by decide +kernel
theorem d_R_takeTurn_38 : decode b_R_takeTurn 38 = .ok (.iload_n 2, 1) := by decide +kernel
theorem d_R_takeTurn_39 : decode b_R_takeTurn 39 = .ok (.aload_n 1, 1) := by decide +kernel
theorem d_R_takeTurn_40 : decode b_R_takeTurn 40 = .ok (.invokevirtual 63, 3) := by decide +kernel
theorem d_R_takeTurn_43 : decode b_R_takeTurn 43 = .ok (.ifCond .ne 5, 3) := by decide +kernel
theorem d_R_takeTurn_46 : decode b_R_takeTurn 46 = .ok (.iconst 0, 1) := by decide +kernel
theorem d_R_takeTurn_47 : decode b_R_takeTurn 47 = .ok (.ireturn, 1) := by decide +kernel
theorem d_R_takeTurn_48 : decode b_R_takeTurn 48 = .ok (.iload_n 2, 1) := by decide +kernel
theorem d_R_takeTurn_49 : decode b_R_takeTurn 49 = .ok (.aload_n 0, 1) := by decide +kernel
theorem d_R_takeTurn_50 : decode b_R_takeTurn 50 = .ok (.getfield 32, 3) := by decide +kernel
theorem d_R_takeTurn_53 : decode b_R_takeTurn 53 = .ok (.if_icmp .ne 10, 3) := by decide +kernel
theorem d_R_takeTurn_56 : decode b_R_takeTurn 56 = .ok (.aload_n 0, 1) := by decide +kernel
theorem d_R_takeTurn_57 : decode b_R_takeTurn 57 = .ok (.iconst 2, 1) := by decide +kernel
theorem d_R_takeTurn_58 : decode b_R_takeTurn 58 = .ok (.invokevirtual 59, 3) := by decide +kernel
theorem d_R_takeTurn_61 : decode b_R_takeTurn 61 = .ok (.iconst 2, 1) := by decide +kernel
theorem d_R_takeTurn_62 : decode b_R_takeTurn 62 = .ok (.ireturn, 1) := by decide +kernel
theorem d_R_takeTurn_63 : decode b_R_takeTurn 63 = .ok (.aload_n 0, 1) := by decide +kernel
theorem d_R_takeTurn_64 : decode b_R_takeTurn 64 = .ok (.iload_n 2, 1) := by decide +kernel
theorem d_R_takeTurn_65 : decode b_R_takeTurn 65 = .ok (.invokevirtual 67, 3) := by decide +kernel
theorem d_R_takeTurn_68 : decode b_R_takeTurn 68 = .ok (.iconst 1, 1) := by decide +kernel
theorem d_R_takeTurn_69 : decode b_R_takeTurn 69 = .ok (.ireturn, 1) := by decide +kernel
theorem d_R_backOut_0 : decode b_R_backOut 0 = .ok (.aload_n 0, 1) := by decide +kernel
theorem d_R_backOut_1 : decode b_R_backOut 1 = .ok (.aload_n 0, 1) := by decide +kernel
theorem d_R_backOut_2 : decode b_R_backOut 2 = .ok (.invokevirtual 70, 3) := by decide +kernel
theorem d_R_backOut_5 : decode b_R_backOut 5 = .ok (.putfield 74, 3) := by decide +kernel
theorem d_R_backOut_8 : decode b_R_backOut 8 = .ok (.aload_n 0, 1) := by decide +kernel
theorem d_R_backOut_9 : decode b_R_backOut 9 = .ok (.iload_n 1, 1) := by decide +kernel
theorem d_R_backOut_10 : decode b_R_backOut 10 = .ok (.invokevirtual 77, 3) := by decide +kernel
theorem d_R_backOut_13 : decode b_R_backOut 13 = .ok (.return_, 1) := by decide +kernel
theorem d_R_doStep_0 : decode b_R_doStep 0 = .ok (.aload_n 0, 1) := by decide +kernel
theorem d_R_doStep_1 : decode b_R_doStep 1 = .ok (.iload_n 1, 1) := by decide +kernel
theorem d_R_doStep_2 : decode b_R_doStep 2 = .ok (.putfield 39, 3) := by decide +kernel
theorem d_R_doStep_5 : decode b_R_doStep 5 = .ok (.aload_n 0, 1) := by decide +kernel
theorem d_R_doStep_6 : decode b_R_doStep 6 = .ok (.iload_n 1, 1) := by decide +kernel
theorem d_R_doStep_7 : decode b_R_doStep 7 = .ok (.invokevirtual 42, 3) := by decide +kernel
theorem d_R_doStep_10 : decode b_R_doStep 10 = .ok (.iconst 2, 1) := by decide +kernel
theorem d_R_doStep_11 : decode b_R_doStep 11 = .ok (.if_icmp .ne 8, 3) := by decide +kernel
theorem d_R_doStep_14 : decode b_R_doStep 14 = .ok (.aload_n 0, 1) := by decide +kernel
theorem d_R_doStep_15 : decode b_R_doStep 15 = .ok (.iload_n 1, 1) := by decide +kernel
theorem d_R_doStep_16 : decode b_R_doStep 16 = .ok (.putfield 46, 3) := by decide +kernel
theorem d_R_doStep_19 : decode b_R_doStep 19 = .ok (.iload_n 1, 1) := by decide +kernel
theorem d_R_doStep_20 : decode b_R_doStep 20 = .ok (.aload_n 0, 1) := by decide +kernel
theorem d_R_doStep_21 : decode b_R_doStep 21 = .ok (.getfield 29, 3) := by decide +kernel
theorem d_R_doStep_24 : decode b_R_doStep 24 = .ok (.if_icmp .lt 8, 3) := by decide +kernel
theorem d_R_doStep_27 : decode b_R_doStep 27 = .ok (.aload_n 0, 1) := by decide +kernel
theorem d_R_doStep_28 : decode b_R_doStep 28 = .ok (.iconst 1, 1) := by decide +kernel
theorem d_R_doStep_29 : decode b_R_doStep 29 = .ok (.invokevirtual 77, 3) := by decide +kernel
theorem d_R_doStep_32 : decode b_R_doStep 32 = .ok (.return_, 1) := by decide +kernel
theorem d_R_endAs_0 : decode b_R_endAs 0 = .ok (.aload_n 0, 1) := by decide +kernel
theorem d_R_endAs_1 : decode b_R_endAs 1 = .ok (.iload_n 1, 1) := by decide +kernel
theorem d_R_endAs_2 : decode b_R_endAs 2 = .ok (.putfield 9, 3) := by decide +kernel
theorem d_R_endAs_5 : decode b_R_endAs 5 = .ok (.aload_n 0, 1) := by decide +kernel
theorem d_R_endAs_6 : decode b_R_endAs 6 = .ok (.dup, 1) := by decide +kernel
theorem d_R_endAs_7 : decode b_R_endAs 7 = .ok (.getfield 80, 3) := by decide +kernel
theorem d_R_endAs_10 : decode b_R_endAs 10 = .ok (.iconst 1, 1) := by decide +kernel
theorem d_R_endAs_11 : decode b_R_endAs 11 = .ok (.iadd, 1) := by decide +kernel
theorem d_R_endAs_12 : decode b_R_endAs 12 = .ok (.putfield 80, 3) := by decide +kernel
theorem d_R_endAs_15 : decode b_R_endAs 15 = .ok (.return_, 1) := by decide +kernel
theorem d_R_takeWaitsAt_0 : decode b_R_takeWaitsAt 0 = .ok (.iconst 0, 1) := by decide +kernel
theorem d_R_takeWaitsAt_1 : decode b_R_takeWaitsAt 1 = .ok (.istore_n 3, 1) := by decide +kernel
theorem d_R_takeWaitsAt_2 : decode b_R_takeWaitsAt 2 = .ok (.iload_n 3, 1) := by decide +kernel
theorem d_R_takeWaitsAt_3 : decode b_R_takeWaitsAt 3 = .ok (.aload_n 0, 1) := by decide +kernel
theorem d_R_takeWaitsAt_4 : decode b_R_takeWaitsAt 4 = .ok (.getfield 49, 3) := by decide +kernel
theorem d_R_takeWaitsAt_7 : decode b_R_takeWaitsAt 7 = .ok (.if_icmp .ge 56, 3) := by decide +kernel
theorem d_R_takeWaitsAt_10 : decode b_R_takeWaitsAt 10 = .ok (.iload_n 3, 1) := by decide +kernel
theorem d_R_takeWaitsAt_11 : decode b_R_takeWaitsAt 11 = .ok (.bipush 20, 2) := by decide +kernel
theorem d_R_takeWaitsAt_13 : decode b_R_takeWaitsAt 13 = .ok (.if_icmp .ge 50, 3) := by decide +kernel
theorem d_R_takeWaitsAt_16 : decode b_R_takeWaitsAt 16 = .ok (.aload_n 0, 1) := by decide +kernel
theorem d_R_takeWaitsAt_17 : decode b_R_takeWaitsAt 17 = .ok (.getfield 15, 3) := by decide +kernel
theorem d_R_takeWaitsAt_20 : decode b_R_takeWaitsAt 20 = .ok (.iload_n 3, 1) := by decide +kernel
theorem d_R_takeWaitsAt_21 : decode b_R_takeWaitsAt 21 = .ok (.iaload, 1) := by decide +kernel
theorem d_R_takeWaitsAt_22 : decode b_R_takeWaitsAt 22 = .ok (.iload_n 1, 1) := by decide +kernel
theorem d_R_takeWaitsAt_23 : decode b_R_takeWaitsAt 23 = .ok (.if_icmp .ne 34, 3) := by decide +kernel
theorem d_R_takeWaitsAt_26 : decode b_R_takeWaitsAt 26 = .ok (.aload_n 0, 1) := by decide +kernel
theorem d_R_takeWaitsAt_27 : decode b_R_takeWaitsAt 27 = .ok (.getfield 22, 3) := by decide +kernel
theorem d_R_takeWaitsAt_30 : decode b_R_takeWaitsAt 30 = .ok (.iload_n 3, 1) := by decide +kernel
theorem d_R_takeWaitsAt_31 : decode b_R_takeWaitsAt 31 = .ok (.baload, 1) := by decide +kernel
theorem d_R_takeWaitsAt_32 : decode b_R_takeWaitsAt 32 = .ok (.ifCond .ne 25, 3) := by decide +kernel
theorem d_R_takeWaitsAt_35 : decode b_R_takeWaitsAt 35 = .ok (.aload_n 2, 1) := by decide +kernel
theorem d_R_takeWaitsAt_36 : decode b_R_takeWaitsAt 36 = .ok (.aload_n 0, 1) := by decide +kernel
theorem d_R_takeWaitsAt_37 : decode b_R_takeWaitsAt 37 = .ok (.getfield 19, 3) := by decide +kernel
theorem d_R_takeWaitsAt_40 : decode b_R_takeWaitsAt 40 = .ok (.iload_n 3, 1) := by decide +kernel
theorem d_R_takeWaitsAt_41 : decode b_R_takeWaitsAt 41 = .ok (.iaload, 1) := by decide +kernel
theorem d_R_takeWaitsAt_42 : decode b_R_takeWaitsAt 42 = .ok (.invokevirtual 83, 3) := by decide +kernel
theorem d_R_takeWaitsAt_45 : decode b_R_takeWaitsAt 45 = .ok (.ifCond .ne 5, 3) := by decide +kernel
theorem d_R_takeWaitsAt_48 : decode b_R_takeWaitsAt 48 = .ok (.iconst 0, 1) := by decide +kernel
theorem d_R_takeWaitsAt_49 : decode b_R_takeWaitsAt 49 = .ok (.ireturn, 1) := by decide +kernel
theorem d_R_takeWaitsAt_50 : decode b_R_takeWaitsAt 50 = .ok (.aload_n 0, 1) := by decide +kernel
theorem d_R_takeWaitsAt_51 : decode b_R_takeWaitsAt 51 = .ok (.getfield 22, 3) := by decide +kernel
theorem d_R_takeWaitsAt_54 : decode b_R_takeWaitsAt 54 = .ok (.iload_n 3, 1) := by decide +kernel
theorem d_R_takeWaitsAt_55 : decode b_R_takeWaitsAt 55 = .ok (.iconst 1, 1) := by decide +kernel
theorem d_R_takeWaitsAt_56 : decode b_R_takeWaitsAt 56 = .ok (.bastore, 1) := by decide +kernel
theorem d_R_takeWaitsAt_57 : decode b_R_takeWaitsAt 57 = .ok (.iinc 3 1, 3) := by decide +kernel
theorem d_R_takeWaitsAt_60 : decode b_R_takeWaitsAt 60 = .ok (.goto (-58), 3) := by decide +kernel
theorem d_R_takeWaitsAt_63 : decode b_R_takeWaitsAt 63 = .ok (.iconst 1, 1) := by decide +kernel
theorem d_R_takeWaitsAt_64 : decode b_R_takeWaitsAt 64 = .ok (.ireturn, 1) := by decide +kernel
theorem d_R_halfOf_0 : decode b_R_halfOf 0 = .ok (.iload_n 1, 1) := by decide +kernel
theorem d_R_halfOf_1 : decode b_R_halfOf 1 = .ok (.ifCond .lt 9, 3) := by decide +kernel
theorem d_R_halfOf_4 : decode b_R_halfOf 4 = .ok (.iload_n 1, 1) := by decide +kernel
theorem d_R_halfOf_5 : decode b_R_halfOf 5 = .ok (.bipush 100, 2) := by decide +kernel
theorem d_R_halfOf_7 : decode b_R_halfOf 7 = .ok (.if_icmp .le 7, 3) := by decide +kernel
theorem d_R_halfOf_10 : decode b_R_halfOf 10 = .ok (.iconst 0, 1) := by decide +kernel
theorem d_R_halfOf_11 : decode b_R_halfOf 11 = .ok (.goto 9, 3) := by decide +kernel
theorem d_R_halfOf_14 : decode b_R_halfOf 14 = .ok (.aload_n 0, 1) := by decide +kernel
theorem d_R_halfOf_15 : decode b_R_halfOf 15 = .ok (.getfield 26, 3) := by decide +kernel
theorem d_R_halfOf_18 : decode b_R_halfOf 18 = .ok (.iload_n 1, 1) := by decide +kernel
theorem d_R_halfOf_19 : decode b_R_halfOf 19 = .ok (.iaload, 1) := by decide +kernel
theorem d_R_halfOf_20 : decode b_R_halfOf 20 = .ok (.ireturn, 1) := by decide +kernel
end
section
set_option maxHeartbeats 4000000 in
set_option maxRecDepth 100000 in
/-- halfOf(t) -/
theorem c_R_halfOf (g : zw_G) (l : Launch) (N : Nat) (ad : Nat → Nat) (E : Nat → va_E) (b : Nat) (sc : Nat → Nat) (ar : Nat → Nat → Nat) (hb : b + 5 ≤ N) (hR : zr_at g ad E b sc ar) (t : Nat) (ht : t ≤ 100) : zc_i g l y_R_halfOf b_R_halfOf 2 (some .int) { frames := 0, cells := 0, slots := 0, locals := 0 } [.ref (ad (b)), .int (nI (t))] N ad E (fun v N1 ad1 E1 => N = N1 ∧ ad = ad1 ∧ E = E1 ∧ v = nI (ar 3 t)) := by
  refine zc_i.of (by decide) (Nat.le_of_ble_eq_true rfl) ?_
  intro p e s m below meth c ls A X hr hlk hl hH
  have hl : lv_has ls 2 [(0, .ref (ad (b))), (1, .int (nI (t)))] := hl
  refine lv_iload_n X.1 X.2.1 d_R_halfOf_0 rfl (lv_at hl 1 rfl) ?_
  refine lv_if_lt (tgt := 10) X.1 X.2.1 d_R_halfOf_1 (by decide) (fun c1 => ?_) (fun c1 => ?_)
  · have c1 := (zn_lt (nI_toInt (by omega)) zn_0).mp c1
    exfalso; omega
  · have c1 := mt (zn_lt (nI_toInt (by omega)) zn_0).mpr c1
    refine lv_iload_n X.1 X.2.1 d_R_halfOf_4 rfl (lv_at hl 1 rfl) ?_
    refine lv_bipush (v := nI 100) X.1 X.2.1 d_R_halfOf_5 (by decide) ?_
    refine lv_icmp_le (tgt := 14) X.1 X.2.1 d_R_halfOf_7 (by decide) (fun c2 => ?_) (fun c2 => ?_)
    · have c2 := (zn_le (nI_toInt (by omega)) (nI_toInt (by omega))).mp c2
      refine lv_aload_n X.1 X.2.1 d_R_halfOf_14 rfl (lv_at hl 0 rfl) ?_
      refine zx_get (v := .ref (ad (b + 4))) X hH fg_R_26 (by omega) hR.1 rfl d_R_halfOf_15 ?_
      refine lv_iload_n X.1 X.2.1 d_R_halfOf_18 rfl (lv_at hl 1 rfl) ?_
      refine zx_iald (j := t) X hH (by omega) (show E (b + 4) = zr_ia g 101 (ar 3) from hR.2.2.2.2) rfl (by omega) (by decide) d_R_halfOf_19 ?_
      exact zx_iret X hr hlk hH (Nat.le_of_ble_eq_true rfl) (Nat.le_of_ble_eq_true rfl) d_R_halfOf_20 ⟨rfl, rfl, rfl, rfl⟩
    · have c2 := mt (zn_le (nI_toInt (by omega)) (nI_toInt (by omega))).mpr c2
      exfalso; omega

set_option maxHeartbeats 4000000 in
set_option maxRecDepth 100000 in
theorem c_R_goesOn (g : zw_G) (l : Launch) (N : Nat) (ad : Nat → Nat) (E : Nat → va_E) (b : Nat) (sc : Nat → Nat) (ar : Nat → Nat → Nat) (hb : b + 5 ≤ N) (hR : zr_at g ad E b sc ar) (hok : zr_ok sc ar) : zc_i g l y_R_goesOn b_R_goesOn 1 (some .boolean) { frames := 0, cells := 0, slots := 0, locals := 0 } [.ref (ad (b))] N ad E (fun v N1 ad1 E1 => N = N1 ∧ ad = ad1 ∧ E = E1 ∧ v = nI (if sc 2 = 0 then 1 else 0)) := by
  refine zc_i.of (by decide) (Nat.le_of_ble_eq_true rfl) ?_
  intro p e s m below meth c ls A X hr hlk hl hH
  have hl : lv_has ls 1 [(0, .ref (ad (b)))] := hl
  obtain ⟨k0, k1, k2, k3, k4, k5, k7, k8, k6⟩ := hok.1
  refine lv_aload_n X.1 X.2.1 d_R_goesOn_0 rfl (lv_at hl 0 rfl) ?_
  refine zx_get (v := .int (nI (sc 2))) X hH fg_R_9 (by omega) hR.1 rfl d_R_goesOn_1 ?_
  refine lv_if_ne (tgt := 11) X.1 X.2.1 d_R_goesOn_4 (by decide) (fun c1 => ?_) (fun c1 => ?_)
  · have c1 := mt (zn_eq (nI_toInt (by omega)) zn_0).mpr c1
    refine lv_iconst (v := nI 0) X.1 X.2.1 d_R_goesOn_11 (by decide) ?_
    exact zx_zret X hr hlk hH (Nat.le_of_ble_eq_true rfl) (Nat.le_of_ble_eq_true rfl) d_R_goesOn_12 rfl ⟨rfl, rfl, rfl, (by first | rfl | (rw [if_pos (by omega)]) | (rw [if_neg (by omega)]))⟩
  · have c1 := (zn_eq (nI_toInt (by omega)) zn_0).mp c1
    refine lv_iconst (v := nI 1) X.1 X.2.1 d_R_goesOn_7 (by decide) ?_
    refine lv_goto (tgt := 12) X.1 X.2.1 d_R_goesOn_8 (by decide) ?_
    exact zx_zret X hr hlk hH (Nat.le_of_ble_eq_true rfl) (Nat.le_of_ble_eq_true rfl) d_R_goesOn_12 rfl ⟨rfl, rfl, rfl, (by first | rfl | (rw [if_pos (by omega)]) | (rw [if_neg (by omega)]))⟩

set_option maxHeartbeats 4000000 in
set_option maxRecDepth 100000 in
theorem c_R_openSteps (g : zw_G) (l : Launch) (N : Nat) (ad : Nat → Nat) (E : Nat → va_E) (b : Nat) (sc : Nat → Nat) (ar : Nat → Nat → Nat) (hb : b + 5 ≤ N) (hR : zr_at g ad E b sc ar) (hok : zr_ok sc ar) : zc_i g l y_R_openSteps b_R_openSteps 1 (some .int) { frames := 0, cells := 0, slots := 0, locals := 0 } [.ref (ad (b))] N ad E (fun v N1 ad1 E1 => N = N1 ∧ ad = ad1 ∧ E = E1 ∧ v = nI (sc 3 - sc 4)) := by
  refine zc_i.of (by decide) (Nat.le_of_ble_eq_true rfl) ?_
  intro p e s m below meth c ls A X hr hlk hl hH
  have hl : lv_has ls 1 [(0, .ref (ad (b)))] := hl
  obtain ⟨k0, k1, k2, k3, k4, k5, k7, k8, k6⟩ := hok.1
  refine lv_aload_n X.1 X.2.1 d_R_openSteps_0 rfl (lv_at hl 0 rfl) ?_
  refine zx_get (v := .int (nI (sc 3))) X hH fg_R_39 (by omega) hR.1 rfl d_R_openSteps_1 ?_
  refine lv_aload_n X.1 X.2.1 d_R_openSteps_4 rfl (lv_at hl 0 rfl) ?_
  refine zx_get (v := .int (nI (sc 4))) X hH fg_R_46 (by omega) hR.1 rfl d_R_openSteps_5 ?_
  refine lv_isub X.1 X.2.1 d_R_openSteps_8 ?_
  refine zx_top (pk_sub (by omega)) ?_
  exact zx_iret X hr hlk hH (Nat.le_of_ble_eq_true rfl) (Nat.le_of_ble_eq_true rfl) d_R_openSteps_9 ⟨rfl, rfl, rfl, rfl⟩

set_option maxHeartbeats 4000000 in
set_option maxRecDepth 100000 in
theorem c_R_isAheadOf (g : zw_G) (l : Launch) (N : Nat) (ad : Nat → Nat) (E : Nat → va_E) (b : Nat) (sc : Nat → Nat) (ar : Nat → Nat → Nat) (hb : b + 5 ≤ N) (hR : zr_at g ad E b sc ar) (hok : zr_ok sc ar) (t : Nat) (ht : t ≤ 100) : zc_i g l y_R_isAheadOf b_R_isAheadOf 2 (some .boolean) { frames := 1, cells := 0, slots := 0, locals := 40 } [.ref (ad (b)), .int (nI (t))] N ad E (fun v N1 ad1 E1 => N = N1 ∧ ad = ad1 ∧ E = E1 ∧ v = nI (if sc 2 = 0 ∧ sc 3 < t then 1 else 0)) := by
  refine zc_i.of (by decide) (Nat.le_of_ble_eq_true rfl) ?_
  intro p e s m below meth c ls A X hr hlk hl hH
  have hl : lv_has ls 2 [(0, .ref (ad (b))), (1, .int (nI (t)))] := hl
  obtain ⟨k0, k1, k2, k3, k4, k5, k7, k8, k6⟩ := hok.1
  refine lv_aload_n X.1 X.2.1 d_R_isAheadOf_0 rfl (lv_at hl 0 rfl) ?_
  refine zx_calli (zx_runV (As := []) (rest := []) X hH mv_R_35 ((c_R_goesOn g l N ad E b sc ar hb hR hok) _) (by omega) hR.1 rfl ⟨Nat.le_of_ble_eq_true rfl, Nat.le_of_ble_eq_true rfl⟩ rfl hl rfl (Nat.le_of_ble_eq_true rfl) d_R_isAheadOf_1 ⟨Nat.le_of_ble_eq_true rfl, Nat.le_of_ble_eq_true rfl⟩) hH (fun r N1 ad1 E1 H locs hq hH => ?_)
  obtain ⟨rfl, rfl, rfl, rfl⟩ := hq
  by_cases d1 : sc 2 = 0
  · refine zx_top (b := nI 1) (by rw [if_pos d1]) ?_
    refine lv_if_eq (tgt := 19) X.1 X.2.1 d_R_isAheadOf_4 (by decide) (fun z => ?_) (fun z => ?_)
    · exact absurd z (by decide)
    · clear z
      refine lv_iload_n X.1 X.2.1 d_R_isAheadOf_7 rfl (lv_at hl 1 rfl) ?_
      refine lv_aload_n X.1 X.2.1 d_R_isAheadOf_8 rfl (lv_at hl 0 rfl) ?_
      refine zx_get (v := .int (nI (sc 3))) X hH fg_R_39 (by omega) hR.1 rfl d_R_isAheadOf_9 ?_
      refine lv_icmp_le (tgt := 19) X.1 X.2.1 d_R_isAheadOf_12 (by decide) (fun c2 => ?_) (fun c2 => ?_)
      · have c2 := (zn_le (nI_toInt (by omega)) (nI_toInt (by omega))).mp c2
        refine lv_iconst (v := nI 0) X.1 X.2.1 d_R_isAheadOf_19 (by decide) ?_
        exact zx_zret X hr hlk hH (Nat.le_of_ble_eq_true rfl) (Nat.le_of_ble_eq_true rfl) d_R_isAheadOf_20 rfl ⟨rfl, rfl, rfl, (by first | rfl | (rw [if_pos (by omega)]) | (rw [if_neg (by omega)]))⟩
      · have c2 := mt (zn_le (nI_toInt (by omega)) (nI_toInt (by omega))).mpr c2
        refine lv_iconst (v := nI 1) X.1 X.2.1 d_R_isAheadOf_15 (by decide) ?_
        refine lv_goto (tgt := 20) X.1 X.2.1 d_R_isAheadOf_16 (by decide) ?_
        exact zx_zret X hr hlk hH (Nat.le_of_ble_eq_true rfl) (Nat.le_of_ble_eq_true rfl) d_R_isAheadOf_20 rfl ⟨rfl, rfl, rfl, (by first | rfl | (rw [if_pos (by omega)]) | (rw [if_neg (by omega)]))⟩
  · refine zx_top (b := nI 0) (by rw [if_neg d1]) ?_
    refine lv_if_eq (tgt := 19) X.1 X.2.1 d_R_isAheadOf_4 (by decide) (fun z => ?_) (fun z => ?_)
    · clear z
      refine lv_iconst (v := nI 0) X.1 X.2.1 d_R_isAheadOf_19 (by decide) ?_
      exact zx_zret X hr hlk hH (Nat.le_of_ble_eq_true rfl) (Nat.le_of_ble_eq_true rfl) d_R_isAheadOf_20 rfl ⟨rfl, rfl, rfl, (by first | rfl | (rw [if_pos (by omega)]) | (rw [if_neg (by omega)]))⟩
    · exact absurd z (by decide)

set_option maxHeartbeats 4000000 in
set_option maxRecDepth 100000 in
theorem c_R_isInside (g : zw_G) (l : Launch) (N : Nat) (ad : Nat → Nat) (E : Nat → va_E) (b : Nat) (sc : Nat → Nat) (ar : Nat → Nat → Nat) (hb : b + 5 ≤ N) (hR : zr_at g ad E b sc ar) (hok : zr_ok sc ar) : zc_i g l y_R_isInsideDecision b_R_isInsideDecision 1 (some .boolean) { frames := 1, cells := 0, slots := 0, locals := 40 } [.ref (ad (b))] N ad E (fun v N1 ad1 E1 => N = N1 ∧ ad = ad1 ∧ E = E1 ∧ v = nI (if ar 3 (sc 3) = 1 then 1 else 0)) := by
  refine zc_i.of (by decide) (Nat.le_of_ble_eq_true rfl) ?_
  intro p e s m below meth c ls A X hr hlk hl hH
  have hl : lv_has ls 1 [(0, .ref (ad (b)))] := hl
  obtain ⟨k0, k1, k2, k3, k4, k5, k7, k8, k6⟩ := hok.1
  have k9 := hok.2.2.2.2 (sc 3)
  refine lv_aload_n X.1 X.2.1 d_R_isInsideDecision_0 rfl (lv_at hl 0 rfl) ?_
  refine lv_aload_n X.1 X.2.1 d_R_isInsideDecision_1 rfl (lv_at hl 0 rfl) ?_
  refine zx_get (v := .int (nI (sc 3))) X hH fg_R_39 (by omega) hR.1 rfl d_R_isInsideDecision_2 ?_
  refine zx_calli (zx_runV (As := [.int (nI (sc 3))]) (rest := []) X hH mv_R_42 ((c_R_halfOf g l N ad E b sc ar hb hR (sc 3) (by omega)) _) (by omega) hR.1 rfl ⟨Nat.le_of_ble_eq_true rfl, Nat.le_of_ble_eq_true rfl⟩ rfl hl rfl (Nat.le_of_ble_eq_true rfl) d_R_isInsideDecision_5 ⟨Nat.le_of_ble_eq_true rfl, Nat.le_of_ble_eq_true rfl⟩) hH (fun r N1 ad1 E1 H locs hq hH => ?_)
  obtain ⟨rfl, rfl, rfl, rfl⟩ := hq
  refine lv_iconst (v := nI 1) X.1 X.2.1 d_R_isInsideDecision_8 (by decide) ?_
  refine lv_icmp_ne (tgt := 16) X.1 X.2.1 d_R_isInsideDecision_9 (by decide) (fun c1 => ?_) (fun c1 => ?_)
  · have c1 := mt (zn_eq (nI_toInt (by omega)) (nI_toInt (by omega))).mpr c1
    refine lv_iconst (v := nI 0) X.1 X.2.1 d_R_isInsideDecision_16 (by decide) ?_
    exact zx_zret X hr hlk hH (Nat.le_of_ble_eq_true rfl) (Nat.le_of_ble_eq_true rfl) d_R_isInsideDecision_17 rfl ⟨rfl, rfl, rfl, (by first | rfl | (rw [if_pos (by omega)]) | (rw [if_neg (by omega)]))⟩
  · have c1 := (zn_eq (nI_toInt (by omega)) (nI_toInt (by omega))).mp c1
    refine lv_iconst (v := nI 1) X.1 X.2.1 d_R_isInsideDecision_12 (by decide) ?_
    refine lv_goto (tgt := 17) X.1 X.2.1 d_R_isInsideDecision_13 (by decide) ?_
    exact zx_zret X hr hlk hH (Nat.le_of_ble_eq_true rfl) (Nat.le_of_ble_eq_true rfl) d_R_isInsideDecision_17 rfl ⟨rfl, rfl, rfl, (by first | rfl | (rw [if_pos (by omega)]) | (rw [if_neg (by omega)]))⟩

set_option maxHeartbeats 4000000 in
set_option maxRecDepth 100000 in
theorem c_R_addWait (g : zw_G) (l : Launch) (N : Nat) (ad : Nat → Nat) (E : Nat → va_E) (b : Nat) (sc : Nat → Nat) (ar : Nat → Nat → Nat) (hb : b + 5 ≤ N) (hR : zr_at g ad E b sc ar) (hok : zr_ok sc ar) (t u : Nat) : zc_i g l y_R_addWait b_R_addWait 3 (some .boolean) { frames := 0, cells := 0, slots := 0, locals := 0 } [.ref (ad (b)), .int (nI (t)), .int (nI (u))] N ad E (fun v N1 ad1 E1 => N = N1 ∧ ad = ad1 ∧ ((20 ≤ sc 8 ∧ v = nI 0 ∧ E = E1) ∨ (sc 8 < 20 ∧ v = nI 1 ∧ zr_at g ad E1 b (va_up sc 8 (sc 8 + 1)) (va_up (va_up ar 0 (va_up (ar 0) (sc 8) t)) 1 (va_up (ar 1) (sc 8) u)) ∧ zr_fr E E1 b))) := by
  refine zc_i.of (by decide) (Nat.le_of_ble_eq_true rfl) ?_
  intro p e s m below meth c ls A X hr hlk hl hH
  have hl : lv_has ls 3 [(0, .ref (ad (b))), (1, .int (nI (t))), (2, .int (nI (u)))] := hl
  obtain ⟨k0, k1, k2, k3, k4, k5, k7, k8, k6⟩ := hok.1
  have hF : zr_fr E E b := zr_fr.rf
  refine lv_aload_n X.1 X.2.1 d_R_addWait_0 rfl (lv_at hl 0 rfl) ?_
  refine zx_get (v := .int (nI (sc 8))) X hH fg_R_49 (by omega) hR.1 rfl d_R_addWait_1 ?_
  refine lv_bipush (v := nI 20) X.1 X.2.1 d_R_addWait_4 (by decide) ?_
  refine lv_icmp_lt (tgt := 11) X.1 X.2.1 d_R_addWait_6 (by decide) (fun c1 => ?_) (fun c1 => ?_)
  · have c1 := (zn_lt (nI_toInt (by omega)) (nI_toInt (by omega))).mp c1
    refine lv_aload_n X.1 X.2.1 d_R_addWait_11 rfl (lv_at hl 0 rfl) ?_
    refine zx_get (v := .ref (ad (b + 1))) X hH fg_R_15 (by omega) hR.1 rfl d_R_addWait_12 ?_
    refine lv_aload_n X.1 X.2.1 d_R_addWait_15 rfl (lv_at hl 0 rfl) ?_
    refine zx_get (v := .int (nI (sc 8))) X hH fg_R_49 (by omega) hR.1 rfl d_R_addWait_16 ?_
    refine lv_iload_n X.1 X.2.1 d_R_addWait_19 rfl (lv_at hl 1 rfl) ?_
    refine zx_iast (j := sc 8) X hH (by omega) (show E (b + 1) = zr_ia g 20 (ar 0) from hR.2.1) rfl (by omega) (by decide) d_R_addWait_20 (fun H locs hH => ?_)
    rw [zr_upd] at hH
    have hH : zw_H g A s.heap s N ad (va_up E (b + 1) (zr_ia g 20 (va_up (ar 0) (sc 8) (t)))) H locs := hH
    have hR := hR.a0 (va_up (ar 0) (sc 8) (t))
    have hF := hF.up (k := b + 1) (x := (zr_ia g 20 (va_up (ar 0) (sc 8) (t)))) (by omega) (by omega)
    generalize va_up E (b + 1) (zr_ia g 20 (va_up (ar 0) (sc 8) (t))) = E2 at hH hR hF
    refine lv_aload_n X.1 X.2.1 d_R_addWait_21 rfl (lv_at hl 0 rfl) ?_
    refine zx_get (v := .ref (ad (b + 2))) X hH fg_R_19 (by omega) hR.1 rfl d_R_addWait_22 ?_
    refine lv_aload_n X.1 X.2.1 d_R_addWait_25 rfl (lv_at hl 0 rfl) ?_
    refine zx_get (v := .int (nI (sc 8))) X hH fg_R_49 (by omega) hR.1 rfl d_R_addWait_26 ?_
    refine lv_iload_n X.1 X.2.1 d_R_addWait_29 rfl (lv_at hl 2 rfl) ?_
    refine zx_iast (j := sc 8) X hH (by omega) (show E2 (b + 2) = zr_ia g 20 (ar 1) from hR.2.2.1) rfl (by omega) (by decide) d_R_addWait_30 (fun H locs hH => ?_)
    rw [zr_upd] at hH
    have hH : zw_H g A s.heap s N ad (va_up E2 (b + 2) (zr_ia g 20 (va_up (ar 1) (sc 8) (u)))) H locs := hH
    have hR := hR.a1 (va_up (ar 1) (sc 8) (u))
    have hF := hF.up (k := b + 2) (x := (zr_ia g 20 (va_up (ar 1) (sc 8) (u)))) (by omega) (by omega)
    generalize va_up E2 (b + 2) (zr_ia g 20 (va_up (ar 1) (sc 8) (u))) = E3 at hH hR hF
    refine lv_aload_n X.1 X.2.1 d_R_addWait_31 rfl (lv_at hl 0 rfl) ?_
    refine lv_dup X.1 X.2.1 d_R_addWait_32 rfl ?_
    refine zx_get (v := .int (nI (sc 8))) X hH fg_R_49 (by omega) hR.1 rfl d_R_addWait_33 ?_
    refine lv_iconst (v := nI 1) X.1 X.2.1 d_R_addWait_36 (by decide) ?_
    refine lv_iadd X.1 X.2.1 d_R_addWait_37 ?_
    refine zx_top (nI_add _ _) ?_
    refine zx_put X hH fp_R_49 (by omega) hR.1 (Nat.le_of_ble_eq_true rfl) rfl rfl d_R_addWait_38 (fun H locs hH => ?_)
    have hH : zw_H g A s.heap s N ad (va_up E3 b (zr_o ad b (va_up sc 8 ((sc 8) + (1))))) H locs := hH
    have hR := hR.sc (va_up sc 8 ((sc 8) + (1)))
    have hF := hF.up (k := b) (x := zr_o ad b (va_up sc 8 ((sc 8) + (1)))) (by omega) (by omega)
    generalize va_up E3 b (zr_o ad b (va_up sc 8 ((sc 8) + (1)))) = E4 at hH hR hF
    refine lv_iconst (v := nI 1) X.1 X.2.1 d_R_addWait_41 (by decide) ?_
    exact zx_zret X hr hlk hH (Nat.le_of_ble_eq_true rfl) (Nat.le_of_ble_eq_true rfl) d_R_addWait_42 rfl ⟨rfl, rfl, Or.inr ⟨by omega, rfl, hR, hF⟩⟩
  · have c1 := mt (zn_lt (nI_toInt (by omega)) (nI_toInt (by omega))).mpr c1
    refine lv_iconst (v := nI 0) X.1 X.2.1 d_R_addWait_9 (by decide) ?_
    exact zx_zret X hr hlk hH (Nat.le_of_ble_eq_true rfl) (Nat.le_of_ble_eq_true rfl) d_R_addWait_10 rfl ⟨rfl, rfl, Or.inl ⟨by omega, rfl, rfl⟩⟩

set_option maxHeartbeats 4000000 in
set_option maxRecDepth 100000 in
theorem c_R_addDecision (g : zw_G) (l : Launch) (N : Nat) (ad : Nat → Nat) (E : Nat → va_E) (b : Nat) (sc : Nat → Nat) (ar : Nat → Nat → Nat) (hb : b + 5 ≤ N) (hR : zr_at g ad E b sc ar) (hok : zr_ok sc ar) (t : Nat) (h1 : 1 ≤ t) (ht : t < 100) : zc_i g l y_R_addDecision b_R_addDecision 2 (some .boolean) { frames := 1, cells := 0, slots := 0, locals := 40 } [.ref (ad (b)), .int (nI (t))] N ad E (fun v N1 ad1 E1 => N = N1 ∧ ad = ad1 ∧ ((¬ (ar 3 t = 0 ∧ ar 3 (t + 1) = 0) ∧ v = nI 0 ∧ E = E1) ∨ ((ar 3 t = 0 ∧ ar 3 (t + 1) = 0) ∧ v = nI 1 ∧ zr_at g ad E1 b sc (va_up (va_up ar 3 (va_up (ar 3) t 1)) 3 (va_up (va_up (ar 3) t 1) (t + 1) 2)) ∧ zr_fr E E1 b))) := by
  refine zc_i.of (by decide) (Nat.le_of_ble_eq_true rfl) ?_
  intro p e s m below meth c ls A X hr hlk hl hH
  have hl : lv_has ls 2 [(0, .ref (ad (b))), (1, .int (nI (t)))] := hl
  obtain ⟨k0, k1, k2, k3, k4, k5, k7, k8, k6⟩ := hok.1
  have k9 := hok.2.2.2.2 t
  have k10 := hok.2.2.2.2 (t + 1)
  have hF : zr_fr E E b := zr_fr.rf
  refine lv_iload_n X.1 X.2.1 d_R_addDecision_0 rfl (lv_at hl 1 rfl) ?_
  refine lv_iconst (v := nI 1) X.1 X.2.1 d_R_addDecision_1 (by decide) ?_
  refine lv_icmp_lt (tgt := 29) X.1 X.2.1 d_R_addDecision_2 (by decide) (fun c1 => ?_) (fun c1 => ?_)
  · have c1 := (zn_lt (nI_toInt (by omega)) (nI_toInt (by omega))).mp c1
    exfalso; omega
  · have c1 := mt (zn_lt (nI_toInt (by omega)) (nI_toInt (by omega))).mpr c1
    refine lv_iload_n X.1 X.2.1 d_R_addDecision_5 rfl (lv_at hl 1 rfl) ?_
    refine lv_bipush (v := nI 100) X.1 X.2.1 d_R_addDecision_6 (by decide) ?_
    refine lv_icmp_ge (tgt := 29) X.1 X.2.1 d_R_addDecision_8 (by decide) (fun c2 => ?_) (fun c2 => ?_)
    · have c2 := (zn_le (nI_toInt (by omega)) (nI_toInt (by omega))).mp c2
      exfalso; omega
    · have c2 := mt (zn_le (nI_toInt (by omega)) (nI_toInt (by omega))).mpr c2
      refine lv_aload_n X.1 X.2.1 d_R_addDecision_11 rfl (lv_at hl 0 rfl) ?_
      refine lv_iload_n X.1 X.2.1 d_R_addDecision_12 rfl (lv_at hl 1 rfl) ?_
      refine zx_calli (zx_runV (As := [.int (nI (t))]) (rest := []) X hH mv_R_42 ((c_R_halfOf g l N ad E b sc ar hb hR (t) (by omega)) _) (by omega) hR.1 rfl ⟨Nat.le_of_ble_eq_true rfl, Nat.le_of_ble_eq_true rfl⟩ rfl hl rfl (Nat.le_of_ble_eq_true rfl) d_R_addDecision_13 ⟨Nat.le_of_ble_eq_true rfl, Nat.le_of_ble_eq_true rfl⟩) hH (fun r N1 ad1 E1 H locs hq hH => ?_)
      obtain ⟨rfl, rfl, rfl, rfl⟩ := hq
      refine lv_if_ne (tgt := 29) X.1 X.2.1 d_R_addDecision_16 (by decide) (fun c3 => ?_) (fun c3 => ?_)
      · have c3 := mt (zn_eq (nI_toInt (by omega)) zn_0).mpr c3
        refine lv_iconst (v := nI 0) X.1 X.2.1 d_R_addDecision_29 (by decide) ?_
        exact zx_zret X hr hlk hH (Nat.le_of_ble_eq_true rfl) (Nat.le_of_ble_eq_true rfl) d_R_addDecision_30 rfl ⟨rfl, rfl, Or.inl ⟨by omega, rfl, rfl⟩⟩
      · have c3 := (zn_eq (nI_toInt (by omega)) zn_0).mp c3
        refine lv_aload_n X.1 X.2.1 d_R_addDecision_19 rfl (lv_at hl 0 rfl) ?_
        refine lv_iload_n X.1 X.2.1 d_R_addDecision_20 rfl (lv_at hl 1 rfl) ?_
        refine lv_iconst (v := nI 1) X.1 X.2.1 d_R_addDecision_21 (by decide) ?_
        refine lv_iadd X.1 X.2.1 d_R_addDecision_22 ?_
        refine zx_top (nI_add _ _) ?_
        refine zx_calli (zx_runV (As := [.int (nI ((t) + (1)))]) (rest := []) X hH mv_R_42 ((c_R_halfOf g l N ad E b sc ar hb hR (t + 1) (by omega)) _) (by omega) hR.1 rfl ⟨Nat.le_of_ble_eq_true rfl, Nat.le_of_ble_eq_true rfl⟩ rfl hl rfl (Nat.le_of_ble_eq_true rfl) d_R_addDecision_23 ⟨Nat.le_of_ble_eq_true rfl, Nat.le_of_ble_eq_true rfl⟩) hH (fun r N1 ad1 E1 H locs hq hH => ?_)
        obtain ⟨rfl, rfl, rfl, rfl⟩ := hq
        refine lv_if_eq (tgt := 31) X.1 X.2.1 d_R_addDecision_26 (by decide) (fun c4 => ?_) (fun c4 => ?_)
        · have c4 := (zn_eq (nI_toInt (by omega)) zn_0).mp c4
          refine lv_aload_n X.1 X.2.1 d_R_addDecision_31 rfl (lv_at hl 0 rfl) ?_
          refine zx_get (v := .ref (ad (b + 4))) X hH fg_R_26 (by omega) hR.1 rfl d_R_addDecision_32 ?_
          refine lv_iload_n X.1 X.2.1 d_R_addDecision_35 rfl (lv_at hl 1 rfl) ?_
          refine lv_iconst (v := nI 1) X.1 X.2.1 d_R_addDecision_36 (by decide) ?_
          refine zx_iast (j := t) X hH (by omega) (show E (b + 4) = zr_ia g 101 (ar 3) from hR.2.2.2.2) rfl (by omega) (by decide) d_R_addDecision_37 (fun H locs hH => ?_)
          rw [zr_upd] at hH
          have hH : zw_H g A s.heap s N ad (va_up E (b + 4) (zr_ia g 101 (va_up (ar 3) (t) (1)))) H locs := hH
          have hR := hR.a3 (va_up (ar 3) (t) (1))
          have hF := hF.up (k := b + 4) (x := (zr_ia g 101 (va_up (ar 3) (t) (1)))) (by omega) (by omega)
          generalize va_up E (b + 4) (zr_ia g 101 (va_up (ar 3) (t) (1))) = E5 at hH hR hF
          refine lv_aload_n X.1 X.2.1 d_R_addDecision_38 rfl (lv_at hl 0 rfl) ?_
          refine zx_get (v := .ref (ad (b + 4))) X hH fg_R_26 (by omega) hR.1 rfl d_R_addDecision_39 ?_
          refine lv_iload_n X.1 X.2.1 d_R_addDecision_42 rfl (lv_at hl 1 rfl) ?_
          refine lv_iconst (v := nI 1) X.1 X.2.1 d_R_addDecision_43 (by decide) ?_
          refine lv_iadd X.1 X.2.1 d_R_addDecision_44 ?_
          refine zx_top (nI_add _ _) ?_
          refine lv_iconst (v := nI 2) X.1 X.2.1 d_R_addDecision_45 (by decide) ?_
          refine zx_iast (j := (t) + (1)) X hH (by omega) (show E5 (b + 4) = zr_ia g 101 (va_up (ar 3) (t) (1)) from hR.2.2.2.2) rfl (by omega) (by decide) d_R_addDecision_46 (fun H locs hH => ?_)
          rw [zr_upd] at hH
          have hH : zw_H g A s.heap s N ad (va_up E5 (b + 4) (zr_ia g 101 (va_up (va_up (ar 3) (t) (1)) ((t) + (1)) (2)))) H locs := hH
          have hR := hR.a3 (va_up (va_up (ar 3) (t) (1)) ((t) + (1)) (2))
          have hF := hF.up (k := b + 4) (x := (zr_ia g 101 (va_up (va_up (ar 3) (t) (1)) ((t) + (1)) (2)))) (by omega) (by omega)
          generalize va_up E5 (b + 4) (zr_ia g 101 (va_up (va_up (ar 3) (t) (1)) ((t) + (1)) (2))) = E6 at hH hR hF
          refine lv_iconst (v := nI 1) X.1 X.2.1 d_R_addDecision_47 (by decide) ?_
          exact zx_zret X hr hlk hH (Nat.le_of_ble_eq_true rfl) (Nat.le_of_ble_eq_true rfl) d_R_addDecision_48 rfl ⟨rfl, rfl, Or.inr ⟨by omega, rfl, hR, hF⟩⟩
        · have c4 := mt (zn_eq (nI_toInt (by omega)) zn_0).mpr c4
          refine lv_iconst (v := nI 0) X.1 X.2.1 d_R_addDecision_29 (by decide) ?_
          exact zx_zret X hr hlk hH (Nat.le_of_ble_eq_true rfl) (Nat.le_of_ble_eq_true rfl) d_R_addDecision_30 rfl ⟨rfl, rfl, Or.inl ⟨by omega, rfl, rfl⟩⟩

set_option maxHeartbeats 4000000 in
set_option maxRecDepth 100000 in
theorem c_R_endAs (g : zw_G) (l : Launch) (N : Nat) (ad : Nat → Nat) (E : Nat → va_E) (b : Nat) (sc : Nat → Nat) (ar : Nat → Nat → Nat) (hb : b + 5 ≤ N) (hR : zr_at g ad E b sc ar) (k : Nat) : zc_v g l y_R_endAs b_R_endAs 2 { frames := 0, cells := 0, slots := 0, locals := 0 } [.ref (ad (b)), .int (nI (k))] N ad E (fun N1 ad1 E1 => N = N1 ∧ ad = ad1 ∧ zr_at g ad E1 b (va_up (va_up sc 2 k) 6 (sc 6 + 1)) ar ∧ zr_fr E E1 b) := by
  refine zc_v.of (by decide) (Nat.le_of_ble_eq_true rfl) ?_
  intro p e s m below meth c ls A X hr hlk hnm hl hH
  have hl : lv_has ls 2 [(0, .ref (ad (b))), (1, .int (nI (k)))] := hl
  have hF : zr_fr E E b := zr_fr.rf
  refine lv_aload_n X.1 X.2.1 d_R_endAs_0 rfl (lv_at hl 0 rfl) ?_
  refine lv_iload_n X.1 X.2.1 d_R_endAs_1 rfl (lv_at hl 1 rfl) ?_
  refine zx_put X hH fp_R_9 (by omega) hR.1 (Nat.le_of_ble_eq_true rfl) rfl rfl d_R_endAs_2 (fun H locs hH => ?_)
  have hH : zw_H g A s.heap s N ad (va_up E b (zr_o ad b (va_up sc 2 (k)))) H locs := hH
  have hR := hR.sc (va_up sc 2 (k))
  have hF := hF.up (k := b) (x := zr_o ad b (va_up sc 2 (k))) (by omega) (by omega)
  generalize va_up E b (zr_o ad b (va_up sc 2 (k))) = E1 at hH hR hF
  refine lv_aload_n X.1 X.2.1 d_R_endAs_5 rfl (lv_at hl 0 rfl) ?_
  refine lv_dup X.1 X.2.1 d_R_endAs_6 rfl ?_
  refine zx_get (v := .int (nI (sc 6))) X hH fg_R_80 (by omega) hR.1 rfl d_R_endAs_7 ?_
  refine lv_iconst (v := nI 1) X.1 X.2.1 d_R_endAs_10 (by decide) ?_
  refine lv_iadd X.1 X.2.1 d_R_endAs_11 ?_
  refine zx_top (nI_add _ _) ?_
  refine zx_put X hH fp_R_80 (by omega) hR.1 (Nat.le_of_ble_eq_true rfl) rfl rfl d_R_endAs_12 (fun H locs hH => ?_)
  have hH : zw_H g A s.heap s N ad (va_up E1 b (zr_o ad b (va_up (va_up sc 2 (k)) 6 ((sc 6) + (1))))) H locs := hH
  have hR := hR.sc (va_up (va_up sc 2 (k)) 6 ((sc 6) + (1)))
  have hF := hF.up (k := b) (x := zr_o ad b (va_up (va_up sc 2 (k)) 6 ((sc 6) + (1)))) (by omega) (by omega)
  generalize va_up E1 b (zr_o ad b (va_up (va_up sc 2 (k)) 6 ((sc 6) + (1)))) = E2 at hH hR hF
  exact zx_vret X hr hlk hH (Nat.le_of_ble_eq_true rfl) (Nat.le_of_ble_eq_true rfl) d_R_endAs_15 ⟨rfl, rfl, hR, hF⟩

set_option maxHeartbeats 4000000 in
set_option maxRecDepth 100000 in
theorem c_R_backOut (g : zw_G) (l : Launch) (N : Nat) (ad : Nat → Nat) (E : Nat → va_E) (b : Nat) (sc : Nat → Nat) (ar : Nat → Nat → Nat) (hb : b + 5 ≤ N) (hR : zr_at g ad E b sc ar) (hok : zr_ok sc ar) (k : Nat) : zc_v g l y_R_backOut b_R_backOut 2 { frames := 1, cells := 0, slots := 0, locals := 40 } [.ref (ad (b)), .int (nI (k))] N ad E (fun N1 ad1 E1 => N = N1 ∧ ad = ad1 ∧ zr_at g ad E1 b (zp_back sc k) ar ∧ zr_fr E E1 b) := by
  refine zc_v.of (by decide) (Nat.le_of_ble_eq_true rfl) ?_
  intro p e s m below meth c ls A X hr hlk hnm hl hH
  have hl : lv_has ls 2 [(0, .ref (ad (b))), (1, .int (nI (k)))] := hl
  obtain ⟨k0, k1, k2, k3, k4, k5, k7, k8, k6⟩ := hok.1
  have hF : zr_fr E E b := zr_fr.rf
  refine lv_aload_n X.1 X.2.1 d_R_backOut_0 rfl (lv_at hl 0 rfl) ?_
  refine lv_aload_n X.1 X.2.1 d_R_backOut_1 rfl (lv_at hl 0 rfl) ?_
  refine zx_calli (zx_runV (As := []) (rest := [.ref (ad (b))]) X hH mv_R_70 ((c_R_openSteps g l N ad E b sc ar hb hR hok) _) (by omega) hR.1 rfl ⟨Nat.le_of_ble_eq_true rfl, Nat.le_of_ble_eq_true rfl⟩ rfl hl rfl (Nat.le_of_ble_eq_true rfl) d_R_backOut_2 ⟨Nat.le_of_ble_eq_true rfl, Nat.le_of_ble_eq_true rfl⟩) hH (fun r N1 ad1 E1 H locs hq hH => ?_)
  obtain ⟨rfl, rfl, rfl, rfl⟩ := hq
  refine zx_put X hH fp_R_74 (by omega) hR.1 (Nat.le_of_ble_eq_true rfl) rfl rfl d_R_backOut_5 (fun H locs hH => ?_)
  have hH : zw_H g A s.heap s N ad (va_up E b (zr_o ad b (va_up sc 5 (sc 3 - sc 4)))) H locs := hH
  have hR := hR.sc (va_up sc 5 (sc 3 - sc 4))
  have hF := hF.up (k := b) (x := zr_o ad b (va_up sc 5 (sc 3 - sc 4))) (by omega) (by omega)
  generalize va_up E b (zr_o ad b (va_up sc 5 (sc 3 - sc 4))) = E1 at hH hR hF
  refine lv_aload_n X.1 X.2.1 d_R_backOut_8 rfl (lv_at hl 0 rfl) ?_
  refine lv_iload_n X.1 X.2.1 d_R_backOut_9 rfl (lv_at hl 1 rfl) ?_
  refine zx_callv (zx_runV (As := [.int (nI (k))]) (rest := []) X hH mv_R_77 ((c_R_endAs g l N ad E1 b (va_up sc 5 (sc 3 - sc 4)) ar hb hR (k)) _) (by omega) hR.1 rfl ⟨Nat.le_of_ble_eq_true rfl, Nat.le_of_ble_eq_true rfl⟩ rfl hl rfl (Nat.le_of_ble_eq_true rfl) d_R_backOut_10 ⟨Nat.le_of_ble_eq_true rfl, Nat.le_of_ble_eq_true rfl⟩) hH (fun N1 ad1 E2 H locs hq hH => ?_)
  obtain ⟨rfl, rfl, hR, hF1⟩ := hq
  have hF := hF.tr hF1
  exact zx_vret X hr hlk hH (Nat.le_of_ble_eq_true rfl) (Nat.le_of_ble_eq_true rfl) d_R_backOut_13 ⟨rfl, rfl, hR, hF⟩

set_option maxHeartbeats 4000000 in
set_option maxRecDepth 100000 in
theorem c_R_doStep (g : zw_G) (l : Launch) (N : Nat) (ad : Nat → Nat) (E : Nat → va_E) (b : Nat) (sc : Nat → Nat) (ar : Nat → Nat → Nat) (hb : b + 5 ≤ N) (hR : zr_at g ad E b sc ar) (hok : zr_ok sc ar) (t : Nat) (ht : t ≤ 100) : zc_v g l y_R_doStep b_R_doStep 2 { frames := 1, cells := 0, slots := 0, locals := 40 } [.ref (ad (b)), .int (nI (t))] N ad E (fun N1 ad1 E1 => N = N1 ∧ ad = ad1 ∧ zr_at g ad E1 b (zp_step sc ar t) ar ∧ zr_fr E E1 b) := by
  refine zc_v.of (by decide) (Nat.le_of_ble_eq_true rfl) ?_
  intro p e s m below meth c ls A X hr hlk hnm hl hH
  have hl : lv_has ls 2 [(0, .ref (ad (b))), (1, .int (nI (t)))] := hl
  obtain ⟨k0, k1, k2, k3, k4, k5, k7, k8, k6⟩ := hok.1
  have k9 := hok.2.2.2.2 t
  have hF : zr_fr E E b := zr_fr.rf
  refine lv_aload_n X.1 X.2.1 d_R_doStep_0 rfl (lv_at hl 0 rfl) ?_
  refine lv_iload_n X.1 X.2.1 d_R_doStep_1 rfl (lv_at hl 1 rfl) ?_
  refine zx_put X hH fp_R_39 (by omega) hR.1 (Nat.le_of_ble_eq_true rfl) rfl rfl d_R_doStep_2 (fun H locs hH => ?_)
  have hH : zw_H g A s.heap s N ad (va_up E b (zr_o ad b (va_up sc 3 (t)))) H locs := hH
  have hR := hR.sc (va_up sc 3 (t))
  have hF := hF.up (k := b) (x := zr_o ad b (va_up sc 3 (t))) (by omega) (by omega)
  generalize va_up E b (zr_o ad b (va_up sc 3 (t))) = E1 at hH hR hF
  refine lv_aload_n X.1 X.2.1 d_R_doStep_5 rfl (lv_at hl 0 rfl) ?_
  refine lv_iload_n X.1 X.2.1 d_R_doStep_6 rfl (lv_at hl 1 rfl) ?_
  refine zx_calli (zx_runV (As := [.int (nI (t))]) (rest := []) X hH mv_R_42 ((c_R_halfOf g l N ad E1 b (va_up sc 3 (t)) ar hb hR t (by omega)) _) (by omega) hR.1 rfl ⟨Nat.le_of_ble_eq_true rfl, Nat.le_of_ble_eq_true rfl⟩ rfl hl rfl (Nat.le_of_ble_eq_true rfl) d_R_doStep_7 ⟨Nat.le_of_ble_eq_true rfl, Nat.le_of_ble_eq_true rfl⟩) hH (fun r N1 ad1 E1 H locs hq hH => ?_)
  obtain ⟨rfl, rfl, rfl, rfl⟩ := hq
  refine lv_iconst (v := nI 2) X.1 X.2.1 d_R_doStep_10 (by decide) ?_
  refine lv_icmp_ne (tgt := 19) X.1 X.2.1 d_R_doStep_11 (by decide) (fun c2 => ?_) (fun c2 => ?_)
  · have c2 := mt (zn_eq (nI_toInt (by omega)) (nI_toInt (by omega))).mpr c2
    refine lv_iload_n X.1 X.2.1 d_R_doStep_19 rfl (lv_at hl 1 rfl) ?_
    refine lv_aload_n X.1 X.2.1 d_R_doStep_20 rfl (lv_at hl 0 rfl) ?_
    refine zx_get (v := .int (nI (sc 0))) X hH fg_R_29 (by omega) hR.1 rfl d_R_doStep_21 ?_
    refine lv_icmp_lt (tgt := 32) X.1 X.2.1 d_R_doStep_24 (by decide) (fun c3 => ?_) (fun c3 => ?_)
    · have c3 := (zn_lt (nI_toInt (by omega)) (nI_toInt (by omega))).mp c3
      exact zx_vret X hr hlk hH (Nat.le_of_ble_eq_true rfl) (Nat.le_of_ble_eq_true rfl) d_R_doStep_32 ⟨rfl, rfl, (by unfold zp_step zp_s2; first | (rw [if_pos (by omega), if_pos (by omega)]; exact hR) | (rw [if_pos (by omega), if_neg (by omega)]; exact hR) | (rw [if_neg (by omega), if_pos (by omega)]; exact hR) | (rw [if_neg (by omega), if_neg (by omega)]; exact hR)), hF⟩
    · have c3 := mt (zn_lt (nI_toInt (by omega)) (nI_toInt (by omega))).mpr c3
      refine lv_aload_n X.1 X.2.1 d_R_doStep_27 rfl (lv_at hl 0 rfl) ?_
      refine lv_iconst (v := nI 1) X.1 X.2.1 d_R_doStep_28 (by decide) ?_
      refine zx_callv (zx_runV (As := [.int (nI (1))]) (rest := []) X hH mv_R_77 ((c_R_endAs g l N ad E1 b (va_up sc 3 (t)) ar hb hR (1)) _) (by omega) hR.1 rfl ⟨Nat.le_of_ble_eq_true rfl, Nat.le_of_ble_eq_true rfl⟩ rfl hl rfl (Nat.le_of_ble_eq_true rfl) d_R_doStep_29 ⟨Nat.le_of_ble_eq_true rfl, Nat.le_of_ble_eq_true rfl⟩) hH (fun N1 ad1 E4 H locs hq hH => ?_)
      obtain ⟨rfl, rfl, hR, hF1⟩ := hq
      have hF := hF.tr hF1
      exact zx_vret X hr hlk hH (Nat.le_of_ble_eq_true rfl) (Nat.le_of_ble_eq_true rfl) d_R_doStep_32 ⟨rfl, rfl, (by unfold zp_step zp_s2; first | (rw [if_pos (by omega), if_pos (by omega)]; exact hR) | (rw [if_pos (by omega), if_neg (by omega)]; exact hR) | (rw [if_neg (by omega), if_pos (by omega)]; exact hR) | (rw [if_neg (by omega), if_neg (by omega)]; exact hR)), hF⟩
  · have c2 := (zn_eq (nI_toInt (by omega)) (nI_toInt (by omega))).mp c2
    refine lv_aload_n X.1 X.2.1 d_R_doStep_14 rfl (lv_at hl 0 rfl) ?_
    refine lv_iload_n X.1 X.2.1 d_R_doStep_15 rfl (lv_at hl 1 rfl) ?_
    refine zx_put X hH fp_R_46 (by omega) hR.1 (Nat.le_of_ble_eq_true rfl) rfl rfl d_R_doStep_16 (fun H locs hH => ?_)
    have hH : zw_H g A s.heap s N ad (va_up E1 b (zr_o ad b (va_up (va_up sc 3 (t)) 4 (t)))) H locs := hH
    have hR := hR.sc (va_up (va_up sc 3 (t)) 4 (t))
    have hF := hF.up (k := b) (x := zr_o ad b (va_up (va_up sc 3 (t)) 4 (t))) (by omega) (by omega)
    generalize va_up E1 b (zr_o ad b (va_up (va_up sc 3 (t)) 4 (t))) = E5 at hH hR hF
    refine lv_iload_n X.1 X.2.1 d_R_doStep_19 rfl (lv_at hl 1 rfl) ?_
    refine lv_aload_n X.1 X.2.1 d_R_doStep_20 rfl (lv_at hl 0 rfl) ?_
    refine zx_get (v := .int (nI (sc 0))) X hH fg_R_29 (by omega) hR.1 rfl d_R_doStep_21 ?_
    refine lv_icmp_lt (tgt := 32) X.1 X.2.1 d_R_doStep_24 (by decide) (fun c6 => ?_) (fun c6 => ?_)
    · have c6 := (zn_lt (nI_toInt (by omega)) (nI_toInt (by omega))).mp c6
      exact zx_vret X hr hlk hH (Nat.le_of_ble_eq_true rfl) (Nat.le_of_ble_eq_true rfl) d_R_doStep_32 ⟨rfl, rfl, (by unfold zp_step zp_s2; first | (rw [if_pos (by omega), if_pos (by omega)]; exact hR) | (rw [if_pos (by omega), if_neg (by omega)]; exact hR) | (rw [if_neg (by omega), if_pos (by omega)]; exact hR) | (rw [if_neg (by omega), if_neg (by omega)]; exact hR)), hF⟩
    · have c6 := mt (zn_lt (nI_toInt (by omega)) (nI_toInt (by omega))).mpr c6
      refine lv_aload_n X.1 X.2.1 d_R_doStep_27 rfl (lv_at hl 0 rfl) ?_
      refine lv_iconst (v := nI 1) X.1 X.2.1 d_R_doStep_28 (by decide) ?_
      refine zx_callv (zx_runV (As := [.int (nI (1))]) (rest := []) X hH mv_R_77 ((c_R_endAs g l N ad E5 b (va_up (va_up sc 3 (t)) 4 (t)) ar hb hR (1)) _) (by omega) hR.1 rfl ⟨Nat.le_of_ble_eq_true rfl, Nat.le_of_ble_eq_true rfl⟩ rfl hl rfl (Nat.le_of_ble_eq_true rfl) d_R_doStep_29 ⟨Nat.le_of_ble_eq_true rfl, Nat.le_of_ble_eq_true rfl⟩) hH (fun N1 ad1 E7 H locs hq hH => ?_)
      obtain ⟨rfl, rfl, hR, hF1⟩ := hq
      have hF := hF.tr hF1
      exact zx_vret X hr hlk hH (Nat.le_of_ble_eq_true rfl) (Nat.le_of_ble_eq_true rfl) d_R_doStep_32 ⟨rfl, rfl, (by unfold zp_step zp_s2; first | (rw [if_pos (by omega), if_pos (by omega)]; exact hR) | (rw [if_pos (by omega), if_neg (by omega)]; exact hR) | (rw [if_neg (by omega), if_pos (by omega)]; exact hR) | (rw [if_neg (by omega), if_neg (by omega)]; exact hR)), hF⟩
end
section
theorem d_X_isEvent_0 : decode b_X_isEvent 0 = .ok (.iload_n 0, 1) := by decide +kernel
theorem d_X_isEvent_1 : decode b_X_isEvent 1 = .ok (.ifCond .lt 13, 3) := by decide +kernel
theorem d_X_isEvent_4 : decode b_X_isEvent 4 = .ok (.iload_n 0, 1) := by decide +kernel
theorem d_X_isEvent_5 : decode b_X_isEvent 5 = .ok (.bipush 16, 2) := by decide +kernel
theorem d_X_isEvent_7 : decode b_X_isEvent 7 = .ok (.if_icmp .ge 7, 3) := by decide +kernel
theorem d_X_isEvent_10 : decode b_X_isEvent 10 = .ok (.iconst 1, 1) := by decide +kernel
theorem d_X_isEvent_11 : decode b_X_isEvent 11 = .ok (.goto 4, 3) := by decide +kernel
theorem d_X_isEvent_14 : decode b_X_isEvent 14 = .ok (.iconst 0, 1) := by decide +kernel
theorem d_X_isEvent_15 : decode b_X_isEvent 15 = .ok (.ireturn, 1) := by decide +kernel
end
section
set_option maxHeartbeats 4000000 in
set_option maxRecDepth 100000 in
theorem c_X_isEvent (g : zw_G) (l : Launch) (N : Nat) (ad : Nat → Nat) (E : Nat → va_E) (x : Int32) : zc_i g l y_X_isEvent b_X_isEvent 1 (some .boolean) { frames := 0, cells := 0, slots := 0, locals := 0 } [.int (x)] N ad E (fun v N1 ad1 E1 => N = N1 ∧ ad = ad1 ∧ E = E1 ∧ v = nI (if 0 ≤ x.toInt ∧ x.toInt < 16 then 1 else 0)) := by
  refine zc_i.of (by decide) (Nat.le_of_ble_eq_true rfl) ?_
  intro p e s m below meth c ls A X hr hlk hl hH
  have hl : lv_has ls 1 [(0, .int (x))] := hl
  refine lv_iload_n X.1 X.2.1 d_X_isEvent_0 rfl (lv_at hl 0 rfl) ?_
  refine lv_if_lt (tgt := 14) X.1 X.2.1 d_X_isEvent_1 (by decide) (fun c1 => ?_) (fun c1 => ?_)
  · have c1 := (zn_lt rfl zn_0).mp c1
    refine lv_iconst (v := nI 0) X.1 X.2.1 d_X_isEvent_14 (by decide) ?_
    exact zx_zret X hr hlk hH (Nat.le_of_ble_eq_true rfl) (Nat.le_of_ble_eq_true rfl) d_X_isEvent_15 rfl ⟨rfl, rfl, rfl, (by first | rfl | (rw [if_pos (by omega)]) | (rw [if_neg (by omega)]))⟩
  · have c1 := mt (zn_lt rfl zn_0).mpr c1
    refine lv_iload_n X.1 X.2.1 d_X_isEvent_4 rfl (lv_at hl 0 rfl) ?_
    refine lv_bipush (v := nI 16) X.1 X.2.1 d_X_isEvent_5 (by decide) ?_
    refine lv_icmp_ge (tgt := 14) X.1 X.2.1 d_X_isEvent_7 (by decide) (fun c2 => ?_) (fun c2 => ?_)
    · have c2 := (zn_le (nI_toInt (by omega)) rfl).mp c2
      refine lv_iconst (v := nI 0) X.1 X.2.1 d_X_isEvent_14 (by decide) ?_
      exact zx_zret X hr hlk hH (Nat.le_of_ble_eq_true rfl) (Nat.le_of_ble_eq_true rfl) d_X_isEvent_15 rfl ⟨rfl, rfl, rfl, (by first | rfl | (rw [if_pos (by omega)]) | (rw [if_neg (by omega)]))⟩
    · have c2 := mt (zn_le (nI_toInt (by omega)) rfl).mpr c2
      refine lv_iconst (v := nI 1) X.1 X.2.1 d_X_isEvent_10 (by decide) ?_
      refine lv_goto (tgt := 15) X.1 X.2.1 d_X_isEvent_11 (by decide) ?_
      exact zx_zret X hr hlk hH (Nat.le_of_ble_eq_true rfl) (Nat.le_of_ble_eq_true rfl) d_X_isEvent_15 rfl ⟨rfl, rfl, rfl, (by first | rfl | (rw [if_pos (by omega)]) | (rw [if_neg (by omega)]))⟩

set_option maxHeartbeats 4000000 in
set_option maxRecDepth 100000 in
theorem c_V_untaken (g : zw_G) (l : Launch) (N : Nat) (ad : Nat → Nat) (E : Nat → va_E) (pe pp : Nat) (ev : Nat → Nat) (he : pe < N) (hp : pp < N) (hne : pe ≠ pp) (hV : ze_at g ad E pe pp ev) (t : Nat) (ht : t < 16) : zc_i g l y_V_untaken b_V_untaken 2 (some .int) { frames := 1, cells := 0, slots := 0, locals := 40 } [.ref (ad (pe)), .int (nI (t))] N ad E (fun v N1 ad1 E1 => N = N1 ∧ ad = ad1 ∧ E = E1 ∧ v = nI (ev t)) := by
  refine zc_i.of (by decide) (Nat.le_of_ble_eq_true rfl) ?_
  intro p e s m below meth c ls A X hr hlk hl hH
  have hl : lv_has ls 2 [(0, .ref (ad (pe))), (1, .int (nI (t)))] := hl
  refine lv_iload_n X.1 X.2.1 d_V_untaken_0 rfl (lv_at hl 1 rfl) ?_
  refine zx_calli (zx_runSN (As := [.int (nI (t))]) (rest := []) X hH ms_V_15 hH.1.2.2.1 ((c_X_isEvent g l N ad E ((nI (t)))) _) ⟨Nat.le_of_ble_eq_true rfl, Nat.le_of_ble_eq_true rfl⟩ rfl hl rfl (Nat.le_of_ble_eq_true rfl) d_V_untaken_1 ⟨Nat.le_of_ble_eq_true rfl, Nat.le_of_ble_eq_true rfl⟩) hH (fun r N1 ad1 E1 H locs hq hH => ?_)
  obtain ⟨rfl, rfl, rfl, rfl⟩ := hq
  have ee := nI_toInt (n := t) (by omega)
  refine zx_top (b := nI 1) (by rw [if_pos (by omega)]) ?_
  refine lv_if_eq (tgt := 16) X.1 X.2.1 d_V_untaken_4 (by decide) (fun c1 => ?_) (fun c1 => ?_)
  · have c1 := (zn_eq (nI_toInt (by omega)) zn_0).mp c1
    exfalso; omega
  · have c1 := mt (zn_eq (nI_toInt (by omega)) zn_0).mpr c1
    refine lv_aload_n X.1 X.2.1 d_V_untaken_7 rfl (lv_at hl 0 rfl) ?_
    refine zx_get (v := .ref (ad (pp))) X hH fg_V_9 (by omega) hV.1 rfl d_V_untaken_8 ?_
    refine lv_iload_n X.1 X.2.1 d_V_untaken_11 rfl (lv_at hl 1 rfl) ?_
    refine zx_iald (j := t) X hH (by omega) hV.2 rfl (by omega) (by decide) d_V_untaken_12 ?_
    refine lv_goto (tgt := 17) X.1 X.2.1 d_V_untaken_13 (by decide) ?_
    exact zx_iret X hr hlk hH (Nat.le_of_ble_eq_true rfl) (Nat.le_of_ble_eq_true rfl) d_V_untaken_17 ⟨rfl, rfl, rfl, rfl⟩

set_option maxHeartbeats 4000000 in
set_option maxRecDepth 100000 in
theorem c_V_addPosting (g : zw_G) (l : Launch) (N : Nat) (ad : Nat → Nat) (E : Nat → va_E) (pe pp : Nat) (ev : Nat → Nat) (he : pe < N) (hp : pp < N) (hne : pe ≠ pp) (hV : ze_at g ad E pe pp ev) (t : Nat) (ht : t < 16) (hv : ev t < 1000000) : zc_v g l y_V_addPosting b_V_addPosting 2 { frames := 1, cells := 0, slots := 0, locals := 40 } [.ref (ad (pe)), .int (nI (t))] N ad E (fun N1 ad1 E1 => N = N1 ∧ ad = ad1 ∧ va_up E pp (zr_ia g 16 (va_up ev t (ev t + 1))) = E1) := by
  refine zc_v.of (by decide) (Nat.le_of_ble_eq_true rfl) ?_
  intro p e s m below meth c ls A X hr hlk hnm hl hH
  have hl : lv_has ls 2 [(0, .ref (ad (pe))), (1, .int (nI (t)))] := hl
  refine lv_iload_n X.1 X.2.1 d_V_addPosting_0 rfl (lv_at hl 1 rfl) ?_
  refine zx_calli (zx_runSN (As := [.int (nI (t))]) (rest := []) X hH ms_V_15 hH.1.2.2.1 ((c_X_isEvent g l N ad E ((nI (t)))) _) ⟨Nat.le_of_ble_eq_true rfl, Nat.le_of_ble_eq_true rfl⟩ rfl hl rfl (Nat.le_of_ble_eq_true rfl) d_V_addPosting_1 ⟨Nat.le_of_ble_eq_true rfl, Nat.le_of_ble_eq_true rfl⟩) hH (fun r N1 ad1 E1 H locs hq hH => ?_)
  obtain ⟨rfl, rfl, rfl, rfl⟩ := hq
  have ee := nI_toInt (n := t) (by omega)
  refine zx_top (b := nI 1) (by rw [if_pos (by omega)]) ?_
  refine lv_if_eq (tgt := 17) X.1 X.2.1 d_V_addPosting_4 (by decide) (fun c1 => ?_) (fun c1 => ?_)
  · have c1 := (zn_eq (nI_toInt (by omega)) zn_0).mp c1
    exfalso; omega
  · have c1 := mt (zn_eq (nI_toInt (by omega)) zn_0).mpr c1
    refine lv_aload_n X.1 X.2.1 d_V_addPosting_7 rfl (lv_at hl 0 rfl) ?_
    refine zx_get (v := .ref (ad (pp))) X hH fg_V_9 (by omega) hV.1 rfl d_V_addPosting_8 ?_
    refine lv_iload_n X.1 X.2.1 d_V_addPosting_11 rfl (lv_at hl 1 rfl) ?_
    refine lv_dup2_11 X.1 X.2.1 d_V_addPosting_12 rfl rfl ?_
    refine zx_iald (j := t) X hH (by omega) hV.2 rfl (by omega) (by decide) d_V_addPosting_13 ?_
    refine lv_iconst (v := nI 1) X.1 X.2.1 d_V_addPosting_14 (by decide) ?_
    refine lv_iadd X.1 X.2.1 d_V_addPosting_15 ?_
    refine zx_top (nI_add _ _) ?_
    refine zx_iast (j := t) X hH (by omega) hV.2 rfl (by omega) (by decide) d_V_addPosting_16 (fun H locs hH => ?_)
    rw [zr_upd] at hH
    have hH : zw_H g A s.heap s N ad (va_up E pp (zr_ia g 16 (va_up ev (t) ((ev t) + (1))))) H locs := hH
    have hV := hV.up hne (va_up ev (t) ((ev t) + (1)))
    exact zx_vret X hr hlk hH (Nat.le_of_ble_eq_true rfl) (Nat.le_of_ble_eq_true rfl) d_V_addPosting_17 ⟨rfl, rfl, rfl⟩

set_option maxHeartbeats 4000000 in
set_option maxRecDepth 100000 in
theorem c_V_takePosting (g : zw_G) (l : Launch) (N : Nat) (ad : Nat → Nat) (E : Nat → va_E) (pe pp : Nat) (ev : Nat → Nat) (he : pe < N) (hp : pp < N) (hne : pe ≠ pp) (hV : ze_at g ad E pe pp ev) (t : Nat) (ht : t < 16) (hv : ev t < 1000000) : zc_i g l y_V_takePosting b_V_takePosting 2 (some .boolean) { frames := 1, cells := 0, slots := 0, locals := 40 } [.ref (ad (pe)), .int (nI (t))] N ad E (fun v N1 ad1 E1 => N = N1 ∧ ad = ad1 ∧ ((ev t = 0 ∧ v = nI 0 ∧ E = E1) ∨ (¬ ev t = 0 ∧ v = nI 1 ∧ va_up E pp (zr_ia g 16 (va_up ev t (ev t - 1))) = E1))) := by
  refine zc_i.of (by decide) (Nat.le_of_ble_eq_true rfl) ?_
  intro p e s m below meth c ls A X hr hlk hl hH
  have hl : lv_has ls 2 [(0, .ref (ad (pe))), (1, .int (nI (t)))] := hl
  refine lv_iload_n X.1 X.2.1 d_V_takePosting_0 rfl (lv_at hl 1 rfl) ?_
  refine zx_calli (zx_runSN (As := [.int (nI (t))]) (rest := []) X hH ms_V_15 hH.1.2.2.1 ((c_X_isEvent g l N ad E ((nI (t)))) _) ⟨Nat.le_of_ble_eq_true rfl, Nat.le_of_ble_eq_true rfl⟩ rfl hl rfl (Nat.le_of_ble_eq_true rfl) d_V_takePosting_1 ⟨Nat.le_of_ble_eq_true rfl, Nat.le_of_ble_eq_true rfl⟩) hH (fun r N1 ad1 E1 H locs hq hH => ?_)
  obtain ⟨rfl, rfl, rfl, rfl⟩ := hq
  have ee := nI_toInt (n := t) (by omega)
  refine zx_top (b := nI 1) (by rw [if_pos (by omega)]) ?_
  refine lv_if_eq (tgt := 16) X.1 X.2.1 d_V_takePosting_4 (by decide) (fun c1 => ?_) (fun c1 => ?_)
  · have c1 := (zn_eq (nI_toInt (by omega)) zn_0).mp c1
    exfalso; omega
  · have c1 := mt (zn_eq (nI_toInt (by omega)) zn_0).mpr c1
    refine lv_aload_n X.1 X.2.1 d_V_takePosting_7 rfl (lv_at hl 0 rfl) ?_
    refine zx_get (v := .ref (ad (pp))) X hH fg_V_9 (by omega) hV.1 rfl d_V_takePosting_8 ?_
    refine lv_iload_n X.1 X.2.1 d_V_takePosting_11 rfl (lv_at hl 1 rfl) ?_
    refine zx_iald (j := t) X hH (by omega) hV.2 rfl (by omega) (by decide) d_V_takePosting_12 ?_
    refine lv_if_gt (tgt := 18) X.1 X.2.1 d_V_takePosting_13 (by decide) (fun c2 => ?_) (fun c2 => ?_)
    · have c2 := (zn_lt zn_0 (nI_toInt (by omega))).mp c2
      refine lv_aload_n X.1 X.2.1 d_V_takePosting_18 rfl (lv_at hl 0 rfl) ?_
      refine zx_get (v := .ref (ad (pp))) X hH fg_V_9 (by omega) hV.1 rfl d_V_takePosting_19 ?_
      refine lv_iload_n X.1 X.2.1 d_V_takePosting_22 rfl (lv_at hl 1 rfl) ?_
      refine lv_dup2_11 X.1 X.2.1 d_V_takePosting_23 rfl rfl ?_
      refine zx_iald (j := t) X hH (by omega) hV.2 rfl (by omega) (by decide) d_V_takePosting_24 ?_
      refine lv_iconst (v := nI 1) X.1 X.2.1 d_V_takePosting_25 (by decide) ?_
      refine lv_isub X.1 X.2.1 d_V_takePosting_26 ?_
      refine zx_top (pk_sub (by omega)) ?_
      refine zx_iast (j := t) X hH (by omega) hV.2 rfl (by omega) (by decide) d_V_takePosting_27 (fun H locs hH => ?_)
      rw [zr_upd] at hH
      have hH : zw_H g A s.heap s N ad (va_up E pp (zr_ia g 16 (va_up ev (t) ((ev t) - (1))))) H locs := hH
      have hV := hV.up hne (va_up ev (t) ((ev t) - (1)))
      refine lv_iconst (v := nI 1) X.1 X.2.1 d_V_takePosting_28 (by decide) ?_
      exact zx_zret X hr hlk hH (Nat.le_of_ble_eq_true rfl) (Nat.le_of_ble_eq_true rfl) d_V_takePosting_29 rfl ⟨rfl, rfl, Or.inr ⟨by omega, rfl, rfl⟩⟩
    · have c2 := mt (zn_lt zn_0 (nI_toInt (by omega))).mpr c2
      refine lv_iconst (v := nI 0) X.1 X.2.1 d_V_takePosting_16 (by decide) ?_
      exact zx_zret X hr hlk hH (Nat.le_of_ble_eq_true rfl) (Nat.le_of_ble_eq_true rfl) d_V_takePosting_17 rfl ⟨rfl, rfl, Or.inl ⟨by omega, rfl, rfl⟩⟩

set_option maxHeartbeats 4000000 in
set_option maxRecDepth 100000 in
theorem c_R_takeWaitsAt (g : zw_G) (l : Launch) (N : Nat) (ad : Nat → Nat) (E : Nat → va_E) (b : Nat) (sc : Nat → Nat) (ar : Nat → Nat → Nat) (hb : b + 5 ≤ N) (hR : zr_at g ad E b sc ar) (hok : zr_ok sc ar) (pe pp : Nat) (ev : Nat → Nat) (he : pe < N) (hp : pp < N) (hne : pe ≠ pp) (hV : ze_at g ad E pe pp ev) (hpb : pp < b ∨ b + 5 ≤ pp) (hpe : pe < b ∨ b + 5 ≤ pe) (hev : ∀ j, ev j < 1000000) (t : Nat) (ht : t ≤ 101) : zc_i g l y_R_takeWaitsAt b_R_takeWaitsAt 4 (some .boolean) { frames := 2, cells := 0, slots := 0, locals := 80 } [.ref (ad (b)), .int (nI (t)), .ref (ad (pe))] N ad E (fun v N1 ad1 E1 => N = N1 ∧ ad = ad1 ∧ v = nI (if (zp_tw (ar 0) (ar 1) t (sc 8) 0 (ar 2) ev).1 = true then 1 else 0) ∧ zr_at g ad E1 b sc (va_up ar 2 (zp_tw (ar 0) (ar 1) t (sc 8) 0 (ar 2) ev).2.1) ∧ ze_at g ad E1 pe pp (zp_tw (ar 0) (ar 1) t (sc 8) 0 (ar 2) ev).2.2 ∧ zr_f3 E E1 b pp) := by
  refine zc_i.of (by decide) (Nat.le_of_ble_eq_true rfl) ?_
  intro p e s m below meth c ls A X hr hlk hl hH
  have hl : lv_has ls 4 [(0, .ref (ad (b))), (1, .int (nI (t))), (2, .ref (ad (pe)))] := hl
  obtain ⟨k0, k1, k2, k3, k4, k5, k7, k8, k6⟩ := hok.1
  refine lv_iconst (v := nI 0) X.1 X.2.1 d_R_takeWaitsAt_0 (by decide) ?_
  refine lv_istore_n (lv' := [(3, .int (nI (0))), (0, .ref (ad (b))), (1, .int (nI (t))), (2, .ref (ad (pe)))]) X.1 X.2.1 d_R_takeWaitsAt_1 rfl hl (by decide) rfl (fun ls hl => ?_)
  refine zx_loop (σ := Nat × (Nat → Nat) × (Nat → Nat) × (Nat → va_E)) (fun x H locs ls => x.1 ≤ sc 8 ∧ zr_at g ad x.2.2.2 b sc (va_up ar 2 x.2.1) ∧ ze_at g ad x.2.2.2 pe pp x.2.2.1 ∧ zr_f3 E x.2.2.2 b pp ∧ (∀ j, x.2.2.1 j < 1000000) ∧ (∀ j, x.2.1 j ≤ 1) ∧ zp_tw (ar 0) (ar 1) t (sc 8) 0 (ar 2) ev = zp_tw (ar 0) (ar 1) t (sc 8 - x.1) x.1 x.2.1 x.2.2.1 ∧ zw_H g A s.heap s N ad x.2.2.2 H locs ∧ lv_has ls 4 [(3, .int (nI x.1)), (0, .ref (ad b)), (1, .int (nI t)), (2, .ref (ad pe))]) (fun x => sc 8 - x.1) (fun _ => 0) (fun _ => 0) ?_ (0, ar 2, ev, E) _ _ _ ⟨Nat.zero_le _, hR.arr (zr_id ar 2), hV, zr_f3.rf, hev, hok.2.2.2.1, rfl, hH, hl⟩
  rintro ⟨i, tk, ev1, E1⟩ H locs ls ⟨hi, hR, hV, hF, hev, htk, hT, hH, hl⟩ ih
  dsimp only at hi hR hV hF hev htk hT hH hl ih
  have k10 := hok.2.1 i
  have k11 := hok.2.2.1 i
  have k12 := htk i
  refine lv_iload_n X.1 X.2.1 d_R_takeWaitsAt_2 rfl (lv_at hl 0 rfl) ?_
  refine lv_aload_n X.1 X.2.1 d_R_takeWaitsAt_3 rfl (lv_at hl 1 rfl) ?_
  refine zx_get (v := .int (nI (sc 8))) X hH fg_R_49 (by omega) hR.1 rfl d_R_takeWaitsAt_4 ?_
  refine lv_icmp_ge (tgt := 63) X.1 X.2.1 d_R_takeWaitsAt_7 (by decide) (fun c1 => ?_) (fun c1 => ?_)
  · have c1 := (zn_le (nI_toInt (by omega)) (nI_toInt (by omega))).mp c1
    refine lv_iconst (v := nI 1) X.1 X.2.1 d_R_takeWaitsAt_63 (by decide) ?_
    exact zx_zret X hr hlk hH (Nat.le_of_ble_eq_true rfl) (Nat.le_of_ble_eq_true rfl) d_R_takeWaitsAt_64 rfl ⟨rfl, rfl, by rw [hT, show sc 8 - i = 0 by omega, zp_tw_0]; exact ⟨rfl, hR, hV, hF⟩⟩
  · have c1 := mt (zn_le (nI_toInt (by omega)) (nI_toInt (by omega))).mpr c1
    refine lv_iload_n X.1 X.2.1 d_R_takeWaitsAt_10 rfl (lv_at hl 0 rfl) ?_
    refine lv_bipush (v := nI 20) X.1 X.2.1 d_R_takeWaitsAt_11 (by decide) ?_
    refine lv_icmp_ge (tgt := 63) X.1 X.2.1 d_R_takeWaitsAt_13 (by decide) (fun c2 => ?_) (fun c2 => ?_)
    · have c2 := (zn_le (nI_toInt (by omega)) (nI_toInt (by omega))).mp c2
      exfalso; omega
    · have c2 := mt (zn_le (nI_toInt (by omega)) (nI_toInt (by omega))).mpr c2
      refine lv_aload_n X.1 X.2.1 d_R_takeWaitsAt_16 rfl (lv_at hl 1 rfl) ?_
      refine zx_get (v := .ref (ad (b + 1))) X hH fg_R_15 (by omega) hR.1 rfl d_R_takeWaitsAt_17 ?_
      refine lv_iload_n X.1 X.2.1 d_R_takeWaitsAt_20 rfl (lv_at hl 0 rfl) ?_
      refine zx_iald (j := i) X hH (by omega) (show E1 (b + 1) = zr_ia g 20 (ar 0) from hR.2.1) rfl (by omega) (by decide) d_R_takeWaitsAt_21 ?_
      refine lv_iload_n X.1 X.2.1 d_R_takeWaitsAt_22 rfl (lv_at hl 2 rfl) ?_
      refine lv_icmp_ne (tgt := 57) X.1 X.2.1 d_R_takeWaitsAt_23 (by decide) (fun c3 => ?_) (fun c3 => ?_)
      · have c3 := mt (zn_eq (nI_toInt (by omega)) (nI_toInt (by omega))).mpr c3
        refine lv_iinc (v := nI (i + 1)) (lv' := [(3, .int (nI (i + 1))), (0, .ref (ad (b))), (1, .int (nI (t))), (2, .ref (ad (pe)))]) X.1 X.2.1 d_R_takeWaitsAt_57 hl (k := 0) rfl (nI_add _ _) (by decide) rfl (fun ls hl => ?_)
        refine lv_goto (tgt := 2) X.1 X.2.1 d_R_takeWaitsAt_60 (by decide) ?_
        exact ih (i + 1, tk, ev1, E1) _ _ _ ⟨by omega, hR, hV, hF, hev, htk, (hT.trans (by rw [show sc 8 - i = (sc 8 - (i + 1)) + 1 by omega]; exact zp_tw_no (by omega))), hH, lv_sub hl [0, 1, 2, 3] rfl⟩ (by show sc 8 - (i + 1) < sc 8 - i; omega)
      · have c3 := (zn_eq (nI_toInt (by omega)) (nI_toInt (by omega))).mp c3
        refine lv_aload_n X.1 X.2.1 d_R_takeWaitsAt_26 rfl (lv_at hl 1 rfl) ?_
        refine zx_get (v := .ref (ad (b + 3))) X hH fg_R_22 (by omega) hR.1 rfl d_R_takeWaitsAt_27 ?_
        refine lv_iload_n X.1 X.2.1 d_R_takeWaitsAt_30 rfl (lv_at hl 0 rfl) ?_
        refine zx_zald (j := i) X hH (by omega) (show E1 (b + 3) = zr_za g 20 (tk) from hR.2.2.2.1) rfl (by omega) (by decide) d_R_takeWaitsAt_31 ?_
        refine lv_if_ne (tgt := 57) X.1 X.2.1 d_R_takeWaitsAt_32 (by decide) (fun c4 => ?_) (fun c4 => ?_)
        · have c4 := mt (zn_eq (nI_toInt (by omega)) zn_0).mpr c4
          refine lv_iinc (v := nI (i + 1)) (lv' := [(3, .int (nI (i + 1))), (0, .ref (ad (b))), (1, .int (nI (t))), (2, .ref (ad (pe)))]) X.1 X.2.1 d_R_takeWaitsAt_57 hl (k := 0) rfl (nI_add _ _) (by decide) rfl (fun ls hl => ?_)
          refine lv_goto (tgt := 2) X.1 X.2.1 d_R_takeWaitsAt_60 (by decide) ?_
          exact ih (i + 1, tk, ev1, E1) _ _ _ ⟨by omega, hR, hV, hF, hev, htk, (hT.trans (by rw [show sc 8 - i = (sc 8 - (i + 1)) + 1 by omega]; exact zp_tw_no (by omega))), hH, lv_sub hl [0, 1, 2, 3] rfl⟩ (by show sc 8 - (i + 1) < sc 8 - i; omega)
        · have c4 := (zn_eq (nI_toInt (by omega)) zn_0).mp c4
          refine lv_aload_n X.1 X.2.1 d_R_takeWaitsAt_35 rfl (lv_at hl 3 rfl) ?_
          refine lv_aload_n X.1 X.2.1 d_R_takeWaitsAt_36 rfl (lv_at hl 1 rfl) ?_
          refine zx_get (v := .ref (ad (b + 2))) X hH fg_R_19 (by omega) hR.1 rfl d_R_takeWaitsAt_37 ?_
          refine lv_iload_n X.1 X.2.1 d_R_takeWaitsAt_40 rfl (lv_at hl 0 rfl) ?_
          refine zx_iald (j := i) X hH (by omega) (show E1 (b + 2) = zr_ia g 20 (ar 1) from hR.2.2.1) rfl (by omega) (by decide) d_R_takeWaitsAt_41 ?_
          refine zx_calli (zx_runV (As := [.int (nI (ar 1 i))]) (rest := []) X hH mv_R_83 ((c_V_takePosting g l N ad E1 pe pp ev1 he hp hne hV (ar 1 i) (hok.2.2.1 i) (hev (ar 1 i))) _) he hV.1 rfl ⟨Nat.le_of_ble_eq_true rfl, Nat.le_of_ble_eq_true rfl⟩ rfl hl rfl (Nat.le_of_ble_eq_true rfl) d_R_takeWaitsAt_42 ⟨Nat.le_of_ble_eq_true rfl, Nat.le_of_ble_eq_true rfl⟩) hH (fun r N1 ad1 E2 H locs hq hH => ?_)
          obtain ⟨rfl, rfl, hq⟩ := hq
          rcases hq with ⟨z1, rfl, rfl⟩ | ⟨z1, rfl, rfl⟩
          · refine lv_if_ne (tgt := 50) X.1 X.2.1 d_R_takeWaitsAt_45 (by decide) (fun z => absurd (by decide) z) (fun _ => ?_)
            refine lv_iconst (v := nI 0) X.1 X.2.1 d_R_takeWaitsAt_48 (by decide) ?_
            exact zx_zret X hr hlk hH (Nat.le_of_ble_eq_true rfl) (Nat.le_of_ble_eq_true rfl) d_R_takeWaitsAt_49 rfl ⟨rfl, rfl, by rw [hT, show sc 8 - i = (sc 8 - (i + 1)) + 1 by omega, zp_tw_stop ⟨by omega, by omega⟩ z1]; exact ⟨rfl, hR, hV, hF⟩⟩
          · refine lv_if_ne (tgt := 50) X.1 X.2.1 d_R_takeWaitsAt_45 (by decide) (fun _ => ?_) (fun z => absurd z (by decide))
            have hV := hV.up hne (va_up ev1 (ar 1 i) (ev1 (ar 1 i) - 1))
            have hR := hR.keep (E1 := va_up E1 pp (zr_ia g 16 (va_up ev1 (ar 1 i) (ev1 (ar 1 i) - 1)))) (fun k h1 h2 => va_up_ne _ _ (by omega))
            have hF := hF.up (k := pp) (x := zr_ia g 16 (va_up ev1 (ar 1 i) (ev1 (ar 1 i) - 1))) (Or.inr rfl)
            generalize va_up E1 pp (zr_ia g 16 (va_up ev1 (ar 1 i) (ev1 (ar 1 i) - 1))) = E2 at hH hV hR hF
            refine lv_aload_n X.1 X.2.1 d_R_takeWaitsAt_50 rfl (lv_at hl 1 rfl) ?_
            refine zx_get (v := .ref (ad (b + 3))) X hH fg_R_22 (by omega) hR.1 rfl d_R_takeWaitsAt_51 ?_
            refine lv_iload_n X.1 X.2.1 d_R_takeWaitsAt_54 rfl (lv_at hl 0 rfl) ?_
            refine lv_iconst (v := nI 1) X.1 X.2.1 d_R_takeWaitsAt_55 (by decide) ?_
            refine zx_zast (j := i) X hH (by omega) (show E2 (b + 3) = zr_za g 20 tk from hR.2.2.2.1) rfl (by omega) (by decide) (by decide) d_R_takeWaitsAt_56 (fun H locs hH => ?_)
            rw [zr_upd] at hH
            have hH : zw_H g A s.heap s N ad (va_up E2 (b + 3) (zr_za g 20 (va_up tk i 1))) H locs := hH
            have hR : zr_at g ad (va_up E2 (b + 3) (zr_za g 20 (va_up tk i 1))) b sc (va_up ar 2 (va_up tk i 1)) := (hR.a2 (va_up tk i 1)).arr (bx_uu _ _ _ _)
            have hV := hV.keep (E1 := va_up E2 (b + 3) (zr_za g 20 (va_up tk i 1))) (va_up_ne _ _ (by omega)) (va_up_ne _ _ (by omega))
            have hF := hF.up (k := b + 3) (x := zr_za g 20 (va_up tk i 1)) (Or.inl (by omega))
            have hev2 : ∀ j, va_up ev1 (ar 1 i) (ev1 (ar 1 i) - 1) j < 1000000 := fun j => by have := hev j; have := hev (ar 1 i); unfold va_up; split <;> omega
            have htk2 : ∀ j, va_up tk i 1 j ≤ 1 := fun j => by have := htk j; unfold va_up; split <;> omega
            refine lv_iinc (v := nI (i + 1)) (lv' := [(3, .int (nI (i + 1))), (0, .ref (ad (b))), (1, .int (nI (t))), (2, .ref (ad (pe)))]) X.1 X.2.1 d_R_takeWaitsAt_57 hl (k := 0) rfl (nI_add _ _) (by decide) rfl (fun ls hl => ?_)
            refine lv_goto (tgt := 2) X.1 X.2.1 d_R_takeWaitsAt_60 (by decide) ?_
            exact ih (i + 1, va_up tk i 1, va_up ev1 (ar 1 i) (ev1 (ar 1 i) - 1), va_up E2 (b + 3) (zr_za g 20 (va_up tk i 1))) _ _ _ ⟨by omega, hR, hV, hF, hev2, htk2, (hT.trans (by rw [show sc 8 - i = (sc 8 - (i + 1)) + 1 by omega]; exact zp_tw_take ⟨by omega, by omega⟩ z1)), hH, lv_sub hl [0, 1, 2, 3] rfl⟩ (by show sc 8 - (i + 1) < sc 8 - i; omega)

set_option maxHeartbeats 4000000 in
set_option maxRecDepth 100000 in
theorem c_R_takeTurn (g : zw_G) (l : Launch) (N : Nat) (ad : Nat → Nat) (E : Nat → va_E) (b : Nat) (sc : Nat → Nat) (ar : Nat → Nat → Nat) (hb : b + 5 ≤ N) (hR : zr_at g ad E b sc ar) (hok : zr_ok sc ar) (pe pp : Nat) (ev : Nat → Nat) (he : pe < N) (hp : pp < N) (hne : pe ≠ pp) (hV : ze_at g ad E pe pp ev) (hpb : pp < b ∨ b + 5 ≤ pp) (hpe : pe < b ∨ b + 5 ≤ pe) (hev : ∀ j, ev j < 1000000) : zc_i g l y_R_takeTurn b_R_takeTurn 3 (some .int) { frames := 3, cells := 0, slots := 0, locals := 120 } [.ref (ad (b)), .ref (ad (pe))] N ad E (fun v N1 ad1 E1 => N = N1 ∧ ad = ad1 ∧ v = nI (zp_turn sc ar ev).1 ∧ zr_at g ad E1 b (zp_turn sc ar ev).2.1 (zp_turn sc ar ev).2.2.1 ∧ ze_at g ad E1 pe pp (zp_turn sc ar ev).2.2.2 ∧ zr_f3 E E1 b pp) := by
  refine zc_i.of (by decide) (Nat.le_of_ble_eq_true rfl) ?_
  intro p e s m below meth c ls A X hr hlk hl hH
  have hl : lv_has ls 3 [(0, .ref (ad (b))), (1, .ref (ad (pe)))] := hl
  obtain ⟨k0, k1, k2, k3, k4, k5, k7, k8, k6⟩ := hok.1
  have k9 := hok.2.2.2.2 (sc 3)
  have hF : zr_f3 E E b pp := zr_f3.rf
  refine lv_aload_n X.1 X.2.1 d_R_takeTurn_0 rfl (lv_at hl 0 rfl) ?_
  refine zx_calli (zx_runV (As := []) (rest := []) X hH mv_R_35 ((c_R_goesOn g l N ad E b sc ar hb hR hok) _) (by omega) hR.1 rfl ⟨Nat.le_of_ble_eq_true rfl, Nat.le_of_ble_eq_true rfl⟩ rfl hl rfl (Nat.le_of_ble_eq_true rfl) d_R_takeTurn_1 ⟨Nat.le_of_ble_eq_true rfl, Nat.le_of_ble_eq_true rfl⟩) hH (fun r N1 ad1 E1 H locs hq hH => ?_)
  obtain ⟨rfl, rfl, rfl, rfl⟩ := hq
  by_cases d1 : sc 2 = 0
  · refine zx_top (b := nI 1) (by rw [if_pos d1]) ?_
    refine lv_if_ne (tgt := 9) X.1 X.2.1 d_R_takeTurn_4 (by decide) (fun z => ?_) (fun z => ?_)
    · clear z
      refine lv_aload_n X.1 X.2.1 d_R_takeTurn_9 rfl (lv_at hl 0 rfl) ?_
      refine zx_get (v := .int (nI (sc 7))) X hH fg_R_52 (by omega) hR.1 rfl d_R_takeTurn_10 ?_
      refine lv_if_eq (tgt := 30) X.1 X.2.1 d_R_takeTurn_13 (by decide) (fun c2 => ?_) (fun c2 => ?_)
      · have c2 := (zn_eq (nI_toInt (by omega)) zn_0).mp c2
        refine lv_aload_n X.1 X.2.1 d_R_takeTurn_30 rfl (lv_at hl 0 rfl) ?_
        refine zx_get (v := .int (nI (sc 3))) X hH fg_R_39 (by omega) hR.1 rfl d_R_takeTurn_31 ?_
        refine lv_iconst (v := nI 1) X.1 X.2.1 d_R_takeTurn_34 (by decide) ?_
        refine lv_iadd X.1 X.2.1 d_R_takeTurn_35 ?_
        refine zx_top (nI_add _ _) ?_
        refine lv_istore_n (lv' := [(2, .int (nI ((sc 3) + (1)))), (0, .ref (ad (b))), (1, .ref (ad (pe)))]) X.1 X.2.1 d_R_takeTurn_36 rfl hl (by decide) rfl (fun ls hl => ?_)
        refine lv_aload_n X.1 X.2.1 d_R_takeTurn_37 rfl (lv_at hl 1 rfl) ?_
        refine lv_iload_n X.1 X.2.1 d_R_takeTurn_38 rfl (lv_at hl 0 rfl) ?_
        refine lv_aload_n X.1 X.2.1 d_R_takeTurn_39 rfl (lv_at hl 2 rfl) ?_
        refine zx_calli (zx_runV (As := [.int (nI ((sc 3) + (1))), .ref (ad (pe))]) (rest := []) X hH mv_R_63 ((c_R_takeWaitsAt g l N ad E b sc ar hb hR hok pe pp ev he hp hne hV hpb hpe hev (sc 3 + 1) (by omega)) _) (by omega) hR.1 rfl ⟨Nat.le_of_ble_eq_true rfl, Nat.le_of_ble_eq_true rfl⟩ rfl hl rfl (Nat.le_of_ble_eq_true rfl) d_R_takeTurn_40 ⟨Nat.le_of_ble_eq_true rfl, Nat.le_of_ble_eq_true rfl⟩) hH (fun r N1 ad1 E8 H locs hq hH => ?_)
        obtain ⟨rfl, rfl, rfl, hR, hV, hF⟩ := hq
        have hok2 := zr_ok.tw hok (sc 3 + 1) ev
        by_cases dw : (zp_tw (ar 0) (ar 1) (sc 3 + 1) (sc 8) 0 (ar 2) ev).1 = true
        · refine zx_top (b := nI 1) (by rw [if_pos dw]) ?_
          refine lv_if_ne (tgt := 48) X.1 X.2.1 d_R_takeTurn_43 (by decide) (fun _ => ?_) (fun z => absurd z (by decide))
          refine lv_iload_n X.1 X.2.1 d_R_takeTurn_48 rfl (lv_at hl 0 rfl) ?_
          refine lv_aload_n X.1 X.2.1 d_R_takeTurn_49 rfl (lv_at hl 1 rfl) ?_
          refine zx_get (v := .int (nI (sc 1))) X hH fg_R_32 (by omega) hR.1 rfl d_R_takeTurn_50 ?_
          refine lv_icmp_ne (tgt := 63) X.1 X.2.1 d_R_takeTurn_53 (by decide) (fun c3 => ?_) (fun c3 => ?_)
          · have c3 := mt (zn_eq (nI_toInt (by omega)) (nI_toInt (by omega))).mpr c3
            refine lv_aload_n X.1 X.2.1 d_R_takeTurn_63 rfl (lv_at hl 1 rfl) ?_
            refine lv_iload_n X.1 X.2.1 d_R_takeTurn_64 rfl (lv_at hl 0 rfl) ?_
            refine zx_callv (zx_runV (As := [.int (nI ((sc 3) + (1)))]) (rest := []) X hH mv_R_67 ((c_R_doStep g l N ad E8 b sc (va_up ar 2 (zp_tw (ar 0) (ar 1) (sc 3 + 1) (sc 8) 0 (ar 2) ev).2.1) hb hR hok2 (sc 3 + 1) (by omega)) _) (by omega) hR.1 rfl ⟨Nat.le_of_ble_eq_true rfl, Nat.le_of_ble_eq_true rfl⟩ rfl hl rfl (Nat.le_of_ble_eq_true rfl) d_R_takeTurn_65 ⟨Nat.le_of_ble_eq_true rfl, Nat.le_of_ble_eq_true rfl⟩) hH (fun N1 ad1 E9 H locs hq hH => ?_)
            obtain ⟨rfl, rfl, hR, hF1⟩ := hq
            have hV := hV.keep (E1 := E9) (hF1 pe hpe) (hF1 pp hpb)
            have hF := hF.tf hF1
            refine lv_iconst (v := nI 1) X.1 X.2.1 d_R_takeTurn_68 (by decide) ?_
            exact zx_iret X hr hlk hH (Nat.le_of_ble_eq_true rfl) (Nat.le_of_ble_eq_true rfl) d_R_takeTurn_69 ⟨rfl, rfl, by rw [zp_turn_step (by omega) (by omega) dw (by omega)]; exact ⟨rfl, hR, hV, hF⟩⟩
          · have c3 := (zn_eq (nI_toInt (by omega)) (nI_toInt (by omega))).mp c3
            refine lv_aload_n X.1 X.2.1 d_R_takeTurn_56 rfl (lv_at hl 1 rfl) ?_
            refine lv_iconst (v := nI 2) X.1 X.2.1 d_R_takeTurn_57 (by decide) ?_
            refine zx_callv (zx_runV (As := [.int (nI (2))]) (rest := []) X hH mv_R_59 ((c_R_backOut g l N ad E8 b sc (va_up ar 2 (zp_tw (ar 0) (ar 1) (sc 3 + 1) (sc 8) 0 (ar 2) ev).2.1) hb hR hok2 2) _) (by omega) hR.1 rfl ⟨Nat.le_of_ble_eq_true rfl, Nat.le_of_ble_eq_true rfl⟩ rfl hl rfl (Nat.le_of_ble_eq_true rfl) d_R_takeTurn_58 ⟨Nat.le_of_ble_eq_true rfl, Nat.le_of_ble_eq_true rfl⟩) hH (fun N1 ad1 E9 H locs hq hH => ?_)
            obtain ⟨rfl, rfl, hR, hF1⟩ := hq
            have hV := hV.keep (E1 := E9) (hF1 pe hpe) (hF1 pp hpb)
            have hF := hF.tf hF1
            refine lv_iconst (v := nI 2) X.1 X.2.1 d_R_takeTurn_61 (by decide) ?_
            exact zx_iret X hr hlk hH (Nat.le_of_ble_eq_true rfl) (Nat.le_of_ble_eq_true rfl) d_R_takeTurn_62 ⟨rfl, rfl, by rw [zp_turn_fail (by omega) (by omega) dw (by omega)]; exact ⟨rfl, hR, hV, hF⟩⟩
        · refine zx_top (b := nI 0) (by rw [if_neg dw]) ?_
          refine lv_if_ne (tgt := 48) X.1 X.2.1 d_R_takeTurn_43 (by decide) (fun z => absurd (by decide) z) (fun _ => ?_)
          refine lv_iconst (v := nI 0) X.1 X.2.1 d_R_takeTurn_46 (by decide) ?_
          exact zx_iret X hr hlk hH (Nat.le_of_ble_eq_true rfl) (Nat.le_of_ble_eq_true rfl) d_R_takeTurn_47 ⟨rfl, rfl, by rw [zp_turn_wait (by omega) (by omega) dw]; exact ⟨rfl, hR, hV, hF⟩⟩
      · have c2 := mt (zn_eq (nI_toInt (by omega)) zn_0).mpr c2
        refine lv_aload_n X.1 X.2.1 d_R_takeTurn_16 rfl (lv_at hl 0 rfl) ?_
        refine zx_calli (zx_runV (As := []) (rest := []) X hH mv_R_56 ((c_R_isInside g l N ad E b sc ar hb hR hok) _) (by omega) hR.1 rfl ⟨Nat.le_of_ble_eq_true rfl, Nat.le_of_ble_eq_true rfl⟩ rfl hl rfl (Nat.le_of_ble_eq_true rfl) d_R_takeTurn_17 ⟨Nat.le_of_ble_eq_true rfl, Nat.le_of_ble_eq_true rfl⟩) hH (fun r N1 ad1 E1 H locs hq hH => ?_)
        obtain ⟨rfl, rfl, rfl, rfl⟩ := hq
        by_cases d4 : ar 3 (sc 3) = 1
        · refine zx_top (b := nI 1) (by rw [if_pos d4]) ?_
          refine lv_if_ne (tgt := 30) X.1 X.2.1 d_R_takeTurn_20 (by decide) (fun z => ?_) (fun z => ?_)
          · clear z
            refine lv_aload_n X.1 X.2.1 d_R_takeTurn_30 rfl (lv_at hl 0 rfl) ?_
            refine zx_get (v := .int (nI (sc 3))) X hH fg_R_39 (by omega) hR.1 rfl d_R_takeTurn_31 ?_
            refine lv_iconst (v := nI 1) X.1 X.2.1 d_R_takeTurn_34 (by decide) ?_
            refine lv_iadd X.1 X.2.1 d_R_takeTurn_35 ?_
            refine zx_top (nI_add _ _) ?_
            refine lv_istore_n (lv' := [(2, .int (nI ((sc 3) + (1)))), (0, .ref (ad (b))), (1, .ref (ad (pe)))]) X.1 X.2.1 d_R_takeTurn_36 rfl hl (by decide) rfl (fun ls hl => ?_)
            refine lv_aload_n X.1 X.2.1 d_R_takeTurn_37 rfl (lv_at hl 1 rfl) ?_
            refine lv_iload_n X.1 X.2.1 d_R_takeTurn_38 rfl (lv_at hl 0 rfl) ?_
            refine lv_aload_n X.1 X.2.1 d_R_takeTurn_39 rfl (lv_at hl 2 rfl) ?_
            refine zx_calli (zx_runV (As := [.int (nI ((sc 3) + (1))), .ref (ad (pe))]) (rest := []) X hH mv_R_63 ((c_R_takeWaitsAt g l N ad E b sc ar hb hR hok pe pp ev he hp hne hV hpb hpe hev (sc 3 + 1) (by omega)) _) (by omega) hR.1 rfl ⟨Nat.le_of_ble_eq_true rfl, Nat.le_of_ble_eq_true rfl⟩ rfl hl rfl (Nat.le_of_ble_eq_true rfl) d_R_takeTurn_40 ⟨Nat.le_of_ble_eq_true rfl, Nat.le_of_ble_eq_true rfl⟩) hH (fun r N1 ad1 E8 H locs hq hH => ?_)
            obtain ⟨rfl, rfl, rfl, hR, hV, hF⟩ := hq
            have hok2 := zr_ok.tw hok (sc 3 + 1) ev
            by_cases dw : (zp_tw (ar 0) (ar 1) (sc 3 + 1) (sc 8) 0 (ar 2) ev).1 = true
            · refine zx_top (b := nI 1) (by rw [if_pos dw]) ?_
              refine lv_if_ne (tgt := 48) X.1 X.2.1 d_R_takeTurn_43 (by decide) (fun _ => ?_) (fun z => absurd z (by decide))
              refine lv_iload_n X.1 X.2.1 d_R_takeTurn_48 rfl (lv_at hl 0 rfl) ?_
              refine lv_aload_n X.1 X.2.1 d_R_takeTurn_49 rfl (lv_at hl 1 rfl) ?_
              refine zx_get (v := .int (nI (sc 1))) X hH fg_R_32 (by omega) hR.1 rfl d_R_takeTurn_50 ?_
              refine lv_icmp_ne (tgt := 63) X.1 X.2.1 d_R_takeTurn_53 (by decide) (fun c5 => ?_) (fun c5 => ?_)
              · have c5 := mt (zn_eq (nI_toInt (by omega)) (nI_toInt (by omega))).mpr c5
                refine lv_aload_n X.1 X.2.1 d_R_takeTurn_63 rfl (lv_at hl 1 rfl) ?_
                refine lv_iload_n X.1 X.2.1 d_R_takeTurn_64 rfl (lv_at hl 0 rfl) ?_
                refine zx_callv (zx_runV (As := [.int (nI ((sc 3) + (1)))]) (rest := []) X hH mv_R_67 ((c_R_doStep g l N ad E8 b sc (va_up ar 2 (zp_tw (ar 0) (ar 1) (sc 3 + 1) (sc 8) 0 (ar 2) ev).2.1) hb hR hok2 (sc 3 + 1) (by omega)) _) (by omega) hR.1 rfl ⟨Nat.le_of_ble_eq_true rfl, Nat.le_of_ble_eq_true rfl⟩ rfl hl rfl (Nat.le_of_ble_eq_true rfl) d_R_takeTurn_65 ⟨Nat.le_of_ble_eq_true rfl, Nat.le_of_ble_eq_true rfl⟩) hH (fun N1 ad1 E9 H locs hq hH => ?_)
                obtain ⟨rfl, rfl, hR, hF1⟩ := hq
                have hV := hV.keep (E1 := E9) (hF1 pe hpe) (hF1 pp hpb)
                have hF := hF.tf hF1
                refine lv_iconst (v := nI 1) X.1 X.2.1 d_R_takeTurn_68 (by decide) ?_
                exact zx_iret X hr hlk hH (Nat.le_of_ble_eq_true rfl) (Nat.le_of_ble_eq_true rfl) d_R_takeTurn_69 ⟨rfl, rfl, by rw [zp_turn_step (by omega) (by omega) dw (by omega)]; exact ⟨rfl, hR, hV, hF⟩⟩
              · have c5 := (zn_eq (nI_toInt (by omega)) (nI_toInt (by omega))).mp c5
                refine lv_aload_n X.1 X.2.1 d_R_takeTurn_56 rfl (lv_at hl 1 rfl) ?_
                refine lv_iconst (v := nI 2) X.1 X.2.1 d_R_takeTurn_57 (by decide) ?_
                refine zx_callv (zx_runV (As := [.int (nI (2))]) (rest := []) X hH mv_R_59 ((c_R_backOut g l N ad E8 b sc (va_up ar 2 (zp_tw (ar 0) (ar 1) (sc 3 + 1) (sc 8) 0 (ar 2) ev).2.1) hb hR hok2 2) _) (by omega) hR.1 rfl ⟨Nat.le_of_ble_eq_true rfl, Nat.le_of_ble_eq_true rfl⟩ rfl hl rfl (Nat.le_of_ble_eq_true rfl) d_R_takeTurn_58 ⟨Nat.le_of_ble_eq_true rfl, Nat.le_of_ble_eq_true rfl⟩) hH (fun N1 ad1 E9 H locs hq hH => ?_)
                obtain ⟨rfl, rfl, hR, hF1⟩ := hq
                have hV := hV.keep (E1 := E9) (hF1 pe hpe) (hF1 pp hpb)
                have hF := hF.tf hF1
                refine lv_iconst (v := nI 2) X.1 X.2.1 d_R_takeTurn_61 (by decide) ?_
                exact zx_iret X hr hlk hH (Nat.le_of_ble_eq_true rfl) (Nat.le_of_ble_eq_true rfl) d_R_takeTurn_62 ⟨rfl, rfl, by rw [zp_turn_fail (by omega) (by omega) dw (by omega)]; exact ⟨rfl, hR, hV, hF⟩⟩
            · refine zx_top (b := nI 0) (by rw [if_neg dw]) ?_
              refine lv_if_ne (tgt := 48) X.1 X.2.1 d_R_takeTurn_43 (by decide) (fun z => absurd (by decide) z) (fun _ => ?_)
              refine lv_iconst (v := nI 0) X.1 X.2.1 d_R_takeTurn_46 (by decide) ?_
              exact zx_iret X hr hlk hH (Nat.le_of_ble_eq_true rfl) (Nat.le_of_ble_eq_true rfl) d_R_takeTurn_47 ⟨rfl, rfl, by rw [zp_turn_wait (by omega) (by omega) dw]; exact ⟨rfl, hR, hV, hF⟩⟩
          · exact absurd z (by decide)
        · refine zx_top (b := nI 0) (by rw [if_neg d4]) ?_
          refine lv_if_ne (tgt := 30) X.1 X.2.1 d_R_takeTurn_20 (by decide) (fun z => ?_) (fun z => ?_)
          · exact absurd z (by decide)
          · clear z
            refine lv_aload_n X.1 X.2.1 d_R_takeTurn_23 rfl (lv_at hl 0 rfl) ?_
            refine lv_iconst (v := nI 3) X.1 X.2.1 d_R_takeTurn_24 (by decide) ?_
            refine zx_callv (zx_runV (As := [.int (nI (3))]) (rest := []) X hH mv_R_59 ((c_R_backOut g l N ad E b sc ar hb hR hok 3) _) (by omega) hR.1 rfl ⟨Nat.le_of_ble_eq_true rfl, Nat.le_of_ble_eq_true rfl⟩ rfl hl rfl (Nat.le_of_ble_eq_true rfl) d_R_takeTurn_25 ⟨Nat.le_of_ble_eq_true rfl, Nat.le_of_ble_eq_true rfl⟩) hH (fun N1 ad1 E9 H locs hq hH => ?_)
            obtain ⟨rfl, rfl, hR, hF1⟩ := hq
            have hV := hV.keep (E1 := E9) (hF1 pe hpe) (hF1 pp hpb)
            have hF := hF.tf hF1
            refine lv_iconst (v := nI 2) X.1 X.2.1 d_R_takeTurn_28 (by decide) ?_
            exact zx_iret X hr hlk hH (Nat.le_of_ble_eq_true rfl) (Nat.le_of_ble_eq_true rfl) d_R_takeTurn_29 ⟨rfl, rfl, by rw [zp_turn_cancel (by omega) (by omega) (by omega)]; exact ⟨rfl, hR, hV, hF⟩⟩
    · exact absurd z (by decide)
  · refine zx_top (b := nI 0) (by rw [if_neg d1]) ?_
    refine lv_if_ne (tgt := 9) X.1 X.2.1 d_R_takeTurn_4 (by decide) (fun z => ?_) (fun z => ?_)
    · exact absurd z (by decide)
    · clear z
      refine lv_iconst (v := nI 0) X.1 X.2.1 d_R_takeTurn_7 (by decide) ?_
      exact zx_iret X hr hlk hH (Nat.le_of_ble_eq_true rfl) (Nat.le_of_ble_eq_true rfl) d_R_takeTurn_8 ⟨rfl, rfl, by rw [zp_turn_off (by omega)]; exact ⟨rfl, hR, hV, hF⟩⟩
end
section
theorem zj_min_l : Cond.methodLink zN_J 304 Lib.Math.min.name ∈ zt_U := (zt_in (List.mem_of_getElem? (i := 198) (by decide +kernel)) rfl)
theorem zj_min_s : Cond.static Lib.Math.min.name ∈ zt_U := (zt_in (List.mem_of_getElem? (i := 199) (by decide +kernel)) rfl)
theorem zj_min_i : Cond.initialized "java/lang/Math" ∈ zt_U := (zt_in (List.mem_of_getElem? (i := 25) (by decide +kernel)) rfl)
theorem zj_min_c : Cond.code Lib.Math.min.name Lib.Math.min.code 2 (some .int) ∈ zt_U := (zt_in (List.mem_of_getElem? (i := 200) (by decide +kernel)) rfl)
theorem zj_cpy_l : Cond.methodLink zN_J 150 arraycopyName ∈ zt_U := (zt_in (List.mem_of_getElem? (i := 201) (by decide +kernel)) rfl)
theorem zj_cpy_s : Cond.static arraycopyName ∈ zt_U := (zt_in (List.mem_of_getElem? (i := 202) (by decide +kernel)) rfl)
theorem zj_cpy_n : Cond.native arraycopyName ∈ zt_U := (zt_in (List.mem_of_getElem? (i := 203) (by decide +kernel)) rfl)
theorem zj_cpy_i : Cond.initialized "java/lang/System" ∈ zt_U := (zt_in (List.mem_of_getElem? (i := 26) (by decide +kernel)) rfl)
theorem d_J_copyOf_0 : decode b_J_copyOf 0 = .ok (.iload_n 1, 1) := by decide +kernel
theorem d_J_copyOf_1 : decode b_J_copyOf 1 = .ok (.aload_n 0, 1) := by decide +kernel
theorem d_J_copyOf_2 : decode b_J_copyOf 2 = .ok (.arraylength, 1) := by decide +kernel
theorem d_J_copyOf_3 : decode b_J_copyOf 3 = .ok (.if_icmp .ne 11, 3) := by decide +kernel
theorem d_J_copyOf_6 : decode b_J_copyOf 6 = .ok (.aload_n 0, 1) := by decide +kernel
theorem d_J_copyOf_7 : decode b_J_copyOf 7 = .ok (.invokevirtual 316, 3) := by decide +kernel
theorem d_J_copyOf_10 : decode b_J_copyOf 10 = .ok (.checkcast 317, 3) := by decide +kernel
theorem d_J_copyOf_13 : decode b_J_copyOf 13 = .ok (.areturn, 1) := by decide +kernel
theorem d_J_copyOf_14 : decode b_J_copyOf 14 = .ok (.iload_n 1, 1) := by decide +kernel
theorem d_J_copyOf_15 : decode b_J_copyOf 15 = .ok (.newarray .int, 2) := by decide +kernel
theorem d_J_copyOf_17 : decode b_J_copyOf 17 = .ok (.astore_n 2, 1) := by decide +kernel
theorem d_J_copyOf_18 : decode b_J_copyOf 18 = .ok (.aload_n 0, 1) := by decide +kernel
theorem d_J_copyOf_19 : decode b_J_copyOf 19 = .ok (.iconst 0, 1) := by decide +kernel
theorem d_J_copyOf_20 : decode b_J_copyOf 20 = .ok (.aload_n 2, 1) := by decide +kernel
theorem d_J_copyOf_21 : decode b_J_copyOf 21 = .ok (.iconst 0, 1) := by decide +kernel
theorem d_J_copyOf_22 : decode b_J_copyOf 22 = .ok (.aload_n 0, 1) := by decide +kernel
theorem d_J_copyOf_23 : decode b_J_copyOf 23 = .ok (.arraylength, 1) := by decide +kernel
theorem d_J_copyOf_24 : decode b_J_copyOf 24 = .ok (.iload_n 1, 1) := by decide +kernel
theorem d_J_copyOf_25 : decode b_J_copyOf 25 = .ok (.invokestatic 304, 3) := by decide +kernel
theorem d_J_copyOf_28 : decode b_J_copyOf 28 = .ok (.invokestatic 150, 3) := by decide +kernel
theorem d_J_copyOf_31 : decode b_J_copyOf 31 = .ok (.aload_n 2, 1) := by decide +kernel
theorem d_J_copyOf_32 : decode b_J_copyOf 32 = .ok (.areturn, 1) := by decide +kernel
theorem d_K_min_0 : decode b_K_min 0 = .ok (.iload_n 0, 1) := by decide +kernel
theorem d_K_min_1 : decode b_K_min 1 = .ok (.iload_n 1, 1) := by decide +kernel
theorem d_K_min_2 : decode b_K_min 2 = .ok (.if_icmp .gt 7, 3) := by decide +kernel
theorem d_K_min_5 : decode b_K_min 5 = .ok (.iload_n 0, 1) := by decide +kernel
theorem d_K_min_6 : decode b_K_min 6 = .ok (.goto 4, 3) := by decide +kernel
theorem d_K_min_9 : decode b_K_min 9 = .ok (.iload_n 1, 1) := by decide +kernel
theorem d_K_min_10 : decode b_K_min 10 = .ok (.ireturn, 1) := by decide +kernel
set_option maxHeartbeats 4000000 in
set_option maxRecDepth 100000 in
/-- Arrays.copyOf(a, nn), nn greater than a's length: a new array, a's numbers first -/
theorem c_J_copyOf (g : zw_G) (l : Launch) (N : Nat) (ad : Nat → Nat) (E : Nat → va_E) (pn cap nn : Nat) (f : Nat → Nat) (hpn : pn < N) (h1 : cap < nn) (h2 : nn ≤ 2000000) (hE : E pn = zr_ia g cap f) : zc_q g l y_J_copyOf b_J_copyOf 3 (some (.array .int)) { frames := 1, cells := 1, slots := nn, locals := 40 } [.ref (ad pn), .int (nI nn)] N ad E (fun v N1 ad1 E1 => N + 1 = N1 ∧ ∃ qa, va_up ad N qa = ad1 ∧ v = some qa ∧ va_up E N (zr_ia g nn (fun j => if j < cap then f j else 0)) = E1) := by
  refine zc_q.of (by decide) (Nat.le_of_ble_eq_true rfl) ?_
  intro p e s m below meth c ls A X hr hlk hl hH
  have hl : lv_has ls 3 [(0, .ref (ad pn)), (1, .int (nI nn))] := hl
  refine lv_iload_n X.1 X.2.1 d_J_copyOf_0 rfl (lv_at hl 1 rfl) ?_
  refine lv_aload_n X.1 X.2.1 d_J_copyOf_1 rfl (lv_at hl 0 rfl) ?_
  refine zx_alen X hH hpn hE d_J_copyOf_2 ?_
  refine lv_icmp_ne (tgt := 14) X.1 X.2.1 d_J_copyOf_3 (by decide) (fun c1 => ?_) (fun c1 => ?_)
  · clear c1
    refine lv_iload_n X.1 X.2.1 d_J_copyOf_14 rfl (lv_at hl 1 rfl) ?_
    refine zx_newi (j := nn) X hH zw_arrI rfl (by omega) (Nat.le_of_ble_eq_true rfl) (by show 0 + nn ≤ nn; omega) d_J_copyOf_15 (fun qa H hH => ?_)
    obtain ⟨ad2, had2⟩ : ∃ x, x = va_up ad N qa := ⟨_, rfl⟩
    obtain ⟨E2, hE2⟩ : ∃ x, x = va_up E N (zr_ia g nn (fun _ => 0)) := ⟨_, rfl⟩
    have hH : zw_H g A s.heap s (N + 1) (va_up ad N qa) (va_up E N (zr_ia g nn (fun _ => 0))) H [] := hH
    rw [← had2, ← hE2] at hH
    have a2 : ∀ k, k < N → ad2 k = ad k := fun k hk => by rw [had2]; exact va_up_ne _ _ (by omega)
    have b2 : ∀ k, k < N → E2 k = E k := fun k hk => by rw [hE2]; exact va_up_ne _ _ (by omega)
    have b2N : E2 N = zr_ia g nn (fun _ => 0) := by rw [hE2]; exact va_up_self _ _ _
    have a2N : ad2 N = qa := by rw [had2]; exact va_up_self _ _ _
    refine W.eq (g2 := F0 m 17 ls [.ref (ad2 N)]) (by rw [had2]) ?_
    refine lv_astore_n (lv' := [(2, .ref (ad2 N)), (0, .ref (ad pn)), (1, .int (nI nn))]) X.1 X.2.1 d_J_copyOf_17 rfl hl (by decide) rfl (fun ls hl => ?_)
    rw [← a2 pn hpn] at hl
    refine lv_aload_n X.1 X.2.1 d_J_copyOf_18 rfl (lv_at hl 1 rfl) ?_
    refine lv_iconst (v := nI 0) X.1 X.2.1 d_J_copyOf_19 (by decide) ?_
    refine lv_aload_n X.1 X.2.1 d_J_copyOf_20 rfl (lv_at hl 0 rfl) ?_
    refine lv_iconst (v := nI 0) X.1 X.2.1 d_J_copyOf_21 (by decide) ?_
    refine lv_aload_n X.1 X.2.1 d_J_copyOf_22 rfl (lv_at hl 1 rfl) ?_
    refine zx_alen X hH (show pn < N + 1 by omega) ((b2 pn hpn).trans hE) d_J_copyOf_23 ?_
    refine lv_iload_n X.1 X.2.1 d_J_copyOf_24 rfl (lv_at hl 2 rfl) ?_
    have ht := X.2.2.2.2
    refine va_mmin X.1 X.2.1 (X.2.2.1.trans hl.1.symm) X.2.2.2.1 (ht _ zj_min_l) (ht _ zj_min_s) (ht _ zj_min_i) (ht _ zj_min_c) (Nat.le_of_ble_eq_true rfl) (Nat.le_of_ble_eq_true rfl) (Nat.le_of_ble_eq_true rfl) (by show 0 + nn ≤ nn; omega) d_J_copyOf_25 ?_
    refine zx_top (b := nI cap) (by rw [if_neg]; exact mt (zn_lt (nI_toInt (by omega)) (nI_toInt (by omega))).mp (by omega)) ?_
    refine va_copyi (D := g.1) (ty := .int) X.1 X.2.1 (X.2.2.1.trans hl.1.symm) X.2.2.2.1 (ht _ zj_cpy_l) (ht _ zj_cpy_n) (ht _ zj_cpy_s) (ht _ zj_cpy_i) hH.1.1 hH.2.1 hH.2.2.1 hH.2.2.2.1 pn N 0 0 (by rw [zw_get (show pn < N + 1 by omega), b2 pn hpn, hE]; rfl) (by rw [zw_get (Nat.lt_succ_self N), b2N]; rfl) rfl rfl rfl (nI_pos (by omega)) (nI_pos (by omega)) (nI_pos (by omega)) (by rw [nI_clamp (by omega), nI_clamp (by omega)]; omega) (by rw [nI_clamp (by omega), nI_clamp (by omega)]; omega) (fun _ _ => rfl) (Nat.le_of_ble_eq_true rfl) (Nat.le_of_ble_eq_true rfl) d_J_copyOf_28 (fun H locs hP hD hS => ?_)
    rw [nI_clamp (by omega), nI_clamp (by omega), zw_set] at hP hD
    have hH : zw_H g A s.heap s (N + 1) ad2 _ H locs := ⟨hH.1, hP, hD, hS, hH.2.2.2.2⟩
    refine lv_aload_n X.1 X.2.1 d_J_copyOf_31 rfl (lv_at hl 0 rfl) ?_
    refine zx_aret (v := some (ad2 N)) X hr (Or.inr ⟨_, rfl⟩) hlk hH rfl (Nat.le_of_ble_eq_true rfl) (by show 0 + nn ≤ nn; omega) d_J_copyOf_32 ⟨rfl, qa, had2.symm, by rw [a2N], ?_⟩
    have e : va_cpy (fun j => nI (f j)) (fun _ => nI 0) 0 0 cap = fun j => nI (if j < cap then f j else 0) := by
      funext j
      unfold va_cpy
      by_cases hj : j < cap
      · rw [if_pos ⟨Nat.zero_le _, by omega⟩, if_pos hj, Nat.sub_zero, Nat.zero_add]
      · rw [if_neg (by omega), if_neg hj]
    rw [e, hE2]
    exact (bx_uu _ _ _ _).symm
  · exfalso
    have c1 := (zn_eq (nI_toInt (by omega)) (nI_toInt (by omega))).mp c1
    omega
end
section
theorem d_O_init_0 : decode b_O_init 0 = .ok (.aload_n 0, 1) := by decide +kernel
theorem d_O_init_1 : decode b_O_init 1 = .ok (.invokespecial 1, 3) := by decide +kernel
theorem d_O_init_4 : decode b_O_init 4 = .ok (.aload_n 0, 1) := by decide +kernel
theorem d_O_init_5 : decode b_O_init 5 = .ok (.bipush 16, 2) := by decide +kernel
theorem d_O_init_7 : decode b_O_init 7 = .ok (.newarray .int, 2) := by decide +kernel
theorem d_O_init_9 : decode b_O_init 9 = .ok (.putfield 9, 3) := by decide +kernel
theorem d_O_init_12 : decode b_O_init 12 = .ok (.aload_n 0, 1) := by decide +kernel
theorem d_O_init_13 : decode b_O_init 13 = .ok (.iload_n 1, 1) := by decide +kernel
theorem d_O_init_14 : decode b_O_init 14 = .ok (.putfield 13, 3) := by decide +kernel
theorem d_O_init_17 : decode b_O_init 17 = .ok (.return_, 1) := by decide +kernel
theorem d_O_append_0 : decode b_O_append 0 = .ok (.aload_n 0, 1) := by decide +kernel
theorem d_O_append_1 : decode b_O_append 1 = .ok (.getfield 17, 3) := by decide +kernel
theorem d_O_append_4 : decode b_O_append 4 = .ok (.aload_n 0, 1) := by decide +kernel
theorem d_O_append_5 : decode b_O_append 5 = .ok (.getfield 13, 3) := by decide +kernel
theorem d_O_append_8 : decode b_O_append 8 = .ok (.if_icmp .lt 4, 3) := by decide +kernel
theorem d_O_append_11 : decode b_O_append 11 = .ok (.return_, 1) := by decide +kernel
theorem d_O_append_12 : decode b_O_append 12 = .ok (.aload_n 0, 1) := by decide +kernel
theorem d_O_append_13 : decode b_O_append 13 = .ok (.getfield 17, 3) := by decide +kernel
theorem d_O_append_16 : decode b_O_append 16 = .ok (.aload_n 0, 1) := by decide +kernel
theorem d_O_append_17 : decode b_O_append 17 = .ok (.getfield 9, 3) := by decide +kernel
theorem d_O_append_20 : decode b_O_append 20 = .ok (.arraylength, 1) := by decide +kernel
theorem d_O_append_21 : decode b_O_append 21 = .ok (.if_icmp .lt 21, 3) := by decide +kernel
theorem d_O_append_24 : decode b_O_append 24 = .ok (.aload_n 0, 1) := by decide +kernel
theorem d_O_append_25 : decode b_O_append 25 = .ok (.aload_n 0, 1) := by decide +kernel
theorem d_O_append_26 : decode b_O_append 26 = .ok (.getfield 9, 3) := by decide +kernel
theorem d_O_append_29 : decode b_O_append 29 = .ok (.iconst 2, 1) := by decide +kernel
theorem d_O_append_30 : decode b_O_append 30 = .ok (.aload_n 0, 1) := by decide +kernel
theorem d_O_append_31 : decode b_O_append 31 = .ok (.getfield 9, 3) := by decide +kernel
theorem d_O_append_34 : decode b_O_append 34 = .ok (.arraylength, 1) := by decide +kernel
theorem d_O_append_35 : decode b_O_append 35 = .ok (.imul, 1) := by decide +kernel
theorem d_O_append_36 : decode b_O_append 36 = .ok (.invokestatic 20, 3) := by decide +kernel
theorem d_O_append_39 : decode b_O_append 39 = .ok (.putfield 9, 3) := by decide +kernel
theorem d_O_append_42 : decode b_O_append 42 = .ok (.aload_n 0, 1) := by decide +kernel
theorem d_O_append_43 : decode b_O_append 43 = .ok (.getfield 9, 3) := by decide +kernel
theorem d_O_append_46 : decode b_O_append 46 = .ok (.aload_n 0, 1) := by decide +kernel
theorem d_O_append_47 : decode b_O_append 47 = .ok (.getfield 17, 3) := by decide +kernel
theorem d_O_append_50 : decode b_O_append 50 = .ok (.iload_n 1, 1) := by decide +kernel
theorem d_O_append_51 : decode b_O_append 51 = .ok (.iastore, 1) := by decide +kernel
theorem d_O_append_52 : decode b_O_append 52 = .ok (.aload_n 0, 1) := by decide +kernel
theorem d_O_append_53 : decode b_O_append 53 = .ok (.dup, 1) := by decide +kernel
theorem d_O_append_54 : decode b_O_append 54 = .ok (.getfield 17, 3) := by decide +kernel
theorem d_O_append_57 : decode b_O_append 57 = .ok (.iconst 1, 1) := by decide +kernel
theorem d_O_append_58 : decode b_O_append 58 = .ok (.iadd, 1) := by decide +kernel
theorem d_O_append_59 : decode b_O_append 59 = .ok (.putfield 17, 3) := by decide +kernel
theorem d_O_append_62 : decode b_O_append 62 = .ok (.return_, 1) := by decide +kernel
theorem d_O_at_0 : decode b_O_at 0 = .ok (.iload_n 1, 1) := by decide +kernel
theorem d_O_at_1 : decode b_O_at 1 = .ok (.ifCond .lt 20, 3) := by decide +kernel
theorem d_O_at_4 : decode b_O_at 4 = .ok (.iload_n 1, 1) := by decide +kernel
theorem d_O_at_5 : decode b_O_at 5 = .ok (.aload_n 0, 1) := by decide +kernel
theorem d_O_at_6 : decode b_O_at 6 = .ok (.getfield 17, 3) := by decide +kernel
theorem d_O_at_9 : decode b_O_at 9 = .ok (.if_icmp .ge 12, 3) := by decide +kernel
theorem d_O_at_12 : decode b_O_at 12 = .ok (.iload_n 1, 1) := by decide +kernel
theorem d_O_at_13 : decode b_O_at 13 = .ok (.aload_n 0, 1) := by decide +kernel
theorem d_O_at_14 : decode b_O_at 14 = .ok (.getfield 9, 3) := by decide +kernel
theorem d_O_at_17 : decode b_O_at 17 = .ok (.arraylength, 1) := by decide +kernel
theorem d_O_at_18 : decode b_O_at 18 = .ok (.if_icmp .lt 7, 3) := by decide +kernel
theorem d_O_at_21 : decode b_O_at 21 = .ok (.iconst 0, 1) := by decide +kernel
theorem d_O_at_22 : decode b_O_at 22 = .ok (.goto 9, 3) := by decide +kernel
theorem d_O_at_25 : decode b_O_at 25 = .ok (.aload_n 0, 1) := by decide +kernel
theorem d_O_at_26 : decode b_O_at 26 = .ok (.getfield 9, 3) := by decide +kernel
theorem d_O_at_29 : decode b_O_at 29 = .ok (.iload_n 1, 1) := by decide +kernel
theorem d_O_at_30 : decode b_O_at 30 = .ok (.iaload, 1) := by decide +kernel
theorem d_O_at_31 : decode b_O_at 31 = .ok (.ireturn, 1) := by decide +kernel
theorem d_O_makeEmpty_0 : decode b_O_makeEmpty 0 = .ok (.aload_n 0, 1) := by decide +kernel
theorem d_O_makeEmpty_1 : decode b_O_makeEmpty 1 = .ok (.iconst 0, 1) := by decide +kernel
theorem d_O_makeEmpty_2 : decode b_O_makeEmpty 2 = .ok (.putfield 17, 3) := by decide +kernel
theorem d_O_makeEmpty_5 : decode b_O_makeEmpty 5 = .ok (.return_, 1) := by decide +kernel
set_option maxHeartbeats 4000000 in
set_option maxRecDepth 100000 in
theorem c_O_makeEmpty (g : zw_G) (l : Launch) (N : Nat) (ad : Nat → Nat) (E : Nat → va_E) (pr pn lim len cap : Nat) (f : Nat → Nat) (hpr : pr < N) (hpn : pn < N) (hne : pr ≠ pn) (hlc : len ≤ cap) (hcap : cap ≤ 1000000) (hlim : lim ≤ 1000000) (hO : zo_at g ad E pr pn lim len cap f) : zc_v g l y_O_makeEmpty b_O_makeEmpty 1 { frames := 0, cells := 0, slots := 0, locals := 0 } [.ref (ad (pr))] N ad E (fun N1 ad1 E1 => N = N1 ∧ ad = ad1 ∧ zo_at g ad E1 pr pn lim 0 cap f ∧ zo_fr E E1 pr pn) := by
  refine zc_v.of (by decide) (Nat.le_of_ble_eq_true rfl) ?_
  intro p e s m below meth c ls A X hr hlk hnm hl hH
  have hl : lv_has ls 1 [(0, .ref (ad (pr)))] := hl
  have hF : zo_fr E E pr pn := zo_fr.rf
  refine lv_aload_n X.1 X.2.1 d_O_makeEmpty_0 rfl (lv_at hl 0 rfl) ?_
  refine lv_iconst (v := nI 0) X.1 X.2.1 d_O_makeEmpty_1 (by decide) ?_
  refine zx_put X hH fp_O_17 (by omega) hO.1 (Nat.le_of_ble_eq_true rfl) rfl rfl d_O_makeEmpty_2 (fun H locs hH => ?_)
  have hH : zw_H g A s.heap s N ad (va_up E pr (zo_o ad pn lim (0))) H locs := hH
  have hO := hO.len hne (0)
  have hF := hF.up (k := pr) (x := (zo_o ad pn lim (0))) (Or.inl rfl)
  exact zx_vret X hr hlk hH (Nat.le_of_ble_eq_true rfl) (Nat.le_of_ble_eq_true rfl) d_O_makeEmpty_5 ⟨rfl, rfl, hO, hF⟩

set_option maxHeartbeats 4000000 in
set_option maxRecDepth 100000 in
theorem c_O_at (g : zw_G) (l : Launch) (N : Nat) (ad : Nat → Nat) (E : Nat → va_E) (pr pn lim len cap : Nat) (f : Nat → Nat) (hpr : pr < N) (hpn : pn < N) (hne : pr ≠ pn) (hlc : len ≤ cap) (hcap : cap ≤ 1000000) (hlim : lim ≤ 1000000) (hO : zo_at g ad E pr pn lim len cap f) (x : Int32) : zc_i g l y_O_at b_O_at 2 (some .int) { frames := 0, cells := 0, slots := 0, locals := 0 } [.ref (ad (pr)), .int (x)] N ad E (fun v N1 ad1 E1 => N = N1 ∧ ad = ad1 ∧ E = E1 ∧ v = nI (if 0 ≤ x.toInt ∧ x.toInt < (len : Int) then f x.toInt.toNat else 0)) := by
  refine zc_i.of (by decide) (Nat.le_of_ble_eq_true rfl) ?_
  intro p e s m below meth c ls A X hr hlk hl hH
  have hl : lv_has ls 2 [(0, .ref (ad (pr))), (1, .int (x))] := hl
  refine lv_iload_n X.1 X.2.1 d_O_at_0 rfl (lv_at hl 1 rfl) ?_
  refine lv_if_lt (tgt := 21) X.1 X.2.1 d_O_at_1 (by decide) (fun c1 => ?_) (fun c1 => ?_)
  · have c1 := (zn_lt rfl zn_0).mp c1
    refine lv_iconst (v := nI 0) X.1 X.2.1 d_O_at_21 (by decide) ?_
    refine lv_goto (tgt := 31) X.1 X.2.1 d_O_at_22 (by decide) ?_
    exact zx_iret X hr hlk hH (Nat.le_of_ble_eq_true rfl) (Nat.le_of_ble_eq_true rfl) d_O_at_31 ⟨rfl, rfl, rfl, (by first | rfl | (rw [if_pos (by omega)]) | (rw [if_neg (by omega)]))⟩
  · have c1 := mt (zn_lt rfl zn_0).mpr c1
    refine lv_iload_n X.1 X.2.1 d_O_at_4 rfl (lv_at hl 1 rfl) ?_
    refine lv_aload_n X.1 X.2.1 d_O_at_5 rfl (lv_at hl 0 rfl) ?_
    refine zx_get (v := .int (nI (len))) X hH fg_O_17 (by omega) hO.1 rfl d_O_at_6 ?_
    refine lv_icmp_ge (tgt := 21) X.1 X.2.1 d_O_at_9 (by decide) (fun c2 => ?_) (fun c2 => ?_)
    · have c2 := (zn_le (nI_toInt (by omega)) rfl).mp c2
      refine lv_iconst (v := nI 0) X.1 X.2.1 d_O_at_21 (by decide) ?_
      refine lv_goto (tgt := 31) X.1 X.2.1 d_O_at_22 (by decide) ?_
      exact zx_iret X hr hlk hH (Nat.le_of_ble_eq_true rfl) (Nat.le_of_ble_eq_true rfl) d_O_at_31 ⟨rfl, rfl, rfl, (by first | rfl | (rw [if_pos (by omega)]) | (rw [if_neg (by omega)]))⟩
    · have c2 := mt (zn_le (nI_toInt (by omega)) rfl).mpr c2
      refine lv_iload_n X.1 X.2.1 d_O_at_12 rfl (lv_at hl 1 rfl) ?_
      refine lv_aload_n X.1 X.2.1 d_O_at_13 rfl (lv_at hl 0 rfl) ?_
      refine zx_get (v := .ref (ad (pn))) X hH fg_O_9 (by omega) hO.1 rfl d_O_at_14 ?_
      refine zx_alen X hH (by omega) (show E pn = zr_ia g (cap) (f) from hO.2) d_O_at_17 ?_
      refine lv_icmp_lt (tgt := 25) X.1 X.2.1 d_O_at_18 (by decide) (fun c3 => ?_) (fun c3 => ?_)
      · have c3 := (zn_lt rfl (nI_toInt (by omega))).mp c3
        refine lv_aload_n X.1 X.2.1 d_O_at_25 rfl (lv_at hl 0 rfl) ?_
        refine zx_get (v := .ref (ad (pn))) X hH fg_O_9 (by omega) hO.1 rfl d_O_at_26 ?_
        refine lv_iload_n X.1 X.2.1 d_O_at_29 rfl (lv_at hl 1 rfl) ?_
        refine zx_iald (j := x.toInt.toNat) X hH (by omega) (show E pn = zr_ia g (cap) (f) from hO.2) (zn_nat (by omega)) (by omega) (by omega) d_O_at_30 ?_
        exact zx_iret X hr hlk hH (Nat.le_of_ble_eq_true rfl) (Nat.le_of_ble_eq_true rfl) d_O_at_31 ⟨rfl, rfl, rfl, (by first | rfl | (rw [if_pos (by omega)]) | (rw [if_neg (by omega)]))⟩
      · have c3 := mt (zn_lt rfl (nI_toInt (by omega))).mpr c3
        exfalso; omega

set_option maxHeartbeats 4000000 in
set_option maxRecDepth 100000 in
theorem c_O_append_full (g : zw_G) (l : Launch) (N : Nat) (ad : Nat → Nat) (E : Nat → va_E) (pr pn lim len cap : Nat) (f : Nat → Nat) (hpr : pr < N) (hpn : pn < N) (hne : pr ≠ pn) (hlc : len ≤ cap) (hcap : cap ≤ 1000000) (hlim : lim ≤ 1000000) (hO : zo_at g ad E pr pn lim len cap f) (v : Nat) (hfull : lim ≤ len) : zc_v g l y_O_append b_O_append 2 { frames := 2, cells := 0, slots := 0, locals := 80 } [.ref (ad (pr)), .int (nI (v))] N ad E (fun N1 ad1 E1 => N = N1 ∧ ad = ad1 ∧ E = E1) := by
  refine zc_v.of (by decide) (Nat.le_of_ble_eq_true rfl) ?_
  intro p e s m below meth c ls A X hr hlk hnm hl hH
  have hl : lv_has ls 2 [(0, .ref (ad (pr))), (1, .int (nI (v)))] := hl
  refine lv_aload_n X.1 X.2.1 d_O_append_0 rfl (lv_at hl 0 rfl) ?_
  refine zx_get (v := .int (nI (len))) X hH fg_O_17 (by omega) hO.1 rfl d_O_append_1 ?_
  refine lv_aload_n X.1 X.2.1 d_O_append_4 rfl (lv_at hl 0 rfl) ?_
  refine zx_get (v := .int (nI (lim))) X hH fg_O_13 (by omega) hO.1 rfl d_O_append_5 ?_
  refine lv_icmp_lt (tgt := 12) X.1 X.2.1 d_O_append_8 (by decide) (fun c1 => ?_) (fun c1 => ?_)
  · have c1 := (zn_lt (nI_toInt (by omega)) (nI_toInt (by omega))).mp c1
    exfalso; omega
  · have c1 := mt (zn_lt (nI_toInt (by omega)) (nI_toInt (by omega))).mpr c1
    exact zx_vret X hr hlk hH (Nat.le_of_ble_eq_true rfl) (Nat.le_of_ble_eq_true rfl) d_O_append_11 ⟨rfl, rfl, rfl⟩

set_option maxHeartbeats 4000000 in
set_option maxRecDepth 100000 in
theorem c_O_append_room (g : zw_G) (l : Launch) (N : Nat) (ad : Nat → Nat) (E : Nat → va_E) (pr pn lim len cap : Nat) (f : Nat → Nat) (hpr : pr < N) (hpn : pn < N) (hne : pr ≠ pn) (hlc : len ≤ cap) (hcap : cap ≤ 1000000) (hlim : lim ≤ 1000000) (hO : zo_at g ad E pr pn lim len cap f) (v : Nat) (hfull : len < lim) (hroom : len < cap) : zc_v g l y_O_append b_O_append 2 { frames := 2, cells := 0, slots := 0, locals := 80 } [.ref (ad (pr)), .int (nI (v))] N ad E (fun N1 ad1 E1 => N = N1 ∧ ad = ad1 ∧ zo_at g ad E1 pr pn lim (len + 1) cap (va_up f len v) ∧ zo_fr E E1 pr pn) := by
  refine zc_v.of (by decide) (Nat.le_of_ble_eq_true rfl) ?_
  intro p e s m below meth c ls A X hr hlk hnm hl hH
  have hl : lv_has ls 2 [(0, .ref (ad (pr))), (1, .int (nI (v)))] := hl
  have hF : zo_fr E E pr pn := zo_fr.rf
  refine lv_aload_n X.1 X.2.1 d_O_append_0 rfl (lv_at hl 0 rfl) ?_
  refine zx_get (v := .int (nI (len))) X hH fg_O_17 (by omega) hO.1 rfl d_O_append_1 ?_
  refine lv_aload_n X.1 X.2.1 d_O_append_4 rfl (lv_at hl 0 rfl) ?_
  refine zx_get (v := .int (nI (lim))) X hH fg_O_13 (by omega) hO.1 rfl d_O_append_5 ?_
  refine lv_icmp_lt (tgt := 12) X.1 X.2.1 d_O_append_8 (by decide) (fun c1 => ?_) (fun c1 => ?_)
  · have c1 := (zn_lt (nI_toInt (by omega)) (nI_toInt (by omega))).mp c1
    refine lv_aload_n X.1 X.2.1 d_O_append_12 rfl (lv_at hl 0 rfl) ?_
    refine zx_get (v := .int (nI (len))) X hH fg_O_17 (by omega) hO.1 rfl d_O_append_13 ?_
    refine lv_aload_n X.1 X.2.1 d_O_append_16 rfl (lv_at hl 0 rfl) ?_
    refine zx_get (v := .ref (ad (pn))) X hH fg_O_9 (by omega) hO.1 rfl d_O_append_17 ?_
    refine zx_alen X hH (by omega) (show E pn = zr_ia g (cap) (f) from hO.2) d_O_append_20 ?_
    refine lv_icmp_lt (tgt := 42) X.1 X.2.1 d_O_append_21 (by decide) (fun c2 => ?_) (fun c2 => ?_)
    · have c2 := (zn_lt (nI_toInt (by omega)) (nI_toInt (by omega))).mp c2
      refine lv_aload_n X.1 X.2.1 d_O_append_42 rfl (lv_at hl 0 rfl) ?_
      refine zx_get (v := .ref (ad (pn))) X hH fg_O_9 (by omega) hO.1 rfl d_O_append_43 ?_
      refine lv_aload_n X.1 X.2.1 d_O_append_46 rfl (lv_at hl 0 rfl) ?_
      refine zx_get (v := .int (nI (len))) X hH fg_O_17 (by omega) hO.1 rfl d_O_append_47 ?_
      refine lv_iload_n X.1 X.2.1 d_O_append_50 rfl (lv_at hl 1 rfl) ?_
      refine zx_iast (j := len) X hH (by omega) (show E pn = zr_ia g (cap) f from hO.2) rfl (by omega) (by omega) d_O_append_51 (fun H locs hH => ?_)
      rw [zr_upd] at hH
      have hH : zw_H g A s.heap s N ad (va_up E pn (zr_ia g (cap) (va_up f len v))) H locs := hH
      have hO := hO.num hne (va_up f len v)
      have hF := hF.up (k := pn) (x := (zr_ia g (cap) (va_up f len v))) (Or.inr rfl)
      refine lv_aload_n X.1 X.2.1 d_O_append_52 rfl (lv_at hl 0 rfl) ?_
      refine lv_dup X.1 X.2.1 d_O_append_53 rfl ?_
      refine zx_get (v := .int (nI (len))) X hH fg_O_17 (by omega) hO.1 rfl d_O_append_54 ?_
      refine lv_iconst (v := nI 1) X.1 X.2.1 d_O_append_57 (by decide) ?_
      refine lv_iadd X.1 X.2.1 d_O_append_58 ?_
      refine zx_top (nI_add _ _) ?_
      refine zx_put X hH fp_O_17 (by omega) hO.1 (Nat.le_of_ble_eq_true rfl) rfl rfl d_O_append_59 (fun H locs hH => ?_)
      have hH : zw_H g A s.heap s N ad (va_up (va_up E pn (zr_ia g (cap) (va_up f len v))) pr (zo_o ad pn lim ((len) + (1)))) H locs := hH
      have hO := hO.len hne ((len) + (1))
      have hF := hF.up (k := pr) (x := (zo_o ad pn lim ((len) + (1)))) (Or.inl rfl)
      exact zx_vret X hr hlk hH (Nat.le_of_ble_eq_true rfl) (Nat.le_of_ble_eq_true rfl) d_O_append_62 ⟨rfl, rfl, hO, hF⟩
    · have c2 := mt (zn_lt (nI_toInt (by omega)) (nI_toInt (by omega))).mpr c2
      exfalso; omega
  · have c1 := mt (zn_lt (nI_toInt (by omega)) (nI_toInt (by omega))).mpr c1
    exfalso; omega

set_option maxHeartbeats 4000000 in
set_option maxRecDepth 100000 in
theorem c_O_append_grow (g : zw_G) (l : Launch) (N : Nat) (ad : Nat → Nat) (E : Nat → va_E) (pr pn lim len cap : Nat) (f : Nat → Nat) (hpr : pr < N) (hpn : pn < N) (hne : pr ≠ pn) (hlc : len ≤ cap) (hcap : cap ≤ 1000000) (hlim : lim ≤ 1000000) (hO : zo_at g ad E pr pn lim len cap f) (v : Nat) (hfull : len < lim) (hroom : cap ≤ len) (h16 : 16 ≤ cap) : zc_v g l y_O_append b_O_append 2 { frames := 3, cells := 1, slots := 2 * cap, locals := 120 } [.ref (ad (pr)), .int (nI (v))] N ad E (fun N1 ad1 E1 => N = N1 ∧ (∀ k, k ≠ pn → k < N → ad1 k = ad k) ∧ zo_at g ad1 E1 pr pn lim (len + 1) (2 * cap) (va_up (fun j => if j < cap then f j else 0) len v) ∧ ∀ k, k < N → k ≠ pr → k ≠ pn → E1 k = E k) := by
  refine zc_v.of (by decide) (Nat.le_of_ble_eq_true rfl) ?_
  intro p e s m below meth c ls A X hr hlk hnm hl hH
  have hl : lv_has ls 2 [(0, .ref (ad (pr))), (1, .int (nI (v)))] := hl
  refine lv_aload_n X.1 X.2.1 d_O_append_0 rfl (lv_at hl 0 rfl) ?_
  refine zx_get (v := .int (nI (len))) X hH fg_O_17 (by omega) hO.1 rfl d_O_append_1 ?_
  refine lv_aload_n X.1 X.2.1 d_O_append_4 rfl (lv_at hl 0 rfl) ?_
  refine zx_get (v := .int (nI (lim))) X hH fg_O_13 (by omega) hO.1 rfl d_O_append_5 ?_
  refine lv_icmp_lt (tgt := 12) X.1 X.2.1 d_O_append_8 (by decide) (fun c1 => ?_) (fun c1 => ?_)
  · have c1 := (zn_lt (nI_toInt (by omega)) (nI_toInt (by omega))).mp c1
    refine lv_aload_n X.1 X.2.1 d_O_append_12 rfl (lv_at hl 0 rfl) ?_
    refine zx_get (v := .int (nI (len))) X hH fg_O_17 (by omega) hO.1 rfl d_O_append_13 ?_
    refine lv_aload_n X.1 X.2.1 d_O_append_16 rfl (lv_at hl 0 rfl) ?_
    refine zx_get (v := .ref (ad (pn))) X hH fg_O_9 (by omega) hO.1 rfl d_O_append_17 ?_
    refine zx_alen X hH (by omega) (show E pn = zr_ia g (cap) (f) from hO.2) d_O_append_20 ?_
    refine lv_icmp_lt (tgt := 42) X.1 X.2.1 d_O_append_21 (by decide) (fun c2 => ?_) (fun c2 => ?_)
    · have c2 := (zn_lt (nI_toInt (by omega)) (nI_toInt (by omega))).mp c2
      exfalso; omega
    · have c2 := mt (zn_lt (nI_toInt (by omega)) (nI_toInt (by omega))).mpr c2
      refine lv_aload_n X.1 X.2.1 d_O_append_24 rfl (lv_at hl 0 rfl) ?_
      refine lv_aload_n X.1 X.2.1 d_O_append_25 rfl (lv_at hl 0 rfl) ?_
      refine zx_get (v := .ref (ad (pn))) X hH fg_O_9 (by omega) hO.1 rfl d_O_append_26 ?_
      refine lv_iconst (v := nI 2) X.1 X.2.1 d_O_append_29 (by decide) ?_
      refine lv_aload_n X.1 X.2.1 d_O_append_30 rfl (lv_at hl 0 rfl) ?_
      refine zx_get (v := .ref (ad (pn))) X hH fg_O_9 (by omega) hO.1 rfl d_O_append_31 ?_
      refine zx_alen X hH (by omega) (show E pn = zr_ia g (cap) (f) from hO.2) d_O_append_34 ?_
      refine lv_imul X.1 X.2.1 d_O_append_35 ?_
      refine zx_top (pk_mul _ _) ?_
      refine zx_callq (zx_runS (As := [.ref (ad (pn)), .int (nI ((2) * (cap)))]) (rest := [.ref (ad (pr))]) X hH ms_O_20 ((c_J_copyOf g l N ad E pn cap (2 * cap) f (by omega) (by omega) (by omega) hO.2) _) ⟨Nat.le_of_ble_eq_true rfl, Nat.le_of_ble_eq_true rfl⟩ rfl hl rfl (Nat.le_of_ble_eq_true rfl) d_O_append_36 ⟨by show 0 + 1 ≤ 1; omega, by show 0 + 2 * cap ≤ 2 * cap; omega⟩) hH (fun r N1 ad1 E1 H locs hq hH => ?_)
      obtain ⟨rfl, qa, rfl, rfl, rfl⟩ := hq
      obtain ⟨ad2, had2⟩ : ∃ x, x = va_up ad N qa := ⟨_, rfl⟩
      obtain ⟨E2, hE2⟩ : ∃ x, x = va_up E N (zr_ia g (2 * cap) (fun j => if j < cap then f j else 0)) := ⟨_, rfl⟩
      rw [← had2, ← hE2] at hH
      have a2 : ∀ k, k < N → ad2 k = ad k := fun k hk => by rw [had2]; exact va_up_ne _ _ (by omega)
      have a2N : ad2 N = qa := by rw [had2]; exact va_up_self _ _ _
      have b2 : ∀ k, k < N → E2 k = E k := fun k hk => by rw [hE2]; exact va_up_ne _ _ (by omega)
      have b2N : E2 N = (zr_ia g (2 * cap) (fun j => if j < cap then f j else 0)) := by rw [hE2]; exact va_up_self _ _ _
      refine W.eq (g2 := F0 m 39 ls [.ref (ad2 N), .ref (ad2 pr)]) (by rw [a2 pr hpr, a2N]; rfl) ?_
      refine zx_put X hH fp_O_9 (by omega) ((b2 pr hpr).trans hO.1) (Nat.le_of_ble_eq_true rfl) rfl rfl d_O_append_39 (fun H locs hH => ?_)
      have hH := zw_swap pn hH
      have hH : zw_H g A s.heap s N (va_up ad2 pn (ad2 N)) (va_up (va_up E2 pr (Sum.inr (2, [.int (nI lim), .ref (ad2 N), .int (nI len)]) : va_E)) pn (va_up E2 pr (Sum.inr (2, [.int (nI lim), .ref (ad2 N), .int (nI len)]) : va_E) N)) H locs := hH
      obtain ⟨ad4, had4⟩ : ∃ x, x = va_up ad2 pn (ad2 N) := ⟨_, rfl⟩
      obtain ⟨E4, hE4⟩ : ∃ x, x = va_up (va_up E2 pr (Sum.inr (2, [.int (nI lim), .ref (ad2 N), .int (nI len)]) : va_E)) pn (va_up E2 pr (Sum.inr (2, [.int (nI lim), .ref (ad2 N), .int (nI len)]) : va_E) N) := ⟨_, rfl⟩
      rw [← had4, ← hE4] at hH
      have a4 : ∀ k, k ≠ pn → k < N → ad4 k = ad k := fun k h1 h2 => by rw [had4, va_up_ne _ _ h1]; exact a2 k h2
      have a4n : ad4 pn = ad2 N := by rw [had4]; exact va_up_self _ _ _
      have b4n : E4 pn = (zr_ia g (2 * cap) (fun j => if j < cap then f j else 0)) := by rw [hE4, va_up_self, va_up_ne _ _ (by omega)]; exact b2N
      have b4r : E4 pr = zo_o ad4 pn lim len := by rw [hE4, va_up_ne _ _ hne, va_up_self]; unfold zo_o; rw [a4n]
      have b4 : ∀ k, k < N → k ≠ pr → k ≠ pn → E4 k = E k := fun k h1 h2 h3 => by rw [hE4, va_up_ne _ _ h3, va_up_ne _ _ h2]; exact b2 k h1
      have hO : zo_at g ad4 E4 pr pn lim len (2 * cap) (fun j => if j < cap then f j else 0) := ⟨b4r, b4n⟩
      have hF : zo_fr E4 E4 pr pn := zo_fr.rf
      rw [← a4 pr hne hpr] at hl
      refine W.eq (g2 := F0 m 42 ls []) rfl ?_
      refine lv_aload_n X.1 X.2.1 d_O_append_42 rfl (lv_at hl 0 rfl) ?_
      refine zx_get (v := .ref (ad4 (pn))) X hH fg_O_9 (by omega) hO.1 rfl d_O_append_43 ?_
      refine lv_aload_n X.1 X.2.1 d_O_append_46 rfl (lv_at hl 0 rfl) ?_
      refine zx_get (v := .int (nI (len))) X hH fg_O_17 (by omega) hO.1 rfl d_O_append_47 ?_
      refine lv_iload_n X.1 X.2.1 d_O_append_50 rfl (lv_at hl 1 rfl) ?_
      refine zx_iast (j := len) X hH (by omega) (show E4 pn = zr_ia g (2 * cap) (fun j => if j < cap then f j else 0) from hO.2) rfl (by omega) (by omega) d_O_append_51 (fun H locs hH => ?_)
      rw [zr_upd] at hH
      have hH : zw_H g A s.heap s N ad4 (va_up E4 pn (zr_ia g (2 * cap) (va_up (fun j => if j < cap then f j else 0) len v))) H locs := hH
      have hO := hO.num hne (va_up (fun j => if j < cap then f j else 0) len v)
      have hF := hF.up (k := pn) (x := (zr_ia g (2 * cap) (va_up (fun j => if j < cap then f j else 0) len v))) (Or.inr rfl)
      refine lv_aload_n X.1 X.2.1 d_O_append_52 rfl (lv_at hl 0 rfl) ?_
      refine lv_dup X.1 X.2.1 d_O_append_53 rfl ?_
      refine zx_get (v := .int (nI (len))) X hH fg_O_17 (by omega) hO.1 rfl d_O_append_54 ?_
      refine lv_iconst (v := nI 1) X.1 X.2.1 d_O_append_57 (by decide) ?_
      refine lv_iadd X.1 X.2.1 d_O_append_58 ?_
      refine zx_top (nI_add _ _) ?_
      refine zx_put X hH fp_O_17 (by omega) hO.1 (Nat.le_of_ble_eq_true rfl) rfl rfl d_O_append_59 (fun H locs hH => ?_)
      have hH : zw_H g A s.heap s N ad4 (va_up (va_up E4 pn (zr_ia g (2 * cap) (va_up (fun j => if j < cap then f j else 0) len v))) pr (zo_o ad4 pn lim (len + 1))) H locs := hH
      have hO := hO.len hne (len + 1)
      have hF := hF.up (k := pr) (x := (zo_o ad4 pn lim (len + 1))) (Or.inl rfl)
      exact zx_vret X hr hlk hH (by show 0 + 1 ≤ 1; omega) (by show 0 + 2 * cap ≤ 2 * cap; omega) d_O_append_62 ⟨rfl, a4, hO, fun k h1 h2 h3 => (hF k h2 h3).trans (b4 k h1 h2 h3)⟩
  · have c1 := mt (zn_lt (nI_toInt (by omega)) (nI_toInt (by omega))).mpr c1
    exfalso; omega
end
section
/-! The whole object. q: 0 regions, 1 turns passed over, 2 closed, 3 turns in the schedule, 4 the room of its row, 5 entries of the log, 6 the room of its row. rg: a region's numbers and arrays. Positions: 0 the object, 1 its array of regions, 2 3 the events, 4 5 the schedule, 6 7 the log; the i-th region at F + 5 i. -/
abbrev zt_R : Type := Nat → (Nat → Nat) × (Nat → Nat → Nat)
def zt_r (g : zw_G) (ad : Nat → Nat) (F n : Nat) : va_E := .inl (g.2 2, 30, .inr (.inr (.inr (.inr (fun i => if i < n then some (ad (F + 5 * i)) else none)))))
def zt_at (g : zw_G) (ad : Nat → Nat) (E : Nat → va_E) (F : Nat) (q : Nat → Nat) (rg : zt_R) (ev sf lf : Nat → Nat) : Prop :=
  E 0 = zt_o ad q ∧ E 1 = zt_r g ad F (q 0) ∧ ze_at g ad E 2 3 ev ∧ zo_at g ad E 4 5 600 (q 3) (q 4) sf ∧ zo_at g ad E 6 7 3000 (q 5) (q 6) lf ∧ ∀ i, i < q 0 → zr_at g ad E (F + 5 * i) (rg i).1 (rg i).2
def zt_ok (q : Nat → Nat) (rg : zt_R) (ev sf : Nat → Nat) : Prop :=
  (q 0 ≤ 30 ∧ q 2 ≤ 1 ∧ q 3 ≤ 600 ∧ q 3 ≤ q 4 ∧ 16 ≤ q 4 ∧ q 4 ≤ 1200 ∧ q 5 ≤ 3000 ∧ q 5 ≤ q 6 ∧ 16 ≤ q 6 ∧ q 6 ≤ 6000) ∧ (∀ i, i < q 0 → zr_ok (rg i).1 (rg i).2) ∧ (∀ j, ev j < 1000000) ∧ ∀ j, j < q 3 → 1 ≤ sf j ∧ sf j ≤ q 0
/-- the class's own positions -/
def zt_own (F N k : Nat) : Prop := k < 8 ∨ (F ≤ k ∧ k < N)
theorem zr_at.ad {g : zw_G} {ad ad' : Nat → Nat} {E : Nat → va_E} {b : Nat} {sc : Nat → Nat} {ar : Nat → Nat → Nat} (h : zr_at g ad E b sc ar) (hk : ∀ k, b ≤ k → k < b + 5 → ad' k = ad k) : zr_at g ad' E b sc ar := by
  obtain ⟨h0, h1⟩ := h
  refine ⟨?_, h1⟩
  rw [h0]
  unfold zr_o
  rw [hk (b + 1) (by omega) (by omega), hk (b + 2) (by omega) (by omega), hk (b + 3) (by omega) (by omega), hk (b + 4) (by omega) (by omega)]
/-- the i-th region and the postings become others -/
theorem zt_at.reg {g : zw_G} {ad : Nat → Nat} {E E1 : Nat → va_E} {F i : Nat} {q : Nat → Nat} {rg : zt_R} {ev sf lf : Nat → Nat} {r : (Nat → Nat) × (Nat → Nat → Nat)} {ev1 : Nat → Nat} (h : zt_at g ad E F q rg ev sf lf) (hF : 8 ≤ F) (hi : i < q 0) (hR : zr_at g ad E1 (F + 5 * i) r.1 r.2) (hV : ze_at g ad E1 2 3 ev1) (hf : zr_f3 E E1 (F + 5 * i) 3) : zt_at g ad E1 F q (va_up rg i r) ev1 sf lf := by
  obtain ⟨h0, h1, h2, h3, h4, h5⟩ := h
  have f : ∀ k, k < 8 → k ≠ 3 → E1 k = E k := fun k hk h3 => hf k (Or.inl (by omega)) h3
  refine ⟨by rw [f 0 (by omega) (by omega)]; exact h0, by rw [f 1 (by omega) (by omega)]; exact h1, hV, ⟨by rw [f 4 (by omega) (by omega)]; exact h3.1, by rw [f 5 (by omega) (by omega)]; exact h3.2⟩, ⟨by rw [f 6 (by omega) (by omega)]; exact h4.1, by rw [f 7 (by omega) (by omega)]; exact h4.2⟩, fun j hj => ?_⟩
  by_cases e : j = i
  · subst e
    rw [va_up_self]
    exact hR
  · rw [va_up_ne _ _ e]
    exact (h5 j hj).keep (fun k a b => hf k (by omega) (by omega))
theorem zt_at.reg0 {g : zw_G} {ad : Nat → Nat} {E E1 : Nat → va_E} {F i : Nat} {q : Nat → Nat} {rg : zt_R} {ev sf lf : Nat → Nat} {r : (Nat → Nat) × (Nat → Nat → Nat)} (h : zt_at g ad E F q rg ev sf lf) (hF : 8 ≤ F) (hi : i < q 0) (hR : zr_at g ad E1 (F + 5 * i) r.1 r.2) (hf : zr_fr E E1 (F + 5 * i)) : zt_at g ad E1 F q (va_up rg i r) ev sf lf :=
  h.reg hF hi hR (h.2.2.1.keep (hf 2 (by omega)) (hf 3 (by omega))) (fun k a _ => hf k a)
def zp_cnt (p : Nat → Bool) : Nat → Nat
  | 0 => 0
  | n + 1 => zp_cnt p n + (if p n = true then 1 else 0)
theorem zp_cnt_le (p : Nat → Bool) : ∀ n, zp_cnt p n ≤ n := by
  intro n
  induction n with
  | zero => exact Nat.le_refl _
  | succ n ih =>
    show zp_cnt p n + _ ≤ n + 1
    split <;> omega
theorem zp_cnt_y {p : Nat → Bool} {i : Nat} (h : p i = true) : zp_cnt p (i + 1) = zp_cnt p i + 1 := by
  show zp_cnt p i + _ = _
  rw [if_pos h]
theorem zp_cnt_n {p : Nat → Bool} {i : Nat} (h : ¬ p i = true) : zp_cnt p (i + 1) = zp_cnt p i := by
  show zp_cnt p i + _ = _
  rw [if_neg h]; rfl
/-- each of the first i regions becomes what f says -/
def zp_map (f : (Nat → Nat) × (Nat → Nat → Nat) → (Nat → Nat) × (Nat → Nat → Nat)) (rg : zt_R) (i : Nat) : zt_R := fun j => if j < i then f (rg j) else rg j
theorem zp_map_0 (f : (Nat → Nat) × (Nat → Nat → Nat) → (Nat → Nat) × (Nat → Nat → Nat)) (rg : zt_R) : zp_map f rg 0 = rg := by
  funext j; unfold zp_map; rw [if_neg (Nat.not_lt_zero _)]
theorem zp_map_at (f : (Nat → Nat) × (Nat → Nat → Nat) → (Nat → Nat) × (Nat → Nat → Nat)) (rg : zt_R) (i : Nat) : zp_map f rg i i = rg i := by
  unfold zp_map; rw [if_neg (Nat.lt_irrefl _)]
theorem zp_map_s (f : (Nat → Nat) × (Nat → Nat → Nat) → (Nat → Nat) × (Nat → Nat → Nat)) (rg : zt_R) (i : Nat) : zp_map f rg (i + 1) = va_up (zp_map f rg i) i (f (rg i)) := by
  funext j
  unfold zp_map va_up
  by_cases h : j = i
  · subst h; rw [if_pos (by omega), if_pos rfl]
  · rw [if_neg h]
    by_cases h2 : j < i
    · rw [if_pos (by omega)]; exact (if_pos h2).symm
    · rw [if_neg (by omega)]; exact (if_neg h2).symm
theorem zp_map_same {f : (Nat → Nat) × (Nat → Nat → Nat) → (Nat → Nat) × (Nat → Nat → Nat)} {rg : zt_R} {i : Nat} (h : f (rg i) = rg i) : zp_map f rg (i + 1) = zp_map f rg i := by
  rw [zp_map_s, h]
  funext j
  unfold va_up
  by_cases e : j = i
  · subst e; rw [if_pos rfl, zp_map_at]
  · rw [if_neg e]
/-- left, if it goes on -/
def zp_left (r : (Nat → Nat) × (Nat → Nat → Nat)) : (Nat → Nat) × (Nat → Nat → Nat) := if r.1 2 = 0 then (va_up r.1 2 4, r.2) else r
/-- cancelled, if it goes on and may -/
def zp_canc (r : (Nat → Nat) × (Nat → Nat → Nat)) : (Nat → Nat) × (Nat → Nat → Nat) := if r.1 2 = 0 ∧ ¬ r.2 3 (r.1 3) = 1 then (zp_back r.1 3, r.2) else r
theorem zr_ok.left {r : (Nat → Nat) × (Nat → Nat → Nat)} (h : zr_ok r.1 r.2) : zr_ok (zp_left r).1 (zp_left r).2 := by
  unfold zp_left
  split
  · obtain ⟨⟨h0, h1, h2, h3, h4, h5, h7, h8, h6⟩, h9⟩ := h
    exact ⟨⟨h0, h1, by show 4 ≤ 4; omega, h3, h4, h5, h7, h8, fun z => absurd (show (4 : Nat) = 0 from z) (by decide)⟩, h9⟩
  · exact h
theorem zr_ok.back {sc : Nat → Nat} {ar : Nat → Nat → Nat} (h : zr_ok sc ar) {k : Nat} (h1 : k ≤ 4) (h2 : k ≠ 0) : zr_ok (zp_back sc k) ar := by
  obtain ⟨⟨h0, h1, h2, h3, h4, h5, h7, h8, h6⟩, h9⟩ := h
  exact ⟨⟨h0, h1, by show k ≤ 4; omega, h3, h4, by show sc 3 - sc 4 ≤ 100; omega, h7, h8, fun z => absurd (show k = 0 from z) (by omega)⟩, h9⟩
theorem zr_ok.canc {r : (Nat → Nat) × (Nat → Nat → Nat)} (h : zr_ok r.1 r.2) : zr_ok (zp_canc r).1 (zp_canc r).2 := by
  unfold zp_canc
  split
  · exact zr_ok.back h (by decide) (by decide)
  · exact h
theorem zt_ok.map {f : (Nat → Nat) × (Nat → Nat → Nat) → (Nat → Nat) × (Nat → Nat → Nat)} {q : Nat → Nat} {rg : zt_R} {ev sf : Nat → Nat} (h : zt_ok q rg ev sf) (hf : ∀ r : (Nat → Nat) × (Nat → Nat → Nat), zr_ok r.1 r.2 → zr_ok (f r).1 (f r).2) (i : Nat) : zt_ok q (zp_map f rg i) ev sf :=
  ⟨h.1, fun j hj => by
    unfold zp_map
    by_cases e : j < i
    · rw [if_pos e]; exact hf _ (h.2.1 j hj)
    · rw [if_neg e]; exact h.2.1 j hj, h.2.2⟩
/-- the cells between 8 and F are not the class's own -/
def zt_fr (E E1 : Nat → va_E) (F : Nat) : Prop := ∀ k, 8 ≤ k → k < F → E1 k = E k
theorem zt_fr.rf {E : Nat → va_E} {F : Nat} : zt_fr E E F := fun _ _ _ => rfl
theorem zt_fr.tr {E E1 E2 : Nat → va_E} {F : Nat} (h : zt_fr E E1 F) (h2 : zt_fr E1 E2 F) : zt_fr E E2 F := fun k a b => (h2 k a b).trans (h k a b)
theorem zr_fr.t {E E1 : Nat → va_E} {F i : Nat} (h : zr_fr E E1 (F + 5 * i)) : zt_fr E E1 F := fun k _ b => h k (Or.inl (by omega))
theorem zr_f3.t {E E1 : Nat → va_E} {F i : Nat} (h : zr_f3 E E1 (F + 5 * i) 3) : zt_fr E E1 F := fun k a b => h k (Or.inl (by omega)) (by omega)
/-! The moving part: numbers q, regions, postings, the log's row -/
abbrev zp_T : Type := (Nat → Nat) × zt_R × (Nat → Nat) × (Nat → Nat)
/-- an entry behind the log's last -/
def zp_log (q lf : Nat → Nat) (v : Nat) : (Nat → Nat) × (Nat → Nat) :=
  if 3000 ≤ q 5 then (q, lf) else if q 6 ≤ q 5 then (va_up (va_up q 6 (2 * q 6)) 5 (q 5 + 1), va_up (fun j => if j < q 6 then lf j else 0) (q 5) v) else (va_up q 5 (q 5 + 1), va_up lf (q 5) v)
/-- the turn of the i-th region -/
def zp_give (T : zp_T) (i : Nat) : Nat × zp_T :=
  if (zp_turn (T.2.1 i).1 (T.2.1 i).2 T.2.2.1).1 = 1 then
    (1, (zp_log T.1 T.2.2.2 (1000 * (i + 1) + (zp_turn (T.2.1 i).1 (T.2.1 i).2 T.2.2.1).2.1 3)).1, va_up T.2.1 i ((zp_turn (T.2.1 i).1 (T.2.1 i).2 T.2.2.1).2.1, (zp_turn (T.2.1 i).1 (T.2.1 i).2 T.2.2.1).2.2.1), (zp_turn (T.2.1 i).1 (T.2.1 i).2 T.2.2.1).2.2.2, (zp_log T.1 T.2.2.2 (1000 * (i + 1) + (zp_turn (T.2.1 i).1 (T.2.1 i).2 T.2.2.1).2.1 3)).2)
  else ((zp_turn (T.2.1 i).1 (T.2.1 i).2 T.2.2.1).1, T.1, va_up T.2.1 i ((zp_turn (T.2.1 i).1 (T.2.1 i).2 T.2.2.1).2.1, (zp_turn (T.2.1 i).1 (T.2.1 i).2 T.2.2.1).2.2.1), (zp_turn (T.2.1 i).1 (T.2.1 i).2 T.2.2.1).2.2.2, T.2.2.2)
/-- n turns of the schedule, from the k-th on; c steps were done before -/
def zp_runs (sf : Nat → Nat) : Nat → Nat → zp_T → Nat → zp_T × Nat
  | 0, _, T, c => (T, c)
  | n + 1, k, T, c =>
    if (zp_give T (sf k - 1)).1 = 1 then zp_runs sf n (k + 1) (zp_give T (sf k - 1)).2 (c + 1)
    else if (zp_give T (sf k - 1)).1 = 0 then zp_runs sf n (k + 1) (va_up (zp_give T (sf k - 1)).2.1 1 ((zp_give T (sf k - 1)).2.1 1 + 1), (zp_give T (sf k - 1)).2.2) c
    else zp_runs sf n (k + 1) (zp_give T (sf k - 1)).2 c
/-- turns to n regions, from the i-th on; whether one did something -/
def zp_rnd : Nat → Nat → zp_T → Nat → zp_T × Nat
  | 0, _, T, b => (T, b)
  | n + 1, i, T, b => zp_rnd n (i + 1) (zp_give T i).2 (if (zp_give T i).1 = 0 then b else 1)
/-- rounds, n at most, till one does nothing -/
def zp_rnds (m : Nat) : Nat → zp_T → zp_T
  | 0, T => T
  | n + 1, T => if (zp_rnd m 0 T 0).2 = 0 then (zp_rnd m 0 T 0).1 else zp_rnds m n (zp_rnd m 0 T 0).1
theorem zp_give_no {q : Nat → Nat} {rg : zt_R} {ev lf : Nat → Nat} {i : Nat} {r : Nat × (Nat → Nat) × (Nat → Nat → Nat) × (Nat → Nat)} (hr : zp_turn (rg i).1 (rg i).2 ev = r) (h : ¬ r.1 = 1) : zp_give (q, rg, ev, lf) i = (r.1, q, va_up rg i (r.2.1, r.2.2.1), r.2.2.2, lf) := by
  subst hr
  unfold zp_give
  rw [if_neg h]
theorem zp_give_yes {q : Nat → Nat} {rg : zt_R} {ev lf : Nat → Nat} {i : Nat} {r : Nat × (Nat → Nat) × (Nat → Nat → Nat) × (Nat → Nat)} (hr : zp_turn (rg i).1 (rg i).2 ev = r) (h : r.1 = 1) : zp_give (q, rg, ev, lf) i = (1, (zp_log q lf (1000 * (i + 1) + r.2.1 3)).1, va_up rg i (r.2.1, r.2.2.1), r.2.2.2, (zp_log q lf (1000 * (i + 1) + r.2.1 3)).2) := by
  subst hr
  unfold zp_give
  rw [if_pos h]
theorem zp_log_full {q lf : Nat → Nat} {v : Nat} (h : 3000 ≤ q 5) : zp_log q lf v = (q, lf) := by
  unfold zp_log; rw [if_pos h]
theorem zp_log_grow {q lf : Nat → Nat} {v : Nat} (h : ¬ 3000 ≤ q 5) (h2 : q 6 ≤ q 5) : zp_log q lf v = (va_up (va_up q 6 (2 * q 6)) 5 (q 5 + 1), va_up (fun j => if j < q 6 then lf j else 0) (q 5) v) := by
  unfold zp_log; rw [if_neg h, if_pos h2]
theorem zp_log_room {q lf : Nat → Nat} {v : Nat} (h : ¬ 3000 ≤ q 5) (h2 : ¬ q 6 ≤ q 5) : zp_log q lf v = (va_up q 5 (q 5 + 1), va_up lf (q 5) v) := by
  unfold zp_log; rw [if_neg h, if_neg h2]
/-- one of the two rows becomes another; the other cells stay, and so do their addresses -/
theorem zt_r_ad {g : zw_G} {ad ad1 : Nat → Nat} {F n : Nat} (h : ∀ k, F ≤ k → k < F + 5 * n → ad1 k = ad k) : zt_r g ad1 F n = zt_r g ad F n := by
  unfold zt_r
  have e : (fun i => if i < n then some (ad1 (F + 5 * i)) else none) = (fun i => if i < n then some (ad (F + 5 * i)) else none) := by
    funext i
    by_cases hi : i < n
    · rw [if_pos hi, if_pos hi, h _ (by omega) (by omega)]
    · rw [if_neg hi, if_neg hi]
  rw [e]
theorem zt_at.log {g : zw_G} {ad ad1 : Nat → Nat} {E E1 : Nat → va_E} {F N : Nat} {q q1 : Nat → Nat} {rg : zt_R} {ev sf lf lf1 : Nat → Nat} (h : zt_at g ad E F q rg ev sf lf) (hF : 8 ≤ F) (hN : N = F + 5 * q 0) (hO : zo_at g ad1 E1 6 7 3000 (q1 5) (q1 6) lf1) (ha : ∀ k, k ≠ 7 → k < N → ad1 k = ad k) (he : ∀ k, k < N → k ≠ 6 → k ≠ 7 → E1 k = E k) (q0 : q1 0 = q 0) (qa : q1 1 = q 1) (qb : q1 2 = q 2) (qc : q1 3 = q 3) (qd : q1 4 = q 4) : zt_at g ad1 E1 F q1 rg ev sf lf1 := by
  obtain ⟨h0, h1, h2, h3, h4, h5⟩ := h
  refine ⟨?_, ?_, ⟨?_, ?_⟩, ⟨?_, ?_⟩, hO, fun i hi => ?_⟩
  · rw [he 0 (by omega) (by omega) (by omega), h0]
    unfold zt_o
    rw [ha 1 (by omega) (by omega), ha 2 (by omega) (by omega), ha 4 (by omega) (by omega), ha 6 (by omega) (by omega), q0, qa, qb]
  · rw [he 1 (by omega) (by omega) (by omega), h1, q0]
    exact (zt_r_ad (fun k a b => ha k (by omega) (by omega))).symm
  · rw [he 2 (by omega) (by omega) (by omega), h2.1]
    unfold ze_o
    rw [ha 3 (by omega) (by omega)]
  · rw [he 3 (by omega) (by omega) (by omega)]; exact h2.2
  · rw [he 4 (by omega) (by omega) (by omega), h3.1]
    unfold zo_o
    rw [ha 5 (by omega) (by omega), qc]
  · rw [he 5 (by omega) (by omega) (by omega), qd]; exact h3.2
  · rw [q0] at hi
    exact ((h5 i hi).keep (fun k a b => he k (by omega) (by omega) (by omega))).ad (fun k a b => ha k (by omega) (by omega))
theorem zt_at.sch {g : zw_G} {ad ad1 : Nat → Nat} {E E1 : Nat → va_E} {F N : Nat} {q q1 : Nat → Nat} {rg : zt_R} {ev sf lf sf1 : Nat → Nat} (h : zt_at g ad E F q rg ev sf lf) (hF : 8 ≤ F) (hN : N = F + 5 * q 0) (hO : zo_at g ad1 E1 4 5 600 (q1 3) (q1 4) sf1) (ha : ∀ k, k ≠ 5 → k < N → ad1 k = ad k) (he : ∀ k, k < N → k ≠ 4 → k ≠ 5 → E1 k = E k) (q0 : q1 0 = q 0) (qa : q1 1 = q 1) (qb : q1 2 = q 2) (qc : q1 5 = q 5) (qd : q1 6 = q 6) : zt_at g ad1 E1 F q1 rg ev sf1 lf := by
  obtain ⟨h0, h1, h2, h3, h4, h5⟩ := h
  refine ⟨?_, ?_, ⟨?_, ?_⟩, hO, ⟨?_, ?_⟩, fun i hi => ?_⟩
  · rw [he 0 (by omega) (by omega) (by omega), h0]
    unfold zt_o
    rw [ha 1 (by omega) (by omega), ha 2 (by omega) (by omega), ha 4 (by omega) (by omega), ha 6 (by omega) (by omega), q0, qa, qb]
  · rw [he 1 (by omega) (by omega) (by omega), h1, q0]
    exact (zt_r_ad (fun k a b => ha k (by omega) (by omega))).symm
  · rw [he 2 (by omega) (by omega) (by omega), h2.1]
    unfold ze_o
    rw [ha 3 (by omega) (by omega)]
  · rw [he 3 (by omega) (by omega) (by omega)]; exact h2.2
  · rw [he 6 (by omega) (by omega) (by omega), h4.1]
    unfold zo_o
    rw [ha 7 (by omega) (by omega), qc]
  · rw [he 7 (by omega) (by omega) (by omega), qd]; exact h4.2
  · rw [q0] at hi
    exact ((h5 i hi).keep (fun k a b => he k (by omega) (by omega) (by omega))).ad (fun k a b => ha k (by omega) (by omega))
/-- a number of the object itself becomes another (not one of its rows') -/
theorem zt_at.num {g : zw_G} {ad : Nat → Nat} {E : Nat → va_E} {F : Nat} {q q1 : Nat → Nat} {rg : zt_R} {ev sf lf : Nat → Nat} (h : zt_at g ad E F q rg ev sf lf) (hF : 8 ≤ F) (q0 : q1 0 = q 0) (qa : q1 3 = q 3) (qb : q1 4 = q 4) (qc : q1 5 = q 5) (qd : q1 6 = q 6) : zt_at g ad (va_up E 0 (zt_o ad q1)) F q1 rg ev sf lf := by
  obtain ⟨h0, h1, h2, h3, h4, h5⟩ := h
  have f : ∀ k, k ≠ 0 → va_up E 0 (zt_o ad q1) k = E k := fun k hk => va_up_ne _ _ hk
  refine ⟨va_up_self _ _ _, ?_, ⟨?_, ?_⟩, ⟨?_, ?_⟩, ⟨?_, ?_⟩, fun i hi => ?_⟩
  · rw [f 1 (by omega), q0]; exact h1
  · rw [f 2 (by omega)]; exact h2.1
  · rw [f 3 (by omega)]; exact h2.2
  · rw [f 4 (by omega), qa]; exact h3.1
  · rw [f 5 (by omega), qb]; exact h3.2
  · rw [f 6 (by omega), qc]; exact h4.1
  · rw [f 7 (by omega), qd]; exact h4.2
  · rw [q0] at hi
    exact (h5 i hi).keep (fun k a b => f k (by omega))
theorem zp_turn_le (sc : Nat → Nat) (ar : Nat → Nat → Nat) (ev : Nat → Nat) : (zp_turn sc ar ev).1 ≤ 2 := by
  unfold zp_turn
  split
  · split
    · exact Nat.le_refl _
    · split
      · split
        · exact Nat.le_refl _
        · show 1 ≤ 2; omega
      · show 0 ≤ 2; omega
  · show 0 ≤ 2; omega
theorem zr_ok.s2 {sc : Nat → Nat} {ar : Nat → Nat → Nat} (h : zr_ok sc ar) {t : Nat} (h2 : t ≤ sc 0) (h3 : sc 3 ≤ t) : (zp_s2 sc ar t 0 = sc 0 ∧ zp_s2 sc ar t 1 = sc 1 ∧ zp_s2 sc ar t 2 = sc 2 ∧ zp_s2 sc ar t 3 = t ∧ zp_s2 sc ar t 4 ≤ t ∧ zp_s2 sc ar t 5 = sc 5) ∧ zp_s2 sc ar t 6 = sc 6 ∧ zp_s2 sc ar t 7 = sc 7 ∧ zp_s2 sc ar t 8 = sc 8 := by
  obtain ⟨⟨k0, k1, k2, k3, k4, k5, k7, k8, k6⟩, -⟩ := h
  unfold zp_s2
  split
  · exact ⟨⟨rfl, rfl, rfl, rfl, Nat.le_refl _, rfl⟩, rfl, rfl, rfl⟩
  · exact ⟨⟨rfl, rfl, rfl, rfl, by show sc 4 ≤ t; omega, rfl⟩, rfl, rfl, rfl⟩
theorem zr_ok.step {sc : Nat → Nat} {ar : Nat → Nat → Nat} (h : zr_ok sc ar) {t : Nat} (h2 : t ≤ sc 0) (h3 : sc 3 ≤ t) : zr_ok (zp_step sc ar t) ar := by
  obtain ⟨⟨a0, a1, a2, a3, a4, a5⟩, a6, a7, a8⟩ := h.s2 (ar := ar) h2 h3
  obtain ⟨⟨k0, k1, k2, k3, k4, k5, k7, k8, k6⟩, h9⟩ := h
  unfold zp_step
  split
  · refine ⟨⟨?_, ?_, ?_, ?_, ?_, ?_, ?_, ?_, fun z => absurd (show (1 : Nat) = 0 from z) (by decide)⟩, h9⟩
    · show zp_s2 sc ar t 0 ≤ 100; omega
    · show zp_s2 sc ar t 1 ≤ 100; omega
    · show 1 ≤ 4; omega
    · show zp_s2 sc ar t 3 ≤ zp_s2 sc ar t 0; omega
    · show zp_s2 sc ar t 4 ≤ zp_s2 sc ar t 3; omega
    · show zp_s2 sc ar t 5 ≤ 100; omega
    · show zp_s2 sc ar t 7 ≤ 1; omega
    · show zp_s2 sc ar t 8 ≤ 20; omega
  · rename_i hn
    exact ⟨⟨by omega, by omega, by omega, by omega, by omega, by omega, by omega, by omega, fun z => by omega⟩, h9⟩
theorem zr_ok.turn {sc : Nat → Nat} {ar : Nat → Nat → Nat} (h : zr_ok sc ar) (ev : Nat → Nat) : zr_ok (zp_turn sc ar ev).2.1 (zp_turn sc ar ev).2.2.1 := by
  have h6 := h.1.2.2.2.2.2.2.2.2
  by_cases d0 : sc 2 = 0
  · by_cases d1 : sc 7 = 1 ∧ ¬ ar 3 (sc 3) = 1
    · rw [zp_turn_cancel d0 d1.1 d1.2]; exact h.back (by decide) (by decide)
    · by_cases d2 : (zp_tw (ar 0) (ar 1) (sc 3 + 1) (sc 8) 0 (ar 2) ev).1 = true
      · by_cases d3 : sc 3 + 1 = sc 1
        · rw [zp_turn_fail d0 d1 d2 d3]; exact (h.tw (sc 3 + 1) ev).back (by decide) (by decide)
        · rw [zp_turn_step d0 d1 d2 d3]; exact (h.tw (sc 3 + 1) ev).step (h6 d0) (by omega)
      · rw [zp_turn_wait d0 d1 d2]; exact h.tw (sc 3 + 1) ev
  · rw [zp_turn_off d0]; exact h
theorem zp_turn_ev (sc : Nat → Nat) (ar : Nat → Nat → Nat) (ev : Nat → Nat) (j : Nat) : (zp_turn sc ar ev).2.2.2 j ≤ ev j := by
  by_cases d0 : sc 2 = 0
  · by_cases d1 : sc 7 = 1 ∧ ¬ ar 3 (sc 3) = 1
    · rw [zp_turn_cancel d0 d1.1 d1.2]; exact Nat.le_refl _
    · by_cases d2 : (zp_tw (ar 0) (ar 1) (sc 3 + 1) (sc 8) 0 (ar 2) ev).1 = true
      · by_cases d3 : sc 3 + 1 = sc 1
        · rw [zp_turn_fail d0 d1 d2 d3]; exact zp_tw_ev _ _ _ _ _ _ _ _
        · rw [zp_turn_step d0 d1 d2 d3]; exact zp_tw_ev _ _ _ _ _ _ _ _
      · rw [zp_turn_wait d0 d1 d2]; exact zp_tw_ev _ _ _ _ _ _ _ _
  · rw [zp_turn_off d0]; exact Nat.le_refl _
end
section
theorem d_X_init_0 : decode b_X_init 0 = .ok (.aload_n 0, 1) := by decide +kernel
theorem d_X_init_1 : decode b_X_init 1 = .ok (.invokespecial 3, 3) := by decide +kernel
theorem d_X_init_4 : decode b_X_init 4 = .ok (.aload_n 0, 1) := by decide +kernel
theorem d_X_init_5 : decode b_X_init 5 = .ok (.bipush 30, 2) := by decide +kernel
theorem d_X_init_7 : decode b_X_init 7 = .ok (.anewarray 9, 3) := by decide +kernel
theorem d_X_init_10 : decode b_X_init 10 = .ok (.putfield 11, 3) := by decide +kernel
theorem d_X_init_13 : decode b_X_init 13 = .ok (.aload_n 0, 1) := by decide +kernel
theorem d_X_init_14 : decode b_X_init 14 = .ok (.new 15, 3) := by decide +kernel
theorem d_X_init_17 : decode b_X_init 17 = .ok (.dup, 1) := by decide +kernel
theorem d_X_init_18 : decode b_X_init 18 = .ok (.invokespecial 17, 3) := by decide +kernel
theorem d_X_init_21 : decode b_X_init 21 = .ok (.putfield 18, 3) := by decide +kernel
theorem d_X_init_24 : decode b_X_init 24 = .ok (.aload_n 0, 1) := by decide +kernel
theorem d_X_init_25 : decode b_X_init 25 = .ok (.new 22, 3) := by decide +kernel
theorem d_X_init_28 : decode b_X_init 28 = .ok (.dup, 1) := by decide +kernel
theorem d_X_init_29 : decode b_X_init 29 = .ok (.sipush 600, 3) := by decide +kernel
theorem d_X_init_32 : decode b_X_init 32 = .ok (.invokespecial 24, 3) := by decide +kernel
theorem d_X_init_35 : decode b_X_init 35 = .ok (.putfield 27, 3) := by decide +kernel
theorem d_X_init_38 : decode b_X_init 38 = .ok (.aload_n 0, 1) := by decide +kernel
theorem d_X_init_39 : decode b_X_init 39 = .ok (.new 22, 3) := by decide +kernel
theorem d_X_init_42 : decode b_X_init 42 = .ok (.dup, 1) := by decide +kernel
theorem d_X_init_43 : decode b_X_init 43 = .ok (.sipush 3000, 3) := by decide +kernel
theorem d_X_init_46 : decode b_X_init 46 = .ok (.invokespecial 24, 3) := by decide +kernel
theorem d_X_init_49 : decode b_X_init 49 = .ok (.putfield 31, 3) := by decide +kernel
theorem d_X_init_52 : decode b_X_init 52 = .ok (.return_, 1) := by decide +kernel
theorem d_X_region_0 : decode b_X_region 0 = .ok (.iload_n 1, 1) := by decide +kernel
theorem d_X_region_1 : decode b_X_region 1 = .ok (.iconst 1, 1) := by decide +kernel
theorem d_X_region_2 : decode b_X_region 2 = .ok (.if_icmp .lt 19, 3) := by decide +kernel
theorem d_X_region_5 : decode b_X_region 5 = .ok (.iload_n 1, 1) := by decide +kernel
theorem d_X_region_6 : decode b_X_region 6 = .ok (.bipush 100, 2) := by decide +kernel
theorem d_X_region_8 : decode b_X_region 8 = .ok (.if_icmp .gt 13, 3) := by decide +kernel
theorem d_X_region_11 : decode b_X_region 11 = .ok (.iload_n 2, 1) := by decide +kernel
theorem d_X_region_12 : decode b_X_region 12 = .ok (.ifCond .lt 9, 3) := by decide +kernel
theorem d_X_region_15 : decode b_X_region 15 = .ok (.iload_n 2, 1) := by decide +kernel
theorem d_X_region_16 : decode b_X_region 16 = .ok (.bipush 100, 2) := by decide +kernel
theorem d_X_region_18 : decode b_X_region 18 = .ok (.if_icmp .le 6, 3) := by decide +kernel
theorem d_X_region_21 : decode b_X_region 21 = .ok (.bipush (-4), 2) := by decide +kernel
theorem d_X_region_23 : decode b_X_region 23 = .ok (.ireturn, 1) := by decide +kernel
theorem d_X_region_24 : decode b_X_region 24 = .ok (.aload_n 0, 1) := by decide +kernel
theorem d_X_region_25 : decode b_X_region 25 = .ok (.getfield 34, 3) := by decide +kernel
theorem d_X_region_28 : decode b_X_region 28 = .ok (.ifCond .eq 6, 3) := by decide +kernel
theorem d_X_region_31 : decode b_X_region 31 = .ok (.bipush (-5), 2) := by decide +kernel
theorem d_X_region_33 : decode b_X_region 33 = .ok (.ireturn, 1) := by decide +kernel
theorem d_X_region_34 : decode b_X_region 34 = .ok (.aload_n 0, 1) := by decide +kernel
theorem d_X_region_35 : decode b_X_region 35 = .ok (.getfield 38, 3) := by decide +kernel
theorem d_X_region_38 : decode b_X_region 38 = .ok (.bipush 30, 2) := by decide +kernel
theorem d_X_region_40 : decode b_X_region 40 = .ok (.if_icmp .lt 5, 3) := by decide +kernel
theorem d_X_region_43 : decode b_X_region 43 = .ok (.iconst (-1), 1) := by decide +kernel
theorem d_X_region_44 : decode b_X_region 44 = .ok (.ireturn, 1) := by decide +kernel
theorem d_X_region_45 : decode b_X_region 45 = .ok (.aload_n 0, 1) := by decide +kernel
theorem d_X_region_46 : decode b_X_region 46 = .ok (.getfield 11, 3) := by decide +kernel
theorem d_X_region_49 : decode b_X_region 49 = .ok (.aload_n 0, 1) := by decide +kernel
theorem d_X_region_50 : decode b_X_region 50 = .ok (.getfield 38, 3) := by decide +kernel
theorem d_X_region_53 : decode b_X_region 53 = .ok (.new 9, 3) := by decide +kernel
theorem d_X_region_56 : decode b_X_region 56 = .ok (.dup, 1) := by decide +kernel
theorem d_X_region_57 : decode b_X_region 57 = .ok (.iload_n 1, 1) := by decide +kernel
theorem d_X_region_58 : decode b_X_region 58 = .ok (.iload_n 2, 1) := by decide +kernel
theorem d_X_region_59 : decode b_X_region 59 = .ok (.invokespecial 42, 3) := by decide +kernel
theorem d_X_region_62 : decode b_X_region 62 = .ok (.aastore, 1) := by decide +kernel
theorem d_X_region_63 : decode b_X_region 63 = .ok (.aload_n 0, 1) := by decide +kernel
theorem d_X_region_64 : decode b_X_region 64 = .ok (.dup, 1) := by decide +kernel
theorem d_X_region_65 : decode b_X_region 65 = .ok (.getfield 38, 3) := by decide +kernel
theorem d_X_region_68 : decode b_X_region 68 = .ok (.iconst 1, 1) := by decide +kernel
theorem d_X_region_69 : decode b_X_region 69 = .ok (.iadd, 1) := by decide +kernel
theorem d_X_region_70 : decode b_X_region 70 = .ok (.putfield 38, 3) := by decide +kernel
theorem d_X_region_73 : decode b_X_region 73 = .ok (.aload_n 0, 1) := by decide +kernel
theorem d_X_region_74 : decode b_X_region 74 = .ok (.getfield 38, 3) := by decide +kernel
theorem d_X_region_77 : decode b_X_region 77 = .ok (.ireturn, 1) := by decide +kernel
theorem d_X_waits_0 : decode b_X_waits 0 = .ok (.aload_n 0, 1) := by decide +kernel
theorem d_X_waits_1 : decode b_X_waits 1 = .ok (.iload_n 1, 1) := by decide +kernel
theorem d_X_waits_2 : decode b_X_waits 2 = .ok (.invokevirtual 45, 3) := by decide +kernel
theorem d_X_waits_5 : decode b_X_waits 5 = .ok (.astore 4, 2) := by decide +kernel
theorem d_X_waits_7 : decode b_X_waits 7 = .ok (.aload 4, 2) := by decide +kernel
theorem d_X_waits_9 : decode b_X_waits 9 = .ok (.ifnonnull 6, 3) := by decide +kernel
theorem d_X_waits_12 : decode b_X_waits 12 = .ok (.bipush (-2), 2) := by decide +kernel
theorem d_X_waits_14 : decode b_X_waits 14 = .ok (.ireturn, 1) := by decide +kernel
theorem d_X_waits_15 : decode b_X_waits 15 = .ok (.iload_n 2, 1) := by decide +kernel
theorem d_X_waits_16 : decode b_X_waits 16 = .ok (.iconst 1, 1) := by decide +kernel
theorem d_X_waits_17 : decode b_X_waits 17 = .ok (.if_icmp .lt 19, 3) := by decide +kernel
theorem d_X_waits_20 : decode b_X_waits 20 = .ok (.iload_n 2, 1) := by decide +kernel
theorem d_X_waits_21 : decode b_X_waits 21 = .ok (.aload 4, 2) := by decide +kernel
theorem d_X_waits_23 : decode b_X_waits 23 = .ok (.getfield 49, 3) := by decide +kernel
theorem d_X_waits_26 : decode b_X_waits 26 = .ok (.if_icmp .gt 10, 3) := by decide +kernel
theorem d_X_waits_29 : decode b_X_waits 29 = .ok (.iload_n 3, 1) := by decide +kernel
theorem d_X_waits_30 : decode b_X_waits 30 = .ok (.invokestatic 52, 3) := by decide +kernel
theorem d_X_waits_33 : decode b_X_waits 33 = .ok (.ifCond .ne 6, 3) := by decide +kernel
theorem d_X_waits_36 : decode b_X_waits 36 = .ok (.bipush (-4), 2) := by decide +kernel
theorem d_X_waits_38 : decode b_X_waits 38 = .ok (.ireturn, 1) := by decide +kernel
theorem d_X_waits_39 : decode b_X_waits 39 = .ok (.aload 4, 2) := by decide +kernel
theorem d_X_waits_41 : decode b_X_waits 41 = .ok (.iload_n 2, 1) := by decide +kernel
theorem d_X_waits_42 : decode b_X_waits 42 = .ok (.invokevirtual 56, 3) := by decide +kernel
theorem d_X_waits_45 : decode b_X_waits 45 = .ok (.ifCond .ne 6, 3) := by decide +kernel
theorem d_X_waits_48 : decode b_X_waits 48 = .ok (.bipush (-5), 2) := by decide +kernel
theorem d_X_waits_50 : decode b_X_waits 50 = .ok (.ireturn, 1) := by decide +kernel
theorem d_X_waits_51 : decode b_X_waits 51 = .ok (.aload 4, 2) := by decide +kernel
theorem d_X_waits_53 : decode b_X_waits 53 = .ok (.iload_n 2, 1) := by decide +kernel
theorem d_X_waits_54 : decode b_X_waits 54 = .ok (.iload_n 3, 1) := by decide +kernel
theorem d_X_waits_55 : decode b_X_waits 55 = .ok (.invokevirtual 59, 3) := by decide +kernel
theorem d_X_waits_58 : decode b_X_waits 58 = .ok (.ifCond .eq 11, 3) := by decide +kernel
theorem d_X_waits_61 : decode b_X_waits 61 = .ok (.aload 4, 2) := by decide +kernel
theorem d_X_waits_63 : decode b_X_waits 63 = .ok (.getfield 63, 3) := by decide +kernel
theorem d_X_waits_66 : decode b_X_waits 66 = .ok (.goto 4, 3) := by decide +kernel
theorem d_X_waits_69 : decode b_X_waits 69 = .ok (.iconst (-1), 1) := by decide +kernel
theorem d_X_waits_70 : decode b_X_waits 70 = .ok (.ireturn, 1) := by decide +kernel
theorem d_X_post_0 : decode b_X_post 0 = .ok (.iload_n 1, 1) := by decide +kernel
theorem d_X_post_1 : decode b_X_post 1 = .ok (.invokestatic 52, 3) := by decide +kernel
theorem d_X_post_4 : decode b_X_post 4 = .ok (.ifCond .ne 6, 3) := by decide +kernel
theorem d_X_post_7 : decode b_X_post 7 = .ok (.bipush (-4), 2) := by decide +kernel
theorem d_X_post_9 : decode b_X_post 9 = .ok (.ireturn, 1) := by decide +kernel
theorem d_X_post_10 : decode b_X_post 10 = .ok (.aload_n 0, 1) := by decide +kernel
theorem d_X_post_11 : decode b_X_post 11 = .ok (.getfield 34, 3) := by decide +kernel
theorem d_X_post_14 : decode b_X_post 14 = .ok (.ifCond .eq 6, 3) := by decide +kernel
theorem d_X_post_17 : decode b_X_post 17 = .ok (.bipush (-5), 2) := by decide +kernel
theorem d_X_post_19 : decode b_X_post 19 = .ok (.ireturn, 1) := by decide +kernel
theorem d_X_post_20 : decode b_X_post 20 = .ok (.aload_n 0, 1) := by decide +kernel
theorem d_X_post_21 : decode b_X_post 21 = .ok (.getfield 18, 3) := by decide +kernel
theorem d_X_post_24 : decode b_X_post 24 = .ok (.iload_n 1, 1) := by decide +kernel
theorem d_X_post_25 : decode b_X_post 25 = .ok (.invokevirtual 66, 3) := by decide +kernel
theorem d_X_post_28 : decode b_X_post 28 = .ok (.aload_n 0, 1) := by decide +kernel
theorem d_X_post_29 : decode b_X_post 29 = .ok (.getfield 18, 3) := by decide +kernel
theorem d_X_post_32 : decode b_X_post 32 = .ok (.iload_n 1, 1) := by decide +kernel
theorem d_X_post_33 : decode b_X_post 33 = .ok (.invokevirtual 69, 3) := by decide +kernel
theorem d_X_post_36 : decode b_X_post 36 = .ok (.ireturn, 1) := by decide +kernel
theorem d_X_turn_0 : decode b_X_turn 0 = .ok (.aload_n 0, 1) := by decide +kernel
theorem d_X_turn_1 : decode b_X_turn 1 = .ok (.getfield 34, 3) := by decide +kernel
theorem d_X_turn_4 : decode b_X_turn 4 = .ok (.ifCond .ne 11, 3) := by decide +kernel
theorem d_X_turn_7 : decode b_X_turn 7 = .ok (.aload_n 0, 1) := by decide +kernel
theorem d_X_turn_8 : decode b_X_turn 8 = .ok (.iload_n 1, 1) := by decide +kernel
theorem d_X_turn_9 : decode b_X_turn 9 = .ok (.invokevirtual 45, 3) := by decide +kernel
theorem d_X_turn_12 : decode b_X_turn 12 = .ok (.ifnonnull 4, 3) := by decide +kernel
theorem d_X_turn_15 : decode b_X_turn 15 = .ok (.return_, 1) := by decide +kernel
theorem d_X_turn_16 : decode b_X_turn 16 = .ok (.aload_n 0, 1) := by decide +kernel
theorem d_X_turn_17 : decode b_X_turn 17 = .ok (.getfield 27, 3) := by decide +kernel
theorem d_X_turn_20 : decode b_X_turn 20 = .ok (.iload_n 1, 1) := by decide +kernel
theorem d_X_turn_21 : decode b_X_turn 21 = .ok (.invokevirtual 73, 3) := by decide +kernel
theorem d_X_turn_24 : decode b_X_turn 24 = .ok (.return_, 1) := by decide +kernel
theorem d_X_run_0 : decode b_X_run 0 = .ok (.aload_n 0, 1) := by decide +kernel
theorem d_X_run_1 : decode b_X_run 1 = .ok (.getfield 34, 3) := by decide +kernel
theorem d_X_run_4 : decode b_X_run 4 = .ok (.ifCond .eq 6, 3) := by decide +kernel
theorem d_X_run_7 : decode b_X_run 7 = .ok (.bipush (-5), 2) := by decide +kernel
theorem d_X_run_9 : decode b_X_run 9 = .ok (.ireturn, 1) := by decide +kernel
theorem d_X_run_10 : decode b_X_run 10 = .ok (.iconst 0, 1) := by decide +kernel
theorem d_X_run_11 : decode b_X_run 11 = .ok (.istore_n 1, 1) := by decide +kernel
theorem d_X_run_12 : decode b_X_run 12 = .ok (.iconst 0, 1) := by decide +kernel
theorem d_X_run_13 : decode b_X_run 13 = .ok (.istore_n 2, 1) := by decide +kernel
theorem d_X_run_14 : decode b_X_run 14 = .ok (.iload_n 2, 1) := by decide +kernel
theorem d_X_run_15 : decode b_X_run 15 = .ok (.aload_n 0, 1) := by decide +kernel
theorem d_X_run_16 : decode b_X_run 16 = .ok (.getfield 27, 3) := by decide +kernel
theorem d_X_run_19 : decode b_X_run 19 = .ok (.getfield 76, 3) := by decide +kernel
theorem d_X_run_22 : decode b_X_run 22 = .ok (.if_icmp .ge 47, 3) := by decide +kernel
theorem d_X_run_25 : decode b_X_run 25 = .ok (.aload_n 0, 1) := by decide +kernel
theorem d_X_run_26 : decode b_X_run 26 = .ok (.aload_n 0, 1) := by decide +kernel
theorem d_X_run_27 : decode b_X_run 27 = .ok (.getfield 27, 3) := by decide +kernel
theorem d_X_run_30 : decode b_X_run 30 = .ok (.iload_n 2, 1) := by decide +kernel
theorem d_X_run_31 : decode b_X_run 31 = .ok (.invokevirtual 79, 3) := by decide +kernel
theorem d_X_run_34 : decode b_X_run 34 = .ok (.invokevirtual 82, 3) := by decide +kernel
theorem d_X_run_37 : decode b_X_run 37 = .ok (.istore_n 3, 1) := by decide +kernel
theorem d_X_run_38 : decode b_X_run 38 = .ok (.iload_n 3, 1) := by decide +kernel
theorem d_X_run_39 : decode b_X_run 39 = .ok (.iconst 1, 1) := by decide +kernel
theorem d_X_run_40 : decode b_X_run 40 = .ok (.if_icmp .ne 9, 3) := by decide +kernel
theorem d_X_run_43 : decode b_X_run 43 = .ok (.iinc 1 1, 3) := by decide +kernel
theorem d_X_run_46 : decode b_X_run 46 = .ok (.goto 17, 3) := by decide +kernel
theorem d_X_run_49 : decode b_X_run 49 = .ok (.iload_n 3, 1) := by decide +kernel
theorem d_X_run_50 : decode b_X_run 50 = .ok (.ifCond .ne 13, 3) := by decide +kernel
theorem d_X_run_53 : decode b_X_run 53 = .ok (.aload_n 0, 1) := by decide +kernel
theorem d_X_run_54 : decode b_X_run 54 = .ok (.dup, 1) := by decide +kernel
theorem d_X_run_55 : decode b_X_run 55 = .ok (.getfield 85, 3) := by decide +kernel
theorem d_X_run_58 : decode b_X_run 58 = .ok (.iconst 1, 1) := by decide +kernel
theorem d_X_run_59 : decode b_X_run 59 = .ok (.iadd, 1) := by decide +kernel
theorem d_X_run_60 : decode b_X_run 60 = .ok (.putfield 85, 3) := by decide +kernel
theorem d_X_run_63 : decode b_X_run 63 = .ok (.iinc 2 1, 3) := by decide +kernel
theorem d_X_run_66 : decode b_X_run 66 = .ok (.goto (-52), 3) := by decide +kernel
theorem d_X_run_69 : decode b_X_run 69 = .ok (.aload_n 0, 1) := by decide +kernel
theorem d_X_run_70 : decode b_X_run 70 = .ok (.getfield 27, 3) := by decide +kernel
theorem d_X_run_73 : decode b_X_run 73 = .ok (.invokevirtual 88, 3) := by decide +kernel
theorem d_X_run_76 : decode b_X_run 76 = .ok (.iload_n 1, 1) := by decide +kernel
theorem d_X_run_77 : decode b_X_run 77 = .ok (.ireturn, 1) := by decide +kernel
theorem d_X_log_0 : decode b_X_log 0 = .ok (.aload_n 0, 1) := by decide +kernel
theorem d_X_log_1 : decode b_X_log 1 = .ok (.getfield 31, 3) := by decide +kernel
theorem d_X_log_4 : decode b_X_log 4 = .ok (.iload_n 1, 1) := by decide +kernel
theorem d_X_log_5 : decode b_X_log 5 = .ok (.invokevirtual 79, 3) := by decide +kernel
theorem d_X_log_8 : decode b_X_log 8 = .ok (.ireturn, 1) := by decide +kernel
theorem d_X_cancel_0 : decode b_X_cancel 0 = .ok (.aload_n 0, 1) := by decide +kernel
theorem d_X_cancel_1 : decode b_X_cancel 1 = .ok (.iload_n 1, 1) := by decide +kernel
theorem d_X_cancel_2 : decode b_X_cancel 2 = .ok (.invokevirtual 45, 3) := by decide +kernel
theorem d_X_cancel_5 : decode b_X_cancel 5 = .ok (.astore_n 2, 1) := by decide +kernel
theorem d_X_cancel_6 : decode b_X_cancel 6 = .ok (.aload_n 0, 1) := by decide +kernel
theorem d_X_cancel_7 : decode b_X_cancel 7 = .ok (.getfield 34, 3) := by decide +kernel
theorem d_X_cancel_10 : decode b_X_cancel 10 = .ok (.ifCond .ne 21, 3) := by decide +kernel
theorem d_X_cancel_13 : decode b_X_cancel 13 = .ok (.aload_n 2, 1) := by decide +kernel
theorem d_X_cancel_14 : decode b_X_cancel 14 = .ok (.ifnull 17, 3) := by decide +kernel
theorem d_X_cancel_17 : decode b_X_cancel 17 = .ok (.aload_n 2, 1) := by decide +kernel
theorem d_X_cancel_18 : decode b_X_cancel 18 = .ok (.invokevirtual 91, 3) := by decide +kernel
theorem d_X_cancel_21 : decode b_X_cancel 21 = .ok (.ifCond .eq 10, 3) := by decide +kernel
theorem d_X_cancel_24 : decode b_X_cancel 24 = .ok (.aload_n 2, 1) := by decide +kernel
theorem d_X_cancel_25 : decode b_X_cancel 25 = .ok (.getfield 95, 3) := by decide +kernel
theorem d_X_cancel_28 : decode b_X_cancel 28 = .ok (.ifCond .eq 5, 3) := by decide +kernel
theorem d_X_cancel_31 : decode b_X_cancel 31 = .ok (.iconst 0, 1) := by decide +kernel
theorem d_X_cancel_32 : decode b_X_cancel 32 = .ok (.ireturn, 1) := by decide +kernel
theorem d_X_cancel_33 : decode b_X_cancel 33 = .ok (.aload_n 2, 1) := by decide +kernel
theorem d_X_cancel_34 : decode b_X_cancel 34 = .ok (.iconst 1, 1) := by decide +kernel
theorem d_X_cancel_35 : decode b_X_cancel 35 = .ok (.putfield 95, 3) := by decide +kernel
theorem d_X_cancel_38 : decode b_X_cancel 38 = .ok (.iconst 1, 1) := by decide +kernel
theorem d_X_cancel_39 : decode b_X_cancel 39 = .ok (.ireturn, 1) := by decide +kernel
theorem d_X_cleaned_0 : decode b_X_cleaned 0 = .ok (.aload_n 0, 1) := by decide +kernel
theorem d_X_cleaned_1 : decode b_X_cleaned 1 = .ok (.iload_n 1, 1) := by decide +kernel
theorem d_X_cleaned_2 : decode b_X_cleaned 2 = .ok (.invokevirtual 45, 3) := by decide +kernel
theorem d_X_cleaned_5 : decode b_X_cleaned 5 = .ok (.astore_n 2, 1) := by decide +kernel
theorem d_X_cleaned_6 : decode b_X_cleaned 6 = .ok (.aload_n 2, 1) := by decide +kernel
theorem d_X_cleaned_7 : decode b_X_cleaned 7 = .ok (.ifnonnull 8, 3) := by decide +kernel
theorem d_X_cleaned_10 : decode b_X_cleaned 10 = .ok (.bipush (-2), 2) := by decide +kernel
theorem d_X_cleaned_12 : decode b_X_cleaned 12 = .ok (.goto 7, 3) := by decide +kernel
theorem d_X_cleaned_15 : decode b_X_cleaned 15 = .ok (.aload_n 2, 1) := by decide +kernel
theorem d_X_cleaned_16 : decode b_X_cleaned 16 = .ok (.getfield 98, 3) := by decide +kernel
theorem d_X_cleaned_19 : decode b_X_cleaned 19 = .ok (.ireturn, 1) := by decide +kernel
theorem d_X_backed_0 : decode b_X_backed 0 = .ok (.aload_n 0, 1) := by decide +kernel
theorem d_X_backed_1 : decode b_X_backed 1 = .ok (.iload_n 1, 1) := by decide +kernel
theorem d_X_backed_2 : decode b_X_backed 2 = .ok (.invokevirtual 45, 3) := by decide +kernel
theorem d_X_backed_5 : decode b_X_backed 5 = .ok (.astore_n 2, 1) := by decide +kernel
theorem d_X_backed_6 : decode b_X_backed 6 = .ok (.aload_n 2, 1) := by decide +kernel
theorem d_X_backed_7 : decode b_X_backed 7 = .ok (.ifnonnull 8, 3) := by decide +kernel
theorem d_X_backed_10 : decode b_X_backed 10 = .ok (.bipush (-2), 2) := by decide +kernel
theorem d_X_backed_12 : decode b_X_backed 12 = .ok (.goto 7, 3) := by decide +kernel
theorem d_X_backed_15 : decode b_X_backed 15 = .ok (.aload_n 2, 1) := by decide +kernel
theorem d_X_backed_16 : decode b_X_backed 16 = .ok (.getfield 101, 3) := by decide +kernel
theorem d_X_backed_19 : decode b_X_backed 19 = .ok (.ireturn, 1) := by decide +kernel
theorem d_X_shutdown_0 : decode b_X_shutdown 0 = .ok (.aload_n 0, 1) := by decide +kernel
theorem d_X_shutdown_1 : decode b_X_shutdown 1 = .ok (.getfield 34, 3) := by decide +kernel
theorem d_X_shutdown_4 : decode b_X_shutdown 4 = .ok (.ifCond .eq 6, 3) := by decide +kernel
theorem d_X_shutdown_7 : decode b_X_shutdown 7 = .ok (.bipush (-5), 2) := by decide +kernel
theorem d_X_shutdown_9 : decode b_X_shutdown 9 = .ok (.ireturn, 1) := by decide +kernel
theorem d_X_shutdown_10 : decode b_X_shutdown 10 = .ok (.aload_n 0, 1) := by decide +kernel
theorem d_X_shutdown_11 : decode b_X_shutdown 11 = .ok (.getfield 27, 3) := by decide +kernel
theorem d_X_shutdown_14 : decode b_X_shutdown 14 = .ok (.invokevirtual 88, 3) := by decide +kernel
theorem d_X_shutdown_17 : decode b_X_shutdown 17 = .ok (.iload_n 1, 1) := by decide +kernel
theorem d_X_shutdown_18 : decode b_X_shutdown 18 = .ok (.ifCond .ne 11, 3) := by decide +kernel
theorem d_X_shutdown_21 : decode b_X_shutdown 21 = .ok (.aload_n 0, 1) := by decide +kernel
theorem d_X_shutdown_22 : decode b_X_shutdown 22 = .ok (.invokevirtual 104, 3) := by decide +kernel
theorem d_X_shutdown_25 : decode b_X_shutdown 25 = .ok (.aload_n 0, 1) := by decide +kernel
theorem d_X_shutdown_26 : decode b_X_shutdown 26 = .ok (.invokevirtual 107, 3) := by decide +kernel
theorem d_X_shutdown_29 : decode b_X_shutdown 29 = .ok (.aload_n 0, 1) := by decide +kernel
theorem d_X_shutdown_30 : decode b_X_shutdown 30 = .ok (.invokevirtual 110, 3) := by decide +kernel
theorem d_X_shutdown_33 : decode b_X_shutdown 33 = .ok (.istore_n 2, 1) := by decide +kernel
theorem d_X_shutdown_34 : decode b_X_shutdown 34 = .ok (.aload_n 0, 1) := by decide +kernel
theorem d_X_shutdown_35 : decode b_X_shutdown 35 = .ok (.invokevirtual 114, 3) := by decide +kernel
theorem d_X_shutdown_38 : decode b_X_shutdown 38 = .ok (.iload_n 2, 1) := by decide +kernel
theorem d_X_shutdown_39 : decode b_X_shutdown 39 = .ok (.ireturn, 1) := by decide +kernel
theorem d_X_decision_0 : decode b_X_decision 0 = .ok (.aload_n 0, 1) := by decide +kernel
theorem d_X_decision_1 : decode b_X_decision 1 = .ok (.iload_n 1, 1) := by decide +kernel
theorem d_X_decision_2 : decode b_X_decision 2 = .ok (.invokevirtual 45, 3) := by decide +kernel
theorem d_X_decision_5 : decode b_X_decision 5 = .ok (.astore_n 3, 1) := by decide +kernel
theorem d_X_decision_6 : decode b_X_decision 6 = .ok (.aload_n 3, 1) := by decide +kernel
theorem d_X_decision_7 : decode b_X_decision 7 = .ok (.ifnonnull 6, 3) := by decide +kernel
theorem d_X_decision_10 : decode b_X_decision 10 = .ok (.bipush (-2), 2) := by decide +kernel
theorem d_X_decision_12 : decode b_X_decision 12 = .ok (.ireturn, 1) := by decide +kernel
theorem d_X_decision_13 : decode b_X_decision 13 = .ok (.iload_n 2, 1) := by decide +kernel
theorem d_X_decision_14 : decode b_X_decision 14 = .ok (.iconst 1, 1) := by decide +kernel
theorem d_X_decision_15 : decode b_X_decision 15 = .ok (.if_icmp .lt 13, 3) := by decide +kernel
theorem d_X_decision_18 : decode b_X_decision 18 = .ok (.iload_n 2, 1) := by decide +kernel
theorem d_X_decision_19 : decode b_X_decision 19 = .ok (.aload_n 3, 1) := by decide +kernel
theorem d_X_decision_20 : decode b_X_decision 20 = .ok (.getfield 49, 3) := by decide +kernel
theorem d_X_decision_23 : decode b_X_decision 23 = .ok (.iconst 1, 1) := by decide +kernel
theorem d_X_decision_24 : decode b_X_decision 24 = .ok (.isub, 1) := by decide +kernel
theorem d_X_decision_25 : decode b_X_decision 25 = .ok (.if_icmp .le 6, 3) := by decide +kernel
theorem d_X_decision_28 : decode b_X_decision 28 = .ok (.bipush (-4), 2) := by decide +kernel
theorem d_X_decision_30 : decode b_X_decision 30 = .ok (.ireturn, 1) := by decide +kernel
theorem d_X_decision_31 : decode b_X_decision 31 = .ok (.aload_n 3, 1) := by decide +kernel
theorem d_X_decision_32 : decode b_X_decision 32 = .ok (.iload_n 2, 1) := by decide +kernel
theorem d_X_decision_33 : decode b_X_decision 33 = .ok (.invokevirtual 56, 3) := by decide +kernel
theorem d_X_decision_36 : decode b_X_decision 36 = .ok (.ifCond .ne 6, 3) := by decide +kernel
theorem d_X_decision_39 : decode b_X_decision 39 = .ok (.bipush (-5), 2) := by decide +kernel
theorem d_X_decision_41 : decode b_X_decision 41 = .ok (.ireturn, 1) := by decide +kernel
theorem d_X_decision_42 : decode b_X_decision 42 = .ok (.aload_n 3, 1) := by decide +kernel
theorem d_X_decision_43 : decode b_X_decision 43 = .ok (.iload_n 2, 1) := by decide +kernel
theorem d_X_decision_44 : decode b_X_decision 44 = .ok (.invokevirtual 117, 3) := by decide +kernel
theorem d_X_decision_47 : decode b_X_decision 47 = .ok (.ifCond .eq 7, 3) := by decide +kernel
theorem d_X_decision_50 : decode b_X_decision 50 = .ok (.iconst 1, 1) := by decide +kernel
theorem d_X_decision_51 : decode b_X_decision 51 = .ok (.goto 4, 3) := by decide +kernel
theorem d_X_decision_54 : decode b_X_decision 54 = .ok (.iconst 0, 1) := by decide +kernel
theorem d_X_decision_55 : decode b_X_decision 55 = .ok (.ireturn, 1) := by decide +kernel
theorem d_X_finished_0 : decode b_X_finished 0 = .ok (.aload_n 0, 1) := by decide +kernel
theorem d_X_finished_1 : decode b_X_finished 1 = .ok (.iload_n 1, 1) := by decide +kernel
theorem d_X_finished_2 : decode b_X_finished 2 = .ok (.invokevirtual 45, 3) := by decide +kernel
theorem d_X_finished_5 : decode b_X_finished 5 = .ok (.astore_n 2, 1) := by decide +kernel
theorem d_X_finished_6 : decode b_X_finished 6 = .ok (.aload_n 2, 1) := by decide +kernel
theorem d_X_finished_7 : decode b_X_finished 7 = .ok (.ifnonnull 8, 3) := by decide +kernel
theorem d_X_finished_10 : decode b_X_finished 10 = .ok (.bipush (-2), 2) := by decide +kernel
theorem d_X_finished_12 : decode b_X_finished 12 = .ok (.goto 7, 3) := by decide +kernel
theorem d_X_finished_15 : decode b_X_finished 15 = .ok (.aload_n 2, 1) := by decide +kernel
theorem d_X_finished_16 : decode b_X_finished 16 = .ok (.getfield 120, 3) := by decide +kernel
theorem d_X_finished_19 : decode b_X_finished 19 = .ok (.ireturn, 1) := by decide +kernel
theorem d_X_close_0 : decode b_X_close 0 = .ok (.aload_n 0, 1) := by decide +kernel
theorem d_X_close_1 : decode b_X_close 1 = .ok (.getfield 34, 3) := by decide +kernel
theorem d_X_close_4 : decode b_X_close 4 = .ok (.ifCond .eq 6, 3) := by decide +kernel
theorem d_X_close_7 : decode b_X_close 7 = .ok (.bipush (-5), 2) := by decide +kernel
theorem d_X_close_9 : decode b_X_close 9 = .ok (.ireturn, 1) := by decide +kernel
theorem d_X_close_10 : decode b_X_close 10 = .ok (.aload_n 0, 1) := by decide +kernel
theorem d_X_close_11 : decode b_X_close 11 = .ok (.iconst 1, 1) := by decide +kernel
theorem d_X_close_12 : decode b_X_close 12 = .ok (.putfield 34, 3) := by decide +kernel
theorem d_X_close_15 : decode b_X_close 15 = .ok (.aload_n 0, 1) := by decide +kernel
theorem d_X_close_16 : decode b_X_close 16 = .ok (.getfield 27, 3) := by decide +kernel
theorem d_X_close_19 : decode b_X_close 19 = .ok (.invokevirtual 88, 3) := by decide +kernel
theorem d_X_close_22 : decode b_X_close 22 = .ok (.aload_n 0, 1) := by decide +kernel
theorem d_X_close_23 : decode b_X_close 23 = .ok (.invokevirtual 123, 3) := by decide +kernel
theorem d_X_close_26 : decode b_X_close 26 = .ok (.istore_n 1, 1) := by decide +kernel
theorem d_X_close_27 : decode b_X_close 27 = .ok (.aload_n 0, 1) := by decide +kernel
theorem d_X_close_28 : decode b_X_close 28 = .ok (.invokevirtual 114, 3) := by decide +kernel
theorem d_X_close_31 : decode b_X_close 31 = .ok (.iload_n 1, 1) := by decide +kernel
theorem d_X_close_32 : decode b_X_close 32 = .ok (.ireturn, 1) := by decide +kernel
theorem d_X_count_0 : decode b_X_count 0 = .ok (.iload_n 1, 1) := by decide +kernel
theorem d_X_count_1 : decode b_X_count 1 = .ok (.tableswitch 83 0 5 #[39, 44, 52, 60, 65, 70], 39) := by decide +kernel
theorem d_X_count_40 : decode b_X_count 40 = .ok (.aload_n 0, 1) := by decide +kernel
theorem d_X_count_41 : decode b_X_count 41 = .ok (.getfield 38, 3) := by decide +kernel
theorem d_X_count_44 : decode b_X_count 44 = .ok (.ireturn, 1) := by decide +kernel
theorem d_X_count_45 : decode b_X_count 45 = .ok (.aload_n 0, 1) := by decide +kernel
theorem d_X_count_46 : decode b_X_count 46 = .ok (.getfield 27, 3) := by decide +kernel
theorem d_X_count_49 : decode b_X_count 49 = .ok (.getfield 76, 3) := by decide +kernel
theorem d_X_count_52 : decode b_X_count 52 = .ok (.ireturn, 1) := by decide +kernel
theorem d_X_count_53 : decode b_X_count 53 = .ok (.aload_n 0, 1) := by decide +kernel
theorem d_X_count_54 : decode b_X_count 54 = .ok (.getfield 31, 3) := by decide +kernel
theorem d_X_count_57 : decode b_X_count 57 = .ok (.getfield 76, 3) := by decide +kernel
theorem d_X_count_60 : decode b_X_count 60 = .ok (.ireturn, 1) := by decide +kernel
theorem d_X_count_61 : decode b_X_count 61 = .ok (.aload_n 0, 1) := by decide +kernel
theorem d_X_count_62 : decode b_X_count 62 = .ok (.invokevirtual 123, 3) := by decide +kernel
theorem d_X_count_65 : decode b_X_count 65 = .ok (.ireturn, 1) := by decide +kernel
theorem d_X_count_66 : decode b_X_count 66 = .ok (.aload_n 0, 1) := by decide +kernel
theorem d_X_count_67 : decode b_X_count 67 = .ok (.getfield 85, 3) := by decide +kernel
theorem d_X_count_70 : decode b_X_count 70 = .ok (.ireturn, 1) := by decide +kernel
theorem d_X_count_71 : decode b_X_count 71 = .ok (.aload_n 0, 1) := by decide +kernel
theorem d_X_count_72 : decode b_X_count 72 = .ok (.getfield 34, 3) := by decide +kernel
theorem d_X_count_75 : decode b_X_count 75 = .ok (.ifCond .eq 7, 3) := by decide +kernel
theorem d_X_count_78 : decode b_X_count 78 = .ok (.iconst 1, 1) := by decide +kernel
theorem d_X_count_79 : decode b_X_count 79 = .ok (.goto 4, 3) := by decide +kernel
theorem d_X_count_82 : decode b_X_count 82 = .ok (.iconst 0, 1) := by decide +kernel
theorem d_X_count_83 : decode b_X_count 83 = .ok (.ireturn, 1) := by decide +kernel
theorem d_X_count_84 : decode b_X_count 84 = .ok (.iload_n 1, 1) := by decide +kernel
theorem d_X_count_85 : decode b_X_count 85 = .ok (.bipush 10, 2) := by decide +kernel
theorem d_X_count_87 : decode b_X_count 87 = .ok (.isub, 1) := by decide +kernel
theorem d_X_count_88 : decode b_X_count 88 = .ok (.istore_n 2, 1) := by decide +kernel
theorem d_X_count_89 : decode b_X_count 89 = .ok (.iload_n 2, 1) := by decide +kernel
theorem d_X_count_90 : decode b_X_count 90 = .ok (.invokestatic 52, 3) := by decide +kernel
theorem d_X_count_93 : decode b_X_count 93 = .ok (.ifCond .eq 14, 3) := by decide +kernel
theorem d_X_count_96 : decode b_X_count 96 = .ok (.aload_n 0, 1) := by decide +kernel
theorem d_X_count_97 : decode b_X_count 97 = .ok (.getfield 18, 3) := by decide +kernel
theorem d_X_count_100 : decode b_X_count 100 = .ok (.iload_n 2, 1) := by decide +kernel
theorem d_X_count_101 : decode b_X_count 101 = .ok (.invokevirtual 69, 3) := by decide +kernel
theorem d_X_count_104 : decode b_X_count 104 = .ok (.goto 4, 3) := by decide +kernel
theorem d_X_count_107 : decode b_X_count 107 = .ok (.iconst (-1), 1) := by decide +kernel
theorem d_X_count_108 : decode b_X_count 108 = .ok (.ireturn, 1) := by decide +kernel
theorem d_X_done_0 : decode b_X_done 0 = .ok (.aload_n 0, 1) := by decide +kernel
theorem d_X_done_1 : decode b_X_done 1 = .ok (.iload_n 1, 1) := by decide +kernel
theorem d_X_done_2 : decode b_X_done 2 = .ok (.invokevirtual 45, 3) := by decide +kernel
theorem d_X_done_5 : decode b_X_done 5 = .ok (.astore_n 2, 1) := by decide +kernel
theorem d_X_done_6 : decode b_X_done 6 = .ok (.aload_n 2, 1) := by decide +kernel
theorem d_X_done_7 : decode b_X_done 7 = .ok (.ifnonnull 8, 3) := by decide +kernel
theorem d_X_done_10 : decode b_X_done 10 = .ok (.bipush (-2), 2) := by decide +kernel
theorem d_X_done_12 : decode b_X_done 12 = .ok (.goto 7, 3) := by decide +kernel
theorem d_X_done_15 : decode b_X_done 15 = .ok (.aload_n 2, 1) := by decide +kernel
theorem d_X_done_16 : decode b_X_done 16 = .ok (.getfield 126, 3) := by decide +kernel
theorem d_X_done_19 : decode b_X_done 19 = .ok (.ireturn, 1) := by decide +kernel
theorem d_X_find_0 : decode b_X_find 0 = .ok (.iload_n 1, 1) := by decide +kernel
theorem d_X_find_1 : decode b_X_find 1 = .ok (.iconst 1, 1) := by decide +kernel
theorem d_X_find_2 : decode b_X_find 2 = .ok (.if_icmp .lt 17, 3) := by decide +kernel
theorem d_X_find_5 : decode b_X_find 5 = .ok (.iload_n 1, 1) := by decide +kernel
theorem d_X_find_6 : decode b_X_find 6 = .ok (.aload_n 0, 1) := by decide +kernel
theorem d_X_find_7 : decode b_X_find 7 = .ok (.getfield 38, 3) := by decide +kernel
theorem d_X_find_10 : decode b_X_find 10 = .ok (.if_icmp .gt 9, 3) := by decide +kernel
theorem d_X_find_13 : decode b_X_find 13 = .ok (.iload_n 1, 1) := by decide +kernel
theorem d_X_find_14 : decode b_X_find 14 = .ok (.bipush 30, 2) := by decide +kernel
theorem d_X_find_16 : decode b_X_find 16 = .ok (.if_icmp .le 5, 3) := by decide +kernel
theorem d_X_find_19 : decode b_X_find 19 = .ok (.aconst_null, 1) := by decide +kernel
theorem d_X_find_20 : decode b_X_find 20 = .ok (.areturn, 1) := by decide +kernel
theorem d_X_find_21 : decode b_X_find 21 = .ok (.aload_n 0, 1) := by decide +kernel
theorem d_X_find_22 : decode b_X_find 22 = .ok (.getfield 11, 3) := by decide +kernel
theorem d_X_find_25 : decode b_X_find 25 = .ok (.iload_n 1, 1) := by decide +kernel
theorem d_X_find_26 : decode b_X_find 26 = .ok (.iconst 1, 1) := by decide +kernel
theorem d_X_find_27 : decode b_X_find 27 = .ok (.isub, 1) := by decide +kernel
theorem d_X_find_28 : decode b_X_find 28 = .ok (.aaload, 1) := by decide +kernel
theorem d_X_find_29 : decode b_X_find 29 = .ok (.areturn, 1) := by decide +kernel
theorem d_X_giveTurn_0 : decode b_X_giveTurn 0 = .ok (.aload_n 0, 1) := by decide +kernel
theorem d_X_giveTurn_1 : decode b_X_giveTurn 1 = .ok (.iload_n 1, 1) := by decide +kernel
theorem d_X_giveTurn_2 : decode b_X_giveTurn 2 = .ok (.invokevirtual 45, 3) := by decide +kernel
theorem d_X_giveTurn_5 : decode b_X_giveTurn 5 = .ok (.astore_n 2, 1) := by decide +kernel
theorem d_X_giveTurn_6 : decode b_X_giveTurn 6 = .ok (.aload_n 2, 1) := by decide +kernel
theorem d_X_giveTurn_7 : decode b_X_giveTurn 7 = .ok (.ifnonnull 5, 3) := by decide +kernel
theorem d_X_giveTurn_10 : decode b_X_giveTurn 10 = .ok (.iconst 0, 1) := by decide +kernel
theorem d_X_giveTurn_11 : decode b_X_giveTurn 11 = .ok (.ireturn, 1) := by decide +kernel
theorem d_X_giveTurn_12 : decode b_X_giveTurn 12 = .ok (.aload_n 2, 1) := by decide +kernel
theorem d_X_giveTurn_13 : decode b_X_giveTurn 13 = .ok (.aload_n 0, 1) := by decide +kernel
theorem d_X_giveTurn_14 : decode b_X_giveTurn 14 = .ok (.getfield 18, 3) := by decide +kernel
theorem d_X_giveTurn_17 : decode b_X_giveTurn 17 = .ok (.invokevirtual 129, 3) := by decide +kernel
theorem d_X_giveTurn_20 : decode b_X_giveTurn 20 = .ok (.istore_n 3, 1) := by decide +kernel
theorem d_X_giveTurn_21 : decode b_X_giveTurn 21 = .ok (.iload_n 3, 1) := by decide +kernel
theorem d_X_giveTurn_22 : decode b_X_giveTurn 22 = .ok (.iconst 1, 1) := by decide +kernel
theorem d_X_giveTurn_23 : decode b_X_giveTurn 23 = .ok (.if_icmp .ne 20, 3) := by decide +kernel
theorem d_X_giveTurn_26 : decode b_X_giveTurn 26 = .ok (.aload_n 0, 1) := by decide +kernel
theorem d_X_giveTurn_27 : decode b_X_giveTurn 27 = .ok (.getfield 31, 3) := by decide +kernel
theorem d_X_giveTurn_30 : decode b_X_giveTurn 30 = .ok (.sipush 1000, 3) := by decide +kernel
theorem d_X_giveTurn_33 : decode b_X_giveTurn 33 = .ok (.iload_n 1, 1) := by decide +kernel
theorem d_X_giveTurn_34 : decode b_X_giveTurn 34 = .ok (.imul, 1) := by decide +kernel
theorem d_X_giveTurn_35 : decode b_X_giveTurn 35 = .ok (.aload_n 2, 1) := by decide +kernel
theorem d_X_giveTurn_36 : decode b_X_giveTurn 36 = .ok (.getfield 126, 3) := by decide +kernel
theorem d_X_giveTurn_39 : decode b_X_giveTurn 39 = .ok (.iadd, 1) := by decide +kernel
theorem d_X_giveTurn_40 : decode b_X_giveTurn 40 = .ok (.invokevirtual 73, 3) := by decide +kernel
theorem d_X_giveTurn_43 : decode b_X_giveTurn 43 = .ok (.iload_n 3, 1) := by decide +kernel
theorem d_X_giveTurn_44 : decode b_X_giveTurn 44 = .ok (.ireturn, 1) := by decide +kernel
theorem d_X_giveRounds_0 : decode b_X_giveRounds 0 = .ok (.iconst 1, 1) := by decide +kernel
theorem d_X_giveRounds_1 : decode b_X_giveRounds 1 = .ok (.istore_n 1, 1) := by decide +kernel
theorem d_X_giveRounds_2 : decode b_X_giveRounds 2 = .ok (.iconst 0, 1) := by decide +kernel
theorem d_X_giveRounds_3 : decode b_X_giveRounds 3 = .ok (.istore_n 2, 1) := by decide +kernel
theorem d_X_giveRounds_4 : decode b_X_giveRounds 4 = .ok (.iload_n 1, 1) := by decide +kernel
theorem d_X_giveRounds_5 : decode b_X_giveRounds 5 = .ok (.ifCond .eq 21, 3) := by decide +kernel
theorem d_X_giveRounds_8 : decode b_X_giveRounds 8 = .ok (.iload_n 2, 1) := by decide +kernel
theorem d_X_giveRounds_9 : decode b_X_giveRounds 9 = .ok (.sipush 3031, 3) := by decide +kernel
theorem d_X_giveRounds_12 : decode b_X_giveRounds 12 = .ok (.if_icmp .ge 14, 3) := by decide +kernel
theorem d_X_giveRounds_15 : decode b_X_giveRounds 15 = .ok (.aload_n 0, 1) := by decide +kernel
theorem d_X_giveRounds_16 : decode b_X_giveRounds 16 = .ok (.invokevirtual 133, 3) := by decide +kernel
theorem d_X_giveRounds_19 : decode b_X_giveRounds 19 = .ok (.istore_n 1, 1) := by decide +kernel
theorem d_X_giveRounds_20 : decode b_X_giveRounds 20 = .ok (.iinc 2 1, 3) := by decide +kernel
theorem d_X_giveRounds_23 : decode b_X_giveRounds 23 = .ok (.goto (-19), 3) := by decide +kernel
theorem d_X_giveRounds_26 : decode b_X_giveRounds 26 = .ok (.return_, 1) := by decide +kernel
theorem d_X_giveOneRound_0 : decode b_X_giveOneRound 0 = .ok (.iconst 0, 1) := by decide +kernel
theorem d_X_giveOneRound_1 : decode b_X_giveOneRound 1 = .ok (.istore_n 1, 1) := by decide +kernel
theorem d_X_giveOneRound_2 : decode b_X_giveOneRound 2 = .ok (.iconst 1, 1) := by decide +kernel
theorem d_X_giveOneRound_3 : decode b_X_giveOneRound 3 = .ok (.istore_n 2, 1) := by decide +kernel
theorem d_X_giveOneRound_4 : decode b_X_giveOneRound 4 = .ok (.iload_n 2, 1) := by decide +kernel
theorem d_X_giveOneRound_5 : decode b_X_giveOneRound 5 = .ok (.aload_n 0, 1) := by decide +kernel
theorem d_X_giveOneRound_6 : decode b_X_giveOneRound 6 = .ok (.getfield 38, 3) := by decide +kernel
theorem d_X_giveOneRound_9 : decode b_X_giveOneRound 9 = .ok (.if_icmp .gt 19, 3) := by decide +kernel
theorem d_X_giveOneRound_12 : decode b_X_giveOneRound 12 = .ok (.aload_n 0, 1) := by decide +kernel
theorem d_X_giveOneRound_13 : decode b_X_giveOneRound 13 = .ok (.iload_n 2, 1) := by decide +kernel
theorem d_X_giveOneRound_14 : decode b_X_giveOneRound 14 = .ok (.invokevirtual 82, 3) := by decide +kernel
theorem d_X_giveOneRound_17 : decode b_X_giveOneRound 17 = .ok (.ifCond .eq 5, 3) := by decide +kernel
theorem d_X_giveOneRound_20 : decode b_X_giveOneRound 20 = .ok (.iconst 1, 1) := by decide +kernel
theorem d_X_giveOneRound_21 : decode b_X_giveOneRound 21 = .ok (.istore_n 1, 1) := by decide +kernel
theorem d_X_giveOneRound_22 : decode b_X_giveOneRound 22 = .ok (.iinc 2 1, 3) := by decide +kernel
theorem d_X_giveOneRound_25 : decode b_X_giveOneRound 25 = .ok (.goto (-21), 3) := by decide +kernel
theorem d_X_giveOneRound_28 : decode b_X_giveOneRound 28 = .ok (.iload_n 1, 1) := by decide +kernel
theorem d_X_giveOneRound_29 : decode b_X_giveOneRound 29 = .ok (.ireturn, 1) := by decide +kernel
theorem d_X_cancelThoseThatMay_0 : decode b_X_cancelThoseThatMay 0 = .ok (.iconst 1, 1) := by decide +kernel
theorem d_X_cancelThoseThatMay_1 : decode b_X_cancelThoseThatMay 1 = .ok (.istore_n 1, 1) := by decide +kernel
theorem d_X_cancelThoseThatMay_2 : decode b_X_cancelThoseThatMay 2 = .ok (.iload_n 1, 1) := by decide +kernel
theorem d_X_cancelThoseThatMay_3 : decode b_X_cancelThoseThatMay 3 = .ok (.aload_n 0, 1) := by decide +kernel
theorem d_X_cancelThoseThatMay_4 : decode b_X_cancelThoseThatMay 4 = .ok (.getfield 38, 3) := by decide +kernel
theorem d_X_cancelThoseThatMay_7 : decode b_X_cancelThoseThatMay 7 = .ok (.if_icmp .gt 38, 3) := by decide +kernel
theorem d_X_cancelThoseThatMay_10 : decode b_X_cancelThoseThatMay 10 = .ok (.aload_n 0, 1) := by decide +kernel
theorem d_X_cancelThoseThatMay_11 : decode b_X_cancelThoseThatMay 11 = .ok (.iload_n 1, 1) := by decide +kernel
theorem d_X_cancelThoseThatMay_12 : decode b_X_cancelThoseThatMay 12 = .ok (.invokevirtual 45, 3) := by decide +kernel
theorem d_X_cancelThoseThatMay_15 : decode b_X_cancelThoseThatMay 15 = .ok (.astore_n 2, 1) := by decide +kernel
theorem d_X_cancelThoseThatMay_16 : decode b_X_cancelThoseThatMay 16 = .ok (.aload_n 2, 1) := by decide +kernel
theorem d_X_cancelThoseThatMay_17 : decode b_X_cancelThoseThatMay 17 = .ok (.ifnull 22, 3) := by decide +kernel
theorem d_X_cancelThoseThatMay_20 : decode b_X_cancelThoseThatMay 20 = .ok (.aload_n 2, 1) := by decide +kernel
theorem d_X_cancelThoseThatMay_21 : decode b_X_cancelThoseThatMay 21 = .ok (.invokevirtual 91, 3) := by decide +kernel
theorem d_X_cancelThoseThatMay_24 : decode b_X_cancelThoseThatMay 24 = .ok (.ifCond .eq 15, 3) := by decide +kernel
theorem d_X_cancelThoseThatMay_27 : decode b_X_cancelThoseThatMay 27 = .ok (.aload_n 2, 1) := by decide +kernel
theorem d_X_cancelThoseThatMay_28 : decode b_X_cancelThoseThatMay 28 = .ok (.invokevirtual 136, 3) := by decide +kernel
theorem d_X_cancelThoseThatMay_31 : decode b_X_cancelThoseThatMay 31 = .ok (.ifCond .ne 8, 3) := by decide +kernel
theorem d_X_cancelThoseThatMay_34 : decode b_X_cancelThoseThatMay 34 = .ok (.aload_n 2, 1) := by decide +kernel
theorem d_X_cancelThoseThatMay_35 : decode b_X_cancelThoseThatMay 35 = .ok (.iconst 3, 1) := by decide +kernel
theorem d_X_cancelThoseThatMay_36 : decode b_X_cancelThoseThatMay 36 = .ok (.invokevirtual 139, 3) := by decide +kernel
theorem d_X_cancelThoseThatMay_39 : decode b_X_cancelThoseThatMay 39 = .ok (.iinc 1 1, 3) := by decide +kernel
theorem d_X_cancelThoseThatMay_42 : decode b_X_cancelThoseThatMay 42 = .ok (.goto (-40), 3) := by decide +kernel
theorem d_X_cancelThoseThatMay_45 : decode b_X_cancelThoseThatMay 45 = .ok (.return_, 1) := by decide +kernel
theorem d_X_countOpenUnits_0 : decode b_X_countOpenUnits 0 = .ok (.iconst 0, 1) := by decide +kernel
theorem d_X_countOpenUnits_1 : decode b_X_countOpenUnits 1 = .ok (.istore_n 1, 1) := by decide +kernel
theorem d_X_countOpenUnits_2 : decode b_X_countOpenUnits 2 = .ok (.iconst 1, 1) := by decide +kernel
theorem d_X_countOpenUnits_3 : decode b_X_countOpenUnits 3 = .ok (.istore_n 2, 1) := by decide +kernel
theorem d_X_countOpenUnits_4 : decode b_X_countOpenUnits 4 = .ok (.iload_n 2, 1) := by decide +kernel
theorem d_X_countOpenUnits_5 : decode b_X_countOpenUnits 5 = .ok (.aload_n 0, 1) := by decide +kernel
theorem d_X_countOpenUnits_6 : decode b_X_countOpenUnits 6 = .ok (.getfield 38, 3) := by decide +kernel
theorem d_X_countOpenUnits_9 : decode b_X_countOpenUnits 9 = .ok (.if_icmp .gt 36, 3) := by decide +kernel
theorem d_X_countOpenUnits_12 : decode b_X_countOpenUnits 12 = .ok (.aload_n 0, 1) := by decide +kernel
theorem d_X_countOpenUnits_13 : decode b_X_countOpenUnits 13 = .ok (.iload_n 2, 1) := by decide +kernel
theorem d_X_countOpenUnits_14 : decode b_X_countOpenUnits 14 = .ok (.invokevirtual 45, 3) := by decide +kernel
theorem d_X_countOpenUnits_17 : decode b_X_countOpenUnits 17 = .ok (.astore_n 3, 1) := by decide +kernel
theorem d_X_countOpenUnits_18 : decode b_X_countOpenUnits 18 = .ok (.aload_n 3, 1) := by decide +kernel
theorem d_X_countOpenUnits_19 : decode b_X_countOpenUnits 19 = .ok (.ifnull 20, 3) := by decide +kernel
theorem d_X_countOpenUnits_22 : decode b_X_countOpenUnits 22 = .ok (.aload_n 3, 1) := by decide +kernel
theorem d_X_countOpenUnits_23 : decode b_X_countOpenUnits 23 = .ok (.invokevirtual 91, 3) := by decide +kernel
theorem d_X_countOpenUnits_26 : decode b_X_countOpenUnits 26 = .ok (.ifCond .eq 13, 3) := by decide +kernel
theorem d_X_countOpenUnits_29 : decode b_X_countOpenUnits 29 = .ok (.aload_n 3, 1) := by decide +kernel
theorem d_X_countOpenUnits_30 : decode b_X_countOpenUnits 30 = .ok (.invokevirtual 142, 3) := by decide +kernel
theorem d_X_countOpenUnits_33 : decode b_X_countOpenUnits 33 = .ok (.ifCond .le 6, 3) := by decide +kernel
theorem d_X_countOpenUnits_36 : decode b_X_countOpenUnits 36 = .ok (.iinc 1 1, 3) := by decide +kernel
theorem d_X_countOpenUnits_39 : decode b_X_countOpenUnits 39 = .ok (.iinc 2 1, 3) := by decide +kernel
theorem d_X_countOpenUnits_42 : decode b_X_countOpenUnits 42 = .ok (.goto (-38), 3) := by decide +kernel
theorem d_X_countOpenUnits_45 : decode b_X_countOpenUnits 45 = .ok (.iload_n 1, 1) := by decide +kernel
theorem d_X_countOpenUnits_46 : decode b_X_countOpenUnits 46 = .ok (.ireturn, 1) := by decide +kernel
theorem d_X_countGoingOn_0 : decode b_X_countGoingOn 0 = .ok (.iconst 0, 1) := by decide +kernel
theorem d_X_countGoingOn_1 : decode b_X_countGoingOn 1 = .ok (.istore_n 1, 1) := by decide +kernel
theorem d_X_countGoingOn_2 : decode b_X_countGoingOn 2 = .ok (.iconst 1, 1) := by decide +kernel
theorem d_X_countGoingOn_3 : decode b_X_countGoingOn 3 = .ok (.istore_n 2, 1) := by decide +kernel
theorem d_X_countGoingOn_4 : decode b_X_countGoingOn 4 = .ok (.iload_n 2, 1) := by decide +kernel
theorem d_X_countGoingOn_5 : decode b_X_countGoingOn 5 = .ok (.aload_n 0, 1) := by decide +kernel
theorem d_X_countGoingOn_6 : decode b_X_countGoingOn 6 = .ok (.getfield 38, 3) := by decide +kernel
theorem d_X_countGoingOn_9 : decode b_X_countGoingOn 9 = .ok (.if_icmp .gt 29, 3) := by decide +kernel
theorem d_X_countGoingOn_12 : decode b_X_countGoingOn 12 = .ok (.aload_n 0, 1) := by decide +kernel
theorem d_X_countGoingOn_13 : decode b_X_countGoingOn 13 = .ok (.iload_n 2, 1) := by decide +kernel
theorem d_X_countGoingOn_14 : decode b_X_countGoingOn 14 = .ok (.invokevirtual 45, 3) := by decide +kernel
theorem d_X_countGoingOn_17 : decode b_X_countGoingOn 17 = .ok (.astore_n 3, 1) := by decide +kernel
theorem d_X_countGoingOn_18 : decode b_X_countGoingOn 18 = .ok (.aload_n 3, 1) := by decide +kernel
theorem d_X_countGoingOn_19 : decode b_X_countGoingOn 19 = .ok (.ifnull 13, 3) := by decide +kernel
theorem d_X_countGoingOn_22 : decode b_X_countGoingOn 22 = .ok (.aload_n 3, 1) := by decide +kernel
theorem d_X_countGoingOn_23 : decode b_X_countGoingOn 23 = .ok (.invokevirtual 91, 3) := by decide +kernel
theorem d_X_countGoingOn_26 : decode b_X_countGoingOn 26 = .ok (.ifCond .eq 6, 3) := by decide +kernel
theorem d_X_countGoingOn_29 : decode b_X_countGoingOn 29 = .ok (.iinc 1 1, 3) := by decide +kernel
theorem d_X_countGoingOn_32 : decode b_X_countGoingOn 32 = .ok (.iinc 2 1, 3) := by decide +kernel
theorem d_X_countGoingOn_35 : decode b_X_countGoingOn 35 = .ok (.goto (-31), 3) := by decide +kernel
theorem d_X_countGoingOn_38 : decode b_X_countGoingOn 38 = .ok (.iload_n 1, 1) := by decide +kernel
theorem d_X_countGoingOn_39 : decode b_X_countGoingOn 39 = .ok (.ireturn, 1) := by decide +kernel
theorem d_X_leaveAll_0 : decode b_X_leaveAll 0 = .ok (.iconst 1, 1) := by decide +kernel
theorem d_X_leaveAll_1 : decode b_X_leaveAll 1 = .ok (.istore_n 1, 1) := by decide +kernel
theorem d_X_leaveAll_2 : decode b_X_leaveAll 2 = .ok (.iload_n 1, 1) := by decide +kernel
theorem d_X_leaveAll_3 : decode b_X_leaveAll 3 = .ok (.aload_n 0, 1) := by decide +kernel
theorem d_X_leaveAll_4 : decode b_X_leaveAll 4 = .ok (.getfield 38, 3) := by decide +kernel
theorem d_X_leaveAll_7 : decode b_X_leaveAll 7 = .ok (.if_icmp .gt 31, 3) := by decide +kernel
theorem d_X_leaveAll_10 : decode b_X_leaveAll 10 = .ok (.aload_n 0, 1) := by decide +kernel
theorem d_X_leaveAll_11 : decode b_X_leaveAll 11 = .ok (.iload_n 1, 1) := by decide +kernel
theorem d_X_leaveAll_12 : decode b_X_leaveAll 12 = .ok (.invokevirtual 45, 3) := by decide +kernel
theorem d_X_leaveAll_15 : decode b_X_leaveAll 15 = .ok (.astore_n 2, 1) := by decide +kernel
theorem d_X_leaveAll_16 : decode b_X_leaveAll 16 = .ok (.aload_n 2, 1) := by decide +kernel
theorem d_X_leaveAll_17 : decode b_X_leaveAll 17 = .ok (.ifnull 15, 3) := by decide +kernel
theorem d_X_leaveAll_20 : decode b_X_leaveAll 20 = .ok (.aload_n 2, 1) := by decide +kernel
theorem d_X_leaveAll_21 : decode b_X_leaveAll 21 = .ok (.invokevirtual 91, 3) := by decide +kernel
theorem d_X_leaveAll_24 : decode b_X_leaveAll 24 = .ok (.ifCond .eq 8, 3) := by decide +kernel
theorem d_X_leaveAll_27 : decode b_X_leaveAll 27 = .ok (.aload_n 2, 1) := by decide +kernel
theorem d_X_leaveAll_28 : decode b_X_leaveAll 28 = .ok (.iconst 4, 1) := by decide +kernel
theorem d_X_leaveAll_29 : decode b_X_leaveAll 29 = .ok (.putfield 120, 3) := by decide +kernel
theorem d_X_leaveAll_32 : decode b_X_leaveAll 32 = .ok (.iinc 1 1, 3) := by decide +kernel
theorem d_X_leaveAll_35 : decode b_X_leaveAll 35 = .ok (.goto (-33), 3) := by decide +kernel
theorem d_X_leaveAll_38 : decode b_X_leaveAll 38 = .ok (.return_, 1) := by decide +kernel
end
section
set_option maxHeartbeats 4000000 in
set_option maxRecDepth 100000 in
theorem c_X_find (g : zw_G) (l : Launch) (N : Nat) (ad : Nat → Nat) (E : Nat → va_E) (F : Nat) (q : Nat → Nat) (rg : zt_R) (ev sf lf : Nat → Nat) (hF8 : 8 ≤ F) (hN : N = F + 5 * q 0) (hT : zt_at g ad E F q rg ev sf lf) (hok : zt_ok q rg ev sf) (x : Int32) : zc_q g l y_X_find b_X_find 2 (some (.object "RegionThreads$Region")) { frames := 0, cells := 0, slots := 0, locals := 0 } [.ref (ad (0)), .int (x)] N ad E (fun v N1 ad1 E1 => N = N1 ∧ ad = ad1 ∧ E = E1 ∧ v = if 1 ≤ x.toInt ∧ x.toInt ≤ (q 0 : Int) then some (ad (F + 5 * (x.toInt.toNat - 1))) else none) := by
  refine zc_q.of (by decide) (Nat.le_of_ble_eq_true rfl) ?_
  intro p e s m below meth c ls A X hr hlk hl hH
  have hl : lv_has ls 2 [(0, .ref (ad (0))), (1, .int (x))] := hl
  obtain ⟨k0, k2, k3, k3a, k4, k4a, k5, k5a, k6, k6a⟩ := hok.1
  refine lv_iload_n X.1 X.2.1 d_X_find_0 rfl (lv_at hl 1 rfl) ?_
  refine lv_iconst (v := nI 1) X.1 X.2.1 d_X_find_1 (by decide) ?_
  refine lv_icmp_lt (tgt := 19) X.1 X.2.1 d_X_find_2 (by decide) (fun c1 => ?_) (fun c1 => ?_)
  · have c1 := (zn_lt rfl (nI_toInt (by omega))).mp c1
    refine lv_null X.1 X.2.1 d_X_find_19 ?_
    exact zx_aret (v := none) X hr (Or.inl ⟨_, rfl⟩) hlk hH rfl (Nat.le_of_ble_eq_true rfl) (Nat.le_of_ble_eq_true rfl) d_X_find_20 ⟨rfl, rfl, rfl, (by rw [if_neg (by omega)])⟩
  · have c1 := mt (zn_lt rfl (nI_toInt (by omega))).mpr c1
    refine lv_iload_n X.1 X.2.1 d_X_find_5 rfl (lv_at hl 1 rfl) ?_
    refine lv_aload_n X.1 X.2.1 d_X_find_6 rfl (lv_at hl 0 rfl) ?_
    refine zx_get (v := .int (nI (q 0))) X hH fg_X_38 (by omega) hT.1 rfl d_X_find_7 ?_
    refine lv_icmp_gt (tgt := 19) X.1 X.2.1 d_X_find_10 (by decide) (fun c2 => ?_) (fun c2 => ?_)
    · have c2 := (zn_lt (nI_toInt (by omega)) rfl).mp c2
      refine lv_null X.1 X.2.1 d_X_find_19 ?_
      exact zx_aret (v := none) X hr (Or.inl ⟨_, rfl⟩) hlk hH rfl (Nat.le_of_ble_eq_true rfl) (Nat.le_of_ble_eq_true rfl) d_X_find_20 ⟨rfl, rfl, rfl, (by rw [if_neg (by omega)])⟩
    · have c2 := mt (zn_lt (nI_toInt (by omega)) rfl).mpr c2
      refine lv_iload_n X.1 X.2.1 d_X_find_13 rfl (lv_at hl 1 rfl) ?_
      refine lv_bipush (v := nI 30) X.1 X.2.1 d_X_find_14 (by decide) ?_
      refine lv_icmp_le (tgt := 21) X.1 X.2.1 d_X_find_16 (by decide) (fun c3 => ?_) (fun c3 => ?_)
      · have c3 := (zn_le rfl (nI_toInt (by omega))).mp c3
        refine lv_aload_n X.1 X.2.1 d_X_find_21 rfl (lv_at hl 0 rfl) ?_
        refine zx_get (v := .ref (ad (1))) X hH fg_X_11 (by omega) hT.1 rfl d_X_find_22 ?_
        refine lv_iload_n X.1 X.2.1 d_X_find_25 rfl (lv_at hl 1 rfl) ?_
        refine lv_iconst (v := nI 1) X.1 X.2.1 d_X_find_26 (by decide) ?_
        refine lv_isub X.1 X.2.1 d_X_find_27 ?_
        refine zx_aald (j := x.toInt.toNat - 1) X hH (by omega) hT.2.1 (zn_pred (by omega)) (by omega) (by decide) d_X_find_28 ?_
        exact zx_aret X hr (Or.inl ⟨_, rfl⟩) hlk hH rfl (Nat.le_of_ble_eq_true rfl) (Nat.le_of_ble_eq_true rfl) d_X_find_29 ⟨rfl, rfl, rfl, (by rw [if_pos (by omega), if_pos (by omega)])⟩
      · have c3 := mt (zn_le rfl (nI_toInt (by omega))).mpr c3
        exfalso; omega

set_option maxHeartbeats 4000000 in
set_option maxRecDepth 100000 in
theorem c_X_cleaned (g : zw_G) (l : Launch) (N : Nat) (ad : Nat → Nat) (E : Nat → va_E) (F : Nat) (q : Nat → Nat) (rg : zt_R) (ev sf lf : Nat → Nat) (hF8 : 8 ≤ F) (hN : N = F + 5 * q 0) (hT : zt_at g ad E F q rg ev sf lf) (hok : zt_ok q rg ev sf) (x : Int32) : zc_i g l y_X_cleaned b_X_cleaned 3 (some .int) { frames := 1, cells := 0, slots := 0, locals := 40 } [.ref (ad (0)), .int (x)] N ad E (fun v N1 ad1 E1 => N = N1 ∧ ad = ad1 ∧ E = E1 ∧ v = if 1 ≤ x.toInt ∧ x.toInt ≤ (q 0 : Int) then nI ((rg (x.toInt.toNat - 1)).1 6) else -2) := by
  refine zc_i.of (by decide) (Nat.le_of_ble_eq_true rfl) ?_
  intro p e s m below meth c ls A X hr hlk hl hH
  have hl : lv_has ls 3 [(0, .ref (ad (0))), (1, .int (x))] := hl
  obtain ⟨k0, k2, k3, k3a, k4, k4a, k5, k5a, k6, k6a⟩ := hok.1
  refine lv_aload_n X.1 X.2.1 d_X_cleaned_0 rfl (lv_at hl 0 rfl) ?_
  refine lv_iload_n X.1 X.2.1 d_X_cleaned_1 rfl (lv_at hl 1 rfl) ?_
  refine zx_callq (zx_runV (As := [.int (x)]) (rest := []) X hH mv_X_45 ((c_X_find g l N ad E F q rg ev sf lf hF8 hN hT hok (x)) _) (by omega) hT.1 rfl ⟨Nat.le_of_ble_eq_true rfl, Nat.le_of_ble_eq_true rfl⟩ rfl hl rfl (Nat.le_of_ble_eq_true rfl) d_X_cleaned_2 ⟨Nat.le_of_ble_eq_true rfl, Nat.le_of_ble_eq_true rfl⟩) hH (fun r N1 ad1 E1 H locs hq hH => ?_)
  obtain ⟨rfl, rfl, rfl, hv⟩ := hq
  by_cases d1 : 1 ≤ (x).toInt ∧ (x).toInt ≤ (q 0 : Int)
  · obtain ⟨i, hi⟩ : ∃ i, i = (x).toInt.toNat - 1 := ⟨_, rfl⟩
    rw [if_pos d1, ← hi] at hv
    subst hv
    have hi0 : i < q 0 := by omega
    have hR := hT.2.2.2.2.2 i hi0
    have hro := hok.2.1 i hi0
    obtain ⟨r0, r1, r2, r3, r4, r5, r7, r8, r6⟩ := hro.1
    refine W.eq (g2 := F0 m 5 ls ([.ref (ad (F + 5 * (i)))])) rfl ?_
    refine lv_astore_n (lv' := [(2, .ref (ad (F + 5 * (i)))), (0, .ref (ad (0))), (1, .int (x))]) X.1 X.2.1 d_X_cleaned_5 rfl hl (by decide) rfl (fun ls hl => ?_)
    refine lv_aload_n X.1 X.2.1 d_X_cleaned_6 rfl (lv_at hl 0 rfl) ?_
    refine lv_ifnonnull (tgt := 15) X.1 X.2.1 d_X_cleaned_7 (by decide) ?_
    refine lv_aload_n X.1 X.2.1 d_X_cleaned_15 rfl (lv_at hl 0 rfl) ?_
    refine zx_get (v := .int (nI ((rg (i)).1 6))) X hH fg_X_98 (by omega) hR.1 rfl d_X_cleaned_16 ?_
    exact zx_iret X hr hlk hH (Nat.le_of_ble_eq_true rfl) (Nat.le_of_ble_eq_true rfl) d_X_cleaned_19 ⟨rfl, rfl, rfl, (by rw [if_pos d1, hi])⟩
  · rw [if_neg d1] at hv
    subst hv
    refine W.eq (g2 := F0 m 5 ls ([.null])) rfl ?_
    refine lv_astore_nN (lv' := [(2, .null), (0, .ref (ad (0))), (1, .int (x))]) X.1 X.2.1 d_X_cleaned_5 rfl hl (by decide) rfl (fun ls hl => ?_)
    refine lv_aload_nN X.1 X.2.1 d_X_cleaned_6 rfl (lv_at hl 0 rfl) ?_
    refine lv_ifnonnullN X.1 X.2.1 d_X_cleaned_7 ?_
    refine lv_bipush (v := (-2)) X.1 X.2.1 d_X_cleaned_10 (by decide) ?_
    refine lv_goto (tgt := 19) X.1 X.2.1 d_X_cleaned_12 (by decide) ?_
    exact zx_iret X hr hlk hH (Nat.le_of_ble_eq_true rfl) (Nat.le_of_ble_eq_true rfl) d_X_cleaned_19 ⟨rfl, rfl, rfl, (by rw [if_neg d1])⟩

set_option maxHeartbeats 4000000 in
set_option maxRecDepth 100000 in
theorem c_X_backed (g : zw_G) (l : Launch) (N : Nat) (ad : Nat → Nat) (E : Nat → va_E) (F : Nat) (q : Nat → Nat) (rg : zt_R) (ev sf lf : Nat → Nat) (hF8 : 8 ≤ F) (hN : N = F + 5 * q 0) (hT : zt_at g ad E F q rg ev sf lf) (hok : zt_ok q rg ev sf) (x : Int32) : zc_i g l y_X_backed b_X_backed 3 (some .int) { frames := 1, cells := 0, slots := 0, locals := 40 } [.ref (ad (0)), .int (x)] N ad E (fun v N1 ad1 E1 => N = N1 ∧ ad = ad1 ∧ E = E1 ∧ v = if 1 ≤ x.toInt ∧ x.toInt ≤ (q 0 : Int) then nI ((rg (x.toInt.toNat - 1)).1 5) else -2) := by
  refine zc_i.of (by decide) (Nat.le_of_ble_eq_true rfl) ?_
  intro p e s m below meth c ls A X hr hlk hl hH
  have hl : lv_has ls 3 [(0, .ref (ad (0))), (1, .int (x))] := hl
  obtain ⟨k0, k2, k3, k3a, k4, k4a, k5, k5a, k6, k6a⟩ := hok.1
  refine lv_aload_n X.1 X.2.1 d_X_backed_0 rfl (lv_at hl 0 rfl) ?_
  refine lv_iload_n X.1 X.2.1 d_X_backed_1 rfl (lv_at hl 1 rfl) ?_
  refine zx_callq (zx_runV (As := [.int (x)]) (rest := []) X hH mv_X_45 ((c_X_find g l N ad E F q rg ev sf lf hF8 hN hT hok (x)) _) (by omega) hT.1 rfl ⟨Nat.le_of_ble_eq_true rfl, Nat.le_of_ble_eq_true rfl⟩ rfl hl rfl (Nat.le_of_ble_eq_true rfl) d_X_backed_2 ⟨Nat.le_of_ble_eq_true rfl, Nat.le_of_ble_eq_true rfl⟩) hH (fun r N1 ad1 E1 H locs hq hH => ?_)
  obtain ⟨rfl, rfl, rfl, hv⟩ := hq
  by_cases d1 : 1 ≤ (x).toInt ∧ (x).toInt ≤ (q 0 : Int)
  · obtain ⟨i, hi⟩ : ∃ i, i = (x).toInt.toNat - 1 := ⟨_, rfl⟩
    rw [if_pos d1, ← hi] at hv
    subst hv
    have hi0 : i < q 0 := by omega
    have hR := hT.2.2.2.2.2 i hi0
    have hro := hok.2.1 i hi0
    obtain ⟨r0, r1, r2, r3, r4, r5, r7, r8, r6⟩ := hro.1
    refine W.eq (g2 := F0 m 5 ls ([.ref (ad (F + 5 * (i)))])) rfl ?_
    refine lv_astore_n (lv' := [(2, .ref (ad (F + 5 * (i)))), (0, .ref (ad (0))), (1, .int (x))]) X.1 X.2.1 d_X_backed_5 rfl hl (by decide) rfl (fun ls hl => ?_)
    refine lv_aload_n X.1 X.2.1 d_X_backed_6 rfl (lv_at hl 0 rfl) ?_
    refine lv_ifnonnull (tgt := 15) X.1 X.2.1 d_X_backed_7 (by decide) ?_
    refine lv_aload_n X.1 X.2.1 d_X_backed_15 rfl (lv_at hl 0 rfl) ?_
    refine zx_get (v := .int (nI ((rg (i)).1 5))) X hH fg_X_101 (by omega) hR.1 rfl d_X_backed_16 ?_
    exact zx_iret X hr hlk hH (Nat.le_of_ble_eq_true rfl) (Nat.le_of_ble_eq_true rfl) d_X_backed_19 ⟨rfl, rfl, rfl, (by rw [if_pos d1, hi])⟩
  · rw [if_neg d1] at hv
    subst hv
    refine W.eq (g2 := F0 m 5 ls ([.null])) rfl ?_
    refine lv_astore_nN (lv' := [(2, .null), (0, .ref (ad (0))), (1, .int (x))]) X.1 X.2.1 d_X_backed_5 rfl hl (by decide) rfl (fun ls hl => ?_)
    refine lv_aload_nN X.1 X.2.1 d_X_backed_6 rfl (lv_at hl 0 rfl) ?_
    refine lv_ifnonnullN X.1 X.2.1 d_X_backed_7 ?_
    refine lv_bipush (v := (-2)) X.1 X.2.1 d_X_backed_10 (by decide) ?_
    refine lv_goto (tgt := 19) X.1 X.2.1 d_X_backed_12 (by decide) ?_
    exact zx_iret X hr hlk hH (Nat.le_of_ble_eq_true rfl) (Nat.le_of_ble_eq_true rfl) d_X_backed_19 ⟨rfl, rfl, rfl, (by rw [if_neg d1])⟩

set_option maxHeartbeats 4000000 in
set_option maxRecDepth 100000 in
theorem c_X_finished (g : zw_G) (l : Launch) (N : Nat) (ad : Nat → Nat) (E : Nat → va_E) (F : Nat) (q : Nat → Nat) (rg : zt_R) (ev sf lf : Nat → Nat) (hF8 : 8 ≤ F) (hN : N = F + 5 * q 0) (hT : zt_at g ad E F q rg ev sf lf) (hok : zt_ok q rg ev sf) (x : Int32) : zc_i g l y_X_finished b_X_finished 3 (some .int) { frames := 1, cells := 0, slots := 0, locals := 40 } [.ref (ad (0)), .int (x)] N ad E (fun v N1 ad1 E1 => N = N1 ∧ ad = ad1 ∧ E = E1 ∧ v = if 1 ≤ x.toInt ∧ x.toInt ≤ (q 0 : Int) then nI ((rg (x.toInt.toNat - 1)).1 2) else -2) := by
  refine zc_i.of (by decide) (Nat.le_of_ble_eq_true rfl) ?_
  intro p e s m below meth c ls A X hr hlk hl hH
  have hl : lv_has ls 3 [(0, .ref (ad (0))), (1, .int (x))] := hl
  obtain ⟨k0, k2, k3, k3a, k4, k4a, k5, k5a, k6, k6a⟩ := hok.1
  refine lv_aload_n X.1 X.2.1 d_X_finished_0 rfl (lv_at hl 0 rfl) ?_
  refine lv_iload_n X.1 X.2.1 d_X_finished_1 rfl (lv_at hl 1 rfl) ?_
  refine zx_callq (zx_runV (As := [.int (x)]) (rest := []) X hH mv_X_45 ((c_X_find g l N ad E F q rg ev sf lf hF8 hN hT hok (x)) _) (by omega) hT.1 rfl ⟨Nat.le_of_ble_eq_true rfl, Nat.le_of_ble_eq_true rfl⟩ rfl hl rfl (Nat.le_of_ble_eq_true rfl) d_X_finished_2 ⟨Nat.le_of_ble_eq_true rfl, Nat.le_of_ble_eq_true rfl⟩) hH (fun r N1 ad1 E1 H locs hq hH => ?_)
  obtain ⟨rfl, rfl, rfl, hv⟩ := hq
  by_cases d1 : 1 ≤ (x).toInt ∧ (x).toInt ≤ (q 0 : Int)
  · obtain ⟨i, hi⟩ : ∃ i, i = (x).toInt.toNat - 1 := ⟨_, rfl⟩
    rw [if_pos d1, ← hi] at hv
    subst hv
    have hi0 : i < q 0 := by omega
    have hR := hT.2.2.2.2.2 i hi0
    have hro := hok.2.1 i hi0
    obtain ⟨r0, r1, r2, r3, r4, r5, r7, r8, r6⟩ := hro.1
    refine W.eq (g2 := F0 m 5 ls ([.ref (ad (F + 5 * (i)))])) rfl ?_
    refine lv_astore_n (lv' := [(2, .ref (ad (F + 5 * (i)))), (0, .ref (ad (0))), (1, .int (x))]) X.1 X.2.1 d_X_finished_5 rfl hl (by decide) rfl (fun ls hl => ?_)
    refine lv_aload_n X.1 X.2.1 d_X_finished_6 rfl (lv_at hl 0 rfl) ?_
    refine lv_ifnonnull (tgt := 15) X.1 X.2.1 d_X_finished_7 (by decide) ?_
    refine lv_aload_n X.1 X.2.1 d_X_finished_15 rfl (lv_at hl 0 rfl) ?_
    refine zx_get (v := .int (nI ((rg (i)).1 2))) X hH fg_X_120 (by omega) hR.1 rfl d_X_finished_16 ?_
    exact zx_iret X hr hlk hH (Nat.le_of_ble_eq_true rfl) (Nat.le_of_ble_eq_true rfl) d_X_finished_19 ⟨rfl, rfl, rfl, (by rw [if_pos d1, hi])⟩
  · rw [if_neg d1] at hv
    subst hv
    refine W.eq (g2 := F0 m 5 ls ([.null])) rfl ?_
    refine lv_astore_nN (lv' := [(2, .null), (0, .ref (ad (0))), (1, .int (x))]) X.1 X.2.1 d_X_finished_5 rfl hl (by decide) rfl (fun ls hl => ?_)
    refine lv_aload_nN X.1 X.2.1 d_X_finished_6 rfl (lv_at hl 0 rfl) ?_
    refine lv_ifnonnullN X.1 X.2.1 d_X_finished_7 ?_
    refine lv_bipush (v := (-2)) X.1 X.2.1 d_X_finished_10 (by decide) ?_
    refine lv_goto (tgt := 19) X.1 X.2.1 d_X_finished_12 (by decide) ?_
    exact zx_iret X hr hlk hH (Nat.le_of_ble_eq_true rfl) (Nat.le_of_ble_eq_true rfl) d_X_finished_19 ⟨rfl, rfl, rfl, (by rw [if_neg d1])⟩

set_option maxHeartbeats 4000000 in
set_option maxRecDepth 100000 in
theorem c_X_done (g : zw_G) (l : Launch) (N : Nat) (ad : Nat → Nat) (E : Nat → va_E) (F : Nat) (q : Nat → Nat) (rg : zt_R) (ev sf lf : Nat → Nat) (hF8 : 8 ≤ F) (hN : N = F + 5 * q 0) (hT : zt_at g ad E F q rg ev sf lf) (hok : zt_ok q rg ev sf) (x : Int32) : zc_i g l y_X_done b_X_done 3 (some .int) { frames := 1, cells := 0, slots := 0, locals := 40 } [.ref (ad (0)), .int (x)] N ad E (fun v N1 ad1 E1 => N = N1 ∧ ad = ad1 ∧ E = E1 ∧ v = if 1 ≤ x.toInt ∧ x.toInt ≤ (q 0 : Int) then nI ((rg (x.toInt.toNat - 1)).1 3) else -2) := by
  refine zc_i.of (by decide) (Nat.le_of_ble_eq_true rfl) ?_
  intro p e s m below meth c ls A X hr hlk hl hH
  have hl : lv_has ls 3 [(0, .ref (ad (0))), (1, .int (x))] := hl
  obtain ⟨k0, k2, k3, k3a, k4, k4a, k5, k5a, k6, k6a⟩ := hok.1
  refine lv_aload_n X.1 X.2.1 d_X_done_0 rfl (lv_at hl 0 rfl) ?_
  refine lv_iload_n X.1 X.2.1 d_X_done_1 rfl (lv_at hl 1 rfl) ?_
  refine zx_callq (zx_runV (As := [.int (x)]) (rest := []) X hH mv_X_45 ((c_X_find g l N ad E F q rg ev sf lf hF8 hN hT hok (x)) _) (by omega) hT.1 rfl ⟨Nat.le_of_ble_eq_true rfl, Nat.le_of_ble_eq_true rfl⟩ rfl hl rfl (Nat.le_of_ble_eq_true rfl) d_X_done_2 ⟨Nat.le_of_ble_eq_true rfl, Nat.le_of_ble_eq_true rfl⟩) hH (fun r N1 ad1 E1 H locs hq hH => ?_)
  obtain ⟨rfl, rfl, rfl, hv⟩ := hq
  by_cases d1 : 1 ≤ (x).toInt ∧ (x).toInt ≤ (q 0 : Int)
  · obtain ⟨i, hi⟩ : ∃ i, i = (x).toInt.toNat - 1 := ⟨_, rfl⟩
    rw [if_pos d1, ← hi] at hv
    subst hv
    have hi0 : i < q 0 := by omega
    have hR := hT.2.2.2.2.2 i hi0
    have hro := hok.2.1 i hi0
    obtain ⟨r0, r1, r2, r3, r4, r5, r7, r8, r6⟩ := hro.1
    refine W.eq (g2 := F0 m 5 ls ([.ref (ad (F + 5 * (i)))])) rfl ?_
    refine lv_astore_n (lv' := [(2, .ref (ad (F + 5 * (i)))), (0, .ref (ad (0))), (1, .int (x))]) X.1 X.2.1 d_X_done_5 rfl hl (by decide) rfl (fun ls hl => ?_)
    refine lv_aload_n X.1 X.2.1 d_X_done_6 rfl (lv_at hl 0 rfl) ?_
    refine lv_ifnonnull (tgt := 15) X.1 X.2.1 d_X_done_7 (by decide) ?_
    refine lv_aload_n X.1 X.2.1 d_X_done_15 rfl (lv_at hl 0 rfl) ?_
    refine zx_get (v := .int (nI ((rg (i)).1 3))) X hH fg_X_126 (by omega) hR.1 rfl d_X_done_16 ?_
    exact zx_iret X hr hlk hH (Nat.le_of_ble_eq_true rfl) (Nat.le_of_ble_eq_true rfl) d_X_done_19 ⟨rfl, rfl, rfl, (by rw [if_pos d1, hi])⟩
  · rw [if_neg d1] at hv
    subst hv
    refine W.eq (g2 := F0 m 5 ls ([.null])) rfl ?_
    refine lv_astore_nN (lv' := [(2, .null), (0, .ref (ad (0))), (1, .int (x))]) X.1 X.2.1 d_X_done_5 rfl hl (by decide) rfl (fun ls hl => ?_)
    refine lv_aload_nN X.1 X.2.1 d_X_done_6 rfl (lv_at hl 0 rfl) ?_
    refine lv_ifnonnullN X.1 X.2.1 d_X_done_7 ?_
    refine lv_bipush (v := (-2)) X.1 X.2.1 d_X_done_10 (by decide) ?_
    refine lv_goto (tgt := 19) X.1 X.2.1 d_X_done_12 (by decide) ?_
    exact zx_iret X hr hlk hH (Nat.le_of_ble_eq_true rfl) (Nat.le_of_ble_eq_true rfl) d_X_done_19 ⟨rfl, rfl, rfl, (by rw [if_neg d1])⟩

set_option maxHeartbeats 4000000 in
set_option maxRecDepth 100000 in
theorem c_X_log (g : zw_G) (l : Launch) (N : Nat) (ad : Nat → Nat) (E : Nat → va_E) (F : Nat) (q : Nat → Nat) (rg : zt_R) (ev sf lf : Nat → Nat) (hF8 : 8 ≤ F) (hN : N = F + 5 * q 0) (hT : zt_at g ad E F q rg ev sf lf) (hok : zt_ok q rg ev sf) (x : Int32) : zc_i g l y_X_log b_X_log 2 (some .int) { frames := 1, cells := 0, slots := 0, locals := 40 } [.ref (ad (0)), .int (x)] N ad E (fun v N1 ad1 E1 => N = N1 ∧ ad = ad1 ∧ E = E1 ∧ v = nI (if 0 ≤ x.toInt ∧ x.toInt < (q 5 : Int) then lf x.toInt.toNat else 0)) := by
  refine zc_i.of (by decide) (Nat.le_of_ble_eq_true rfl) ?_
  intro p e s m below meth c ls A X hr hlk hl hH
  have hl : lv_has ls 2 [(0, .ref (ad (0))), (1, .int (x))] := hl
  obtain ⟨k0, k2, k3, k3a, k4, k4a, k5, k5a, k6, k6a⟩ := hok.1
  refine lv_aload_n X.1 X.2.1 d_X_log_0 rfl (lv_at hl 0 rfl) ?_
  refine zx_get (v := .ref (ad (6))) X hH fg_X_31 (by omega) hT.1 rfl d_X_log_1 ?_
  refine lv_iload_n X.1 X.2.1 d_X_log_4 rfl (lv_at hl 1 rfl) ?_
  refine zx_calli (zx_runV (As := [.int (x)]) (rest := []) X hH mv_X_79 ((c_O_at g l N ad E 6 7 3000 (q 5) (q 6) lf (by omega) (by omega) (by decide) (by omega) (by omega) (by decide) hT.2.2.2.2.1 x) _) (by omega) hT.2.2.2.2.1.1 rfl ⟨Nat.le_of_ble_eq_true rfl, Nat.le_of_ble_eq_true rfl⟩ rfl hl rfl (Nat.le_of_ble_eq_true rfl) d_X_log_5 ⟨Nat.le_of_ble_eq_true rfl, Nat.le_of_ble_eq_true rfl⟩) hH (fun r N1 ad1 E1 H locs hq hH => ?_)
  obtain ⟨rfl, rfl, rfl, rfl⟩ := hq
  exact zx_iret X hr hlk hH (Nat.le_of_ble_eq_true rfl) (Nat.le_of_ble_eq_true rfl) d_X_log_8 ⟨rfl, rfl, rfl, rfl⟩
end
section
set_option maxHeartbeats 4000000 in
set_option maxRecDepth 100000 in
theorem c_X_countGoingOn (g : zw_G) (l : Launch) (N : Nat) (ad : Nat → Nat) (E : Nat → va_E) (F : Nat) (q : Nat → Nat) (rg : zt_R) (ev sf lf : Nat → Nat) (hF8 : 8 ≤ F) (hN : N = F + 5 * q 0) (hT : zt_at g ad E F q rg ev sf lf) (hok : zt_ok q rg ev sf) : zc_i g l y_X_countGoingOn b_X_countGoingOn 4 (some .int) { frames := 1, cells := 0, slots := 0, locals := 40 } [.ref (ad (0))] N ad E (fun v N1 ad1 E1 => N = N1 ∧ ad = ad1 ∧ E = E1 ∧ v = nI (zp_cnt (fun i => decide ((rg i).1 2 = 0)) (q 0))) := by
  refine zc_i.of (by decide) (Nat.le_of_ble_eq_true rfl) ?_
  intro p e s m below meth c ls A X hr hlk hl hH
  have hl : lv_has ls 4 [(0, .ref (ad (0)))] := hl
  obtain ⟨k0, k2, k3, k3a, k4, k4a, k5, k5a, k6, k6a⟩ := hok.1
  refine lv_iconst (v := nI 0) X.1 X.2.1 d_X_countGoingOn_0 (by decide) ?_
  refine lv_istore_n (lv' := [(1, .int (nI (0))), (0, .ref (ad (0)))]) X.1 X.2.1 d_X_countGoingOn_1 rfl hl (by decide) rfl (fun ls hl => ?_)
  refine lv_iconst (v := nI 1) X.1 X.2.1 d_X_countGoingOn_2 (by decide) ?_
  refine lv_istore_n (lv' := [(2, .int (nI (1))), (1, .int (nI (0))), (0, .ref (ad (0)))]) X.1 X.2.1 d_X_countGoingOn_3 rfl hl (by decide) rfl (fun ls hl => ?_)
  refine zx_loop (σ := Nat) (fun i H locs ls => i ≤ q 0 ∧ zw_H g A s.heap s N ad E H locs ∧ lv_has ls 4 [(2, .int (nI (i + 1))), (1, .int (nI (zp_cnt (fun i => decide ((rg i).1 2 = 0)) i))), (0, .ref (ad 0))]) (fun i => q 0 - i) (fun _ => 0) (fun _ => 0) ?_ 0 _ _ _ ⟨Nat.zero_le _, hH, hl⟩
  intro i H locs ls ⟨hi, hH, hl⟩ ih
  have hle := zp_cnt_le (fun i => decide ((rg i).1 2 = 0)) i
  refine lv_iload_n X.1 X.2.1 d_X_countGoingOn_4 rfl (lv_at hl 0 rfl) ?_
  refine lv_aload_n X.1 X.2.1 d_X_countGoingOn_5 rfl (lv_at hl 2 rfl) ?_
  refine zx_get (v := .int (nI (q 0))) X hH fg_X_38 (by omega) hT.1 rfl d_X_countGoingOn_6 ?_
  refine lv_icmp_gt (tgt := 38) X.1 X.2.1 d_X_countGoingOn_9 (by decide) (fun c1 => ?_) (fun c1 => ?_)
  · have c1 := (zn_lt (nI_toInt (by omega)) (nI_toInt (by omega))).mp c1
    refine lv_iload_n X.1 X.2.1 d_X_countGoingOn_38 rfl (lv_at hl 1 rfl) ?_
    exact zx_iret X hr hlk hH (Nat.le_of_ble_eq_true rfl) (Nat.le_of_ble_eq_true rfl) d_X_countGoingOn_39 ⟨rfl, rfl, rfl, by rw [show i = q 0 by omega]⟩
  · have c1 := mt (zn_lt (nI_toInt (by omega)) (nI_toInt (by omega))).mpr c1
    refine lv_aload_n X.1 X.2.1 d_X_countGoingOn_12 rfl (lv_at hl 2 rfl) ?_
    refine lv_iload_n X.1 X.2.1 d_X_countGoingOn_13 rfl (lv_at hl 0 rfl) ?_
    refine zx_callq (zx_runV (As := [.int (nI (i + 1))]) (rest := []) X hH mv_X_45 ((c_X_find g l N ad E F q rg ev sf lf hF8 hN hT hok (nI (i + 1))) _) (by omega) hT.1 rfl ⟨Nat.le_of_ble_eq_true rfl, Nat.le_of_ble_eq_true rfl⟩ rfl hl rfl (Nat.le_of_ble_eq_true rfl) d_X_countGoingOn_14 ⟨Nat.le_of_ble_eq_true rfl, Nat.le_of_ble_eq_true rfl⟩) hH (fun r N1 ad1 E1 H locs hq hH => ?_)
    obtain ⟨rfl, rfl, rfl, hv⟩ := hq
    have ee := nI_toInt (n := i + 1) (by omega)
    rw [if_pos (by omega), show (nI (i + 1)).toInt.toNat - 1 = i by omega] at hv
    subst hv
    have hi0 : i < q 0 := by omega
    have hR := hT.2.2.2.2.2 i hi0
    have hro := hok.2.1 i hi0
    obtain ⟨r0, r1, r2, r3, r4, r5, r7, r8, r6⟩ := hro.1
    refine W.eq (g2 := F0 m 17 ls ([.ref (ad (F + 5 * i))])) rfl ?_
    refine lv_astore_n (lv' := [(3, .ref (ad (F + 5 * i))), (2, .int (nI (i + 1))), (1, .int (nI (zp_cnt (fun i => decide ((rg i).1 2 = 0)) i))), (0, .ref (ad (0)))]) X.1 X.2.1 d_X_countGoingOn_17 rfl hl (by decide) rfl (fun ls hl => ?_)
    refine lv_aload_n X.1 X.2.1 d_X_countGoingOn_18 rfl (lv_at hl 0 rfl) ?_
    refine lv_ifnull X.1 X.2.1 d_X_countGoingOn_19 ?_
    refine lv_aload_n X.1 X.2.1 d_X_countGoingOn_22 rfl (lv_at hl 0 rfl) ?_
    refine zx_calli (zx_runV (As := []) (rest := []) X hH mv_X_91 ((c_R_goesOn g l N ad E (F + 5 * i) (rg i).1 (rg i).2 (by omega) hR hro) _) (by omega) hR.1 rfl ⟨Nat.le_of_ble_eq_true rfl, Nat.le_of_ble_eq_true rfl⟩ rfl hl rfl (Nat.le_of_ble_eq_true rfl) d_X_countGoingOn_23 ⟨Nat.le_of_ble_eq_true rfl, Nat.le_of_ble_eq_true rfl⟩) hH (fun r N1 ad1 E1 H locs hq hH => ?_)
    obtain ⟨rfl, rfl, rfl, rfl⟩ := hq
    by_cases d2 : (rg i).1 2 = 0
    · refine zx_top (b := nI 1) (by rw [if_pos d2]) ?_
      refine lv_if_eq (tgt := 32) X.1 X.2.1 d_X_countGoingOn_26 (by decide) (fun z => ?_) (fun z => ?_)
      · exact absurd z (by decide)
      · clear z
        refine lv_iinc (v := nI (zp_cnt (fun i => decide ((rg i).1 2 = 0)) i + 1)) (lv' := [(1, .int (nI (zp_cnt (fun i => decide ((rg i).1 2 = 0)) i + 1))), (3, .ref (ad (F + 5 * i))), (2, .int (nI (i + 1))), (0, .ref (ad (0)))]) X.1 X.2.1 d_X_countGoingOn_29 hl (k := 2) rfl (nI_add _ _) (by decide) rfl (fun ls hl => ?_)
        refine lv_iinc (v := nI (i + 1 + 1)) (lv' := [(2, .int (nI (i + 1 + 1))), (1, .int (nI (zp_cnt (fun i => decide ((rg i).1 2 = 0)) i + 1))), (3, .ref (ad (F + 5 * i))), (0, .ref (ad (0)))]) X.1 X.2.1 d_X_countGoingOn_32 hl (k := 2) rfl (nI_add _ _) (by decide) rfl (fun ls hl => ?_)
        refine lv_goto (tgt := 4) X.1 X.2.1 d_X_countGoingOn_35 (by decide) ?_
        have hz : zp_cnt (fun i => decide ((rg i).1 2 = 0)) (i + 1) = zp_cnt (fun i => decide ((rg i).1 2 = 0)) i + 1 := zp_cnt_y (decide_eq_true (by omega))
        exact ih (i + 1) _ _ _ ⟨by omega, hH, by rw [hz]; exact lv_sub hl [0, 1, 3] rfl⟩ (by omega)
    · refine zx_top (b := nI 0) (by rw [if_neg d2]) ?_
      refine lv_if_eq (tgt := 32) X.1 X.2.1 d_X_countGoingOn_26 (by decide) (fun z => ?_) (fun z => ?_)
      · clear z
        refine lv_iinc (v := nI (i + 1 + 1)) (lv' := [(2, .int (nI (i + 1 + 1))), (3, .ref (ad (F + 5 * i))), (1, .int (nI (zp_cnt (fun i => decide ((rg i).1 2 = 0)) i))), (0, .ref (ad (0)))]) X.1 X.2.1 d_X_countGoingOn_32 hl (k := 1) rfl (nI_add _ _) (by decide) rfl (fun ls hl => ?_)
        refine lv_goto (tgt := 4) X.1 X.2.1 d_X_countGoingOn_35 (by decide) ?_
        have hz : zp_cnt (fun i => decide ((rg i).1 2 = 0)) (i + 1) = zp_cnt (fun i => decide ((rg i).1 2 = 0)) i := zp_cnt_n (fun h => by have h2 := of_decide_eq_true h; omega)
        exact ih (i + 1) _ _ _ ⟨by omega, hH, by rw [hz]; exact lv_sub hl [0, 2, 3] rfl⟩ (by omega)
      · exact absurd z (by decide)

set_option maxHeartbeats 4000000 in
set_option maxRecDepth 100000 in
theorem c_X_countOpenUnits (g : zw_G) (l : Launch) (N : Nat) (ad : Nat → Nat) (E : Nat → va_E) (F : Nat) (q : Nat → Nat) (rg : zt_R) (ev sf lf : Nat → Nat) (hF8 : 8 ≤ F) (hN : N = F + 5 * q 0) (hT : zt_at g ad E F q rg ev sf lf) (hok : zt_ok q rg ev sf) : zc_i g l y_X_countOpenUnits b_X_countOpenUnits 4 (some .int) { frames := 1, cells := 0, slots := 0, locals := 40 } [.ref (ad (0))] N ad E (fun v N1 ad1 E1 => N = N1 ∧ ad = ad1 ∧ E = E1 ∧ v = nI (zp_cnt (fun i => decide ((rg i).1 2 = 0 ∧ 0 < (rg i).1 3 - (rg i).1 4)) (q 0))) := by
  refine zc_i.of (by decide) (Nat.le_of_ble_eq_true rfl) ?_
  intro p e s m below meth c ls A X hr hlk hl hH
  have hl : lv_has ls 4 [(0, .ref (ad (0)))] := hl
  obtain ⟨k0, k2, k3, k3a, k4, k4a, k5, k5a, k6, k6a⟩ := hok.1
  refine lv_iconst (v := nI 0) X.1 X.2.1 d_X_countOpenUnits_0 (by decide) ?_
  refine lv_istore_n (lv' := [(1, .int (nI (0))), (0, .ref (ad (0)))]) X.1 X.2.1 d_X_countOpenUnits_1 rfl hl (by decide) rfl (fun ls hl => ?_)
  refine lv_iconst (v := nI 1) X.1 X.2.1 d_X_countOpenUnits_2 (by decide) ?_
  refine lv_istore_n (lv' := [(2, .int (nI (1))), (1, .int (nI (0))), (0, .ref (ad (0)))]) X.1 X.2.1 d_X_countOpenUnits_3 rfl hl (by decide) rfl (fun ls hl => ?_)
  refine zx_loop (σ := Nat) (fun i H locs ls => i ≤ q 0 ∧ zw_H g A s.heap s N ad E H locs ∧ lv_has ls 4 [(2, .int (nI (i + 1))), (1, .int (nI (zp_cnt (fun i => decide ((rg i).1 2 = 0 ∧ 0 < (rg i).1 3 - (rg i).1 4)) i))), (0, .ref (ad 0))]) (fun i => q 0 - i) (fun _ => 0) (fun _ => 0) ?_ 0 _ _ _ ⟨Nat.zero_le _, hH, hl⟩
  intro i H locs ls ⟨hi, hH, hl⟩ ih
  have hle := zp_cnt_le (fun i => decide ((rg i).1 2 = 0 ∧ 0 < (rg i).1 3 - (rg i).1 4)) i
  refine lv_iload_n X.1 X.2.1 d_X_countOpenUnits_4 rfl (lv_at hl 0 rfl) ?_
  refine lv_aload_n X.1 X.2.1 d_X_countOpenUnits_5 rfl (lv_at hl 2 rfl) ?_
  refine zx_get (v := .int (nI (q 0))) X hH fg_X_38 (by omega) hT.1 rfl d_X_countOpenUnits_6 ?_
  refine lv_icmp_gt (tgt := 45) X.1 X.2.1 d_X_countOpenUnits_9 (by decide) (fun c1 => ?_) (fun c1 => ?_)
  · have c1 := (zn_lt (nI_toInt (by omega)) (nI_toInt (by omega))).mp c1
    refine lv_iload_n X.1 X.2.1 d_X_countOpenUnits_45 rfl (lv_at hl 1 rfl) ?_
    exact zx_iret X hr hlk hH (Nat.le_of_ble_eq_true rfl) (Nat.le_of_ble_eq_true rfl) d_X_countOpenUnits_46 ⟨rfl, rfl, rfl, by rw [show i = q 0 by omega]⟩
  · have c1 := mt (zn_lt (nI_toInt (by omega)) (nI_toInt (by omega))).mpr c1
    refine lv_aload_n X.1 X.2.1 d_X_countOpenUnits_12 rfl (lv_at hl 2 rfl) ?_
    refine lv_iload_n X.1 X.2.1 d_X_countOpenUnits_13 rfl (lv_at hl 0 rfl) ?_
    refine zx_callq (zx_runV (As := [.int (nI (i + 1))]) (rest := []) X hH mv_X_45 ((c_X_find g l N ad E F q rg ev sf lf hF8 hN hT hok (nI (i + 1))) _) (by omega) hT.1 rfl ⟨Nat.le_of_ble_eq_true rfl, Nat.le_of_ble_eq_true rfl⟩ rfl hl rfl (Nat.le_of_ble_eq_true rfl) d_X_countOpenUnits_14 ⟨Nat.le_of_ble_eq_true rfl, Nat.le_of_ble_eq_true rfl⟩) hH (fun r N1 ad1 E1 H locs hq hH => ?_)
    obtain ⟨rfl, rfl, rfl, hv⟩ := hq
    have ee := nI_toInt (n := i + 1) (by omega)
    rw [if_pos (by omega), show (nI (i + 1)).toInt.toNat - 1 = i by omega] at hv
    subst hv
    have hi0 : i < q 0 := by omega
    have hR := hT.2.2.2.2.2 i hi0
    have hro := hok.2.1 i hi0
    obtain ⟨r0, r1, r2, r3, r4, r5, r7, r8, r6⟩ := hro.1
    refine W.eq (g2 := F0 m 17 ls ([.ref (ad (F + 5 * i))])) rfl ?_
    refine lv_astore_n (lv' := [(3, .ref (ad (F + 5 * i))), (2, .int (nI (i + 1))), (1, .int (nI (zp_cnt (fun i => decide ((rg i).1 2 = 0 ∧ 0 < (rg i).1 3 - (rg i).1 4)) i))), (0, .ref (ad (0)))]) X.1 X.2.1 d_X_countOpenUnits_17 rfl hl (by decide) rfl (fun ls hl => ?_)
    refine lv_aload_n X.1 X.2.1 d_X_countOpenUnits_18 rfl (lv_at hl 0 rfl) ?_
    refine lv_ifnull X.1 X.2.1 d_X_countOpenUnits_19 ?_
    refine lv_aload_n X.1 X.2.1 d_X_countOpenUnits_22 rfl (lv_at hl 0 rfl) ?_
    refine zx_calli (zx_runV (As := []) (rest := []) X hH mv_X_91 ((c_R_goesOn g l N ad E (F + 5 * i) (rg i).1 (rg i).2 (by omega) hR hro) _) (by omega) hR.1 rfl ⟨Nat.le_of_ble_eq_true rfl, Nat.le_of_ble_eq_true rfl⟩ rfl hl rfl (Nat.le_of_ble_eq_true rfl) d_X_countOpenUnits_23 ⟨Nat.le_of_ble_eq_true rfl, Nat.le_of_ble_eq_true rfl⟩) hH (fun r N1 ad1 E1 H locs hq hH => ?_)
    obtain ⟨rfl, rfl, rfl, rfl⟩ := hq
    by_cases d2 : (rg i).1 2 = 0
    · refine zx_top (b := nI 1) (by rw [if_pos d2]) ?_
      refine lv_if_eq (tgt := 39) X.1 X.2.1 d_X_countOpenUnits_26 (by decide) (fun z => ?_) (fun z => ?_)
      · exact absurd z (by decide)
      · clear z
        refine lv_aload_n X.1 X.2.1 d_X_countOpenUnits_29 rfl (lv_at hl 0 rfl) ?_
        refine zx_calli (zx_runV (As := []) (rest := []) X hH mv_X_142 ((c_R_openSteps g l N ad E (F + 5 * i) (rg i).1 (rg i).2 (by omega) hR hro) _) (by omega) hR.1 rfl ⟨Nat.le_of_ble_eq_true rfl, Nat.le_of_ble_eq_true rfl⟩ rfl hl rfl (Nat.le_of_ble_eq_true rfl) d_X_countOpenUnits_30 ⟨Nat.le_of_ble_eq_true rfl, Nat.le_of_ble_eq_true rfl⟩) hH (fun r N1 ad1 E1 H locs hq hH => ?_)
        obtain ⟨rfl, rfl, rfl, rfl⟩ := hq
        refine lv_if_le (tgt := 39) X.1 X.2.1 d_X_countOpenUnits_33 (by decide) (fun c3 => ?_) (fun c3 => ?_)
        · have c3 := (zn_le (nI_toInt (by omega)) zn_0).mp c3
          refine lv_iinc (v := nI (i + 1 + 1)) (lv' := [(2, .int (nI (i + 1 + 1))), (3, .ref (ad (F + 5 * i))), (1, .int (nI (zp_cnt (fun i => decide ((rg i).1 2 = 0 ∧ 0 < (rg i).1 3 - (rg i).1 4)) i))), (0, .ref (ad (0)))]) X.1 X.2.1 d_X_countOpenUnits_39 hl (k := 1) rfl (nI_add _ _) (by decide) rfl (fun ls hl => ?_)
          refine lv_goto (tgt := 4) X.1 X.2.1 d_X_countOpenUnits_42 (by decide) ?_
          have hz : zp_cnt (fun i => decide ((rg i).1 2 = 0 ∧ 0 < (rg i).1 3 - (rg i).1 4)) (i + 1) = zp_cnt (fun i => decide ((rg i).1 2 = 0 ∧ 0 < (rg i).1 3 - (rg i).1 4)) i := zp_cnt_n (fun h => by have h2 := of_decide_eq_true h; omega)
          exact ih (i + 1) _ _ _ ⟨by omega, hH, by rw [hz]; exact lv_sub hl [0, 2, 3] rfl⟩ (by omega)
        · have c3 := mt (zn_le (nI_toInt (by omega)) zn_0).mpr c3
          refine lv_iinc (v := nI (zp_cnt (fun i => decide ((rg i).1 2 = 0 ∧ 0 < (rg i).1 3 - (rg i).1 4)) i + 1)) (lv' := [(1, .int (nI (zp_cnt (fun i => decide ((rg i).1 2 = 0 ∧ 0 < (rg i).1 3 - (rg i).1 4)) i + 1))), (3, .ref (ad (F + 5 * i))), (2, .int (nI (i + 1))), (0, .ref (ad (0)))]) X.1 X.2.1 d_X_countOpenUnits_36 hl (k := 2) rfl (nI_add _ _) (by decide) rfl (fun ls hl => ?_)
          refine lv_iinc (v := nI (i + 1 + 1)) (lv' := [(2, .int (nI (i + 1 + 1))), (1, .int (nI (zp_cnt (fun i => decide ((rg i).1 2 = 0 ∧ 0 < (rg i).1 3 - (rg i).1 4)) i + 1))), (3, .ref (ad (F + 5 * i))), (0, .ref (ad (0)))]) X.1 X.2.1 d_X_countOpenUnits_39 hl (k := 2) rfl (nI_add _ _) (by decide) rfl (fun ls hl => ?_)
          refine lv_goto (tgt := 4) X.1 X.2.1 d_X_countOpenUnits_42 (by decide) ?_
          have hz : zp_cnt (fun i => decide ((rg i).1 2 = 0 ∧ 0 < (rg i).1 3 - (rg i).1 4)) (i + 1) = zp_cnt (fun i => decide ((rg i).1 2 = 0 ∧ 0 < (rg i).1 3 - (rg i).1 4)) i + 1 := zp_cnt_y (decide_eq_true (by omega))
          exact ih (i + 1) _ _ _ ⟨by omega, hH, by rw [hz]; exact lv_sub hl [0, 1, 3] rfl⟩ (by omega)
    · refine zx_top (b := nI 0) (by rw [if_neg d2]) ?_
      refine lv_if_eq (tgt := 39) X.1 X.2.1 d_X_countOpenUnits_26 (by decide) (fun z => ?_) (fun z => ?_)
      · clear z
        refine lv_iinc (v := nI (i + 1 + 1)) (lv' := [(2, .int (nI (i + 1 + 1))), (3, .ref (ad (F + 5 * i))), (1, .int (nI (zp_cnt (fun i => decide ((rg i).1 2 = 0 ∧ 0 < (rg i).1 3 - (rg i).1 4)) i))), (0, .ref (ad (0)))]) X.1 X.2.1 d_X_countOpenUnits_39 hl (k := 1) rfl (nI_add _ _) (by decide) rfl (fun ls hl => ?_)
        refine lv_goto (tgt := 4) X.1 X.2.1 d_X_countOpenUnits_42 (by decide) ?_
        have hz : zp_cnt (fun i => decide ((rg i).1 2 = 0 ∧ 0 < (rg i).1 3 - (rg i).1 4)) (i + 1) = zp_cnt (fun i => decide ((rg i).1 2 = 0 ∧ 0 < (rg i).1 3 - (rg i).1 4)) i := zp_cnt_n (fun h => by have h2 := of_decide_eq_true h; omega)
        exact ih (i + 1) _ _ _ ⟨by omega, hH, by rw [hz]; exact lv_sub hl [0, 2, 3] rfl⟩ (by omega)
      · exact absurd z (by decide)

set_option maxHeartbeats 4000000 in
set_option maxRecDepth 100000 in
theorem c_X_leaveAll (g : zw_G) (l : Launch) (N : Nat) (ad : Nat → Nat) (E : Nat → va_E) (F : Nat) (q : Nat → Nat) (rg : zt_R) (ev sf lf : Nat → Nat) (hF8 : 8 ≤ F) (hN : N = F + 5 * q 0) (hT : zt_at g ad E F q rg ev sf lf) (hok : zt_ok q rg ev sf) : zc_v g l y_X_leaveAll b_X_leaveAll 3 { frames := 2, cells := 0, slots := 0, locals := 80 } [.ref (ad (0))] N ad E (fun N1 ad1 E1 => N = N1 ∧ ad = ad1 ∧ zt_at g ad E1 F q (zp_map zp_left rg (q 0)) ev sf lf ∧ zt_fr E E1 F) := by
  refine zc_v.of (by decide) (Nat.le_of_ble_eq_true rfl) ?_
  intro p e s m below meth c ls A X hr hlk hnm hl hH
  have hl : lv_has ls 3 [(0, .ref (ad (0)))] := hl
  obtain ⟨k0, k2, k3, k3a, k4, k4a, k5, k5a, k6, k6a⟩ := hok.1
  refine lv_iconst (v := nI 1) X.1 X.2.1 d_X_leaveAll_0 (by decide) ?_
  refine lv_istore_n (lv' := [(1, .int (nI (1))), (0, .ref (ad (0)))]) X.1 X.2.1 d_X_leaveAll_1 rfl hl (by decide) rfl (fun ls hl => ?_)
  refine zx_loop (σ := Nat × (Nat → va_E)) (fun x H locs ls => x.1 ≤ q 0 ∧ zt_at g ad x.2 F q (zp_map zp_left rg x.1) ev sf lf ∧ zt_fr E x.2 F ∧ zw_H g A s.heap s N ad x.2 H locs ∧ lv_has ls 3 [(1, .int (nI (x.1 + 1))), (0, .ref (ad 0))]) (fun x => q 0 - x.1) (fun _ => 0) (fun _ => 0) ?_ (0, E) _ _ _ ⟨Nat.zero_le _, by rw [zp_map_0]; exact hT, zt_fr.rf, hH, hl⟩
  rintro ⟨i, E1⟩ H locs ls ⟨hi, hT, hF, hH, hl⟩ ih
  dsimp only at hi hT hF hH hl ih
  have hok1 := (hok.map (fun _ h => zr_ok.left h) i)
  refine lv_iload_n X.1 X.2.1 d_X_leaveAll_2 rfl (lv_at hl 0 rfl) ?_
  refine lv_aload_n X.1 X.2.1 d_X_leaveAll_3 rfl (lv_at hl 1 rfl) ?_
  refine zx_get (v := .int (nI (q 0))) X hH fg_X_38 (by omega) hT.1 rfl d_X_leaveAll_4 ?_
  refine lv_icmp_gt (tgt := 38) X.1 X.2.1 d_X_leaveAll_7 (by decide) (fun c1 => ?_) (fun c1 => ?_)
  · have c1 := (zn_lt (nI_toInt (by omega)) (nI_toInt (by omega))).mp c1
    exact zx_vret X hr hlk hH (Nat.le_of_ble_eq_true rfl) (Nat.le_of_ble_eq_true rfl) d_X_leaveAll_38 ⟨rfl, rfl, by rw [show q 0 = i by omega]; exact hT, hF⟩
  · have c1 := mt (zn_lt (nI_toInt (by omega)) (nI_toInt (by omega))).mpr c1
    refine lv_aload_n X.1 X.2.1 d_X_leaveAll_10 rfl (lv_at hl 1 rfl) ?_
    refine lv_iload_n X.1 X.2.1 d_X_leaveAll_11 rfl (lv_at hl 0 rfl) ?_
    refine zx_callq (zx_runV (As := [.int (nI (i + 1))]) (rest := []) X hH mv_X_45 ((c_X_find g l N ad E1 F q (zp_map zp_left rg i) ev sf lf hF8 hN hT hok1 (nI (i + 1))) _) (by omega) hT.1 rfl ⟨Nat.le_of_ble_eq_true rfl, Nat.le_of_ble_eq_true rfl⟩ rfl hl rfl (Nat.le_of_ble_eq_true rfl) d_X_leaveAll_12 ⟨Nat.le_of_ble_eq_true rfl, Nat.le_of_ble_eq_true rfl⟩) hH (fun r N1 ad1 E1 H locs hq hH => ?_)
    obtain ⟨rfl, rfl, rfl, hv⟩ := hq
    have ee := nI_toInt (n := i + 1) (by omega)
    rw [if_pos (by omega), show (nI (i + 1)).toInt.toNat - 1 = i by omega] at hv
    subst hv
    have hi0 : i < q 0 := by omega
    have hR := hT.2.2.2.2.2 i hi0
    have hro := hok1.2.1 i hi0
    rw [zp_map_at] at hR hro
    obtain ⟨r0, r1, r2, r3, r4, r5, r7, r8, r6⟩ := hro.1
    refine W.eq (g2 := F0 m 15 ls ([.ref (ad (F + 5 * i))])) rfl ?_
    refine lv_astore_n (lv' := [(2, .ref (ad (F + 5 * i))), (1, .int (nI (i + 1))), (0, .ref (ad (0)))]) X.1 X.2.1 d_X_leaveAll_15 rfl hl (by decide) rfl (fun ls hl => ?_)
    refine lv_aload_n X.1 X.2.1 d_X_leaveAll_16 rfl (lv_at hl 0 rfl) ?_
    refine lv_ifnull X.1 X.2.1 d_X_leaveAll_17 ?_
    refine lv_aload_n X.1 X.2.1 d_X_leaveAll_20 rfl (lv_at hl 0 rfl) ?_
    refine zx_calli (zx_runV (As := []) (rest := []) X hH mv_X_91 ((c_R_goesOn g l N ad E1 (F + 5 * i) (rg i).1 (rg i).2 (by omega) hR hro) _) (by omega) hR.1 rfl ⟨Nat.le_of_ble_eq_true rfl, Nat.le_of_ble_eq_true rfl⟩ rfl hl rfl (Nat.le_of_ble_eq_true rfl) d_X_leaveAll_21 ⟨Nat.le_of_ble_eq_true rfl, Nat.le_of_ble_eq_true rfl⟩) hH (fun r N1 ad1 E1 H locs hq hH => ?_)
    obtain ⟨rfl, rfl, rfl, rfl⟩ := hq
    by_cases d2 : (rg i).1 2 = 0
    · refine zx_top (b := nI 1) (by rw [if_pos d2]) ?_
      refine lv_if_eq (tgt := 32) X.1 X.2.1 d_X_leaveAll_24 (by decide) (fun z => ?_) (fun z => ?_)
      · exact absurd z (by decide)
      · clear z
        refine lv_aload_n X.1 X.2.1 d_X_leaveAll_27 rfl (lv_at hl 0 rfl) ?_
        refine lv_iconst (v := nI 4) X.1 X.2.1 d_X_leaveAll_28 (by decide) ?_
        refine zx_put X hH fp_X_120 (by omega) hR.1 (Nat.le_of_ble_eq_true rfl) rfl rfl d_X_leaveAll_29 (fun H locs hH => ?_)
        have hH : zw_H g A s.heap s N ad (va_up E1 (F + 5 * i) (zr_o ad (F + 5 * i) (va_up (rg i).1 2 4))) H locs := hH
        have hR := hR.sc (va_up (rg i).1 2 4)
        have hf : zr_fr E1 (va_up E1 (F + 5 * i) (zr_o ad (F + 5 * i) (va_up (rg i).1 2 4))) (F + 5 * i) := zr_fr.rf.up (by omega) (by omega)
        generalize va_up E1 (F + 5 * i) (zr_o ad (F + 5 * i) (va_up (rg i).1 2 4)) = E2 at hH hR hf
        refine lv_iinc (v := nI (i + 1 + 1)) (lv' := [(1, .int (nI (i + 1 + 1))), (2, .ref (ad (F + 5 * i))), (0, .ref (ad (0)))]) X.1 X.2.1 d_X_leaveAll_32 hl (k := 1) rfl (nI_add _ _) (by decide) rfl (fun ls hl => ?_)
        refine lv_goto (tgt := 2) X.1 X.2.1 d_X_leaveAll_35 (by decide) ?_
        have hz : zp_left (rg i) = (va_up (rg i).1 2 4, (rg i).2) := if_pos (by omega)
        have hT := (hT.reg0 (r := (va_up (rg i).1 2 4, (rg i).2)) hF8 hi0 hR hf)
        rw [← hz, ← zp_map_s] at hT
        exact ih (i + 1, E2) _ _ _ ⟨by omega, hT, hF.tr hf.t, hH, lv_sub hl [0, 2] rfl⟩ (by show q 0 - (i + 1) < q 0 - i; omega)
    · refine zx_top (b := nI 0) (by rw [if_neg d2]) ?_
      refine lv_if_eq (tgt := 32) X.1 X.2.1 d_X_leaveAll_24 (by decide) (fun z => ?_) (fun z => ?_)
      · clear z
        refine lv_iinc (v := nI (i + 1 + 1)) (lv' := [(1, .int (nI (i + 1 + 1))), (2, .ref (ad (F + 5 * i))), (0, .ref (ad (0)))]) X.1 X.2.1 d_X_leaveAll_32 hl (k := 1) rfl (nI_add _ _) (by decide) rfl (fun ls hl => ?_)
        refine lv_goto (tgt := 2) X.1 X.2.1 d_X_leaveAll_35 (by decide) ?_
        have hz : zp_left (rg i) = rg i := if_neg (by omega)
        rw [← zp_map_same hz] at hT
        exact ih (i + 1, E1) _ _ _ ⟨by omega, hT, hF, hH, lv_sub hl [0, 2] rfl⟩ (by show q 0 - (i + 1) < q 0 - i; omega)
      · exact absurd z (by decide)

set_option maxHeartbeats 4000000 in
set_option maxRecDepth 100000 in
theorem c_X_cancelThoseThatMay (g : zw_G) (l : Launch) (N : Nat) (ad : Nat → Nat) (E : Nat → va_E) (F : Nat) (q : Nat → Nat) (rg : zt_R) (ev sf lf : Nat → Nat) (hF8 : 8 ≤ F) (hN : N = F + 5 * q 0) (hT : zt_at g ad E F q rg ev sf lf) (hok : zt_ok q rg ev sf) : zc_v g l y_X_cancelThoseThatMay b_X_cancelThoseThatMay 3 { frames := 2, cells := 0, slots := 0, locals := 80 } [.ref (ad (0))] N ad E (fun N1 ad1 E1 => N = N1 ∧ ad = ad1 ∧ zt_at g ad E1 F q (zp_map zp_canc rg (q 0)) ev sf lf ∧ zt_fr E E1 F) := by
  refine zc_v.of (by decide) (Nat.le_of_ble_eq_true rfl) ?_
  intro p e s m below meth c ls A X hr hlk hnm hl hH
  have hl : lv_has ls 3 [(0, .ref (ad (0)))] := hl
  obtain ⟨k0, k2, k3, k3a, k4, k4a, k5, k5a, k6, k6a⟩ := hok.1
  refine lv_iconst (v := nI 1) X.1 X.2.1 d_X_cancelThoseThatMay_0 (by decide) ?_
  refine lv_istore_n (lv' := [(1, .int (nI (1))), (0, .ref (ad (0)))]) X.1 X.2.1 d_X_cancelThoseThatMay_1 rfl hl (by decide) rfl (fun ls hl => ?_)
  refine zx_loop (σ := Nat × (Nat → va_E)) (fun x H locs ls => x.1 ≤ q 0 ∧ zt_at g ad x.2 F q (zp_map zp_canc rg x.1) ev sf lf ∧ zt_fr E x.2 F ∧ zw_H g A s.heap s N ad x.2 H locs ∧ lv_has ls 3 [(1, .int (nI (x.1 + 1))), (0, .ref (ad 0))]) (fun x => q 0 - x.1) (fun _ => 0) (fun _ => 0) ?_ (0, E) _ _ _ ⟨Nat.zero_le _, by rw [zp_map_0]; exact hT, zt_fr.rf, hH, hl⟩
  rintro ⟨i, E1⟩ H locs ls ⟨hi, hT, hF, hH, hl⟩ ih
  dsimp only at hi hT hF hH hl ih
  have hok1 := (hok.map (fun _ h => zr_ok.canc h) i)
  refine lv_iload_n X.1 X.2.1 d_X_cancelThoseThatMay_2 rfl (lv_at hl 0 rfl) ?_
  refine lv_aload_n X.1 X.2.1 d_X_cancelThoseThatMay_3 rfl (lv_at hl 1 rfl) ?_
  refine zx_get (v := .int (nI (q 0))) X hH fg_X_38 (by omega) hT.1 rfl d_X_cancelThoseThatMay_4 ?_
  refine lv_icmp_gt (tgt := 45) X.1 X.2.1 d_X_cancelThoseThatMay_7 (by decide) (fun c1 => ?_) (fun c1 => ?_)
  · have c1 := (zn_lt (nI_toInt (by omega)) (nI_toInt (by omega))).mp c1
    exact zx_vret X hr hlk hH (Nat.le_of_ble_eq_true rfl) (Nat.le_of_ble_eq_true rfl) d_X_cancelThoseThatMay_45 ⟨rfl, rfl, by rw [show q 0 = i by omega]; exact hT, hF⟩
  · have c1 := mt (zn_lt (nI_toInt (by omega)) (nI_toInt (by omega))).mpr c1
    refine lv_aload_n X.1 X.2.1 d_X_cancelThoseThatMay_10 rfl (lv_at hl 1 rfl) ?_
    refine lv_iload_n X.1 X.2.1 d_X_cancelThoseThatMay_11 rfl (lv_at hl 0 rfl) ?_
    refine zx_callq (zx_runV (As := [.int (nI (i + 1))]) (rest := []) X hH mv_X_45 ((c_X_find g l N ad E1 F q (zp_map zp_canc rg i) ev sf lf hF8 hN hT hok1 (nI (i + 1))) _) (by omega) hT.1 rfl ⟨Nat.le_of_ble_eq_true rfl, Nat.le_of_ble_eq_true rfl⟩ rfl hl rfl (Nat.le_of_ble_eq_true rfl) d_X_cancelThoseThatMay_12 ⟨Nat.le_of_ble_eq_true rfl, Nat.le_of_ble_eq_true rfl⟩) hH (fun r N1 ad1 E1 H locs hq hH => ?_)
    obtain ⟨rfl, rfl, rfl, hv⟩ := hq
    have ee := nI_toInt (n := i + 1) (by omega)
    rw [if_pos (by omega), show (nI (i + 1)).toInt.toNat - 1 = i by omega] at hv
    subst hv
    have hi0 : i < q 0 := by omega
    have hR := hT.2.2.2.2.2 i hi0
    have hro := hok1.2.1 i hi0
    rw [zp_map_at] at hR hro
    obtain ⟨r0, r1, r2, r3, r4, r5, r7, r8, r6⟩ := hro.1
    refine W.eq (g2 := F0 m 15 ls ([.ref (ad (F + 5 * i))])) rfl ?_
    refine lv_astore_n (lv' := [(2, .ref (ad (F + 5 * i))), (1, .int (nI (i + 1))), (0, .ref (ad (0)))]) X.1 X.2.1 d_X_cancelThoseThatMay_15 rfl hl (by decide) rfl (fun ls hl => ?_)
    refine lv_aload_n X.1 X.2.1 d_X_cancelThoseThatMay_16 rfl (lv_at hl 0 rfl) ?_
    refine lv_ifnull X.1 X.2.1 d_X_cancelThoseThatMay_17 ?_
    refine lv_aload_n X.1 X.2.1 d_X_cancelThoseThatMay_20 rfl (lv_at hl 0 rfl) ?_
    refine zx_calli (zx_runV (As := []) (rest := []) X hH mv_X_91 ((c_R_goesOn g l N ad E1 (F + 5 * i) (rg i).1 (rg i).2 (by omega) hR hro) _) (by omega) hR.1 rfl ⟨Nat.le_of_ble_eq_true rfl, Nat.le_of_ble_eq_true rfl⟩ rfl hl rfl (Nat.le_of_ble_eq_true rfl) d_X_cancelThoseThatMay_21 ⟨Nat.le_of_ble_eq_true rfl, Nat.le_of_ble_eq_true rfl⟩) hH (fun r N1 ad1 E1 H locs hq hH => ?_)
    obtain ⟨rfl, rfl, rfl, rfl⟩ := hq
    by_cases d2 : (rg i).1 2 = 0
    · refine zx_top (b := nI 1) (by rw [if_pos d2]) ?_
      refine lv_if_eq (tgt := 39) X.1 X.2.1 d_X_cancelThoseThatMay_24 (by decide) (fun z => ?_) (fun z => ?_)
      · exact absurd z (by decide)
      · clear z
        refine lv_aload_n X.1 X.2.1 d_X_cancelThoseThatMay_27 rfl (lv_at hl 0 rfl) ?_
        refine zx_calli (zx_runV (As := []) (rest := []) X hH mv_X_136 ((c_R_isInside g l N ad E1 (F + 5 * i) (rg i).1 (rg i).2 (by omega) hR hro) _) (by omega) hR.1 rfl ⟨Nat.le_of_ble_eq_true rfl, Nat.le_of_ble_eq_true rfl⟩ rfl hl rfl (Nat.le_of_ble_eq_true rfl) d_X_cancelThoseThatMay_28 ⟨Nat.le_of_ble_eq_true rfl, Nat.le_of_ble_eq_true rfl⟩) hH (fun r N1 ad1 E1 H locs hq hH => ?_)
        obtain ⟨rfl, rfl, rfl, rfl⟩ := hq
        by_cases d3 : (rg i).2 3 ((rg i).1 3) = 1
        · refine zx_top (b := nI 1) (by rw [if_pos d3]) ?_
          refine lv_if_ne (tgt := 39) X.1 X.2.1 d_X_cancelThoseThatMay_31 (by decide) (fun z => ?_) (fun z => ?_)
          · clear z
            refine lv_iinc (v := nI (i + 1 + 1)) (lv' := [(1, .int (nI (i + 1 + 1))), (2, .ref (ad (F + 5 * i))), (0, .ref (ad (0)))]) X.1 X.2.1 d_X_cancelThoseThatMay_39 hl (k := 1) rfl (nI_add _ _) (by decide) rfl (fun ls hl => ?_)
            refine lv_goto (tgt := 2) X.1 X.2.1 d_X_cancelThoseThatMay_42 (by decide) ?_
            have hz : zp_canc (rg i) = rg i := if_neg (by omega)
            rw [← zp_map_same hz] at hT
            exact ih (i + 1, E1) _ _ _ ⟨by omega, hT, hF, hH, lv_sub hl [0, 2] rfl⟩ (by show q 0 - (i + 1) < q 0 - i; omega)
          · exact absurd z (by decide)
        · refine zx_top (b := nI 0) (by rw [if_neg d3]) ?_
          refine lv_if_ne (tgt := 39) X.1 X.2.1 d_X_cancelThoseThatMay_31 (by decide) (fun z => ?_) (fun z => ?_)
          · exact absurd z (by decide)
          · clear z
            refine lv_aload_n X.1 X.2.1 d_X_cancelThoseThatMay_34 rfl (lv_at hl 0 rfl) ?_
            refine lv_iconst (v := nI 3) X.1 X.2.1 d_X_cancelThoseThatMay_35 (by decide) ?_
            refine zx_callv (zx_runV (As := [.int (nI (3))]) (rest := []) X hH mv_X_139 ((c_R_backOut g l N ad E1 (F + 5 * i) (rg i).1 (rg i).2 (by omega) hR hro 3) _) (by omega) hR.1 rfl ⟨Nat.le_of_ble_eq_true rfl, Nat.le_of_ble_eq_true rfl⟩ rfl hl rfl (Nat.le_of_ble_eq_true rfl) d_X_cancelThoseThatMay_36 ⟨Nat.le_of_ble_eq_true rfl, Nat.le_of_ble_eq_true rfl⟩) hH (fun N1 ad1 E2 H locs hq hH => ?_)
            obtain ⟨rfl, rfl, hR, hf⟩ := hq
            refine lv_iinc (v := nI (i + 1 + 1)) (lv' := [(1, .int (nI (i + 1 + 1))), (2, .ref (ad (F + 5 * i))), (0, .ref (ad (0)))]) X.1 X.2.1 d_X_cancelThoseThatMay_39 hl (k := 1) rfl (nI_add _ _) (by decide) rfl (fun ls hl => ?_)
            refine lv_goto (tgt := 2) X.1 X.2.1 d_X_cancelThoseThatMay_42 (by decide) ?_
            have hz : zp_canc (rg i) = (zp_back (rg i).1 3, (rg i).2) := if_pos ⟨by omega, by omega⟩
            have hT := (hT.reg0 (r := (zp_back (rg i).1 3, (rg i).2)) hF8 hi0 hR hf)
            rw [← hz, ← zp_map_s] at hT
            exact ih (i + 1, E2) _ _ _ ⟨by omega, hT, hF.tr hf.t, hH, lv_sub hl [0, 2] rfl⟩ (by show q 0 - (i + 1) < q 0 - i; omega)
    · refine zx_top (b := nI 0) (by rw [if_neg d2]) ?_
      refine lv_if_eq (tgt := 39) X.1 X.2.1 d_X_cancelThoseThatMay_24 (by decide) (fun z => ?_) (fun z => ?_)
      · clear z
        refine lv_iinc (v := nI (i + 1 + 1)) (lv' := [(1, .int (nI (i + 1 + 1))), (2, .ref (ad (F + 5 * i))), (0, .ref (ad (0)))]) X.1 X.2.1 d_X_cancelThoseThatMay_39 hl (k := 1) rfl (nI_add _ _) (by decide) rfl (fun ls hl => ?_)
        refine lv_goto (tgt := 2) X.1 X.2.1 d_X_cancelThoseThatMay_42 (by decide) ?_
        have hz : zp_canc (rg i) = rg i := if_neg (by omega)
        rw [← zp_map_same hz] at hT
        exact ih (i + 1, E1) _ _ _ ⟨by omega, hT, hF, hH, lv_sub hl [0, 2] rfl⟩ (by show q 0 - (i + 1) < q 0 - i; omega)
      · exact absurd z (by decide)
end
section
set_option maxHeartbeats 4000000 in
set_option maxRecDepth 100000 in
theorem c_X_giveTurn (g : zw_G) (l : Launch) (N : Nat) (ad : Nat → Nat) (E : Nat → va_E) (F : Nat) (q : Nat → Nat) (rg : zt_R) (ev sf lf : Nat → Nat) (hF8 : 8 ≤ F) (hN : N = F + 5 * q 0) (hT : zt_at g ad E F q rg ev sf lf) (hok : zt_ok q rg ev sf) (i : Nat) (hi : i < q 0) (kc ks : Nat) (hkc : (zp_give (q, rg, ev, lf) i).2.1 6 ≤ q 6 + kc) (hks : 2 * (zp_give (q, rg, ev, lf) i).2.1 6 ≤ 2 * q 6 + ks) : zc_i g l y_X_giveTurn b_X_giveTurn 4 (some .int) { frames := 4, cells := kc, slots := ks, locals := 160 } [.ref (ad (0)), .int (nI (i + 1))] N ad E (fun v N1 ad1 E1 => N = N1 ∧ (∀ k, k ≠ 7 → k < N → ad1 k = ad k) ∧ v = nI (zp_give (q, rg, ev, lf) i).1 ∧ zt_at g ad1 E1 F (zp_give (q, rg, ev, lf) i).2.1 (zp_give (q, rg, ev, lf) i).2.2.1 (zp_give (q, rg, ev, lf) i).2.2.2.1 sf (zp_give (q, rg, ev, lf) i).2.2.2.2 ∧ zt_fr E E1 F) := by
  refine zc_i.of (by decide) (Nat.le_of_ble_eq_true rfl) ?_
  intro p e s m below meth c ls A X hr hlk hl hH
  have hl : lv_has ls 4 [(0, .ref (ad (0))), (1, .int (nI (i + 1)))] := hl
  obtain ⟨k0, k2, k3, k3a, k4, k4a, k5, k5a, k6, k6a⟩ := hok.1
  refine lv_aload_n X.1 X.2.1 d_X_giveTurn_0 rfl (lv_at hl 0 rfl) ?_
  refine lv_iload_n X.1 X.2.1 d_X_giveTurn_1 rfl (lv_at hl 1 rfl) ?_
  refine zx_callq (zx_runV (As := [.int (nI (i + 1))]) (rest := []) X hH mv_X_45 ((c_X_find g l N ad E F q rg ev sf lf hF8 hN hT hok (nI (i + 1))) _) (by omega) hT.1 rfl ⟨Nat.le_of_ble_eq_true rfl, Nat.le_of_ble_eq_true rfl⟩ rfl hl rfl (Nat.le_of_ble_eq_true rfl) d_X_giveTurn_2 ⟨Nat.le_of_ble_eq_true rfl, Nat.le_of_ble_eq_true rfl⟩) hH (fun r N1 ad1 E1 H locs hq hH => ?_)
  obtain ⟨rfl, rfl, rfl, hv⟩ := hq
  have ee := nI_toInt (n := i + 1) (by omega)
  rw [if_pos (by omega), show (nI (i + 1)).toInt.toNat - 1 = i by omega] at hv
  subst hv
  have hi0 : i < q 0 := by omega
  have hR := hT.2.2.2.2.2 i hi0
  have hro := hok.2.1 i hi0
  obtain ⟨r0, r1, r2, r3, r4, r5, r7, r8, r6⟩ := hro.1
  refine W.eq (g2 := F0 m 5 ls ([.ref (ad (F + 5 * i))])) rfl ?_
  refine lv_astore_n (lv' := [(2, .ref (ad (F + 5 * i))), (0, .ref (ad (0))), (1, .int (nI (i + 1)))]) X.1 X.2.1 d_X_giveTurn_5 rfl hl (by decide) rfl (fun ls hl => ?_)
  refine lv_aload_n X.1 X.2.1 d_X_giveTurn_6 rfl (lv_at hl 0 rfl) ?_
  refine lv_ifnonnull (tgt := 12) X.1 X.2.1 d_X_giveTurn_7 (by decide) ?_
  refine lv_aload_n X.1 X.2.1 d_X_giveTurn_12 rfl (lv_at hl 0 rfl) ?_
  refine lv_aload_n X.1 X.2.1 d_X_giveTurn_13 rfl (lv_at hl 1 rfl) ?_
  refine zx_get (v := .ref (ad (2))) X hH fg_X_18 (by omega) hT.1 rfl d_X_giveTurn_14 ?_
  refine zx_calli (zx_runV (As := [.ref (ad (2))]) (rest := []) X hH mv_X_129 ((c_R_takeTurn g l N ad E (F + 5 * i) (rg i).1 (rg i).2 (by omega) hR hro 2 3 ev (by omega) (by omega) (by decide) hT.2.2.1 (by omega) (by omega) hok.2.2.1) _) (by omega) hR.1 rfl ⟨Nat.le_of_ble_eq_true rfl, Nat.le_of_ble_eq_true rfl⟩ rfl hl rfl (Nat.le_of_ble_eq_true rfl) d_X_giveTurn_17 ⟨(by dsimp only; omega), (by dsimp only; omega)⟩) hH (fun r N1 ad1 E1 H locs hq hH => ?_)
  obtain ⟨rfl, rfl, rfl, hR, hV, hf⟩ := hq
  obtain ⟨r, hr1⟩ : ∃ r, zp_turn (rg i).1 (rg i).2 ev = r := ⟨_, rfl⟩
  rw [hr1] at hR hV
  refine zx_top (b := nI r.1) (by rw [hr1]) ?_
  have hT1 := hT.reg (r := (r.2.1, r.2.2.1)) hF8 hi0 hR hV hf
  have hrl := zp_turn_le (rg i).1 (rg i).2 ev
  rw [hr1] at hrl
  refine lv_istore_n (lv' := [(3, .int (nI (r.1))), (2, .ref (ad (F + 5 * i))), (0, .ref (ad (0))), (1, .int (nI (i + 1)))]) X.1 X.2.1 d_X_giveTurn_20 rfl hl (by decide) rfl (fun ls hl => ?_)
  refine lv_iload_n X.1 X.2.1 d_X_giveTurn_21 rfl (lv_at hl 0 rfl) ?_
  refine lv_iconst (v := nI 1) X.1 X.2.1 d_X_giveTurn_22 (by decide) ?_
  refine lv_icmp_ne (tgt := 43) X.1 X.2.1 d_X_giveTurn_23 (by decide) (fun c1 => ?_) (fun c1 => ?_)
  · have c1 := mt (zn_eq (nI_toInt (by omega)) (nI_toInt (by omega))).mpr c1
    refine lv_iload_n X.1 X.2.1 d_X_giveTurn_43 rfl (lv_at hl 0 rfl) ?_
    have hg : zp_give (q, rg, ev, lf) i = _ := zp_give_no (lf := lf) hr1 (by omega)
    exact zx_iret X hr hlk hH (by dsimp only; omega) (by dsimp only; omega) d_X_giveTurn_44 ⟨rfl, fun _ _ _ => rfl, by rw [hg], by rw [hg]; exact hT1, hf.t⟩
  · have c1 := (zn_eq (nI_toInt (by omega)) (nI_toInt (by omega))).mp c1
    refine lv_aload_n X.1 X.2.1 d_X_giveTurn_26 rfl (lv_at hl 2 rfl) ?_
    refine zx_get (v := .ref (ad (6))) X hH fg_X_31 (by omega) hT1.1 rfl d_X_giveTurn_27 ?_
    refine lv_sipush (v := nI 1000) X.1 X.2.1 d_X_giveTurn_30 (by decide) ?_
    refine lv_iload_n X.1 X.2.1 d_X_giveTurn_33 rfl (lv_at hl 3 rfl) ?_
    refine lv_imul X.1 X.2.1 d_X_giveTurn_34 ?_
    refine zx_top (pk_mul _ _) ?_
    refine lv_aload_n X.1 X.2.1 d_X_giveTurn_35 rfl (lv_at hl 1 rfl) ?_
    refine zx_get (v := .int (nI (r.2.1 3))) X hH fg_X_126 (by omega) hR.1 rfl d_X_giveTurn_36 ?_
    refine lv_iadd X.1 X.2.1 d_X_giveTurn_39 ?_
    refine zx_top (nI_add _ _) ?_
    have hv9 : ((1000) * (i + 1)) + (r.2.1 3) = 1000 * (i + 1) + r.2.1 3 := rfl
    by_cases d1 : 3000 ≤ q 5
    · have hz := zp_log_full (q := q) (lf := lf) (v := 1000 * (i + 1) + r.2.1 3) d1
      have hg : zp_give (q, rg, ev, lf) i = _ := zp_give_yes (lf := lf) hr1 (by omega)
      rw [hz] at hg
      dsimp only at hg
      refine zx_callv (zx_runV (As := [.int (nI (((1000) * (i + 1)) + (r.2.1 3)))]) (rest := []) X hH mv_X_73 ((c_O_append_full g l N ad E1 6 7 3000 (q 5) (q 6) lf (by omega) (by omega) (by decide) (by omega) (by omega) (by decide) hT1.2.2.2.2.1 (((1000) * (i + 1)) + (r.2.1 3)) (by omega)) _) (by omega) hT1.2.2.2.2.1.1 rfl ⟨Nat.le_of_ble_eq_true rfl, Nat.le_of_ble_eq_true rfl⟩ rfl hl rfl (Nat.le_of_ble_eq_true rfl) d_X_giveTurn_40 ⟨(by dsimp only; omega), (by dsimp only; omega)⟩) hH (fun N1 ad1 E2 H locs hq hH => ?_)
      obtain ⟨rfl, rfl, rfl⟩ := hq
      refine lv_iload_n X.1 X.2.1 d_X_giveTurn_43 rfl (lv_at hl 0 rfl) ?_
      refine zx_top (b := nI 1) (by rw [show r.1 = 1 by omega]) ?_
      exact zx_iret X hr hlk hH (by dsimp only; omega) (by dsimp only; omega) d_X_giveTurn_44 ⟨rfl, fun _ _ _ => rfl, by rw [hg], by rw [hg]; exact hT1, hf.t⟩
    · by_cases d2 : q 6 ≤ q 5
      · have hz := zp_log_grow (q := q) (lf := lf) (v := 1000 * (i + 1) + r.2.1 3) d1 d2
        have hg : zp_give (q, rg, ev, lf) i = _ := zp_give_yes (lf := lf) hr1 (by omega)
        rw [hz] at hg
        dsimp only at hg
        rw [hg] at hkc hks
        have hkc : 2 * q 6 ≤ q 6 + kc := hkc
        have hks : 2 * (2 * q 6) ≤ 2 * q 6 + ks := hks
        refine zx_callv (zx_runV (As := [.int (nI (((1000) * (i + 1)) + (r.2.1 3)))]) (rest := []) X hH mv_X_73 ((c_O_append_grow g l N ad E1 6 7 3000 (q 5) (q 6) lf (by omega) (by omega) (by decide) (by omega) (by omega) (by decide) hT1.2.2.2.2.1 (((1000) * (i + 1)) + (r.2.1 3)) (by omega) (by omega) (by omega)) _) (by omega) hT1.2.2.2.2.1.1 rfl ⟨Nat.le_of_ble_eq_true rfl, Nat.le_of_ble_eq_true rfl⟩ rfl hl rfl (Nat.le_of_ble_eq_true rfl) d_X_giveTurn_40 ⟨(by dsimp only; omega), (by dsimp only; omega)⟩) hH (fun N1 ad1 E2 H locs hq hH => ?_)
        obtain ⟨rfl, ha, hO, he⟩ := hq
        have hT2 := hT1.log (q1 := va_up (va_up q 6 (2 * q 6)) 5 (q 5 + 1)) hF8 hN hO ha he rfl rfl rfl rfl rfl
        refine lv_iload_n X.1 X.2.1 d_X_giveTurn_43 rfl (lv_at hl 0 rfl) ?_
        refine zx_top (b := nI 1) (by rw [show r.1 = 1 by omega]) ?_
        exact zx_iret X hr hlk hH (by dsimp only; omega) (by dsimp only; omega) d_X_giveTurn_44 ⟨rfl, ha, by rw [hg], by rw [hg]; exact hT2, hf.t.tr (fun k a b => he k (by omega) (by omega) (by omega))⟩
      · have hz := zp_log_room (q := q) (lf := lf) (v := 1000 * (i + 1) + r.2.1 3) d1 d2
        have hg : zp_give (q, rg, ev, lf) i = _ := zp_give_yes (lf := lf) hr1 (by omega)
        rw [hz] at hg
        dsimp only at hg
        refine zx_callv (zx_runV (As := [.int (nI (((1000) * (i + 1)) + (r.2.1 3)))]) (rest := []) X hH mv_X_73 ((c_O_append_room g l N ad E1 6 7 3000 (q 5) (q 6) lf (by omega) (by omega) (by decide) (by omega) (by omega) (by decide) hT1.2.2.2.2.1 (((1000) * (i + 1)) + (r.2.1 3)) (by omega) (by omega)) _) (by omega) hT1.2.2.2.2.1.1 rfl ⟨Nat.le_of_ble_eq_true rfl, Nat.le_of_ble_eq_true rfl⟩ rfl hl rfl (Nat.le_of_ble_eq_true rfl) d_X_giveTurn_40 ⟨(by dsimp only; omega), (by dsimp only; omega)⟩) hH (fun N1 ad1 E2 H locs hq hH => ?_)
        obtain ⟨rfl, rfl, hO, hf2⟩ := hq
        have hT2 := hT1.log (q1 := va_up q 5 (q 5 + 1)) hF8 hN hO (fun _ _ _ => rfl) (fun k _ a b => hf2 k a b) rfl rfl rfl rfl rfl
        refine lv_iload_n X.1 X.2.1 d_X_giveTurn_43 rfl (lv_at hl 0 rfl) ?_
        refine zx_top (b := nI 1) (by rw [show r.1 = 1 by omega]) ?_
        exact zx_iret X hr hlk hH (by dsimp only; omega) (by dsimp only; omega) d_X_giveTurn_44 ⟨rfl, fun _ _ _ => rfl, by rw [hg], by rw [hg]; exact hT2, hf.t.tr (fun k a b => hf2 k (by omega) (by omega))⟩
end
section
theorem zp_log_fix (q lf : Nat → Nat) (v : Nat) : (zp_log q lf v).1 0 = q 0 ∧ (zp_log q lf v).1 1 = q 1 ∧ (zp_log q lf v).1 2 = q 2 ∧ (zp_log q lf v).1 3 = q 3 ∧ (zp_log q lf v).1 4 = q 4 ∧ q 6 ≤ (zp_log q lf v).1 6 := by
  unfold zp_log
  split
  · exact ⟨rfl, rfl, rfl, rfl, rfl, Nat.le_refl _⟩
  · split
    · exact ⟨rfl, rfl, rfl, rfl, rfl, by show q 6 ≤ 2 * q 6; omega⟩
    · exact ⟨rfl, rfl, rfl, rfl, rfl, Nat.le_refl _⟩
theorem zp_give_fix (T : zp_T) (i : Nat) : (zp_give T i).2.1 0 = T.1 0 ∧ (zp_give T i).2.1 1 = T.1 1 ∧ (zp_give T i).2.1 2 = T.1 2 ∧ (zp_give T i).2.1 3 = T.1 3 ∧ (zp_give T i).2.1 4 = T.1 4 ∧ T.1 6 ≤ (zp_give T i).2.1 6 := by
  unfold zp_give
  split
  · exact zp_log_fix _ _ _
  · exact ⟨rfl, rfl, rfl, rfl, rfl, Nat.le_refl _⟩
theorem zp_give_le (T : zp_T) (i : Nat) : (zp_give T i).1 ≤ 2 := by
  unfold zp_give
  split
  · show 1 ≤ 2; omega
  · exact zp_turn_le _ _ _
theorem zt_ok.log {q : Nat → Nat} {rg : zt_R} {ev sf : Nat → Nat} (h : zt_ok q rg ev sf) (lf : Nat → Nat) (v : Nat) : zt_ok (zp_log q lf v).1 rg ev sf := by
  obtain ⟨⟨k0, k2, k3, k3a, k4, k4a, k5, k5a, k6, k6a⟩, hr, he, hs⟩ := h
  by_cases d1 : 3000 ≤ q 5
  · rw [zp_log_full d1]; exact ⟨⟨k0, k2, k3, k3a, k4, k4a, k5, k5a, k6, k6a⟩, hr, he, hs⟩
  · by_cases d2 : q 6 ≤ q 5
    · rw [zp_log_grow d1 d2]
      exact ⟨⟨k0, k2, k3, k3a, k4, k4a, by show q 5 + 1 ≤ 3000; omega, by show q 5 + 1 ≤ 2 * q 6; omega, by show 16 ≤ 2 * q 6; omega, by show 2 * q 6 ≤ 6000; omega⟩, hr, he, hs⟩
    · rw [zp_log_room d1 d2]
      exact ⟨⟨k0, k2, k3, k3a, k4, k4a, by show q 5 + 1 ≤ 3000; omega, by show q 5 + 1 ≤ q 6; omega, k6, k6a⟩, hr, he, hs⟩
theorem zt_ok.give {q : Nat → Nat} {rg : zt_R} {ev sf lf : Nat → Nat} {i : Nat} (h : zt_ok q rg ev sf) (hi : i < q 0) : zt_ok (zp_give (q, rg, ev, lf) i).2.1 (zp_give (q, rg, ev, lf) i).2.2.1 (zp_give (q, rg, ev, lf) i).2.2.2.1 sf := by
  have h2 : zt_ok q (va_up rg i ((zp_turn (rg i).1 (rg i).2 ev).2.1, (zp_turn (rg i).1 (rg i).2 ev).2.2.1)) (zp_turn (rg i).1 (rg i).2 ev).2.2.2 sf := by
    obtain ⟨hq, hr, he, hs⟩ := h
    refine ⟨hq, fun j hj => ?_, fun j => Nat.lt_of_le_of_lt (zp_turn_ev _ _ _ j) (he j), hs⟩
    by_cases e : j = i
    · subst e; rw [va_up_self]; exact (hr j hj).turn ev
    · rw [va_up_ne _ _ e]; exact hr j hj
  by_cases d : (zp_turn (rg i).1 (rg i).2 ev).1 = 1
  · rw [zp_give_yes rfl d]; exact h2.log lf _
  · rw [zp_give_no rfl d]; exact h2
theorem zp_rnd_fix : ∀ (n i : Nat) (T : zp_T) (b : Nat), (zp_rnd n i T b).1.1 0 = T.1 0 ∧ (zp_rnd n i T b).1.1 1 = T.1 1 ∧ (zp_rnd n i T b).1.1 2 = T.1 2 ∧ (zp_rnd n i T b).1.1 3 = T.1 3 ∧ (zp_rnd n i T b).1.1 4 = T.1 4 ∧ T.1 6 ≤ (zp_rnd n i T b).1.1 6 := by
  intro n
  induction n with
  | zero => intro i T b; exact ⟨rfl, rfl, rfl, rfl, rfl, Nat.le_refl _⟩
  | succ n ih =>
    intro i T b
    obtain ⟨a0, a1, a2, a3, a4, a6⟩ := zp_give_fix T i
    obtain ⟨b0, b1, b2, b3, b4, b6⟩ := ih (i + 1) (zp_give T i).2 (if (zp_give T i).1 = 0 then b else 1)
    exact ⟨b0.trans a0, b1.trans a1, b2.trans a2, b3.trans a3, b4.trans a4, Nat.le_trans a6 b6⟩
theorem zp_rnd_le : ∀ (n i : Nat) (T : zp_T) (b : Nat), b ≤ 1 → (zp_rnd n i T b).2 ≤ 1 := by
  intro n
  induction n with
  | zero => intro i T b h; exact h
  | succ n ih =>
    intro i T b h
    exact ih (i + 1) (zp_give T i).2 _ (by split <;> omega)
theorem zt_ok.rnd {sf : Nat → Nat} : ∀ (n i : Nat) (T : zp_T) (b : Nat), i + n ≤ T.1 0 → zt_ok T.1 T.2.1 T.2.2.1 sf → zt_ok (zp_rnd n i T b).1.1 (zp_rnd n i T b).1.2.1 (zp_rnd n i T b).1.2.2.1 sf := by
  intro n
  induction n with
  | zero => intro i T b _ h; exact h
  | succ n ih =>
    intro i T b hi h
    have a0 := (zp_give_fix T i).1
    exact ih (i + 1) (zp_give T i).2 _ (by omega) (zt_ok.give (lf := T.2.2.2) h (by omega))
theorem zp_rnds_fix (m : Nat) : ∀ (n : Nat) (T : zp_T), (zp_rnds m n T).1 0 = T.1 0 ∧ (zp_rnds m n T).1 1 = T.1 1 ∧ (zp_rnds m n T).1 2 = T.1 2 ∧ (zp_rnds m n T).1 3 = T.1 3 ∧ (zp_rnds m n T).1 4 = T.1 4 ∧ T.1 6 ≤ (zp_rnds m n T).1 6 := by
  intro n
  induction n with
  | zero => intro T; exact ⟨rfl, rfl, rfl, rfl, rfl, Nat.le_refl _⟩
  | succ n ih =>
    intro T
    obtain ⟨a0, a1, a2, a3, a4, a6⟩ := zp_rnd_fix m 0 T 0
    rw [zp_rnds]
    split
    · exact ⟨a0, a1, a2, a3, a4, a6⟩
    · obtain ⟨b0, b1, b2, b3, b4, b6⟩ := ih (zp_rnd m 0 T 0).1
      exact ⟨b0.trans a0, b1.trans a1, b2.trans a2, b3.trans a3, b4.trans a4, Nat.le_trans a6 b6⟩
theorem zt_ok.rnds {sf : Nat → Nat} (m : Nat) : ∀ (n : Nat) (T : zp_T), m ≤ T.1 0 → zt_ok T.1 T.2.1 T.2.2.1 sf → zt_ok (zp_rnds m n T).1 (zp_rnds m n T).2.1 (zp_rnds m n T).2.2.1 sf := by
  intro n
  induction n with
  | zero => intro T _ h; exact h
  | succ n ih =>
    intro T hm h
    have a := zt_ok.rnd m 0 T 0 (by omega) h
    have a0 := (zp_rnd_fix m 0 T 0).1
    rw [zp_rnds]
    split
    · exact a
    · exact ih (zp_rnd m 0 T 0).1 (by omega) a
theorem zp_runs_1 {sf : Nat → Nat} {n k c : Nat} {T : zp_T} (h : (zp_give T (sf k - 1)).1 = 1) : zp_runs sf (n + 1) k T c = zp_runs sf n (k + 1) (zp_give T (sf k - 1)).2 (c + 1) := by
  rw [zp_runs, if_pos h]
theorem zp_runs_0 {sf : Nat → Nat} {n k c : Nat} {T : zp_T} (h : (zp_give T (sf k - 1)).1 = 0) : zp_runs sf (n + 1) k T c = zp_runs sf n (k + 1) (va_up (zp_give T (sf k - 1)).2.1 1 ((zp_give T (sf k - 1)).2.1 1 + 1), (zp_give T (sf k - 1)).2.2) c := by
  rw [zp_runs, if_neg (by omega), if_pos h]
theorem zp_runs_2 {sf : Nat → Nat} {n k c : Nat} {T : zp_T} (h1 : ¬ (zp_give T (sf k - 1)).1 = 1) (h : ¬ (zp_give T (sf k - 1)).1 = 0) : zp_runs sf (n + 1) k T c = zp_runs sf n (k + 1) (zp_give T (sf k - 1)).2 c := by
  rw [zp_runs, if_neg h1, if_neg h]
theorem zp_runs_fix (sf : Nat → Nat) : ∀ (n k : Nat) (T : zp_T) (c : Nat), (zp_runs sf n k T c).1.1 0 = T.1 0 ∧ (zp_runs sf n k T c).1.1 2 = T.1 2 ∧ (zp_runs sf n k T c).1.1 3 = T.1 3 ∧ (zp_runs sf n k T c).1.1 4 = T.1 4 ∧ T.1 6 ≤ (zp_runs sf n k T c).1.1 6 ∧ (zp_runs sf n k T c).2 ≤ c + n := by
  intro n
  induction n with
  | zero => intro k T c; exact ⟨rfl, rfl, rfl, rfl, Nat.le_refl _, Nat.le_refl _⟩
  | succ n ih =>
    intro k T c
    obtain ⟨a0, a1, a2, a3, a4, a6⟩ := zp_give_fix T (sf k - 1)
    by_cases h1 : (zp_give T (sf k - 1)).1 = 1
    · rw [zp_runs_1 h1]
      obtain ⟨b0, b2, b3, b4, b6, b7⟩ := ih (k + 1) (zp_give T (sf k - 1)).2 (c + 1)
      exact ⟨b0.trans a0, b2.trans a2, b3.trans a3, b4.trans a4, Nat.le_trans a6 b6, by omega⟩
    · by_cases h0 : (zp_give T (sf k - 1)).1 = 0
      · rw [zp_runs_0 h0]
        obtain ⟨b0, b2, b3, b4, b6, b7⟩ := ih (k + 1) (va_up (zp_give T (sf k - 1)).2.1 1 ((zp_give T (sf k - 1)).2.1 1 + 1), (zp_give T (sf k - 1)).2.2) c
        exact ⟨b0.trans a0, b2.trans a2, b3.trans a3, b4.trans a4, Nat.le_trans a6 b6, by omega⟩
      · rw [zp_runs_2 h1 h0]
        obtain ⟨b0, b2, b3, b4, b6, b7⟩ := ih (k + 1) (zp_give T (sf k - 1)).2 c
        exact ⟨b0.trans a0, b2.trans a2, b3.trans a3, b4.trans a4, Nat.le_trans a6 b6, by omega⟩
theorem zt_ok.num {q : Nat → Nat} {rg : zt_R} {ev sf : Nat → Nat} (h : zt_ok q rg ev sf) (v : Nat) : zt_ok (va_up q 1 v) rg ev sf := h
theorem zt_ok.runs {sf : Nat → Nat} : ∀ (n k : Nat) (T : zp_T) (c : Nat), k + n ≤ T.1 3 → zt_ok T.1 T.2.1 T.2.2.1 sf → zt_ok (zp_runs sf n k T c).1.1 (zp_runs sf n k T c).1.2.1 (zp_runs sf n k T c).1.2.2.1 sf := by
  intro n
  induction n with
  | zero => intro k T c _ h; exact h
  | succ n ih =>
    intro k T c hk h
    obtain ⟨a0, a1, a2, a3, a4, a6⟩ := zp_give_fix T (sf k - 1)
    have hs := h.2.2.2 k (by omega)
    have hg := zt_ok.give (lf := T.2.2.2) h (show sf k - 1 < T.1 0 by omega)
    by_cases h1 : (zp_give T (sf k - 1)).1 = 1
    · rw [zp_runs_1 h1]; exact ih (k + 1) (zp_give T (sf k - 1)).2 (c + 1) (by omega) hg
    · by_cases h0 : (zp_give T (sf k - 1)).1 = 0
      · rw [zp_runs_0 h0]; exact ih (k + 1) (va_up (zp_give T (sf k - 1)).2.1 1 ((zp_give T (sf k - 1)).2.1 1 + 1), (zp_give T (sf k - 1)).2.2) c (by show k + 1 + n ≤ (zp_give T (sf k - 1)).2.1 3; omega) (hg.num _)
      · rw [zp_runs_2 h1 h0]; exact ih (k + 1) (zp_give T (sf k - 1)).2 c (by omega) hg
end
section
set_option maxHeartbeats 4000000 in
set_option maxRecDepth 100000 in
theorem c_X_giveOneRound (g : zw_G) (l : Launch) (N : Nat) (ad : Nat → Nat) (E : Nat → va_E) (F : Nat) (q : Nat → Nat) (rg : zt_R) (ev sf lf : Nat → Nat) (hF8 : 8 ≤ F) (hN : N = F + 5 * q 0) (hT : zt_at g ad E F q rg ev sf lf) (hok : zt_ok q rg ev sf) (kc ks : Nat) (hkc : (zp_rnd (q 0) 0 (q, rg, ev, lf) 0).1.1 6 ≤ q 6 + kc) (hks : 2 * (zp_rnd (q 0) 0 (q, rg, ev, lf) 0).1.1 6 ≤ 2 * q 6 + ks) : zc_i g l y_X_giveOneRound b_X_giveOneRound 3 (some .boolean) { frames := 5, cells := kc, slots := ks, locals := 200 } [.ref (ad (0))] N ad E (fun v N1 ad1 E1 => N = N1 ∧ (∀ k, k ≠ 7 → k < N → ad1 k = ad k) ∧ v = nI (zp_rnd (q 0) 0 (q, rg, ev, lf) 0).2 ∧ zt_at g ad1 E1 F (zp_rnd (q 0) 0 (q, rg, ev, lf) 0).1.1 (zp_rnd (q 0) 0 (q, rg, ev, lf) 0).1.2.1 (zp_rnd (q 0) 0 (q, rg, ev, lf) 0).1.2.2.1 sf (zp_rnd (q 0) 0 (q, rg, ev, lf) 0).1.2.2.2 ∧ zt_fr E E1 F) := by
  refine zc_i.of (by decide) (Nat.le_of_ble_eq_true rfl) ?_
  intro p e s m below meth c ls A X hr hlk hl hH
  have hl : lv_has ls 3 [(0, .ref (ad (0)))] := hl
  obtain ⟨k0, k2, k3, k3a, k4, k4a, k5, k5a, k6, k6a⟩ := hok.1
  refine lv_iconst (v := nI 0) X.1 X.2.1 d_X_giveOneRound_0 (by decide) ?_
  refine lv_istore_n (lv' := [(1, .int (nI (0))), (0, .ref (ad (0)))]) X.1 X.2.1 d_X_giveOneRound_1 rfl hl (by decide) rfl (fun ls hl => ?_)
  refine lv_iconst (v := nI 1) X.1 X.2.1 d_X_giveOneRound_2 (by decide) ?_
  refine lv_istore_n (lv' := [(2, .int (nI (1))), (1, .int (nI (0))), (0, .ref (ad (0)))]) X.1 X.2.1 d_X_giveOneRound_3 rfl hl (by decide) rfl (fun ls hl => ?_)
  refine W.cs (cells' := q 6 - q 6) (slots' := 2 * (q 6 - q 6)) (by omega) (by omega) ?_
  refine zx_loop (σ := Nat × zp_T × Nat × (Nat → va_E) × (Nat → Nat)) (fun x H locs ls => x.1 ≤ q 0 ∧ x.2.1.1 0 = q 0 ∧ q 6 ≤ x.2.1.1 6 ∧ zt_at g x.2.2.2.2 x.2.2.2.1 F x.2.1.1 x.2.1.2.1 x.2.1.2.2.1 sf x.2.1.2.2.2 ∧ zt_ok x.2.1.1 x.2.1.2.1 x.2.1.2.2.1 sf ∧ zt_fr E x.2.2.2.1 F ∧ (∀ k, k ≠ 7 → k < N → x.2.2.2.2 k = ad k) ∧ x.2.2.1 ≤ 1 ∧ zp_rnd (q 0) 0 (q, rg, ev, lf) 0 = zp_rnd (q 0 - x.1) x.1 x.2.1 x.2.2.1 ∧ zw_H g A s.heap s N x.2.2.2.2 x.2.2.2.1 H locs ∧ lv_has ls 3 [(2, .int (nI (x.1 + 1))), (1, .int (nI x.2.2.1)), (0, .ref (x.2.2.2.2 0))]) (fun x => q 0 - x.1) (fun x => x.2.1.1 6 - q 6) (fun x => 2 * (x.2.1.1 6 - q 6)) ?_ (0, (q, rg, ev, lf), 0, E, ad) _ _ _ ⟨Nat.zero_le _, rfl, Nat.le_refl _, hT, hok, zt_fr.rf, fun _ _ _ => rfl, Nat.zero_le _, rfl, hH, hl⟩
  rintro ⟨i, ⟨q1, rg1, ev1, lf1⟩, mv, E1, ad1⟩ H locs ls ⟨hi, hq0, hq6, hT, hok1, hF, ha, hmv, hT9, hH, hl⟩ ih
  dsimp only at hi hq0 hq6 hT hok1 hF ha hmv hT9 hH hl ih ⊢
  have hN1 : N = F + 5 * q1 0 := by rw [hq0]; exact hN
  have kk0 := hok1.1.1
  refine lv_iload_n X.1 X.2.1 d_X_giveOneRound_4 rfl (lv_at hl 0 rfl) ?_
  refine lv_aload_n X.1 X.2.1 d_X_giveOneRound_5 rfl (lv_at hl 2 rfl) ?_
  refine zx_get (v := .int (nI (q1 0))) X hH fg_X_38 (by omega) hT.1 rfl d_X_giveOneRound_6 ?_
  refine lv_icmp_gt (tgt := 28) X.1 X.2.1 d_X_giveOneRound_9 (by decide) (fun c1 => ?_) (fun c1 => ?_)
  · have c1 := (zn_lt (nI_toInt (by omega)) (nI_toInt (by omega))).mp c1
    refine lv_iload_n X.1 X.2.1 d_X_giveOneRound_28 rfl (lv_at hl 1 rfl) ?_
    have hz : zp_rnd (q 0) 0 (q, rg, ev, lf) 0 = ((q1, rg1, ev1, lf1), mv) := by rw [hT9, show q 0 - i = 0 by omega]; rfl
    rw [hz] at hkc hks
    dsimp only at hkc hks
    exact zx_zret X hr hlk hH (by dsimp only; omega) (by dsimp only; omega) d_X_giveOneRound_29 (by rcases (show mv = 0 ∨ mv = 1 by omega) with z | z <;> rw [z] <;> rfl) ⟨rfl, ha, by rw [hz], by rw [hz]; exact hT, hF⟩
  · have c1 := mt (zn_lt (nI_toInt (by omega)) (nI_toInt (by omega))).mpr c1
    refine lv_aload_n X.1 X.2.1 d_X_giveOneRound_12 rfl (lv_at hl 2 rfl) ?_
    refine lv_iload_n X.1 X.2.1 d_X_giveOneRound_13 rfl (lv_at hl 0 rfl) ?_
    obtain ⟨G, hG⟩ : ∃ G, zp_give (q1, rg1, ev1, lf1) (i) = G := ⟨_, rfl⟩
    obtain ⟨g0, g1, g2, g3, g4, g6⟩ := zp_give_fix (q1, rg1, ev1, lf1) (i)
    have gl := zp_give_le (q1, rg1, ev1, lf1) (i)
    have gok := zt_ok.give (lf := lf1) hok1 (show i < q1 0 by omega)
    rw [hG] at g0 g1 g2 g3 g4 g6 gl gok
    dsimp only at g0 g1 g2 g3 g4 g6
    have hz : zp_rnd (q 0) 0 (q, rg, ev, lf) 0 = zp_rnd (q 0 - (i + 1)) (i + 1) G.2 (if G.1 = 0 then mv else 1) := by rw [hT9, show q 0 - i = (q 0 - (i + 1)) + 1 by omega, zp_rnd, hG]
    have hm6 := (zp_rnd_fix (q 0 - (i + 1)) (i + 1) G.2 (if G.1 = 0 then mv else 1)).2.2.2.2.2
    rw [← hz] at hm6
    refine zx_calli (zx_runV (As := [.int (nI (i + 1))]) (rest := []) X hH mv_X_82 ((c_X_giveTurn g l N ad1 E1 F q1 rg1 ev1 sf lf1 hF8 hN1 hT hok1 (i) (by omega) (G.2.1 6 - q1 6) (2 * (G.2.1 6 - q1 6)) (by rw [hG]; omega) (by rw [hG]; omega)) _) (by omega) hT.1 rfl ⟨Nat.le_of_ble_eq_true rfl, Nat.le_of_ble_eq_true rfl⟩ rfl hl rfl (Nat.le_of_ble_eq_true rfl) d_X_giveOneRound_14 ⟨(by dsimp only; omega), (by dsimp only; omega)⟩) hH (fun r N2 ad2 E2 H locs hq hH => ?_)
    obtain ⟨rfl, ha2, rfl, hT, hF2⟩ := hq
    rw [hG] at hT
    refine zx_top (b := nI G.1) (by rw [hG]) ?_
    have hF := hF.tr hF2
    have ha3 : ∀ k, k ≠ 7 → k < N → ad2 k = ad k := fun k h1 h2 => (ha2 k h1 h2).trans (ha k h1 h2)
    rw [← ha2 0 (by decide) (by omega)] at hl
    refine W.cs (cells' := G.2.1 6 - q 6) (slots' := 2 * (G.2.1 6 - q 6)) (by dsimp only; omega) (by dsimp only; omega) ?_
    refine lv_if_eq (tgt := 22) X.1 X.2.1 d_X_giveOneRound_17 (by decide) (fun c2 => ?_) (fun c2 => ?_)
    · have c2 := (zn_eq (nI_toInt (by omega)) zn_0).mp c2
      refine lv_iinc (v := nI (i + 1 + 1)) (lv' := [(2, .int (nI (i + 1 + 1))), (1, .int (nI (mv))), (0, .ref (ad2 (0)))]) X.1 X.2.1 d_X_giveOneRound_22 hl (k := 0) rfl (nI_add _ _) (by decide) rfl (fun ls hl => ?_)
      refine lv_goto (tgt := 4) X.1 X.2.1 d_X_giveOneRound_25 (by decide) ?_
      rw [if_pos (by omega)] at hz
      exact ih (i + 1, G.2, mv, E2, ad2) _ _ _ ⟨by omega, by show G.2.1 0 = q 0; omega, by show q 6 ≤ G.2.1 6; omega, hT, gok, hF, ha3, by show mv ≤ 1; omega, hz, hH, lv_sub hl [0, 1, 2] rfl⟩ (by show q 0 - (i + 1) < q 0 - i; omega)
    · have c2 := mt (zn_eq (nI_toInt (by omega)) zn_0).mpr c2
      refine lv_iconst (v := nI 1) X.1 X.2.1 d_X_giveOneRound_20 (by decide) ?_
      refine lv_istore_n (lv' := [(1, .int (nI (1))), (2, .int (nI (i + 1))), (0, .ref (ad2 (0)))]) X.1 X.2.1 d_X_giveOneRound_21 rfl hl (by decide) rfl (fun ls hl => ?_)
      refine lv_iinc (v := nI (i + 1 + 1)) (lv' := [(2, .int (nI (i + 1 + 1))), (1, .int (nI (1))), (0, .ref (ad2 (0)))]) X.1 X.2.1 d_X_giveOneRound_22 hl (k := 1) rfl (nI_add _ _) (by decide) rfl (fun ls hl => ?_)
      refine lv_goto (tgt := 4) X.1 X.2.1 d_X_giveOneRound_25 (by decide) ?_
      rw [if_neg (by omega)] at hz
      exact ih (i + 1, G.2, 1, E2, ad2) _ _ _ ⟨by omega, by show G.2.1 0 = q 0; omega, by show q 6 ≤ G.2.1 6; omega, hT, gok, hF, ha3, by show 1 ≤ 1; omega, hz, hH, lv_sub hl [0, 1, 2] rfl⟩ (by show q 0 - (i + 1) < q 0 - i; omega)

set_option maxHeartbeats 4000000 in
set_option maxRecDepth 100000 in
theorem c_X_giveRounds (g : zw_G) (l : Launch) (N : Nat) (ad : Nat → Nat) (E : Nat → va_E) (F : Nat) (q : Nat → Nat) (rg : zt_R) (ev sf lf : Nat → Nat) (hF8 : 8 ≤ F) (hN : N = F + 5 * q 0) (hT : zt_at g ad E F q rg ev sf lf) (hok : zt_ok q rg ev sf) (kc ks : Nat) (hkc : (zp_rnds (q 0) 3031 (q, rg, ev, lf)).1 6 ≤ q 6 + kc) (hks : 2 * (zp_rnds (q 0) 3031 (q, rg, ev, lf)).1 6 ≤ 2 * q 6 + ks) : zc_v g l y_X_giveRounds b_X_giveRounds 3 { frames := 6, cells := kc, slots := ks, locals := 240 } [.ref (ad (0))] N ad E (fun N1 ad1 E1 => N = N1 ∧ (∀ k, k ≠ 7 → k < N → ad1 k = ad k) ∧ zt_at g ad1 E1 F (zp_rnds (q 0) 3031 (q, rg, ev, lf)).1 (zp_rnds (q 0) 3031 (q, rg, ev, lf)).2.1 (zp_rnds (q 0) 3031 (q, rg, ev, lf)).2.2.1 sf (zp_rnds (q 0) 3031 (q, rg, ev, lf)).2.2.2 ∧ zt_fr E E1 F) := by
  refine zc_v.of (by decide) (Nat.le_of_ble_eq_true rfl) ?_
  intro p e s m below meth c ls A X hr hlk hnm hl hH
  have hl : lv_has ls 3 [(0, .ref (ad (0)))] := hl
  obtain ⟨k0, k2, k3, k3a, k4, k4a, k5, k5a, k6, k6a⟩ := hok.1
  refine lv_iconst (v := nI 1) X.1 X.2.1 d_X_giveRounds_0 (by decide) ?_
  refine lv_istore_n (lv' := [(1, .int (nI (1))), (0, .ref (ad (0)))]) X.1 X.2.1 d_X_giveRounds_1 rfl hl (by decide) rfl (fun ls hl => ?_)
  refine lv_iconst (v := nI 0) X.1 X.2.1 d_X_giveRounds_2 (by decide) ?_
  refine lv_istore_n (lv' := [(2, .int (nI (0))), (1, .int (nI (1))), (0, .ref (ad (0)))]) X.1 X.2.1 d_X_giveRounds_3 rfl hl (by decide) rfl (fun ls hl => ?_)
  refine W.cs (cells' := q 6 - q 6) (slots' := 2 * (q 6 - q 6)) (by omega) (by omega) ?_
  refine zx_loop (σ := Nat × zp_T × Nat × (Nat → va_E) × (Nat → Nat)) (fun x H locs ls => x.1 ≤ 3031 ∧ x.2.1.1 0 = q 0 ∧ q 6 ≤ x.2.1.1 6 ∧ zt_at g x.2.2.2.2 x.2.2.2.1 F x.2.1.1 x.2.1.2.1 x.2.1.2.2.1 sf x.2.1.2.2.2 ∧ zt_ok x.2.1.1 x.2.1.2.1 x.2.1.2.2.1 sf ∧ zt_fr E x.2.2.2.1 F ∧ (∀ k, k ≠ 7 → k < N → x.2.2.2.2 k = ad k) ∧ x.2.2.1 ≤ 1 ∧ zp_rnds (q 0) 3031 (q, rg, ev, lf) = (if x.2.2.1 = 0 then x.2.1 else zp_rnds (q 0) (3031 - x.1) x.2.1) ∧ zw_H g A s.heap s N x.2.2.2.2 x.2.2.2.1 H locs ∧ lv_has ls 3 [(2, .int (nI x.1)), (1, .int (nI x.2.2.1)), (0, .ref (x.2.2.2.2 0))]) (fun x => 3031 - x.1) (fun x => x.2.1.1 6 - q 6) (fun x => 2 * (x.2.1.1 6 - q 6)) ?_ (0, (q, rg, ev, lf), 1, E, ad) _ _ _ ⟨Nat.zero_le _, rfl, Nat.le_refl _, hT, hok, zt_fr.rf, fun _ _ _ => rfl, Nat.le_refl _, (if_neg (by decide : ¬ (1 : Nat) = 0)).symm, hH, hl⟩
  rintro ⟨k, ⟨q1, rg1, ev1, lf1⟩, mv, E1, ad1⟩ H locs ls ⟨hi, hq0, hq6, hT, hok1, hF, ha, hmv, hT9, hH, hl⟩ ih
  dsimp only at hi hq0 hq6 hT hok1 hF ha hmv hT9 hH hl ih ⊢
  have hN1 : N = F + 5 * q1 0 := by rw [hq0]; exact hN
  have kk0 := hok1.1.1
  refine lv_iload_n X.1 X.2.1 d_X_giveRounds_4 rfl (lv_at hl 1 rfl) ?_
  refine lv_if_eq (tgt := 26) X.1 X.2.1 d_X_giveRounds_5 (by decide) (fun c1 => ?_) (fun c1 => ?_)
  · have c1 := (zn_eq (nI_toInt (by omega)) zn_0).mp c1
    have hz : zp_rnds (q 0) 3031 (q, rg, ev, lf) = (q1, rg1, ev1, lf1) := by rw [hT9]; split; rfl; rw [show 3031 - k = 0 by omega]; rfl
    rw [hz] at hkc hks
    dsimp only at hkc hks
    exact zx_vret X hr hlk hH (by dsimp only; omega) (by dsimp only; omega) d_X_giveRounds_26 ⟨rfl, ha, by rw [hz]; exact hT, hF⟩
  · have c1 := mt (zn_eq (nI_toInt (by omega)) zn_0).mpr c1
    refine lv_iload_n X.1 X.2.1 d_X_giveRounds_8 rfl (lv_at hl 0 rfl) ?_
    refine lv_sipush (v := nI 3031) X.1 X.2.1 d_X_giveRounds_9 (by decide) ?_
    refine lv_icmp_ge (tgt := 26) X.1 X.2.1 d_X_giveRounds_12 (by decide) (fun c2 => ?_) (fun c2 => ?_)
    · have c2 := (zn_le (nI_toInt (by omega)) (nI_toInt (by omega))).mp c2
      have hz : zp_rnds (q 0) 3031 (q, rg, ev, lf) = (q1, rg1, ev1, lf1) := by rw [hT9]; split; rfl; rw [show 3031 - k = 0 by omega]; rfl
      rw [hz] at hkc hks
      dsimp only at hkc hks
      exact zx_vret X hr hlk hH (by dsimp only; omega) (by dsimp only; omega) d_X_giveRounds_26 ⟨rfl, ha, by rw [hz]; exact hT, hF⟩
    · have c2 := mt (zn_le (nI_toInt (by omega)) (nI_toInt (by omega))).mpr c2
      refine lv_aload_n X.1 X.2.1 d_X_giveRounds_15 rfl (lv_at hl 2 rfl) ?_
      obtain ⟨G, hG⟩ : ∃ G, zp_rnd (q1 0) 0 (q1, rg1, ev1, lf1) 0 = G := ⟨_, rfl⟩
      obtain ⟨g0, g1, g2, g3, g4, g6⟩ := zp_rnd_fix (q1 0) 0 (q1, rg1, ev1, lf1) 0
      have gl := zp_rnd_le (q1 0) 0 (q1, rg1, ev1, lf1) 0 (by decide)
      have gok := zt_ok.rnd (sf := sf) (q1 0) 0 (q1, rg1, ev1, lf1) 0 (by dsimp only; omega) hok1
      rw [hG] at g0 g1 g2 g3 g4 g6 gl gok
      dsimp only at g0 g1 g2 g3 g4 g6
      have hz : zp_rnds (q 0) 3031 (q, rg, ev, lf) = if G.2 = 0 then G.1 else zp_rnds (q 0) (3031 - (k + 1)) G.1 := by rw [hT9, if_neg (by omega), show 3031 - k = (3031 - (k + 1)) + 1 by omega, zp_rnds, ← hq0, hG, hq0]
      have hm6 : G.1.1 6 ≤ (zp_rnds (q 0) 3031 (q, rg, ev, lf)).1 6 := by rw [hz]; split; exact Nat.le_refl _; exact (zp_rnds_fix (q 0) (3031 - (k + 1)) G.1).2.2.2.2.2
      refine zx_calli (zx_runV (As := []) (rest := []) X hH mv_X_133 ((c_X_giveOneRound g l N ad1 E1 F q1 rg1 ev1 sf lf1 hF8 hN1 hT hok1 (G.1.1 6 - q1 6) (2 * (G.1.1 6 - q1 6)) (by rw [hG]; omega) (by rw [hG]; omega)) _) (by omega) hT.1 rfl ⟨Nat.le_of_ble_eq_true rfl, Nat.le_of_ble_eq_true rfl⟩ rfl hl rfl (Nat.le_of_ble_eq_true rfl) d_X_giveRounds_16 ⟨(by dsimp only; omega), (by dsimp only; omega)⟩) hH (fun r N2 ad2 E2 H locs hq hH => ?_)
      obtain ⟨rfl, ha2, rfl, hT, hF2⟩ := hq
      rw [hG] at hT
      refine zx_top (b := nI G.2) (by rw [hG]) ?_
      have hF := hF.tr hF2
      have ha3 : ∀ k, k ≠ 7 → k < N → ad2 k = ad k := fun k h1 h2 => (ha2 k h1 h2).trans (ha k h1 h2)
      rw [← ha2 0 (by decide) (by omega)] at hl
      refine W.cs (cells' := G.1.1 6 - q 6) (slots' := 2 * (G.1.1 6 - q 6)) (by dsimp only; omega) (by dsimp only; omega) ?_
      refine lv_istore_n (lv' := [(1, .int (nI (G.2))), (2, .int (nI (k))), (0, .ref (ad2 (0)))]) X.1 X.2.1 d_X_giveRounds_19 rfl hl (by decide) rfl (fun ls hl => ?_)
      refine lv_iinc (v := nI (k + 1)) (lv' := [(2, .int (nI (k + 1))), (1, .int (nI (G.2))), (0, .ref (ad2 (0)))]) X.1 X.2.1 d_X_giveRounds_20 hl (k := 1) rfl (nI_add _ _) (by decide) rfl (fun ls hl => ?_)
      refine lv_goto (tgt := 4) X.1 X.2.1 d_X_giveRounds_23 (by decide) ?_
      exact ih (k + 1, G.1, G.2, E2, ad2) _ _ _ ⟨by omega, by show G.1.1 0 = q 0; omega, by show q 6 ≤ G.1.1 6; omega, hT, gok, hF, ha3, gl, hz, hH, lv_sub hl [0, 1, 2] rfl⟩ (by show 3031 - (k + 1) < 3031 - k; omega)

set_option maxHeartbeats 4000000 in
set_option maxRecDepth 100000 in
theorem c_X_run (g : zw_G) (l : Launch) (N : Nat) (ad : Nat → Nat) (E : Nat → va_E) (F : Nat) (q : Nat → Nat) (rg : zt_R) (ev sf lf : Nat → Nat) (hF8 : 8 ≤ F) (hN : N = F + 5 * q 0) (hT : zt_at g ad E F q rg ev sf lf) (hok : zt_ok q rg ev sf) (kc ks : Nat) (hkc : (zp_runs sf (q 3) 0 (q, rg, ev, lf) 0).1.1 6 ≤ q 6 + kc) (hks : 2 * (zp_runs sf (q 3) 0 (q, rg, ev, lf) 0).1.1 6 ≤ 2 * q 6 + ks) (hop : q 2 = 0) : zc_i g l y_X_run b_X_run 4 (some .int) { frames := 5, cells := kc, slots := ks, locals := 200 } [.ref (ad (0))] N ad E (fun v N1 ad1 E1 => N = N1 ∧ (∀ k, k ≠ 7 → k < N → ad1 k = ad k) ∧ v = nI (zp_runs sf (q 3) 0 (q, rg, ev, lf) 0).2 ∧ zt_at g ad1 E1 F (va_up (zp_runs sf (q 3) 0 (q, rg, ev, lf) 0).1.1 3 0) (zp_runs sf (q 3) 0 (q, rg, ev, lf) 0).1.2.1 (zp_runs sf (q 3) 0 (q, rg, ev, lf) 0).1.2.2.1 sf (zp_runs sf (q 3) 0 (q, rg, ev, lf) 0).1.2.2.2 ∧ zt_fr E E1 F) := by
  refine zc_i.of (by decide) (Nat.le_of_ble_eq_true rfl) ?_
  intro p e s m below meth c ls A X hr hlk hl hH
  have hl : lv_has ls 4 [(0, .ref (ad (0)))] := hl
  obtain ⟨k0, k2, k3, k3a, k4, k4a, k5, k5a, k6, k6a⟩ := hok.1
  refine lv_aload_n X.1 X.2.1 d_X_run_0 rfl (lv_at hl 0 rfl) ?_
  refine zx_get (v := .int (nI (q 2))) X hH fg_X_34 (by omega) hT.1 rfl d_X_run_1 ?_
  refine lv_if_eq (tgt := 10) X.1 X.2.1 d_X_run_4 (by decide) (fun c1 => ?_) (fun c1 => ?_)
  · have c1 := (zn_eq (nI_toInt (by omega)) zn_0).mp c1
    refine lv_iconst (v := nI 0) X.1 X.2.1 d_X_run_10 (by decide) ?_
    refine lv_istore_n (lv' := [(1, .int (nI (0))), (0, .ref (ad (0)))]) X.1 X.2.1 d_X_run_11 rfl hl (by decide) rfl (fun ls hl => ?_)
    refine lv_iconst (v := nI 0) X.1 X.2.1 d_X_run_12 (by decide) ?_
    refine lv_istore_n (lv' := [(2, .int (nI (0))), (1, .int (nI (0))), (0, .ref (ad (0)))]) X.1 X.2.1 d_X_run_13 rfl hl (by decide) rfl (fun ls hl => ?_)
    refine W.cs (cells' := q 6 - q 6) (slots' := 2 * (q 6 - q 6)) (by omega) (by omega) ?_
    refine zx_loop (σ := Nat × zp_T × Nat × (Nat → va_E) × (Nat → Nat)) (fun x H locs ls => x.1 ≤ q 3 ∧ x.2.1.1 0 = q 0 ∧ x.2.1.1 3 = q 3 ∧ q 6 ≤ x.2.1.1 6 ∧ zt_at g x.2.2.2.2 x.2.2.2.1 F x.2.1.1 x.2.1.2.1 x.2.1.2.2.1 sf x.2.1.2.2.2 ∧ zt_ok x.2.1.1 x.2.1.2.1 x.2.1.2.2.1 sf ∧ zt_fr E x.2.2.2.1 F ∧ (∀ k, k ≠ 7 → k < N → x.2.2.2.2 k = ad k) ∧ zp_runs sf (q 3) 0 (q, rg, ev, lf) 0 = zp_runs sf (q 3 - x.1) x.1 x.2.1 x.2.2.1 ∧ zw_H g A s.heap s N x.2.2.2.2 x.2.2.2.1 H locs ∧ lv_has ls 4 [(2, .int (nI x.1)), (1, .int (nI x.2.2.1)), (0, .ref (x.2.2.2.2 0))]) (fun x => q 3 - x.1) (fun x => x.2.1.1 6 - q 6) (fun x => 2 * (x.2.1.1 6 - q 6)) ?_ (0, (q, rg, ev, lf), 0, E, ad) _ _ _ ⟨Nat.zero_le _, rfl, rfl, Nat.le_refl _, hT, hok, zt_fr.rf, fun _ _ _ => rfl, rfl, hH, hl⟩
    rintro ⟨k, ⟨q1, rg1, ev1, lf1⟩, cn, E1, ad1⟩ H locs ls ⟨hi, hq0, hq3, hq6, hT, hok1, hF, ha, hT9, hH, hl⟩ ih
    dsimp only at hi hq0 hq3 hq6 hT hok1 hF ha hT9 hH hl ih ⊢
    have hN1 : N = F + 5 * q1 0 := by rw [hq0]; exact hN
    obtain ⟨j0, j2, j3, j3a, j4, j4a, j5, j5a, j6, j6a⟩ := hok1.1
    refine lv_iload_n X.1 X.2.1 d_X_run_14 rfl (lv_at hl 0 rfl) ?_
    refine lv_aload_n X.1 X.2.1 d_X_run_15 rfl (lv_at hl 2 rfl) ?_
    refine zx_get (v := .ref (ad1 (4))) X hH fg_X_27 (by omega) hT.1 rfl d_X_run_16 ?_
    refine zx_get (v := .int (nI (q1 3))) X hH fg_X_76 (by omega) hT.2.2.2.1.1 rfl d_X_run_19 ?_
    refine lv_icmp_ge (tgt := 69) X.1 X.2.1 d_X_run_22 (by decide) (fun c2 => ?_) (fun c2 => ?_)
    · have c2 := (zn_le (nI_toInt (by omega)) (nI_toInt (by omega))).mp c2
      refine lv_aload_n X.1 X.2.1 d_X_run_69 rfl (lv_at hl 2 rfl) ?_
      refine zx_get (v := .ref (ad1 (4))) X hH fg_X_27 (by omega) hT.1 rfl d_X_run_70 ?_
      have hz : zp_runs sf (q 3) 0 (q, rg, ev, lf) 0 = ((q1, rg1, ev1, lf1), cn) := by rw [hT9, show q 3 - k = 0 by omega]; rfl
      rw [hz] at hkc hks
      dsimp only at hkc hks
      refine zx_callv (zx_runV (As := []) (rest := []) X hH mv_X_88 ((c_O_makeEmpty g l N ad1 E1 4 5 600 (q1 3) (q1 4) sf (by omega) (by omega) (by decide) (by omega) (by omega) (by decide) hT.2.2.2.1) _) (by omega) hT.2.2.2.1.1 rfl ⟨Nat.le_of_ble_eq_true rfl, Nat.le_of_ble_eq_true rfl⟩ rfl hl rfl (Nat.le_of_ble_eq_true rfl) d_X_run_73 ⟨(by dsimp only; omega), (by dsimp only; omega)⟩) hH (fun N2 ad2 E2 H locs hq hH => ?_)
      obtain ⟨rfl, rfl, hO, hf2⟩ := hq
      have hT := hT.sch (q1 := va_up q1 3 0) hF8 hN1 hO (fun _ _ _ => rfl) (fun j _ a b => hf2 j a b) rfl rfl rfl rfl rfl
      have hF := hF.tr (fun j a b => hf2 j (by omega) (by omega))
      refine lv_iload_n X.1 X.2.1 d_X_run_76 rfl (lv_at hl 1 rfl) ?_
      exact zx_iret X hr hlk hH (by dsimp only; omega) (by dsimp only; omega) d_X_run_77 ⟨rfl, ha, by rw [hz], by rw [hz]; exact hT, hF⟩
    · have c2 := mt (zn_le (nI_toInt (by omega)) (nI_toInt (by omega))).mpr c2
      refine lv_aload_n X.1 X.2.1 d_X_run_25 rfl (lv_at hl 2 rfl) ?_
      refine lv_aload_n X.1 X.2.1 d_X_run_26 rfl (lv_at hl 2 rfl) ?_
      refine zx_get (v := .ref (ad1 (4))) X hH fg_X_27 (by omega) hT.1 rfl d_X_run_27 ?_
      refine lv_iload_n X.1 X.2.1 d_X_run_30 rfl (lv_at hl 0 rfl) ?_
      have hm1 := (zp_runs_fix sf (q 3 - k) k (q1, rg1, ev1, lf1) cn).2.2.2.2.1
      rw [← hT9] at hm1
      dsimp only at hm1
      refine zx_calli (zx_runV (As := [.int (nI (k))]) (rest := [.ref (ad1 (0))]) X hH mv_X_79 ((c_O_at g l N ad1 E1 4 5 600 (q1 3) (q1 4) sf (by omega) (by omega) (by decide) (by omega) (by omega) (by decide) hT.2.2.2.1 (nI k)) _) (by omega) hT.2.2.2.1.1 rfl ⟨Nat.le_of_ble_eq_true rfl, Nat.le_of_ble_eq_true rfl⟩ rfl hl rfl (Nat.le_of_ble_eq_true rfl) d_X_run_31 ⟨(by dsimp only; omega), (by dsimp only; omega)⟩) hH (fun r N1 ad1 E1 H locs hq hH => ?_)
      obtain ⟨rfl, rfl, rfl, rfl⟩ := hq
      have ee := nI_toInt (n := k) (by omega)
      have hsk := hok1.2.2.2 k (by omega)
      refine zx_top (b := nI (sf k - 1 + 1)) (by rw [if_pos (by omega), show (nI k).toInt.toNat = k by omega]; exact congrArg nI (by omega)) ?_
      refine W.cs (cells' := q1 6 - q 6) (slots' := 2 * (q1 6 - q 6)) rfl rfl ?_
      obtain ⟨G, hG⟩ : ∃ G, zp_give (q1, rg1, ev1, lf1) (sf k - 1) = G := ⟨_, rfl⟩
      obtain ⟨g0, g1, g2, g3, g4, g6⟩ := zp_give_fix (q1, rg1, ev1, lf1) (sf k - 1)
      have gl := zp_give_le (q1, rg1, ev1, lf1) (sf k - 1)
      have gok := zt_ok.give (lf := lf1) hok1 (show sf k - 1 < q1 0 by omega)
      rw [hG] at g0 g1 g2 g3 g4 g6 gl gok
      dsimp only at g0 g1 g2 g3 g4 g6
      have hm6 : G.2.1 6 ≤ (zp_runs sf (q 3) 0 (q, rg, ev, lf) 0).1.1 6 := by
        rw [hT9, show q 3 - k = (q 3 - (k + 1)) + 1 by omega]
        by_cases y1 : G.1 = 1
        · rw [zp_runs_1 (by rw [hG]; exact y1), hG]; exact (zp_runs_fix sf _ _ _ _).2.2.2.2.1
        · by_cases y0 : G.1 = 0
          · rw [zp_runs_0 (by rw [hG]; exact y0), hG]; exact (zp_runs_fix sf (q 3 - (k + 1)) (k + 1) (va_up G.2.1 1 (G.2.1 1 + 1), G.2.2) cn).2.2.2.2.1
          · rw [zp_runs_2 (by rw [hG]; exact y1) (by rw [hG]; exact y0), hG]; exact (zp_runs_fix sf _ _ _ _).2.2.2.2.1
      refine zx_calli (zx_runV (As := [.int (nI (sf k - 1 + 1))]) (rest := []) X hH mv_X_82 ((c_X_giveTurn g l N ad1 E1 F q1 rg1 ev1 sf lf1 hF8 hN1 hT hok1 (sf k - 1) (by omega) (G.2.1 6 - q1 6) (2 * (G.2.1 6 - q1 6)) (by rw [hG]; omega) (by rw [hG]; omega)) _) (by omega) hT.1 rfl ⟨Nat.le_of_ble_eq_true rfl, Nat.le_of_ble_eq_true rfl⟩ rfl hl rfl (Nat.le_of_ble_eq_true rfl) d_X_run_34 ⟨(by dsimp only; omega), (by dsimp only; omega)⟩) hH (fun r N2 ad2 E2 H locs hq hH => ?_)
      obtain ⟨rfl, ha2, rfl, hT, hF2⟩ := hq
      rw [hG] at hT
      refine zx_top (b := nI G.1) (by rw [hG]) ?_
      have hF := hF.tr hF2
      have ha3 : ∀ k, k ≠ 7 → k < N → ad2 k = ad k := fun k h1 h2 => (ha2 k h1 h2).trans (ha k h1 h2)
      rw [← ha2 0 (by decide) (by omega)] at hl
      refine W.cs (cells' := G.2.1 6 - q 6) (slots' := 2 * (G.2.1 6 - q 6)) (by dsimp only; omega) (by dsimp only; omega) ?_
      refine lv_istore_n (lv' := [(3, .int (nI (G.1))), (2, .int (nI (k))), (1, .int (nI (cn))), (0, .ref (ad2 (0)))]) X.1 X.2.1 d_X_run_37 rfl hl (by decide) rfl (fun ls hl => ?_)
      refine lv_iload_n X.1 X.2.1 d_X_run_38 rfl (lv_at hl 0 rfl) ?_
      refine lv_iconst (v := nI 1) X.1 X.2.1 d_X_run_39 (by decide) ?_
      refine lv_icmp_ne (tgt := 49) X.1 X.2.1 d_X_run_40 (by decide) (fun c3 => ?_) (fun c3 => ?_)
      · have c3 := mt (zn_eq (nI_toInt (by omega)) (nI_toInt (by omega))).mpr c3
        refine lv_iload_n X.1 X.2.1 d_X_run_49 rfl (lv_at hl 0 rfl) ?_
        refine lv_if_ne (tgt := 63) X.1 X.2.1 d_X_run_50 (by decide) (fun c4 => ?_) (fun c4 => ?_)
        · have c4 := mt (zn_eq (nI_toInt (by omega)) zn_0).mpr c4
          refine lv_iinc (v := nI (k + 1)) (lv' := [(2, .int (nI (k + 1))), (3, .int (nI (G.1))), (1, .int (nI (cn))), (0, .ref (ad2 (0)))]) X.1 X.2.1 d_X_run_63 hl (k := 1) rfl (nI_add _ _) (by decide) rfl (fun ls hl => ?_)
          refine lv_goto (tgt := 14) X.1 X.2.1 d_X_run_66 (by decide) ?_
          have hz : zp_runs sf (q 3) 0 (q, rg, ev, lf) 0 = zp_runs sf (q 3 - (k + 1)) (k + 1) G.2 (cn) := by rw [hT9, show q 3 - k = (q 3 - (k + 1)) + 1 by omega, zp_runs_2 (by rw [hG]; omega) (by rw [hG]; omega), hG]
          exact ih (k + 1, G.2, cn, E2, ad2) _ _ _ ⟨by omega, by show G.2.1 0 = q 0; omega, by show G.2.1 3 = q 3; omega, by show q 6 ≤ G.2.1 6; omega, hT, gok, hF, ha3, hz, hH, lv_sub hl [0, 2, 3] rfl⟩ (by show q 3 - (k + 1) < q 3 - k; omega)
        · have c4 := (zn_eq (nI_toInt (by omega)) zn_0).mp c4
          refine lv_aload_n X.1 X.2.1 d_X_run_53 rfl (lv_at hl 3 rfl) ?_
          refine lv_dup X.1 X.2.1 d_X_run_54 rfl ?_
          refine zx_get (v := .int (nI (G.2.1 1))) X hH fg_X_85 (by omega) hT.1 rfl d_X_run_55 ?_
          refine lv_iconst (v := nI 1) X.1 X.2.1 d_X_run_58 (by decide) ?_
          refine lv_iadd X.1 X.2.1 d_X_run_59 ?_
          refine zx_top (nI_add _ _) ?_
          refine zx_put X hH fp_X_85 (by omega) hT.1 (Nat.le_of_ble_eq_true rfl) rfl rfl d_X_run_60 (fun H locs hH => ?_)
          have hH : zw_H g A s.heap s N ad2 (va_up E2 0 (zt_o ad2 (va_up G.2.1 1 (G.2.1 1 + 1)))) H locs := hH
          have hT := hT.num (q1 := (va_up G.2.1 1 (G.2.1 1 + 1))) hF8 rfl rfl rfl rfl rfl
          have hF : zt_fr E (va_up E2 0 (zt_o ad2 (va_up G.2.1 1 (G.2.1 1 + 1)))) F := fun j a b => by rw [va_up_ne _ _ (by omega)]; exact hF j a b
          have gok := gok.num (G.2.1 1 + 1)
          refine lv_iinc (v := nI (k + 1)) (lv' := [(2, .int (nI (k + 1))), (3, .int (nI (G.1))), (1, .int (nI (cn))), (0, .ref (ad2 (0)))]) X.1 X.2.1 d_X_run_63 hl (k := 1) rfl (nI_add _ _) (by decide) rfl (fun ls hl => ?_)
          refine lv_goto (tgt := 14) X.1 X.2.1 d_X_run_66 (by decide) ?_
          have hz : zp_runs sf (q 3) 0 (q, rg, ev, lf) 0 = zp_runs sf (q 3 - (k + 1)) (k + 1) ((va_up G.2.1 1 (G.2.1 1 + 1)), G.2.2) (cn) := by rw [hT9, show q 3 - k = (q 3 - (k + 1)) + 1 by omega, zp_runs_0 (by rw [hG]; omega), hG]
          exact ih (k + 1, ((va_up G.2.1 1 (G.2.1 1 + 1)), G.2.2), cn, (va_up E2 0 (zt_o ad2 (va_up G.2.1 1 (G.2.1 1 + 1)))), ad2) _ _ _ ⟨by omega, by show G.2.1 0 = q 0; omega, by show G.2.1 3 = q 3; omega, by show q 6 ≤ G.2.1 6; omega, hT, gok, hF, ha3, hz, hH, lv_sub hl [0, 2, 3] rfl⟩ (by show q 3 - (k + 1) < q 3 - k; omega)
      · have c3 := (zn_eq (nI_toInt (by omega)) (nI_toInt (by omega))).mp c3
        refine lv_iinc (v := nI (cn + 1)) (lv' := [(1, .int (nI (cn + 1))), (3, .int (nI (G.1))), (2, .int (nI (k))), (0, .ref (ad2 (0)))]) X.1 X.2.1 d_X_run_43 hl (k := 2) rfl (nI_add _ _) (by decide) rfl (fun ls hl => ?_)
        refine lv_goto (tgt := 63) X.1 X.2.1 d_X_run_46 (by decide) ?_
        refine lv_iinc (v := nI (k + 1)) (lv' := [(2, .int (nI (k + 1))), (1, .int (nI (cn + 1))), (3, .int (nI (G.1))), (0, .ref (ad2 (0)))]) X.1 X.2.1 d_X_run_63 hl (k := 2) rfl (nI_add _ _) (by decide) rfl (fun ls hl => ?_)
        refine lv_goto (tgt := 14) X.1 X.2.1 d_X_run_66 (by decide) ?_
        have hz : zp_runs sf (q 3) 0 (q, rg, ev, lf) 0 = zp_runs sf (q 3 - (k + 1)) (k + 1) G.2 (cn + 1) := by rw [hT9, show q 3 - k = (q 3 - (k + 1)) + 1 by omega, zp_runs_1 (by rw [hG]; omega), hG]
        exact ih (k + 1, G.2, cn + 1, E2, ad2) _ _ _ ⟨by omega, by show G.2.1 0 = q 0; omega, by show G.2.1 3 = q 3; omega, by show q 6 ≤ G.2.1 6; omega, hT, gok, hF, ha3, hz, hH, lv_sub hl [0, 1, 3] rfl⟩ (by show q 3 - (k + 1) < q 3 - k; omega)
  · have c1 := mt (zn_eq (nI_toInt (by omega)) zn_0).mpr c1
    refine lv_bipush (v := (-5)) X.1 X.2.1 d_X_run_7 (by decide) ?_
    exfalso; omega
end
section
/-! What the calls do, in numbers: the answer, and what becomes of the state -/
def zs_waits (q : Nat → Nat) (rg : zt_R) (x y z : Int32) : Int32 × zt_R :=
  if 1 ≤ x.toInt ∧ x.toInt ≤ (q 0 : Int) then
    (if 1 ≤ y.toInt ∧ y.toInt ≤ ((rg (x.toInt.toNat - 1)).1 0 : Int) ∧ 0 ≤ z.toInt ∧ z.toInt < 16 then
      (if (rg (x.toInt.toNat - 1)).1 2 = 0 ∧ ((rg (x.toInt.toNat - 1)).1 3 : Int) < y.toInt then
        (if 20 ≤ (rg (x.toInt.toNat - 1)).1 8 then (-1, rg)
        else (nI ((rg (x.toInt.toNat - 1)).1 8 + 1), va_up rg (x.toInt.toNat - 1) (va_up (rg (x.toInt.toNat - 1)).1 8 ((rg (x.toInt.toNat - 1)).1 8 + 1), va_up (va_up (rg (x.toInt.toNat - 1)).2 0 (va_up ((rg (x.toInt.toNat - 1)).2 0) ((rg (x.toInt.toNat - 1)).1 8) y.toInt.toNat)) 1 (va_up ((rg (x.toInt.toNat - 1)).2 1) ((rg (x.toInt.toNat - 1)).1 8) z.toInt.toNat))))
      else (-5, rg))
    else (-4, rg))
  else (-2, rg)
section ZSW
variable {q : Nat → Nat} {rg : zt_R} {x y z : Int32} {i : Nat}
theorem zs_waits_no (h : ¬ (1 ≤ x.toInt ∧ x.toInt ≤ (q 0 : Int))) : zs_waits q rg x y z = (-2, rg) := by
  unfold zs_waits; rw [if_neg h]
theorem zs_waits_bad (h : 1 ≤ x.toInt ∧ x.toInt ≤ (q 0 : Int)) (hi : i = x.toInt.toNat - 1) (h1 : ¬ (1 ≤ y.toInt ∧ y.toInt ≤ ((rg i).1 0 : Int) ∧ 0 ≤ z.toInt ∧ z.toInt < 16)) : zs_waits q rg x y z = (-4, rg) := by
  subst hi; unfold zs_waits; rw [if_pos h, if_neg h1]
theorem zs_waits_late (h : 1 ≤ x.toInt ∧ x.toInt ≤ (q 0 : Int)) (hi : i = x.toInt.toNat - 1) (h1 : 1 ≤ y.toInt ∧ y.toInt ≤ ((rg i).1 0 : Int) ∧ 0 ≤ z.toInt ∧ z.toInt < 16) (h2 : ¬ ((rg i).1 2 = 0 ∧ ((rg i).1 3 : Int) < y.toInt)) : zs_waits q rg x y z = (-5, rg) := by
  subst hi; unfold zs_waits; rw [if_pos h, if_pos h1, if_neg h2]
theorem zs_waits_full (h : 1 ≤ x.toInt ∧ x.toInt ≤ (q 0 : Int)) (hi : i = x.toInt.toNat - 1) (h1 : 1 ≤ y.toInt ∧ y.toInt ≤ ((rg i).1 0 : Int) ∧ 0 ≤ z.toInt ∧ z.toInt < 16) (h2 : (rg i).1 2 = 0 ∧ ((rg i).1 3 : Int) < y.toInt) (h3 : 20 ≤ (rg i).1 8) : zs_waits q rg x y z = (-1, rg) := by
  subst hi; unfold zs_waits; rw [if_pos h, if_pos h1, if_pos h2, if_pos h3]
theorem zs_waits_ok (h : 1 ≤ x.toInt ∧ x.toInt ≤ (q 0 : Int)) (hi : i = x.toInt.toNat - 1) (h1 : 1 ≤ y.toInt ∧ y.toInt ≤ ((rg i).1 0 : Int) ∧ 0 ≤ z.toInt ∧ z.toInt < 16) (h2 : (rg i).1 2 = 0 ∧ ((rg i).1 3 : Int) < y.toInt) (h3 : ¬ 20 ≤ (rg i).1 8) : zs_waits q rg x y z = (nI ((rg i).1 8 + 1), va_up rg i (va_up (rg i).1 8 ((rg i).1 8 + 1), va_up (va_up (rg i).2 0 (va_up ((rg i).2 0) ((rg i).1 8) y.toInt.toNat)) 1 (va_up ((rg i).2 1) ((rg i).1 8) z.toInt.toNat))) := by
  subst hi; unfold zs_waits; rw [if_pos h, if_pos h1, if_pos h2, if_neg h3]
end ZSW
def zs_dec (q : Nat → Nat) (rg : zt_R) (x y : Int32) : Int32 × zt_R :=
  if 1 ≤ x.toInt ∧ x.toInt ≤ (q 0 : Int) then
    (if 1 ≤ y.toInt ∧ y.toInt < ((rg (x.toInt.toNat - 1)).1 0 : Int) then
      (if (rg (x.toInt.toNat - 1)).1 2 = 0 ∧ ((rg (x.toInt.toNat - 1)).1 3 : Int) < y.toInt then
        (if (rg (x.toInt.toNat - 1)).2 3 y.toInt.toNat = 0 ∧ (rg (x.toInt.toNat - 1)).2 3 (y.toInt.toNat + 1) = 0 then (nI 1, va_up rg (x.toInt.toNat - 1) ((rg (x.toInt.toNat - 1)).1, va_up (rg (x.toInt.toNat - 1)).2 3 (va_up (va_up ((rg (x.toInt.toNat - 1)).2 3) y.toInt.toNat 1) (y.toInt.toNat + 1) 2)))
        else (nI 0, rg))
      else (-5, rg))
    else (-4, rg))
  else (-2, rg)
section ZSD
variable {q : Nat → Nat} {rg : zt_R} {x y : Int32} {i : Nat}
theorem zs_dec_no (h : ¬ (1 ≤ x.toInt ∧ x.toInt ≤ (q 0 : Int))) : zs_dec q rg x y = (-2, rg) := by
  unfold zs_dec; rw [if_neg h]
theorem zs_dec_bad (h : 1 ≤ x.toInt ∧ x.toInt ≤ (q 0 : Int)) (hi : i = x.toInt.toNat - 1) (h1 : ¬ (1 ≤ y.toInt ∧ y.toInt < ((rg i).1 0 : Int))) : zs_dec q rg x y = (-4, rg) := by
  subst hi; unfold zs_dec; rw [if_pos h, if_neg h1]
theorem zs_dec_late (h : 1 ≤ x.toInt ∧ x.toInt ≤ (q 0 : Int)) (hi : i = x.toInt.toNat - 1) (h1 : 1 ≤ y.toInt ∧ y.toInt < ((rg i).1 0 : Int)) (h2 : ¬ ((rg i).1 2 = 0 ∧ ((rg i).1 3 : Int) < y.toInt)) : zs_dec q rg x y = (-5, rg) := by
  subst hi; unfold zs_dec; rw [if_pos h, if_pos h1, if_neg h2]
theorem zs_dec_was (h : 1 ≤ x.toInt ∧ x.toInt ≤ (q 0 : Int)) (hi : i = x.toInt.toNat - 1) (h1 : 1 ≤ y.toInt ∧ y.toInt < ((rg i).1 0 : Int)) (h2 : (rg i).1 2 = 0 ∧ ((rg i).1 3 : Int) < y.toInt) (h3 : ¬ ((rg i).2 3 y.toInt.toNat = 0 ∧ (rg i).2 3 (y.toInt.toNat + 1) = 0)) : zs_dec q rg x y = (nI 0, rg) := by
  subst hi; unfold zs_dec; rw [if_pos h, if_pos h1, if_pos h2, if_neg h3]
theorem zs_dec_ok (h : 1 ≤ x.toInt ∧ x.toInt ≤ (q 0 : Int)) (hi : i = x.toInt.toNat - 1) (h1 : 1 ≤ y.toInt ∧ y.toInt < ((rg i).1 0 : Int)) (h2 : (rg i).1 2 = 0 ∧ ((rg i).1 3 : Int) < y.toInt) (h3 : (rg i).2 3 y.toInt.toNat = 0 ∧ (rg i).2 3 (y.toInt.toNat + 1) = 0) : zs_dec q rg x y = (nI 1, va_up rg i ((rg i).1, va_up (rg i).2 3 (va_up (va_up ((rg i).2 3) y.toInt.toNat 1) (y.toInt.toNat + 1) 2))) := by
  subst hi; unfold zs_dec; rw [if_pos h, if_pos h1, if_pos h2, if_pos h3]
end ZSD
def zs_can (q : Nat → Nat) (rg : zt_R) (x : Int32) : Int32 × zt_R :=
  if (q 2 = 0 ∧ 1 ≤ x.toInt ∧ x.toInt ≤ (q 0 : Int)) ∧ (rg (x.toInt.toNat - 1)).1 2 = 0 ∧ (rg (x.toInt.toNat - 1)).1 7 = 0 then (nI 1, va_up rg (x.toInt.toNat - 1) (va_up (rg (x.toInt.toNat - 1)).1 7 1, (rg (x.toInt.toNat - 1)).2)) else (nI 0, rg)
section ZSC
variable {q : Nat → Nat} {rg : zt_R} {x : Int32} {i : Nat}
theorem zs_can_a (h : ¬ (q 2 = 0 ∧ 1 ≤ x.toInt ∧ x.toInt ≤ (q 0 : Int))) : zs_can q rg x = (nI 0, rg) := by
  unfold zs_can; rw [if_neg (fun z => h z.1)]
theorem zs_can_b (hi : i = x.toInt.toNat - 1) (h : ¬ ((rg i).1 2 = 0 ∧ (rg i).1 7 = 0)) : zs_can q rg x = (nI 0, rg) := by
  subst hi; unfold zs_can; rw [if_neg (fun z => h z.2)]
theorem zs_can_ok (hi : i = x.toInt.toNat - 1) (h : q 2 = 0 ∧ 1 ≤ x.toInt ∧ x.toInt ≤ (q 0 : Int)) (h2 : (rg i).1 2 = 0 ∧ (rg i).1 7 = 0) : zs_can q rg x = (nI 1, va_up rg i (va_up (rg i).1 7 1, (rg i).2)) := by
  subst hi; unfold zs_can; rw [if_pos ⟨h, h2⟩]
end ZSC
def zs_post (q ev : Nat → Nat) (x : Int32) : Int32 × (Nat → Nat) :=
  if 0 ≤ x.toInt ∧ x.toInt < 16 then (if q 2 = 0 then (nI (ev x.toInt.toNat + 1), va_up ev x.toInt.toNat (ev x.toInt.toNat + 1)) else (-5, ev)) else (-4, ev)
theorem zs_post_bad {q ev : Nat → Nat} {x : Int32} (h : ¬ (0 ≤ x.toInt ∧ x.toInt < 16)) : zs_post q ev x = (-4, ev) := by
  unfold zs_post; rw [if_neg h]
theorem zs_post_off {q ev : Nat → Nat} {x : Int32} (h : 0 ≤ x.toInt ∧ x.toInt < 16) (h2 : ¬ q 2 = 0) : zs_post q ev x = (-5, ev) := by
  unfold zs_post; rw [if_pos h, if_neg h2]
theorem zs_post_ok {q ev : Nat → Nat} {x : Int32} (h : 0 ≤ x.toInt ∧ x.toInt < 16) (h2 : q 2 = 0) : zs_post q ev x = (nI (ev x.toInt.toNat + 1), va_up ev x.toInt.toNat (ev x.toInt.toNat + 1)) := by
  unfold zs_post; rw [if_pos h, if_pos h2]
/-- a turn behind the schedule's last -/
def zp_sch (q sf : Nat → Nat) (v : Nat) : (Nat → Nat) × (Nat → Nat) :=
  if 600 ≤ q 3 then (q, sf) else if q 4 ≤ q 3 then (va_up (va_up q 4 (2 * q 4)) 3 (q 3 + 1), va_up (fun j => if j < q 4 then sf j else 0) (q 3) v) else (va_up q 3 (q 3 + 1), va_up sf (q 3) v)
theorem zp_sch_full {q sf : Nat → Nat} {v : Nat} (h : 600 ≤ q 3) : zp_sch q sf v = (q, sf) := by
  unfold zp_sch; rw [if_pos h]
theorem zp_sch_grow {q sf : Nat → Nat} {v : Nat} (h : ¬ 600 ≤ q 3) (h2 : q 4 ≤ q 3) : zp_sch q sf v = (va_up (va_up q 4 (2 * q 4)) 3 (q 3 + 1), va_up (fun j => if j < q 4 then sf j else 0) (q 3) v) := by
  unfold zp_sch; rw [if_neg h, if_pos h2]
theorem zp_sch_room {q sf : Nat → Nat} {v : Nat} (h : ¬ 600 ≤ q 3) (h2 : ¬ q 4 ≤ q 3) : zp_sch q sf v = (va_up q 3 (q 3 + 1), va_up sf (q 3) v) := by
  unfold zp_sch; rw [if_neg h, if_neg h2]
def zs_turn (q sf : Nat → Nat) (x : Int32) : (Nat → Nat) × (Nat → Nat) := if q 2 = 0 ∧ 1 ≤ x.toInt ∧ x.toInt ≤ (q 0 : Int) then zp_sch q sf x.toInt.toNat else (q, sf)
theorem zs_turn_no {q sf : Nat → Nat} {x : Int32} (h : ¬ (q 2 = 0 ∧ 1 ≤ x.toInt ∧ x.toInt ≤ (q 0 : Int))) : zs_turn q sf x = (q, sf) := by
  unfold zs_turn; rw [if_neg h]
theorem zs_turn_yes {q sf : Nat → Nat} {x : Int32} (h : q 2 = 0 ∧ 1 ≤ x.toInt ∧ x.toInt ≤ (q 0 : Int)) : zs_turn q sf x = zp_sch q sf x.toInt.toNat := by
  unfold zs_turn; rw [if_pos h]
def zp_goes (rg : zt_R) : Nat → Bool := fun i => decide ((rg i).1 2 = 0)
def zs_cnt (q : Nat → Nat) (rg : zt_R) (ev : Nat → Nat) (x : Int32) : Int32 :=
  if x.toInt = 0 then nI (q 0) else if x.toInt = 1 then nI (q 3) else if x.toInt = 2 then nI (q 5) else if x.toInt = 3 then nI (zp_cnt (fun i => decide ((rg i).1 2 = 0)) (q 0)) else if x.toInt = 4 then nI (q 1) else if x.toInt = 5 then nI (q 2) else if 10 ≤ x.toInt ∧ x.toInt < 26 then nI (ev (x.toInt.toNat - 10)) else -1
section ZR2
variable {p : Program} {l : Launch} {e : Env} {R : Room} {s : State} {m : MethodId} {args : Array Value} {below : List Frame} {meth : Method} {c : Code} {H : Heap} {locs : List Loc} {cells slots : Nat} {Q : State → Prop} {pc : Nat} {ls : Array Slot} {rest : List Value}
theorem zx_top2 {v : Value} {a b : Int32} (h : a = b) (k : W p l e R s m args below meth c H locs cells slots Q (F0 m pc ls (v :: .int b :: rest))) : W p l e R s m args below meth c H locs cells slots Q (F0 m pc ls (v :: .int a :: rest)) := by
  subst h; exact k
end ZR2
end
section
theorem zt_at.evs {g : zw_G} {ad : Nat → Nat} {E : Nat → va_E} {F : Nat} {q : Nat → Nat} {rg : zt_R} {ev sf lf : Nat → Nat} (h : zt_at g ad E F q rg ev sf lf) (hF : 8 ≤ F) (ev1 : Nat → Nat) : zt_at g ad (va_up E 3 (zr_ia g 16 ev1)) F q rg ev1 sf lf := by
  obtain ⟨h0, h1, h2, h3, h4, h5⟩ := h
  have f : ∀ k, k ≠ 3 → va_up E 3 (zr_ia g 16 ev1) k = E k := fun k hk => va_up_ne _ _ hk
  exact ⟨by rw [f 0 (by omega)]; exact h0, by rw [f 1 (by omega)]; exact h1, h2.up (by decide) ev1, ⟨by rw [f 4 (by omega)]; exact h3.1, by rw [f 5 (by omega)]; exact h3.2⟩, ⟨by rw [f 6 (by omega)]; exact h4.1, by rw [f 7 (by omega)]; exact h4.2⟩, fun i hi => (h5 i hi).keep (fun k a b => f k (by omega))⟩
set_option maxHeartbeats 4000000 in
set_option maxRecDepth 100000 in
theorem c_X_waits (g : zw_G) (l : Launch) (N : Nat) (ad : Nat → Nat) (E : Nat → va_E) (F : Nat) (q : Nat → Nat) (rg : zt_R) (ev sf lf : Nat → Nat) (hF8 : 8 ≤ F) (hN : N = F + 5 * q 0) (hT : zt_at g ad E F q rg ev sf lf) (hok : zt_ok q rg ev sf) (x y z : Int32) : zc_i g l y_X_waits b_X_waits 5 (some .int) { frames := 3, cells := 0, slots := 0, locals := 120 } [.ref (ad (0)), .int (x), .int (y), .int (z)] N ad E (fun v N1 ad1 E1 => N = N1 ∧ ad = ad1 ∧ v = (zs_waits q rg x y z).1 ∧ zt_at g ad E1 F q (zs_waits q rg x y z).2 ev sf lf ∧ zt_fr E E1 F) := by
  refine zc_i.of (by decide) (Nat.le_of_ble_eq_true rfl) ?_
  intro p e s m below meth c ls A X hr hlk hl hH
  have hl : lv_has ls 5 [(0, .ref (ad (0))), (1, .int (x)), (2, .int (y)), (3, .int (z))] := hl
  obtain ⟨k0, k2, k3, k3a, k4, k4a, k5, k5a, k6, k6a⟩ := hok.1
  refine lv_aload_n X.1 X.2.1 d_X_waits_0 rfl (lv_at hl 0 rfl) ?_
  refine lv_iload_n X.1 X.2.1 d_X_waits_1 rfl (lv_at hl 1 rfl) ?_
  refine zx_callq (zx_runV (As := [.int (x)]) (rest := []) X hH mv_X_45 ((c_X_find g l N ad E F q rg ev sf lf hF8 hN hT hok (x)) _) (by omega) hT.1 rfl ⟨Nat.le_of_ble_eq_true rfl, Nat.le_of_ble_eq_true rfl⟩ rfl hl rfl (Nat.le_of_ble_eq_true rfl) d_X_waits_2 ⟨Nat.le_of_ble_eq_true rfl, Nat.le_of_ble_eq_true rfl⟩) hH (fun r N1 ad1 E1 H locs hq hH => ?_)
  obtain ⟨rfl, rfl, rfl, hv⟩ := hq
  by_cases d1 : 1 ≤ (x).toInt ∧ (x).toInt ≤ (q 0 : Int)
  · obtain ⟨i, hi⟩ : ∃ i, i = (x).toInt.toNat - 1 := ⟨_, rfl⟩
    rw [if_pos d1, ← hi] at hv
    subst hv
    have hi0 : i < q 0 := by omega
    have hR := hT.2.2.2.2.2 i hi0
    have hro := hok.2.1 i hi0
    obtain ⟨r0, r1, r2, r3, r4, r5, r7, r8, r6⟩ := hro.1
    refine W.eq (g2 := F0 m 5 ls ([.ref (ad (F + 5 * (i)))])) rfl ?_
    refine lv_astore (lv' := [(4, .ref (ad (F + 5 * (i)))), (0, .ref (ad (0))), (1, .int (x)), (2, .int (y)), (3, .int (z))]) X.1 X.2.1 d_X_waits_5 hl (by decide) rfl (fun ls hl => ?_)
    refine lv_aload X.1 X.2.1 d_X_waits_7 (lv_at hl 0 rfl) ?_
    refine lv_ifnonnull (tgt := 15) X.1 X.2.1 d_X_waits_9 (by decide) ?_
    refine lv_iload_n X.1 X.2.1 d_X_waits_15 rfl (lv_at hl 3 rfl) ?_
    refine lv_iconst (v := nI 1) X.1 X.2.1 d_X_waits_16 (by decide) ?_
    refine lv_icmp_lt (tgt := 36) X.1 X.2.1 d_X_waits_17 (by decide) (fun c2 => ?_) (fun c2 => ?_)
    · have c2 := (zn_lt rfl (nI_toInt (by omega))).mp c2
      refine lv_bipush (v := (-4)) X.1 X.2.1 d_X_waits_36 (by decide) ?_
      exact zx_iret X hr hlk hH (Nat.le_of_ble_eq_true rfl) (Nat.le_of_ble_eq_true rfl) d_X_waits_38 ⟨rfl, rfl, by rw [zs_waits_bad d1 hi (by omega)], by rw [zs_waits_bad d1 hi (by omega)]; exact hT, zt_fr.rf⟩
    · have c2 := mt (zn_lt rfl (nI_toInt (by omega))).mpr c2
      refine lv_iload_n X.1 X.2.1 d_X_waits_20 rfl (lv_at hl 3 rfl) ?_
      refine lv_aload X.1 X.2.1 d_X_waits_21 (lv_at hl 0 rfl) ?_
      refine zx_get (v := .int (nI ((rg (i)).1 0))) X hH fg_X_49 (by omega) hR.1 rfl d_X_waits_23 ?_
      refine lv_icmp_gt (tgt := 36) X.1 X.2.1 d_X_waits_26 (by decide) (fun c3 => ?_) (fun c3 => ?_)
      · have c3 := (zn_lt (nI_toInt (by omega)) rfl).mp c3
        refine lv_bipush (v := (-4)) X.1 X.2.1 d_X_waits_36 (by decide) ?_
        exact zx_iret X hr hlk hH (Nat.le_of_ble_eq_true rfl) (Nat.le_of_ble_eq_true rfl) d_X_waits_38 ⟨rfl, rfl, by rw [zs_waits_bad d1 hi (by omega)], by rw [zs_waits_bad d1 hi (by omega)]; exact hT, zt_fr.rf⟩
      · have c3 := mt (zn_lt (nI_toInt (by omega)) rfl).mpr c3
        refine lv_iload_n X.1 X.2.1 d_X_waits_29 rfl (lv_at hl 4 rfl) ?_
        refine zx_calli (zx_runS (As := [.int (z)]) (rest := []) X hH ms_X_52 ((c_X_isEvent g l N ad E (z)) _) ⟨Nat.le_of_ble_eq_true rfl, Nat.le_of_ble_eq_true rfl⟩ rfl hl rfl (Nat.le_of_ble_eq_true rfl) d_X_waits_30 ⟨Nat.le_of_ble_eq_true rfl, Nat.le_of_ble_eq_true rfl⟩) hH (fun r N1 ad1 E1 H locs hq hH => ?_)
        obtain ⟨rfl, rfl, rfl, rfl⟩ := hq
        by_cases d4 : 0 ≤ (z).toInt ∧ (z).toInt < 16
        · refine zx_top (b := nI 1) (by rw [if_pos d4]) ?_
          refine lv_if_ne (tgt := 39) X.1 X.2.1 d_X_waits_33 (by decide) (fun z => ?_) (fun z => ?_)
          · clear z
            refine lv_aload X.1 X.2.1 d_X_waits_39 (lv_at hl 0 rfl) ?_
            refine lv_iload_n X.1 X.2.1 d_X_waits_41 rfl (lv_at hl 3 rfl) ?_
            have hy : y = nI y.toInt.toNat := zn_nat (by omega)
            refine zx_top hy ?_
            refine zx_calli (zx_runV (As := [.int (nI (y.toInt.toNat))]) (rest := []) X hH mv_X_56 ((c_R_isAheadOf g l N ad E (F + 5 * i) (rg i).1 (rg i).2 (by omega) hR hro y.toInt.toNat (by omega)) _) (by omega) hR.1 rfl ⟨Nat.le_of_ble_eq_true rfl, Nat.le_of_ble_eq_true rfl⟩ rfl hl rfl (Nat.le_of_ble_eq_true rfl) d_X_waits_42 ⟨Nat.le_of_ble_eq_true rfl, Nat.le_of_ble_eq_true rfl⟩) hH (fun r N1 ad1 E1 H locs hq hH => ?_)
            obtain ⟨rfl, rfl, rfl, rfl⟩ := hq
            by_cases d5 : (rg i).1 2 = 0 ∧ (rg i).1 3 < y.toInt.toNat
            · refine zx_top (b := nI 1) (by rw [if_pos d5]) ?_
              refine lv_if_ne (tgt := 51) X.1 X.2.1 d_X_waits_45 (by decide) (fun z => ?_) (fun z => ?_)
              · clear z
                refine lv_aload X.1 X.2.1 d_X_waits_51 (lv_at hl 0 rfl) ?_
                refine lv_iload_n X.1 X.2.1 d_X_waits_53 rfl (lv_at hl 3 rfl) ?_
                refine lv_iload_n X.1 X.2.1 d_X_waits_54 rfl (lv_at hl 4 rfl) ?_
                have hz9 : z = nI z.toInt.toNat := zn_nat (by omega)
                refine zx_top hz9 ?_
                refine zx_top2 hy ?_
                refine zx_calli (zx_runV (As := [.int (nI (y.toInt.toNat)), .int (nI (z.toInt.toNat))]) (rest := []) X hH mv_X_59 ((c_R_addWait g l N ad E (F + 5 * i) (rg i).1 (rg i).2 (by omega) hR hro y.toInt.toNat z.toInt.toNat) _) (by omega) hR.1 rfl ⟨Nat.le_of_ble_eq_true rfl, Nat.le_of_ble_eq_true rfl⟩ rfl hl rfl (Nat.le_of_ble_eq_true rfl) d_X_waits_55 ⟨Nat.le_of_ble_eq_true rfl, Nat.le_of_ble_eq_true rfl⟩) hH (fun r N1 ad1 E1 H locs hq hH => ?_)
                obtain ⟨rfl, rfl, hq⟩ := hq
                rcases hq with ⟨z1, rfl, rfl⟩ | ⟨z1, rfl, hR, hf⟩
                · refine lv_if_eq (tgt := 69) X.1 X.2.1 d_X_waits_58 (by decide) (fun _ => ?_) (fun z => absurd rfl z)
                  refine lv_iconst (v := (-1)) X.1 X.2.1 d_X_waits_69 (by decide) ?_
                  exact zx_iret X hr hlk hH (Nat.le_of_ble_eq_true rfl) (Nat.le_of_ble_eq_true rfl) d_X_waits_70 ⟨rfl, rfl, by rw [zs_waits_full d1 hi ⟨by omega, by omega, by omega, by omega⟩ ⟨by omega, by omega⟩ (by omega)], by rw [zs_waits_full d1 hi ⟨by omega, by omega, by omega, by omega⟩ ⟨by omega, by omega⟩ (by omega)]; exact hT, zt_fr.rf⟩
                · refine lv_if_eq (tgt := 69) X.1 X.2.1 d_X_waits_58 (by decide) (fun z => absurd z (by decide)) (fun _ => ?_)
                  refine lv_aload X.1 X.2.1 d_X_waits_61 (lv_at hl 0 rfl) ?_
                  refine zx_get (v := .int (nI ((rg i).1 8 + 1))) X hH fg_X_63 (by omega) hR.1 rfl d_X_waits_63 ?_
                  refine lv_goto (tgt := 70) X.1 X.2.1 d_X_waits_66 (by decide) ?_
                  exact zx_iret X hr hlk hH (Nat.le_of_ble_eq_true rfl) (Nat.le_of_ble_eq_true rfl) d_X_waits_70 ⟨rfl, rfl, by rw [zs_waits_ok d1 hi ⟨by omega, by omega, by omega, by omega⟩ ⟨by omega, by omega⟩ (by omega)], by rw [zs_waits_ok d1 hi ⟨by omega, by omega, by omega, by omega⟩ ⟨by omega, by omega⟩ (by omega)]; exact (hT.reg0 (r := (va_up (rg i).1 8 ((rg i).1 8 + 1), va_up (va_up (rg i).2 0 (va_up ((rg i).2 0) ((rg i).1 8) y.toInt.toNat)) 1 (va_up ((rg i).2 1) ((rg i).1 8) z.toInt.toNat))) hF8 hi0 hR hf), hf.t⟩
              · exact absurd z (by decide)
            · refine zx_top (b := nI 0) (by rw [if_neg d5]) ?_
              refine lv_if_ne (tgt := 51) X.1 X.2.1 d_X_waits_45 (by decide) (fun z => ?_) (fun z => ?_)
              · exact absurd z (by decide)
              · clear z
                refine lv_bipush (v := (-5)) X.1 X.2.1 d_X_waits_48 (by decide) ?_
                exact zx_iret X hr hlk hH (Nat.le_of_ble_eq_true rfl) (Nat.le_of_ble_eq_true rfl) d_X_waits_50 ⟨rfl, rfl, by rw [zs_waits_late d1 hi ⟨by omega, by omega, by omega, by omega⟩ (by omega)], by rw [zs_waits_late d1 hi ⟨by omega, by omega, by omega, by omega⟩ (by omega)]; exact hT, zt_fr.rf⟩
          · exact absurd z (by decide)
        · refine zx_top (b := nI 0) (by rw [if_neg d4]) ?_
          refine lv_if_ne (tgt := 39) X.1 X.2.1 d_X_waits_33 (by decide) (fun z => ?_) (fun z => ?_)
          · exact absurd z (by decide)
          · clear z
            refine lv_bipush (v := (-4)) X.1 X.2.1 d_X_waits_36 (by decide) ?_
            exact zx_iret X hr hlk hH (Nat.le_of_ble_eq_true rfl) (Nat.le_of_ble_eq_true rfl) d_X_waits_38 ⟨rfl, rfl, by rw [zs_waits_bad d1 hi (by omega)], by rw [zs_waits_bad d1 hi (by omega)]; exact hT, zt_fr.rf⟩
  · rw [if_neg d1] at hv
    subst hv
    refine W.eq (g2 := F0 m 5 ls ([.null])) rfl ?_
    refine lv_astoreN (lv' := [(4, .null), (0, .ref (ad (0))), (1, .int (x)), (2, .int (y)), (3, .int (z))]) X.1 X.2.1 d_X_waits_5 hl (by decide) rfl (fun ls hl => ?_)
    refine lv_aloadN X.1 X.2.1 d_X_waits_7 (lv_at hl 0 rfl) ?_
    refine lv_ifnonnullN X.1 X.2.1 d_X_waits_9 ?_
    refine lv_bipush (v := (-2)) X.1 X.2.1 d_X_waits_12 (by decide) ?_
    exact zx_iret X hr hlk hH (Nat.le_of_ble_eq_true rfl) (Nat.le_of_ble_eq_true rfl) d_X_waits_14 ⟨rfl, rfl, by rw [zs_waits_no d1], by rw [zs_waits_no d1]; exact hT, zt_fr.rf⟩

set_option maxHeartbeats 4000000 in
set_option maxRecDepth 100000 in
theorem c_X_decision (g : zw_G) (l : Launch) (N : Nat) (ad : Nat → Nat) (E : Nat → va_E) (F : Nat) (q : Nat → Nat) (rg : zt_R) (ev sf lf : Nat → Nat) (hF8 : 8 ≤ F) (hN : N = F + 5 * q 0) (hT : zt_at g ad E F q rg ev sf lf) (hok : zt_ok q rg ev sf) (hst : ∀ i, i < q 0 → 1 ≤ (rg i).1 0) (x y : Int32) : zc_i g l y_X_decision b_X_decision 4 (some .int) { frames := 3, cells := 0, slots := 0, locals := 120 } [.ref (ad (0)), .int (x), .int (y)] N ad E (fun v N1 ad1 E1 => N = N1 ∧ ad = ad1 ∧ v = (zs_dec q rg x y).1 ∧ zt_at g ad E1 F q (zs_dec q rg x y).2 ev sf lf ∧ zt_fr E E1 F) := by
  refine zc_i.of (by decide) (Nat.le_of_ble_eq_true rfl) ?_
  intro p e s m below meth c ls A X hr hlk hl hH
  have hl : lv_has ls 4 [(0, .ref (ad (0))), (1, .int (x)), (2, .int (y))] := hl
  obtain ⟨k0, k2, k3, k3a, k4, k4a, k5, k5a, k6, k6a⟩ := hok.1
  refine lv_aload_n X.1 X.2.1 d_X_decision_0 rfl (lv_at hl 0 rfl) ?_
  refine lv_iload_n X.1 X.2.1 d_X_decision_1 rfl (lv_at hl 1 rfl) ?_
  refine zx_callq (zx_runV (As := [.int (x)]) (rest := []) X hH mv_X_45 ((c_X_find g l N ad E F q rg ev sf lf hF8 hN hT hok (x)) _) (by omega) hT.1 rfl ⟨Nat.le_of_ble_eq_true rfl, Nat.le_of_ble_eq_true rfl⟩ rfl hl rfl (Nat.le_of_ble_eq_true rfl) d_X_decision_2 ⟨Nat.le_of_ble_eq_true rfl, Nat.le_of_ble_eq_true rfl⟩) hH (fun r N1 ad1 E1 H locs hq hH => ?_)
  obtain ⟨rfl, rfl, rfl, hv⟩ := hq
  by_cases d1 : 1 ≤ (x).toInt ∧ (x).toInt ≤ (q 0 : Int)
  · obtain ⟨i, hi⟩ : ∃ i, i = (x).toInt.toNat - 1 := ⟨_, rfl⟩
    rw [if_pos d1, ← hi] at hv
    subst hv
    have hi0 : i < q 0 := by omega
    have hR := hT.2.2.2.2.2 i hi0
    have hro := hok.2.1 i hi0
    obtain ⟨r0, r1, r2, r3, r4, r5, r7, r8, r6⟩ := hro.1
    have hs1 := hst i hi0
    refine W.eq (g2 := F0 m 5 ls ([.ref (ad (F + 5 * (i)))])) rfl ?_
    refine lv_astore_n (lv' := [(3, .ref (ad (F + 5 * (i)))), (0, .ref (ad (0))), (1, .int (x)), (2, .int (y))]) X.1 X.2.1 d_X_decision_5 rfl hl (by decide) rfl (fun ls hl => ?_)
    refine lv_aload_n X.1 X.2.1 d_X_decision_6 rfl (lv_at hl 0 rfl) ?_
    refine lv_ifnonnull (tgt := 13) X.1 X.2.1 d_X_decision_7 (by decide) ?_
    refine lv_iload_n X.1 X.2.1 d_X_decision_13 rfl (lv_at hl 3 rfl) ?_
    refine lv_iconst (v := nI 1) X.1 X.2.1 d_X_decision_14 (by decide) ?_
    refine lv_icmp_lt (tgt := 28) X.1 X.2.1 d_X_decision_15 (by decide) (fun c2 => ?_) (fun c2 => ?_)
    · have c2 := (zn_lt rfl (nI_toInt (by omega))).mp c2
      refine lv_bipush (v := (-4)) X.1 X.2.1 d_X_decision_28 (by decide) ?_
      exact zx_iret X hr hlk hH (Nat.le_of_ble_eq_true rfl) (Nat.le_of_ble_eq_true rfl) d_X_decision_30 ⟨rfl, rfl, by rw [zs_dec_bad d1 hi (by omega)], by rw [zs_dec_bad d1 hi (by omega)]; exact hT, zt_fr.rf⟩
    · have c2 := mt (zn_lt rfl (nI_toInt (by omega))).mpr c2
      refine lv_iload_n X.1 X.2.1 d_X_decision_18 rfl (lv_at hl 3 rfl) ?_
      refine lv_aload_n X.1 X.2.1 d_X_decision_19 rfl (lv_at hl 0 rfl) ?_
      refine zx_get (v := .int (nI ((rg (i)).1 0))) X hH fg_X_49 (by omega) hR.1 rfl d_X_decision_20 ?_
      refine lv_iconst (v := nI 1) X.1 X.2.1 d_X_decision_23 (by decide) ?_
      refine lv_isub X.1 X.2.1 d_X_decision_24 ?_
      refine zx_top (pk_sub (by omega)) ?_
      refine lv_icmp_le (tgt := 31) X.1 X.2.1 d_X_decision_25 (by decide) (fun c3 => ?_) (fun c3 => ?_)
      · have c3 := (zn_le rfl (nI_toInt (by omega))).mp c3
        refine lv_aload_n X.1 X.2.1 d_X_decision_31 rfl (lv_at hl 0 rfl) ?_
        refine lv_iload_n X.1 X.2.1 d_X_decision_32 rfl (lv_at hl 3 rfl) ?_
        have hy : y = nI y.toInt.toNat := zn_nat (by omega)
        refine zx_top hy ?_
        refine zx_calli (zx_runV (As := [.int (nI (y.toInt.toNat))]) (rest := []) X hH mv_X_56 ((c_R_isAheadOf g l N ad E (F + 5 * i) (rg i).1 (rg i).2 (by omega) hR hro y.toInt.toNat (by omega)) _) (by omega) hR.1 rfl ⟨Nat.le_of_ble_eq_true rfl, Nat.le_of_ble_eq_true rfl⟩ rfl hl rfl (Nat.le_of_ble_eq_true rfl) d_X_decision_33 ⟨Nat.le_of_ble_eq_true rfl, Nat.le_of_ble_eq_true rfl⟩) hH (fun r N1 ad1 E1 H locs hq hH => ?_)
        obtain ⟨rfl, rfl, rfl, rfl⟩ := hq
        by_cases d4 : (rg i).1 2 = 0 ∧ (rg i).1 3 < y.toInt.toNat
        · refine zx_top (b := nI 1) (by rw [if_pos d4]) ?_
          refine lv_if_ne (tgt := 42) X.1 X.2.1 d_X_decision_36 (by decide) (fun z => ?_) (fun z => ?_)
          · clear z
            refine lv_aload_n X.1 X.2.1 d_X_decision_42 rfl (lv_at hl 0 rfl) ?_
            refine lv_iload_n X.1 X.2.1 d_X_decision_43 rfl (lv_at hl 3 rfl) ?_
            refine zx_top hy ?_
            refine zx_calli (zx_runV (As := [.int (nI (y.toInt.toNat))]) (rest := []) X hH mv_X_117 ((c_R_addDecision g l N ad E (F + 5 * i) (rg i).1 (rg i).2 (by omega) hR hro y.toInt.toNat (by omega) (by omega)) _) (by omega) hR.1 rfl ⟨Nat.le_of_ble_eq_true rfl, Nat.le_of_ble_eq_true rfl⟩ rfl hl rfl (Nat.le_of_ble_eq_true rfl) d_X_decision_44 ⟨Nat.le_of_ble_eq_true rfl, Nat.le_of_ble_eq_true rfl⟩) hH (fun r N1 ad1 E1 H locs hq hH => ?_)
            obtain ⟨rfl, rfl, hq⟩ := hq
            rcases hq with ⟨z1, rfl, rfl⟩ | ⟨z1, rfl, hR, hf⟩
            · refine lv_if_eq (tgt := 54) X.1 X.2.1 d_X_decision_47 (by decide) (fun _ => ?_) (fun z => absurd rfl z)
              refine lv_iconst (v := nI 0) X.1 X.2.1 d_X_decision_54 (by decide) ?_
              exact zx_iret X hr hlk hH (Nat.le_of_ble_eq_true rfl) (Nat.le_of_ble_eq_true rfl) d_X_decision_55 ⟨rfl, rfl, by rw [zs_dec_was d1 hi ⟨by omega, by omega⟩ ⟨by omega, by omega⟩ z1], by rw [zs_dec_was d1 hi ⟨by omega, by omega⟩ ⟨by omega, by omega⟩ z1]; exact hT, zt_fr.rf⟩
            · refine lv_if_eq (tgt := 54) X.1 X.2.1 d_X_decision_47 (by decide) (fun z => absurd z (by decide)) (fun _ => ?_)
              refine lv_iconst (v := nI 1) X.1 X.2.1 d_X_decision_50 (by decide) ?_
              refine lv_goto (tgt := 55) X.1 X.2.1 d_X_decision_51 (by decide) ?_
              exact zx_iret X hr hlk hH (Nat.le_of_ble_eq_true rfl) (Nat.le_of_ble_eq_true rfl) d_X_decision_55 ⟨rfl, rfl, by rw [zs_dec_ok d1 hi ⟨by omega, by omega⟩ ⟨by omega, by omega⟩ z1], by rw [zs_dec_ok d1 hi ⟨by omega, by omega⟩ ⟨by omega, by omega⟩ z1]; exact (hT.reg0 (r := ((rg i).1, va_up (rg i).2 3 (va_up (va_up ((rg i).2 3) y.toInt.toNat 1) (y.toInt.toNat + 1) 2))) hF8 hi0 (hR.arr (bx_uu _ _ _ _)) hf), hf.t⟩
          · exact absurd z (by decide)
        · refine zx_top (b := nI 0) (by rw [if_neg d4]) ?_
          refine lv_if_ne (tgt := 42) X.1 X.2.1 d_X_decision_36 (by decide) (fun z => ?_) (fun z => ?_)
          · exact absurd z (by decide)
          · clear z
            refine lv_bipush (v := (-5)) X.1 X.2.1 d_X_decision_39 (by decide) ?_
            exact zx_iret X hr hlk hH (Nat.le_of_ble_eq_true rfl) (Nat.le_of_ble_eq_true rfl) d_X_decision_41 ⟨rfl, rfl, by rw [zs_dec_late d1 hi ⟨by omega, by omega⟩ (by omega)], by rw [zs_dec_late d1 hi ⟨by omega, by omega⟩ (by omega)]; exact hT, zt_fr.rf⟩
      · have c3 := mt (zn_le rfl (nI_toInt (by omega))).mpr c3
        refine lv_bipush (v := (-4)) X.1 X.2.1 d_X_decision_28 (by decide) ?_
        exact zx_iret X hr hlk hH (Nat.le_of_ble_eq_true rfl) (Nat.le_of_ble_eq_true rfl) d_X_decision_30 ⟨rfl, rfl, by rw [zs_dec_bad d1 hi (by omega)], by rw [zs_dec_bad d1 hi (by omega)]; exact hT, zt_fr.rf⟩
  · rw [if_neg d1] at hv
    subst hv
    refine W.eq (g2 := F0 m 5 ls ([.null])) rfl ?_
    refine lv_astore_nN (lv' := [(3, .null), (0, .ref (ad (0))), (1, .int (x)), (2, .int (y))]) X.1 X.2.1 d_X_decision_5 rfl hl (by decide) rfl (fun ls hl => ?_)
    refine lv_aload_nN X.1 X.2.1 d_X_decision_6 rfl (lv_at hl 0 rfl) ?_
    refine lv_ifnonnullN X.1 X.2.1 d_X_decision_7 ?_
    refine lv_bipush (v := (-2)) X.1 X.2.1 d_X_decision_10 (by decide) ?_
    exact zx_iret X hr hlk hH (Nat.le_of_ble_eq_true rfl) (Nat.le_of_ble_eq_true rfl) d_X_decision_12 ⟨rfl, rfl, by rw [zs_dec_no d1], by rw [zs_dec_no d1]; exact hT, zt_fr.rf⟩

set_option maxHeartbeats 4000000 in
set_option maxRecDepth 100000 in
theorem c_X_cancel (g : zw_G) (l : Launch) (N : Nat) (ad : Nat → Nat) (E : Nat → va_E) (F : Nat) (q : Nat → Nat) (rg : zt_R) (ev sf lf : Nat → Nat) (hF8 : 8 ≤ F) (hN : N = F + 5 * q 0) (hT : zt_at g ad E F q rg ev sf lf) (hok : zt_ok q rg ev sf) (x : Int32) : zc_i g l y_X_cancel b_X_cancel 3 (some .boolean) { frames := 1, cells := 0, slots := 0, locals := 40 } [.ref (ad (0)), .int (x)] N ad E (fun v N1 ad1 E1 => N = N1 ∧ ad = ad1 ∧ v = (zs_can q rg x).1 ∧ zt_at g ad E1 F q (zs_can q rg x).2 ev sf lf ∧ zt_fr E E1 F) := by
  refine zc_i.of (by decide) (Nat.le_of_ble_eq_true rfl) ?_
  intro p e s m below meth c ls A X hr hlk hl hH
  have hl : lv_has ls 3 [(0, .ref (ad (0))), (1, .int (x))] := hl
  obtain ⟨k0, k2, k3, k3a, k4, k4a, k5, k5a, k6, k6a⟩ := hok.1
  refine lv_aload_n X.1 X.2.1 d_X_cancel_0 rfl (lv_at hl 0 rfl) ?_
  refine lv_iload_n X.1 X.2.1 d_X_cancel_1 rfl (lv_at hl 1 rfl) ?_
  refine zx_callq (zx_runV (As := [.int (x)]) (rest := []) X hH mv_X_45 ((c_X_find g l N ad E F q rg ev sf lf hF8 hN hT hok (x)) _) (by omega) hT.1 rfl ⟨Nat.le_of_ble_eq_true rfl, Nat.le_of_ble_eq_true rfl⟩ rfl hl rfl (Nat.le_of_ble_eq_true rfl) d_X_cancel_2 ⟨Nat.le_of_ble_eq_true rfl, Nat.le_of_ble_eq_true rfl⟩) hH (fun r N1 ad1 E1 H locs hq hH => ?_)
  obtain ⟨rfl, rfl, rfl, hv⟩ := hq
  by_cases d1 : 1 ≤ (x).toInt ∧ (x).toInt ≤ (q 0 : Int)
  · obtain ⟨i, hi⟩ : ∃ i, i = (x).toInt.toNat - 1 := ⟨_, rfl⟩
    rw [if_pos d1, ← hi] at hv
    subst hv
    have hi0 : i < q 0 := by omega
    have hR := hT.2.2.2.2.2 i hi0
    have hro := hok.2.1 i hi0
    obtain ⟨r0, r1, r2, r3, r4, r5, r7, r8, r6⟩ := hro.1
    refine W.eq (g2 := F0 m 5 ls ([.ref (ad (F + 5 * (i)))])) rfl ?_
    refine lv_astore_n (lv' := [(2, .ref (ad (F + 5 * (i)))), (0, .ref (ad (0))), (1, .int (x))]) X.1 X.2.1 d_X_cancel_5 rfl hl (by decide) rfl (fun ls hl => ?_)
    refine lv_aload_n X.1 X.2.1 d_X_cancel_6 rfl (lv_at hl 1 rfl) ?_
    refine zx_get (v := .int (nI (q 2))) X hH fg_X_34 (by omega) hT.1 rfl d_X_cancel_7 ?_
    refine lv_if_ne (tgt := 31) X.1 X.2.1 d_X_cancel_10 (by decide) (fun c2 => ?_) (fun c2 => ?_)
    · have c2 := mt (zn_eq (nI_toInt (by omega)) zn_0).mpr c2
      refine lv_iconst (v := nI 0) X.1 X.2.1 d_X_cancel_31 (by decide) ?_
      exact zx_zret X hr hlk hH (Nat.le_of_ble_eq_true rfl) (Nat.le_of_ble_eq_true rfl) d_X_cancel_32 rfl ⟨rfl, rfl, by rw [zs_can_a (by omega)], by rw [zs_can_a (by omega)]; exact hT, zt_fr.rf⟩
    · have c2 := (zn_eq (nI_toInt (by omega)) zn_0).mp c2
      refine lv_aload_n X.1 X.2.1 d_X_cancel_13 rfl (lv_at hl 0 rfl) ?_
      refine lv_ifnull X.1 X.2.1 d_X_cancel_14 ?_
      refine lv_aload_n X.1 X.2.1 d_X_cancel_17 rfl (lv_at hl 0 rfl) ?_
      refine zx_calli (zx_runV (As := []) (rest := []) X hH mv_X_91 ((c_R_goesOn g l N ad E (F + 5 * i) (rg i).1 (rg i).2 (by omega) hR hro) _) (by omega) hR.1 rfl ⟨Nat.le_of_ble_eq_true rfl, Nat.le_of_ble_eq_true rfl⟩ rfl hl rfl (Nat.le_of_ble_eq_true rfl) d_X_cancel_18 ⟨Nat.le_of_ble_eq_true rfl, Nat.le_of_ble_eq_true rfl⟩) hH (fun r N1 ad1 E1 H locs hq hH => ?_)
      obtain ⟨rfl, rfl, rfl, rfl⟩ := hq
      by_cases d3 : (rg i).1 2 = 0
      · refine zx_top (b := nI 1) (by rw [if_pos d3]) ?_
        refine lv_if_eq (tgt := 31) X.1 X.2.1 d_X_cancel_21 (by decide) (fun z => ?_) (fun z => ?_)
        · exact absurd z (by decide)
        · clear z
          refine lv_aload_n X.1 X.2.1 d_X_cancel_24 rfl (lv_at hl 0 rfl) ?_
          refine zx_get (v := .int (nI ((rg (i)).1 7))) X hH fg_X_95 (by omega) hR.1 rfl d_X_cancel_25 ?_
          refine lv_if_eq (tgt := 33) X.1 X.2.1 d_X_cancel_28 (by decide) (fun c4 => ?_) (fun c4 => ?_)
          · have c4 := (zn_eq (nI_toInt (by omega)) zn_0).mp c4
            refine lv_aload_n X.1 X.2.1 d_X_cancel_33 rfl (lv_at hl 0 rfl) ?_
            refine lv_iconst (v := nI 1) X.1 X.2.1 d_X_cancel_34 (by decide) ?_
            refine zx_put X hH fp_X_95 (by omega) hR.1 (Nat.le_of_ble_eq_true rfl) rfl rfl d_X_cancel_35 (fun H locs hH => ?_)
            have hH : zw_H g A s.heap s N ad (va_up E (F + 5 * i) (zr_o ad (F + 5 * i) (va_up (rg i).1 7 1))) H locs := hH
            have hR := hR.sc (va_up (rg i).1 7 1)
            have hf : zr_fr E (va_up E (F + 5 * i) (zr_o ad (F + 5 * i) (va_up (rg i).1 7 1))) (F + 5 * i) := zr_fr.rf.up (by omega) (by omega)
            refine lv_iconst (v := nI 1) X.1 X.2.1 d_X_cancel_38 (by decide) ?_
            exact zx_zret X hr hlk hH (Nat.le_of_ble_eq_true rfl) (Nat.le_of_ble_eq_true rfl) d_X_cancel_39 rfl ⟨rfl, rfl, by rw [zs_can_ok hi ⟨by omega, by omega, by omega⟩ ⟨by omega, by omega⟩], by rw [zs_can_ok hi ⟨by omega, by omega, by omega⟩ ⟨by omega, by omega⟩]; exact (hT.reg0 (r := (va_up (rg i).1 7 1, (rg i).2)) hF8 hi0 hR hf), hf.t⟩
          · have c4 := mt (zn_eq (nI_toInt (by omega)) zn_0).mpr c4
            refine lv_iconst (v := nI 0) X.1 X.2.1 d_X_cancel_31 (by decide) ?_
            exact zx_zret X hr hlk hH (Nat.le_of_ble_eq_true rfl) (Nat.le_of_ble_eq_true rfl) d_X_cancel_32 rfl ⟨rfl, rfl, by rw [zs_can_b hi (by omega)], by rw [zs_can_b hi (by omega)]; exact hT, zt_fr.rf⟩
      · refine zx_top (b := nI 0) (by rw [if_neg d3]) ?_
        refine lv_if_eq (tgt := 31) X.1 X.2.1 d_X_cancel_21 (by decide) (fun z => ?_) (fun z => ?_)
        · clear z
          refine lv_iconst (v := nI 0) X.1 X.2.1 d_X_cancel_31 (by decide) ?_
          exact zx_zret X hr hlk hH (Nat.le_of_ble_eq_true rfl) (Nat.le_of_ble_eq_true rfl) d_X_cancel_32 rfl ⟨rfl, rfl, by rw [zs_can_b hi (by omega)], by rw [zs_can_b hi (by omega)]; exact hT, zt_fr.rf⟩
        · exact absurd z (by decide)
  · rw [if_neg d1] at hv
    subst hv
    refine W.eq (g2 := F0 m 5 ls ([.null])) rfl ?_
    refine lv_astore_nN (lv' := [(2, .null), (0, .ref (ad (0))), (1, .int (x))]) X.1 X.2.1 d_X_cancel_5 rfl hl (by decide) rfl (fun ls hl => ?_)
    refine lv_aload_n X.1 X.2.1 d_X_cancel_6 rfl (lv_at hl 1 rfl) ?_
    refine zx_get (v := .int (nI (q 2))) X hH fg_X_34 (by omega) hT.1 rfl d_X_cancel_7 ?_
    refine lv_if_ne (tgt := 31) X.1 X.2.1 d_X_cancel_10 (by decide) (fun c5 => ?_) (fun c5 => ?_)
    · have c5 := mt (zn_eq (nI_toInt (by omega)) zn_0).mpr c5
      refine lv_iconst (v := nI 0) X.1 X.2.1 d_X_cancel_31 (by decide) ?_
      exact zx_zret X hr hlk hH (Nat.le_of_ble_eq_true rfl) (Nat.le_of_ble_eq_true rfl) d_X_cancel_32 rfl ⟨rfl, rfl, by rw [zs_can_a (by omega)], by rw [zs_can_a (by omega)]; exact hT, zt_fr.rf⟩
    · have c5 := (zn_eq (nI_toInt (by omega)) zn_0).mp c5
      refine lv_aload_nN X.1 X.2.1 d_X_cancel_13 rfl (lv_at hl 0 rfl) ?_
      refine lv_ifnullN (tgt := 31) X.1 X.2.1 d_X_cancel_14 (by decide) ?_
      refine lv_iconst (v := nI 0) X.1 X.2.1 d_X_cancel_31 (by decide) ?_
      exact zx_zret X hr hlk hH (Nat.le_of_ble_eq_true rfl) (Nat.le_of_ble_eq_true rfl) d_X_cancel_32 rfl ⟨rfl, rfl, by rw [zs_can_a (by omega)], by rw [zs_can_a (by omega)]; exact hT, zt_fr.rf⟩

set_option maxHeartbeats 4000000 in
set_option maxRecDepth 100000 in
theorem c_X_post (g : zw_G) (l : Launch) (N : Nat) (ad : Nat → Nat) (E : Nat → va_E) (F : Nat) (q : Nat → Nat) (rg : zt_R) (ev sf lf : Nat → Nat) (hF8 : 8 ≤ F) (hN : N = F + 5 * q 0) (hT : zt_at g ad E F q rg ev sf lf) (hok : zt_ok q rg ev sf) (x : Int32) : zc_i g l y_X_post b_X_post 2 (some .int) { frames := 2, cells := 0, slots := 0, locals := 80 } [.ref (ad (0)), .int (x)] N ad E (fun v N1 ad1 E1 => N = N1 ∧ ad = ad1 ∧ v = (zs_post q ev x).1 ∧ zt_at g ad E1 F q rg (zs_post q ev x).2 sf lf ∧ zt_fr E E1 F) := by
  refine zc_i.of (by decide) (Nat.le_of_ble_eq_true rfl) ?_
  intro p e s m below meth c ls A X hr hlk hl hH
  have hl : lv_has ls 2 [(0, .ref (ad (0))), (1, .int (x))] := hl
  obtain ⟨k0, k2, k3, k3a, k4, k4a, k5, k5a, k6, k6a⟩ := hok.1
  refine lv_iload_n X.1 X.2.1 d_X_post_0 rfl (lv_at hl 1 rfl) ?_
  refine zx_calli (zx_runS (As := [.int (x)]) (rest := []) X hH ms_X_52 ((c_X_isEvent g l N ad E (x)) _) ⟨Nat.le_of_ble_eq_true rfl, Nat.le_of_ble_eq_true rfl⟩ rfl hl rfl (Nat.le_of_ble_eq_true rfl) d_X_post_1 ⟨Nat.le_of_ble_eq_true rfl, Nat.le_of_ble_eq_true rfl⟩) hH (fun r N1 ad1 E1 H locs hq hH => ?_)
  obtain ⟨rfl, rfl, rfl, rfl⟩ := hq
  by_cases d1 : 0 ≤ (x).toInt ∧ (x).toInt < 16
  · refine zx_top (b := nI 1) (by rw [if_pos d1]) ?_
    refine lv_if_ne (tgt := 10) X.1 X.2.1 d_X_post_4 (by decide) (fun z => ?_) (fun z => ?_)
    · clear z
      refine lv_aload_n X.1 X.2.1 d_X_post_10 rfl (lv_at hl 0 rfl) ?_
      refine zx_get (v := .int (nI (q 2))) X hH fg_X_34 (by omega) hT.1 rfl d_X_post_11 ?_
      refine lv_if_eq (tgt := 20) X.1 X.2.1 d_X_post_14 (by decide) (fun c2 => ?_) (fun c2 => ?_)
      · have c2 := (zn_eq (nI_toInt (by omega)) zn_0).mp c2
        refine lv_aload_n X.1 X.2.1 d_X_post_20 rfl (lv_at hl 0 rfl) ?_
        refine zx_get (v := .ref (ad (2))) X hH fg_X_18 (by omega) hT.1 rfl d_X_post_21 ?_
        refine lv_iload_n X.1 X.2.1 d_X_post_24 rfl (lv_at hl 1 rfl) ?_
        have hx9 : x = nI x.toInt.toNat := zn_nat (by omega)
        refine zx_top hx9 ?_
        refine zx_callv (zx_runV (As := [.int (nI (x.toInt.toNat))]) (rest := []) X hH mv_X_66 ((c_V_addPosting g l N ad E 2 3 ev (by omega) (by omega) (by decide) hT.2.2.1 x.toInt.toNat (by omega) (hok.2.2.1 _)) _) (by omega) hT.2.2.1.1 rfl ⟨Nat.le_of_ble_eq_true rfl, Nat.le_of_ble_eq_true rfl⟩ rfl hl rfl (Nat.le_of_ble_eq_true rfl) d_X_post_25 ⟨Nat.le_of_ble_eq_true rfl, Nat.le_of_ble_eq_true rfl⟩) hH (fun N1 ad1 E1 H locs hq hH => ?_)
        obtain ⟨rfl, rfl, rfl⟩ := hq
        have hT : zt_at g ad (va_up E 3 (zr_ia g 16 (va_up ev x.toInt.toNat (ev x.toInt.toNat + 1)))) F q rg (va_up ev x.toInt.toNat (ev x.toInt.toNat + 1)) sf lf := hT.evs hF8 _
        have hf : zt_fr E (va_up E 3 (zr_ia g 16 (va_up ev x.toInt.toNat (ev x.toInt.toNat + 1)))) F := fun j a b => va_up_ne _ _ (by omega)
        generalize va_up E 3 (zr_ia g 16 (va_up ev x.toInt.toNat (ev x.toInt.toNat + 1))) = E2 at hH hT hf
        refine lv_aload_n X.1 X.2.1 d_X_post_28 rfl (lv_at hl 0 rfl) ?_
        refine zx_get (v := .ref (ad (2))) X hH fg_X_18 (by omega) hT.1 rfl d_X_post_29 ?_
        refine lv_iload_n X.1 X.2.1 d_X_post_32 rfl (lv_at hl 1 rfl) ?_
        refine zx_top hx9 ?_
        refine zx_calli (zx_runV (As := [.int (nI (x.toInt.toNat))]) (rest := []) X hH mv_X_69 ((c_V_untaken g l N ad E2 2 3 (va_up ev x.toInt.toNat (ev x.toInt.toNat + 1)) (by omega) (by omega) (by decide) hT.2.2.1 x.toInt.toNat (by omega)) _) (by omega) hT.2.2.1.1 rfl ⟨Nat.le_of_ble_eq_true rfl, Nat.le_of_ble_eq_true rfl⟩ rfl hl rfl (Nat.le_of_ble_eq_true rfl) d_X_post_33 ⟨Nat.le_of_ble_eq_true rfl, Nat.le_of_ble_eq_true rfl⟩) hH (fun r N1 ad1 E1 H locs hq hH => ?_)
        obtain ⟨rfl, rfl, rfl, rfl⟩ := hq
        exact zx_iret X hr hlk hH (Nat.le_of_ble_eq_true rfl) (Nat.le_of_ble_eq_true rfl) d_X_post_36 ⟨rfl, rfl, by rw [zs_post_ok ⟨by omega, by omega⟩ (by omega), va_up_self], by rw [zs_post_ok ⟨by omega, by omega⟩ (by omega)]; exact hT, hf⟩
      · have c2 := mt (zn_eq (nI_toInt (by omega)) zn_0).mpr c2
        refine lv_bipush (v := (-5)) X.1 X.2.1 d_X_post_17 (by decide) ?_
        exact zx_iret X hr hlk hH (Nat.le_of_ble_eq_true rfl) (Nat.le_of_ble_eq_true rfl) d_X_post_19 ⟨rfl, rfl, by rw [zs_post_off ⟨by omega, by omega⟩ (by omega)], by rw [zs_post_off ⟨by omega, by omega⟩ (by omega)]; exact hT, zt_fr.rf⟩
    · exact absurd z (by decide)
  · refine zx_top (b := nI 0) (by rw [if_neg d1]) ?_
    refine lv_if_ne (tgt := 10) X.1 X.2.1 d_X_post_4 (by decide) (fun z => ?_) (fun z => ?_)
    · exact absurd z (by decide)
    · clear z
      refine lv_bipush (v := (-4)) X.1 X.2.1 d_X_post_7 (by decide) ?_
      exact zx_iret X hr hlk hH (Nat.le_of_ble_eq_true rfl) (Nat.le_of_ble_eq_true rfl) d_X_post_9 ⟨rfl, rfl, by rw [zs_post_bad (by omega)], by rw [zs_post_bad (by omega)]; exact hT, zt_fr.rf⟩

set_option maxHeartbeats 4000000 in
set_option maxRecDepth 100000 in
theorem c_X_turn (g : zw_G) (l : Launch) (N : Nat) (ad : Nat → Nat) (E : Nat → va_E) (F : Nat) (q : Nat → Nat) (rg : zt_R) (ev sf lf : Nat → Nat) (hF8 : 8 ≤ F) (hN : N = F + 5 * q 0) (hT : zt_at g ad E F q rg ev sf lf) (hok : zt_ok q rg ev sf) (x : Int32) (kc ks : Nat) (hkc : (zs_turn q sf x).1 4 ≤ q 4 + kc) (hks : 2 * (zs_turn q sf x).1 4 ≤ 2 * q 4 + ks) : zc_v g l y_X_turn b_X_turn 2 { frames := 4, cells := kc, slots := ks, locals := 160 } [.ref (ad (0)), .int (x)] N ad E (fun N1 ad1 E1 => N = N1 ∧ (∀ k, k ≠ 5 → k < N → ad1 k = ad k) ∧ zt_at g ad1 E1 F (zs_turn q sf x).1 rg ev (zs_turn q sf x).2 lf ∧ zt_fr E E1 F) := by
  refine zc_v.of (by decide) (Nat.le_of_ble_eq_true rfl) ?_
  intro p e s m below meth c ls A X hr hlk hnm hl hH
  have hl : lv_has ls 2 [(0, .ref (ad (0))), (1, .int (x))] := hl
  obtain ⟨k0, k2, k3, k3a, k4, k4a, k5, k5a, k6, k6a⟩ := hok.1
  refine lv_aload_n X.1 X.2.1 d_X_turn_0 rfl (lv_at hl 0 rfl) ?_
  refine zx_get (v := .int (nI (q 2))) X hH fg_X_34 (by omega) hT.1 rfl d_X_turn_1 ?_
  refine lv_if_ne (tgt := 15) X.1 X.2.1 d_X_turn_4 (by decide) (fun c1 => ?_) (fun c1 => ?_)
  · have c1 := mt (zn_eq (nI_toInt (by omega)) zn_0).mpr c1
    exact zx_vret X hr hlk hH (by dsimp only; omega) (by dsimp only; omega) d_X_turn_15 ⟨rfl, fun _ _ _ => rfl, by rw [zs_turn_no (by omega)]; exact hT, zt_fr.rf⟩
  · have c1 := (zn_eq (nI_toInt (by omega)) zn_0).mp c1
    refine lv_aload_n X.1 X.2.1 d_X_turn_7 rfl (lv_at hl 0 rfl) ?_
    refine lv_iload_n X.1 X.2.1 d_X_turn_8 rfl (lv_at hl 1 rfl) ?_
    refine zx_callq (zx_runV (As := [.int (x)]) (rest := []) X hH mv_X_45 ((c_X_find g l N ad E F q rg ev sf lf hF8 hN hT hok (x)) _) (by omega) hT.1 rfl ⟨Nat.le_of_ble_eq_true rfl, Nat.le_of_ble_eq_true rfl⟩ rfl hl rfl (Nat.le_of_ble_eq_true rfl) d_X_turn_9 ⟨Nat.le_of_ble_eq_true rfl, Nat.le_of_ble_eq_true rfl⟩) hH (fun r N1 ad1 E1 H locs hq hH => ?_)
    obtain ⟨rfl, rfl, rfl, hv⟩ := hq
    by_cases d2 : 1 ≤ (x).toInt ∧ (x).toInt ≤ (q 0 : Int)
    · obtain ⟨i, hi⟩ : ∃ i, i = (x).toInt.toNat - 1 := ⟨_, rfl⟩
      rw [if_pos d2, ← hi] at hv
      subst hv
      have hi0 : i < q 0 := by omega
      have hR := hT.2.2.2.2.2 i hi0
      have hro := hok.2.1 i hi0
      obtain ⟨r0, r1, r2, r3, r4, r5, r7, r8, r6⟩ := hro.1
      refine W.eq (g2 := F0 m 12 ls ([.ref (ad (F + 5 * (i)))])) rfl ?_
      refine lv_ifnonnull (tgt := 16) X.1 X.2.1 d_X_turn_12 (by decide) ?_
      refine lv_aload_n X.1 X.2.1 d_X_turn_16 rfl (lv_at hl 0 rfl) ?_
      refine zx_get (v := .ref (ad (4))) X hH fg_X_27 (by omega) hT.1 rfl d_X_turn_17 ?_
      refine lv_iload_n X.1 X.2.1 d_X_turn_20 rfl (lv_at hl 1 rfl) ?_
      have hx9 : x = nI x.toInt.toNat := zn_nat (by omega)
      refine zx_top hx9 ?_
      have hz9 := zs_turn_yes (q := q) (sf := sf) (x := x) ⟨by omega, by omega, by omega⟩
      by_cases t1 : 600 ≤ q 3
      · have hz := zp_sch_full (q := q) (sf := sf) (v := x.toInt.toNat) t1
        rw [← hz9] at hz
        refine zx_callv (zx_runV (As := [.int (nI (x.toInt.toNat))]) (rest := []) X hH mv_X_73 ((c_O_append_full g l N ad E 4 5 600 (q 3) (q 4) sf (by omega) (by omega) (by decide) (by omega) (by omega) (by decide) hT.2.2.2.1 (x.toInt.toNat) (by omega)) _) (by omega) hT.2.2.2.1.1 rfl ⟨Nat.le_of_ble_eq_true rfl, Nat.le_of_ble_eq_true rfl⟩ rfl hl rfl (Nat.le_of_ble_eq_true rfl) d_X_turn_21 ⟨(by dsimp only; omega), (by dsimp only; omega)⟩) hH (fun N1 ad1 E2 H locs hq hH => ?_)
        obtain ⟨rfl, rfl, rfl⟩ := hq
        exact zx_vret X hr hlk hH (by dsimp only; omega) (by dsimp only; omega) d_X_turn_24 ⟨rfl, fun _ _ _ => rfl, by rw [hz]; exact hT, zt_fr.rf⟩
      · by_cases t2 : q 4 ≤ q 3
        · have hz := zp_sch_grow (q := q) (sf := sf) (v := x.toInt.toNat) t1 t2
          rw [← hz9] at hz
          rw [hz] at hkc hks
          have hkc : 2 * q 4 ≤ q 4 + kc := hkc
          have hks : 2 * (2 * q 4) ≤ 2 * q 4 + ks := hks
          refine zx_callv (zx_runV (As := [.int (nI (x.toInt.toNat))]) (rest := []) X hH mv_X_73 ((c_O_append_grow g l N ad E 4 5 600 (q 3) (q 4) sf (by omega) (by omega) (by decide) (by omega) (by omega) (by decide) hT.2.2.2.1 (x.toInt.toNat) (by omega) (by omega) (by omega)) _) (by omega) hT.2.2.2.1.1 rfl ⟨Nat.le_of_ble_eq_true rfl, Nat.le_of_ble_eq_true rfl⟩ rfl hl rfl (Nat.le_of_ble_eq_true rfl) d_X_turn_21 ⟨(by dsimp only; omega), (by dsimp only; omega)⟩) hH (fun N1 ad1 E2 H locs hq hH => ?_)
          obtain ⟨rfl, ha, hO, he⟩ := hq
          have hT2 := hT.sch (q1 := va_up (va_up q 4 (2 * q 4)) 3 (q 3 + 1)) hF8 hN hO ha he rfl rfl rfl rfl rfl
          exact zx_vret X hr hlk hH (by dsimp only; omega) (by dsimp only; omega) d_X_turn_24 ⟨rfl, ha, by rw [hz]; exact hT2, fun k a b => he k (by omega) (by omega) (by omega)⟩
        · have hz := zp_sch_room (q := q) (sf := sf) (v := x.toInt.toNat) t1 t2
          rw [← hz9] at hz
          refine zx_callv (zx_runV (As := [.int (nI (x.toInt.toNat))]) (rest := []) X hH mv_X_73 ((c_O_append_room g l N ad E 4 5 600 (q 3) (q 4) sf (by omega) (by omega) (by decide) (by omega) (by omega) (by decide) hT.2.2.2.1 (x.toInt.toNat) (by omega) (by omega)) _) (by omega) hT.2.2.2.1.1 rfl ⟨Nat.le_of_ble_eq_true rfl, Nat.le_of_ble_eq_true rfl⟩ rfl hl rfl (Nat.le_of_ble_eq_true rfl) d_X_turn_21 ⟨(by dsimp only; omega), (by dsimp only; omega)⟩) hH (fun N1 ad1 E2 H locs hq hH => ?_)
          obtain ⟨rfl, rfl, hO, hf2⟩ := hq
          have hT2 := hT.sch (q1 := va_up q 3 (q 3 + 1)) hF8 hN hO (fun _ _ _ => rfl) (fun k _ a b => hf2 k a b) rfl rfl rfl rfl rfl
          exact zx_vret X hr hlk hH (by dsimp only; omega) (by dsimp only; omega) d_X_turn_24 ⟨rfl, fun _ _ _ => rfl, by rw [hz]; exact hT2, fun k a b => hf2 k (by omega) (by omega)⟩
    · rw [if_neg d2] at hv
      subst hv
      refine W.eq (g2 := F0 m 12 ls ([.null])) rfl ?_
      refine lv_ifnonnullN X.1 X.2.1 d_X_turn_12 ?_
      exact zx_vret X hr hlk hH (by dsimp only; omega) (by dsimp only; omega) d_X_turn_15 ⟨rfl, fun _ _ _ => rfl, by rw [zs_turn_no (by omega)]; exact hT, zt_fr.rf⟩
end
section
section ZA
variable {p : Program} {l : Launch} {e : Env} {R : Room} {s : State} {m : MethodId} {args : Array Value} {below : List Frame} {meth : Method} {c : Code} {H : Heap} {locs : List Loc} {cells slots : Nat} {Q : State → Prop} {cc : ByteArray} {pc nL : Nat} {ls : Array Slot} {rest : List Value} {own : String} {g : zw_G} {A : Nat → Prop} {H0 : Heap} {N : Nat} {ad : Nat → Nat} {E : Nat → va_E}
theorem zx_new (X : CallFix p m c cc nL s args zt_U own) (hH : zw_H g A H0 s N ad E H locs) {ci Nf idx : Nat} {C : String} {T : u_T} {fs : List Value} (hc : vwCl[ci]? = some (C, T, Nf)) (hin : ∀ w ∈ u_ws C T Nf, w ∈ zt_U) (ty : Nat → FieldType) (hty : ∀ k, k < Nf → parseFieldDescriptor (T k).2.2.1 = some (ty k)) (hk : Cond.classLink own idx C ∈ zt_U) (hi : Cond.instantiable C Nf ∈ zt_U) (hl : Cond.initialized C ∈ zt_U) (hfs : ∀ j, j < Nf → defaultValue (ty j) = vp_V fs j) (hcs : cells + 1 ≤ R.cells) (hsl : slots + Nf ≤ R.slots) (hd : decode cc pc = .ok (.new idx, 3))
    (kk : ∀ (q : Nat) (H1 : Heap), zw_H g A H0 s (N + 1) (va_up ad N q) (va_up E N (.inr (ci, fs))) H1 locs → W p l e R s m args below meth c H1 locs (cells + 1) (slots + Nf) Q (F0 m (pc + 3) ls (.ref (va_up ad N q N) :: rest))) : W p l e R s m args below meth c H locs cells slots Q (F0 m pc ls rest) := by
  have ht := X.2.2.2.2
  refine va_new (D := g.1) X.1 X.2.1 ht hin ty hty X.2.2.2.1 (ht _ hk) (ht _ hi) (ht _ hl) hH.1.1 hH.2.1 hH.2.2.1 hH.2.2.2.1 hH.2.2.2.2 hc hfs hcs hsl hd (fun q H1 hP hD hS => ?_)
  rw [zw_push] at hP hD
  have k2 := kk q H1 ⟨hH.1, hP, hD, hS, hH.2.2.2.2⟩
  rw [va_up_self] at k2
  exact k2
theorem zx_newq (X : CallFix p m c cc nL s args zt_U own) (hH : zw_H g A H0 s N ad E H locs) {idx : Nat} (hk : Cond.classLink own idx "RegionThreads$Region" ∈ zt_U) {i : Int32} {j : Nat} (hi : i = nI j) (hj : j ≤ 134217728) (hc : cells + 1 ≤ R.cells) (hs : slots + j ≤ R.slots) (hd : decode cc pc = .ok (.anewarray idx, 3))
    (kk : ∀ (q : Nat) (H1 : Heap), zw_H g A H0 s (N + 1) (va_up ad N q) (va_up E N (.inl (g.2 2, j, .inr (.inr (.inr (.inr (fun _ => none))))))) H1 locs → W p l e R s m args below meth c H1 locs (cells + 1) (slots + j) Q (F0 m (pc + 3) ls (.ref (va_up ad N q N) :: rest))) : W p l e R s m args below meth c H locs cells slots Q (F0 m pc ls (.int i :: rest)) := by
  subst hi
  have ht := X.2.2.2.2
  have hK := hH.1.1
  refine va_newq (D := g.1) X.1 X.2.1 X.2.2.2.1 (ht _ hk) hH.1.2.2.2 hH.1.1 hH.2.1 hH.2.2.1 hH.2.2.2.1 hH.2.2.2.2 (nI_pos (by omega)) (nI_clamp (by omega)) (by omega) hc hs hd (fun q cA H1 hK1 hP hD hS => ?_)
  obtain ⟨k1, c1, -, -, -, e1⟩ := (hK1.2 (zw_ty g).length (cA, .object "RegionThreads$Region") (by rw [List.getElem?_append_right (Nat.le_refl _), Nat.sub_self]; rfl)).2
  obtain ⟨k2, c2, -, -, -, e2⟩ := (hK.2 2 (g.2 2, .object "RegionThreads$Region") rfl).2
  have e3 : cA = g.2 2 := Option.some.inj (e1.symm.trans e2)
  subst e3
  rw [zw_push] at hP hD
  have k2 := kk q H1 ⟨hH.1, hP, hD, hS, hH.2.2.2.2⟩
  rw [va_up_self] at k2
  exact k2
theorem zx_aast (X : CallFix p m c cc nL s args zt_U own) (hH : zw_H g A H0 s N ad E H locs) {k n j b : Nat} {f : Nat → Option Nat} {fs : List Value} {i : Int32} (hk : k < N) (hE : E k = .inl (g.2 2, n, .inr (.inr (.inr (.inr f))))) (hb : b < N) (hB : E b = .inr (1, fs)) (hi : i = nI j) (hj : j < n) (hn : n < 2 ^ 31) (hd : decode cc pc = .ok (.aastore, 1))
    (kk : ∀ (H1 : Heap) (locs1 : List Loc), zw_H g A H0 s N ad (va_up E k (.inl (g.2 2, n, .inr (.inr (.inr (.inr (va_up f j (some (ad b)))))))) ) H1 locs1 → W p l e R s m args below meth c H1 locs1 cells slots Q (F0 m (pc + 1) ls rest)) : W p l e R s m args below meth c H locs cells slots Q (F0 m pc ls (.ref (ad b) :: .int i :: .ref (ad k) :: rest)) := by
  subst hi
  refine va_astq (D := g.1) X.1 X.2.1 hH.1.1 hH.2.1 hH.2.2.1 hH.2.2.2.1 k 2 b 1 (by rw [zw_get hk, hE]) rfl (by rw [zw_get hb, hB]) rfl (vp_in_nI hj hn) hd (fun H1 locs1 hP hD hS => ?_)
  rw [nI_clamp (by omega), zw_set] at hP hD
  exact kk H1 locs1 ⟨hH.1, hP, hD, hS, hH.2.2.2.2⟩
/-- Object's own constructor -/
theorem zx_obj (X : CallFix p m c cc nL s args zt_U own) {idx a : Nat} {lv : List (Nat × Value)} (hl : lv_has ls nL lv) (hk : Cond.methodLink own idx objectInit ∈ zt_U) (h1 : 1 ≤ R.frames) (h2 : 12 ≤ R.locals) (hd : decode cc pc = .ok (.invokespecial idx, 3))
    (kk : W p l e R s m args below meth c H locs cells slots Q (F0 m (pc + 3) ls [])) : W p l e R s m args below meth c H locs cells slots Q (F0 m pc ls [.ref a]) := by
  have ht := X.2.2.2.2
  exact W.objInit X.1 X.2.1 X.2.2.2.1 (ht _ hk) (ht _ zj_inst) (ht _ zj_code) rfl (by rw [X.2.2.1]; exact hl.1) rfl hd h1 (by show 2 * 0 + 0 + 12 ≤ _; omega) kk
end ZA
theorem zn_sub10 (x : Int32) : (0 ≤ (x - nI 10).toInt ∧ (x - nI 10).toInt < 16) ↔ (10 ≤ x.toInt ∧ x.toInt < 26) := by
  have h1 := Int32.toInt_lt x
  have h2 := Int32.le_toInt x
  rw [Int32.toInt_sub, nI_toInt (by omega), Int.bmod_def]
  split <;> omega
theorem zn_sub10e {x : Int32} (h : 10 ≤ x.toInt) : x - nI 10 = nI (x.toInt.toNat - 10) := by
  have h2 := Int32.toInt_lt x
  conv => lhs; rw [zn_nat (x := x) (by omega)]
  exact pk_sub (by omega)
theorem zt_ok.clr {q : Nat → Nat} {rg : zt_R} {ev sf : Nat → Nat} (h : zt_ok q rg ev sf) : zt_ok (va_up q 3 0) rg ev sf := by
  obtain ⟨⟨k0, k2, k3, k3a, k4, k4a, k5, k5a, k6, k6a⟩, hr, he, hs⟩ := h
  exact ⟨⟨k0, k2, by show 0 ≤ 600; omega, by show 0 ≤ q 4; omega, k4, k4a, k5, k5a, k6, k6a⟩, hr, he, fun j hj => absurd (show j < 0 from hj) (Nat.not_lt_zero _)⟩
theorem zt_ok.cls {q : Nat → Nat} {rg : zt_R} {ev sf : Nat → Nat} (h : zt_ok q rg ev sf) : zt_ok (va_up q 2 1) rg ev sf := by
  obtain ⟨⟨k0, k2, k3, k3a, k4, k4a, k5, k5a, k6, k6a⟩, hr, he, hs⟩ := h
  exact ⟨⟨k0, by show 1 ≤ 1; omega, k3, k3a, k4, k4a, k5, k5a, k6, k6a⟩, hr, he, hs⟩
end
section
set_option maxHeartbeats 4000000 in
set_option maxRecDepth 100000 in
theorem c_X_count (g : zw_G) (l : Launch) (N : Nat) (ad : Nat → Nat) (E : Nat → va_E) (F : Nat) (q : Nat → Nat) (rg : zt_R) (ev sf lf : Nat → Nat) (hF8 : 8 ≤ F) (hN : N = F + 5 * q 0) (hT : zt_at g ad E F q rg ev sf lf) (hok : zt_ok q rg ev sf) (x : Int32) : zc_i g l y_X_count b_X_count 3 (some .int) { frames := 2, cells := 0, slots := 0, locals := 80 } [.ref (ad (0)), .int (x)] N ad E (fun v N1 ad1 E1 => N = N1 ∧ ad = ad1 ∧ E = E1 ∧ v = zs_cnt q rg ev x) := by
  refine zc_i.of (by decide) (Nat.le_of_ble_eq_true rfl) ?_
  intro p e s m below meth c ls A X hr hlk hl hH
  have hl : lv_has ls 3 [(0, .ref (ad (0))), (1, .int (x))] := hl
  obtain ⟨k0, k2, k3, k3a, k4, k4a, k5, k5a, k6, k6a⟩ := hok.1
  refine lv_iload_n X.1 X.2.1 d_X_count_0 rfl (lv_at hl 1 rfl) ?_
  by_cases t0 : x.toInt = 0
  · refine lv_tableIn (off := 39) (tgt := 40) X.1 X.2.1 d_X_count_1 (by omega) (by omega) (by rw [t0]; rfl) (by decide) ?_
    refine lv_aload_n X.1 X.2.1 d_X_count_40 rfl (lv_at hl 0 rfl) ?_
    refine zx_get (v := .int (nI (q 0))) X hH fg_X_38 (by omega) hT.1 rfl d_X_count_41 ?_
    exact zx_iret X hr hlk hH (Nat.le_of_ble_eq_true rfl) (Nat.le_of_ble_eq_true rfl) d_X_count_44 ⟨rfl, rfl, rfl, by unfold zs_cnt; rw [if_pos t0]⟩
  · skip
    by_cases t1 : x.toInt = 1
    · refine lv_tableIn (off := 44) (tgt := 45) X.1 X.2.1 d_X_count_1 (by omega) (by omega) (by rw [t1]; rfl) (by decide) ?_
      refine lv_aload_n X.1 X.2.1 d_X_count_45 rfl (lv_at hl 0 rfl) ?_
      refine zx_get (v := .ref (ad (4))) X hH fg_X_27 (by omega) hT.1 rfl d_X_count_46 ?_
      refine zx_get (v := .int (nI (q 3))) X hH fg_X_76 (by omega) hT.2.2.2.1.1 rfl d_X_count_49 ?_
      exact zx_iret X hr hlk hH (Nat.le_of_ble_eq_true rfl) (Nat.le_of_ble_eq_true rfl) d_X_count_52 ⟨rfl, rfl, rfl, by unfold zs_cnt; rw [if_neg t0, if_pos t1]⟩
    · skip
      by_cases t2 : x.toInt = 2
      · refine lv_tableIn (off := 52) (tgt := 53) X.1 X.2.1 d_X_count_1 (by omega) (by omega) (by rw [t2]; rfl) (by decide) ?_
        refine lv_aload_n X.1 X.2.1 d_X_count_53 rfl (lv_at hl 0 rfl) ?_
        refine zx_get (v := .ref (ad (6))) X hH fg_X_31 (by omega) hT.1 rfl d_X_count_54 ?_
        refine zx_get (v := .int (nI (q 5))) X hH fg_X_76 (by omega) hT.2.2.2.2.1.1 rfl d_X_count_57 ?_
        exact zx_iret X hr hlk hH (Nat.le_of_ble_eq_true rfl) (Nat.le_of_ble_eq_true rfl) d_X_count_60 ⟨rfl, rfl, rfl, by unfold zs_cnt; rw [if_neg t0, if_neg t1, if_pos t2]⟩
      · skip
        by_cases t3 : x.toInt = 3
        · refine lv_tableIn (off := 60) (tgt := 61) X.1 X.2.1 d_X_count_1 (by omega) (by omega) (by rw [t3]; rfl) (by decide) ?_
          refine lv_aload_n X.1 X.2.1 d_X_count_61 rfl (lv_at hl 0 rfl) ?_
          refine zx_calli (zx_runV (As := []) (rest := []) X hH mv_X_123 ((c_X_countGoingOn g l N ad E F q rg ev sf lf hF8 hN hT hok) _) (by omega) hT.1 rfl ⟨Nat.le_of_ble_eq_true rfl, Nat.le_of_ble_eq_true rfl⟩ rfl hl rfl (Nat.le_of_ble_eq_true rfl) d_X_count_62 ⟨Nat.le_of_ble_eq_true rfl, Nat.le_of_ble_eq_true rfl⟩) hH (fun r N1 ad1 E1 H locs hq hH => ?_)
          obtain ⟨rfl, rfl, rfl, rfl⟩ := hq
          exact zx_iret X hr hlk hH (Nat.le_of_ble_eq_true rfl) (Nat.le_of_ble_eq_true rfl) d_X_count_65 ⟨rfl, rfl, rfl, by unfold zs_cnt; rw [if_neg t0, if_neg t1, if_neg t2, if_pos t3]⟩
        · skip
          by_cases t4 : x.toInt = 4
          · refine lv_tableIn (off := 65) (tgt := 66) X.1 X.2.1 d_X_count_1 (by omega) (by omega) (by rw [t4]; rfl) (by decide) ?_
            refine lv_aload_n X.1 X.2.1 d_X_count_66 rfl (lv_at hl 0 rfl) ?_
            refine zx_get (v := .int (nI (q 1))) X hH fg_X_85 (by omega) hT.1 rfl d_X_count_67 ?_
            exact zx_iret X hr hlk hH (Nat.le_of_ble_eq_true rfl) (Nat.le_of_ble_eq_true rfl) d_X_count_70 ⟨rfl, rfl, rfl, by unfold zs_cnt; rw [if_neg t0, if_neg t1, if_neg t2, if_neg t3, if_pos t4]⟩
          · skip
            by_cases t5 : x.toInt = 5
            · refine lv_tableIn (off := 70) (tgt := 71) X.1 X.2.1 d_X_count_1 (by omega) (by omega) (by rw [t5]; rfl) (by decide) ?_
              refine lv_aload_n X.1 X.2.1 d_X_count_71 rfl (lv_at hl 0 rfl) ?_
              refine zx_get (v := .int (nI (q 2))) X hH fg_X_34 (by omega) hT.1 rfl d_X_count_72 ?_
              refine lv_if_eq (tgt := 82) X.1 X.2.1 d_X_count_75 (by decide) (fun c1 => ?_) (fun c1 => ?_)
              · have c1 := (zn_eq (nI_toInt (by omega)) zn_0).mp c1
                refine lv_iconst (v := nI 0) X.1 X.2.1 d_X_count_82 (by decide) ?_
                exact zx_iret X hr hlk hH (Nat.le_of_ble_eq_true rfl) (Nat.le_of_ble_eq_true rfl) d_X_count_83 ⟨rfl, rfl, rfl, by unfold zs_cnt; rw [if_neg t0, if_neg t1, if_neg t2, if_neg t3, if_neg t4, if_pos t5, show q 2 = 0 by omega]⟩
              · have c1 := mt (zn_eq (nI_toInt (by omega)) zn_0).mpr c1
                refine lv_iconst (v := nI 1) X.1 X.2.1 d_X_count_78 (by decide) ?_
                refine lv_goto (tgt := 83) X.1 X.2.1 d_X_count_79 (by decide) ?_
                exact zx_iret X hr hlk hH (Nat.le_of_ble_eq_true rfl) (Nat.le_of_ble_eq_true rfl) d_X_count_83 ⟨rfl, rfl, rfl, by unfold zs_cnt; rw [if_neg t0, if_neg t1, if_neg t2, if_neg t3, if_neg t4, if_pos t5, show q 2 = 1 by omega]⟩
            · skip
              refine lv_tableOut (tgt := 84) X.1 X.2.1 d_X_count_1 (by omega) (by decide) ?_
              refine lv_iload_n X.1 X.2.1 d_X_count_84 rfl (lv_at hl 1 rfl) ?_
              refine lv_bipush (v := nI 10) X.1 X.2.1 d_X_count_85 (by decide) ?_
              refine lv_isub X.1 X.2.1 d_X_count_87 ?_
              refine lv_istore_n (lv' := [(2, .int ((x) - (nI (10)))), (0, .ref (ad (0))), (1, .int (x))]) X.1 X.2.1 d_X_count_88 rfl hl (by decide) rfl (fun ls hl => ?_)
              refine lv_iload_n X.1 X.2.1 d_X_count_89 rfl (lv_at hl 0 rfl) ?_
              have hs := zn_sub10 x
              refine zx_calli (zx_runS (As := [.int ((x) - (nI (10)))]) (rest := []) X hH ms_X_52 ((c_X_isEvent g l N ad E (x - nI 10)) _) ⟨Nat.le_of_ble_eq_true rfl, Nat.le_of_ble_eq_true rfl⟩ rfl hl rfl (Nat.le_of_ble_eq_true rfl) d_X_count_90 ⟨Nat.le_of_ble_eq_true rfl, Nat.le_of_ble_eq_true rfl⟩) hH (fun r N1 ad1 E1 H locs hq hH => ?_)
              obtain ⟨rfl, rfl, rfl, rfl⟩ := hq
              by_cases d1 : 10 ≤ x.toInt ∧ x.toInt < 26
              · refine zx_top (b := nI 1) (by rw [if_pos (hs.mpr d1)]) ?_
                refine lv_if_eq (tgt := 107) X.1 X.2.1 d_X_count_93 (by decide) (fun z => absurd z (by decide)) (fun _ => ?_)
                refine lv_aload_n X.1 X.2.1 d_X_count_96 rfl (lv_at hl 1 rfl) ?_
                refine zx_get (v := .ref (ad (2))) X hH fg_X_18 (by omega) hT.1 rfl d_X_count_97 ?_
                refine lv_iload_n X.1 X.2.1 d_X_count_100 rfl (lv_at hl 0 rfl) ?_
                refine zx_top (zn_sub10e d1.1) ?_
                refine zx_calli (zx_runV (As := [.int (nI (x.toInt.toNat - 10))]) (rest := []) X hH mv_X_69 ((c_V_untaken g l N ad E 2 3 ev (by omega) (by omega) (by decide) hT.2.2.1 (x.toInt.toNat - 10) (by omega)) _) (by omega) hT.2.2.1.1 rfl ⟨Nat.le_of_ble_eq_true rfl, Nat.le_of_ble_eq_true rfl⟩ rfl hl rfl (Nat.le_of_ble_eq_true rfl) d_X_count_101 ⟨Nat.le_of_ble_eq_true rfl, Nat.le_of_ble_eq_true rfl⟩) hH (fun r N1 ad1 E1 H locs hq hH => ?_)
                obtain ⟨rfl, rfl, rfl, rfl⟩ := hq
                refine lv_goto (tgt := 108) X.1 X.2.1 d_X_count_104 (by decide) ?_
                exact zx_iret X hr hlk hH (Nat.le_of_ble_eq_true rfl) (Nat.le_of_ble_eq_true rfl) d_X_count_108 ⟨rfl, rfl, rfl, by unfold zs_cnt; rw [if_neg t0, if_neg t1, if_neg t2, if_neg t3, if_neg t4, if_neg t5, if_pos d1]⟩
              · refine zx_top (b := nI 0) (by rw [if_neg (fun z => d1 (hs.mp z))]) ?_
                refine lv_if_eq (tgt := 107) X.1 X.2.1 d_X_count_93 (by decide) (fun _ => ?_) (fun z => absurd rfl z)
                refine lv_iconst (v := (-1)) X.1 X.2.1 d_X_count_107 (by decide) ?_
                exact zx_iret X hr hlk hH (Nat.le_of_ble_eq_true rfl) (Nat.le_of_ble_eq_true rfl) d_X_count_108 ⟨rfl, rfl, rfl, by unfold zs_cnt; rw [if_neg t0, if_neg t1, if_neg t2, if_neg t3, if_neg t4, if_neg t5, if_neg d1]⟩

set_option maxHeartbeats 4000000 in
set_option maxRecDepth 100000 in
theorem c_X_run_off (g : zw_G) (l : Launch) (N : Nat) (ad : Nat → Nat) (E : Nat → va_E) (F : Nat) (q : Nat → Nat) (rg : zt_R) (ev sf lf : Nat → Nat) (hF8 : 8 ≤ F) (hN : N = F + 5 * q 0) (hT : zt_at g ad E F q rg ev sf lf) (hok : zt_ok q rg ev sf) (hcl : ¬ q 2 = 0) : zc_i g l y_X_run b_X_run 4 (some .int) { frames := 0, cells := 0, slots := 0, locals := 0 } [.ref (ad (0))] N ad E (fun v N1 ad1 E1 => N = N1 ∧ ad = ad1 ∧ E = E1 ∧ v = -5) := by
  refine zc_i.of (by decide) (Nat.le_of_ble_eq_true rfl) ?_
  intro p e s m below meth c ls A X hr hlk hl hH
  have hl : lv_has ls 4 [(0, .ref (ad (0)))] := hl
  obtain ⟨k0, k2, k3, k3a, k4, k4a, k5, k5a, k6, k6a⟩ := hok.1
  refine lv_aload_n X.1 X.2.1 d_X_run_0 rfl (lv_at hl 0 rfl) ?_
  refine zx_get (v := .int (nI (q 2))) X hH fg_X_34 (by omega) hT.1 rfl d_X_run_1 ?_
  refine lv_if_eq (tgt := 10) X.1 X.2.1 d_X_run_4 (by decide) (fun c1 => ?_) (fun c1 => ?_)
  · have c1 := (zn_eq (nI_toInt (by omega)) zn_0).mp c1
    exfalso; omega
  · have c1 := mt (zn_eq (nI_toInt (by omega)) zn_0).mpr c1
    refine lv_bipush (v := (-5)) X.1 X.2.1 d_X_run_7 (by decide) ?_
    exact zx_iret X hr hlk hH (Nat.le_of_ble_eq_true rfl) (Nat.le_of_ble_eq_true rfl) d_X_run_9 ⟨rfl, rfl, rfl, rfl⟩

set_option maxHeartbeats 4000000 in
set_option maxRecDepth 100000 in
theorem c_X_close_off (g : zw_G) (l : Launch) (N : Nat) (ad : Nat → Nat) (E : Nat → va_E) (F : Nat) (q : Nat → Nat) (rg : zt_R) (ev sf lf : Nat → Nat) (hF8 : 8 ≤ F) (hN : N = F + 5 * q 0) (hT : zt_at g ad E F q rg ev sf lf) (hok : zt_ok q rg ev sf) (hcl : ¬ q 2 = 0) : zc_i g l y_X_close b_X_close 2 (some .int) { frames := 0, cells := 0, slots := 0, locals := 0 } [.ref (ad (0))] N ad E (fun v N1 ad1 E1 => N = N1 ∧ ad = ad1 ∧ E = E1 ∧ v = -5) := by
  refine zc_i.of (by decide) (Nat.le_of_ble_eq_true rfl) ?_
  intro p e s m below meth c ls A X hr hlk hl hH
  have hl : lv_has ls 2 [(0, .ref (ad (0)))] := hl
  obtain ⟨k0, k2, k3, k3a, k4, k4a, k5, k5a, k6, k6a⟩ := hok.1
  refine lv_aload_n X.1 X.2.1 d_X_close_0 rfl (lv_at hl 0 rfl) ?_
  refine zx_get (v := .int (nI (q 2))) X hH fg_X_34 (by omega) hT.1 rfl d_X_close_1 ?_
  refine lv_if_eq (tgt := 10) X.1 X.2.1 d_X_close_4 (by decide) (fun c1 => ?_) (fun c1 => ?_)
  · have c1 := (zn_eq (nI_toInt (by omega)) zn_0).mp c1
    exfalso; omega
  · have c1 := mt (zn_eq (nI_toInt (by omega)) zn_0).mpr c1
    refine lv_bipush (v := (-5)) X.1 X.2.1 d_X_close_7 (by decide) ?_
    exact zx_iret X hr hlk hH (Nat.le_of_ble_eq_true rfl) (Nat.le_of_ble_eq_true rfl) d_X_close_9 ⟨rfl, rfl, rfl, rfl⟩

set_option maxHeartbeats 4000000 in
set_option maxRecDepth 100000 in
theorem c_X_shutdown_off (g : zw_G) (l : Launch) (N : Nat) (ad : Nat → Nat) (E : Nat → va_E) (F : Nat) (q : Nat → Nat) (rg : zt_R) (ev sf lf : Nat → Nat) (hF8 : 8 ≤ F) (hN : N = F + 5 * q 0) (hT : zt_at g ad E F q rg ev sf lf) (hok : zt_ok q rg ev sf) (hcl : ¬ q 2 = 0) (bq : Nat) : zc_i g l y_X_shutdown b_X_shutdown 3 (some .int) { frames := 0, cells := 0, slots := 0, locals := 0 } [.ref (ad (0)), .int (nI (bq))] N ad E (fun v N1 ad1 E1 => N = N1 ∧ ad = ad1 ∧ E = E1 ∧ v = -5) := by
  refine zc_i.of (by decide) (Nat.le_of_ble_eq_true rfl) ?_
  intro p e s m below meth c ls A X hr hlk hl hH
  have hl : lv_has ls 3 [(0, .ref (ad (0))), (1, .int (nI (bq)))] := hl
  obtain ⟨k0, k2, k3, k3a, k4, k4a, k5, k5a, k6, k6a⟩ := hok.1
  refine lv_aload_n X.1 X.2.1 d_X_shutdown_0 rfl (lv_at hl 0 rfl) ?_
  refine zx_get (v := .int (nI (q 2))) X hH fg_X_34 (by omega) hT.1 rfl d_X_shutdown_1 ?_
  refine lv_if_eq (tgt := 10) X.1 X.2.1 d_X_shutdown_4 (by decide) (fun c1 => ?_) (fun c1 => ?_)
  · have c1 := (zn_eq (nI_toInt (by omega)) zn_0).mp c1
    exfalso; omega
  · have c1 := mt (zn_eq (nI_toInt (by omega)) zn_0).mpr c1
    refine lv_bipush (v := (-5)) X.1 X.2.1 d_X_shutdown_7 (by decide) ?_
    exact zx_iret X hr hlk hH (Nat.le_of_ble_eq_true rfl) (Nat.le_of_ble_eq_true rfl) d_X_shutdown_9 ⟨rfl, rfl, rfl, rfl⟩

set_option maxHeartbeats 4000000 in
set_option maxRecDepth 100000 in
theorem c_X_close (g : zw_G) (l : Launch) (N : Nat) (ad : Nat → Nat) (E : Nat → va_E) (F : Nat) (q : Nat → Nat) (rg : zt_R) (ev sf lf : Nat → Nat) (hF8 : 8 ≤ F) (hN : N = F + 5 * q 0) (hT : zt_at g ad E F q rg ev sf lf) (hok : zt_ok q rg ev sf) (hop : q 2 = 0) : zc_i g l y_X_close b_X_close 2 (some .int) { frames := 3, cells := 0, slots := 0, locals := 120 } [.ref (ad (0))] N ad E (fun v N1 ad1 E1 => N = N1 ∧ ad = ad1 ∧ v = nI (zp_cnt (fun i => decide ((rg i).1 2 = 0)) (q 0)) ∧ zt_at g ad E1 F (va_up (va_up q 2 1) 3 0) (zp_map zp_left rg (q 0)) ev sf lf ∧ zt_fr E E1 F) := by
  refine zc_i.of (by decide) (Nat.le_of_ble_eq_true rfl) ?_
  intro p e s m below meth c ls A X hr hlk hl hH
  have hl : lv_has ls 2 [(0, .ref (ad (0)))] := hl
  obtain ⟨k0, k2, k3, k3a, k4, k4a, k5, k5a, k6, k6a⟩ := hok.1
  refine lv_aload_n X.1 X.2.1 d_X_close_0 rfl (lv_at hl 0 rfl) ?_
  refine zx_get (v := .int (nI (q 2))) X hH fg_X_34 (by omega) hT.1 rfl d_X_close_1 ?_
  refine lv_if_eq (tgt := 10) X.1 X.2.1 d_X_close_4 (by decide) (fun c1 => ?_) (fun c1 => ?_)
  · have c1 := (zn_eq (nI_toInt (by omega)) zn_0).mp c1
    refine lv_aload_n X.1 X.2.1 d_X_close_10 rfl (lv_at hl 0 rfl) ?_
    refine lv_iconst (v := nI 1) X.1 X.2.1 d_X_close_11 (by decide) ?_
    refine zx_put X hH fp_X_34 (by omega) hT.1 (Nat.le_of_ble_eq_true rfl) rfl rfl d_X_close_12 (fun H locs hH => ?_)
    have hH : zw_H g A s.heap s N ad (va_up E 0 (zt_o ad (va_up q 2 1))) H locs := hH
    have hT := hT.num (q1 := (va_up q 2 1)) hF8 rfl rfl rfl rfl rfl
    have hF : zt_fr E (va_up E 0 (zt_o ad (va_up q 2 1))) F := fun j a b => va_up_ne _ _ (by omega)
    generalize va_up E 0 (zt_o ad (va_up q 2 1)) = E1 at hH hT hF
    have hok1 := hok.cls
    refine lv_aload_n X.1 X.2.1 d_X_close_15 rfl (lv_at hl 0 rfl) ?_
    refine zx_get (v := .ref (ad (4))) X hH fg_X_27 (by omega) hT.1 rfl d_X_close_16 ?_
    refine zx_callv (zx_runV (As := []) (rest := []) X hH mv_X_88 ((c_O_makeEmpty g l N ad E1 4 5 600 ((va_up q 2 1) 3) ((va_up q 2 1) 4) sf (by omega) (by omega) (by decide) hok1.1.2.2.2.1 (Nat.le_trans hok1.1.2.2.2.2.2.1 (by decide)) (by decide) hT.2.2.2.1) _) (by omega) hT.2.2.2.1.1 rfl ⟨Nat.le_of_ble_eq_true rfl, Nat.le_of_ble_eq_true rfl⟩ rfl hl rfl (Nat.le_of_ble_eq_true rfl) d_X_close_19 ⟨(by dsimp only; omega), (by dsimp only; omega)⟩) hH (fun N1 ad1 E2 H locs hq hH => ?_)
    obtain ⟨rfl, rfl, hO, hf2⟩ := hq
    have hT := hT.sch (q1 := (va_up (va_up q 2 1) 3 0)) hF8 hN hO (fun _ _ _ => rfl) (fun j _ a b => hf2 j a b) rfl rfl rfl rfl rfl
    have hF := hF.tr (fun j a b => hf2 j (by omega) (by omega))
    have hok1 := hok1.clr
    refine lv_aload_n X.1 X.2.1 d_X_close_22 rfl (lv_at hl 0 rfl) ?_
    refine zx_calli (zx_runV (As := []) (rest := []) X hH mv_X_123 ((c_X_countGoingOn g l N ad E2 F (va_up (va_up q 2 1) 3 0) rg ev sf lf hF8 hN hT hok1) _) (by omega) hT.1 rfl ⟨Nat.le_of_ble_eq_true rfl, Nat.le_of_ble_eq_true rfl⟩ rfl hl rfl (Nat.le_of_ble_eq_true rfl) d_X_close_23 ⟨(by dsimp only; omega), (by dsimp only; omega)⟩) hH (fun r N1 ad1 E1 H locs hq hH => ?_)
    obtain ⟨rfl, rfl, rfl, rfl⟩ := hq
    refine lv_istore_n (lv' := [(1, .int (nI (zp_cnt (fun i => decide ((rg i).1 2 = 0)) (q 0)))), (0, .ref (ad (0)))]) X.1 X.2.1 d_X_close_26 rfl hl (by decide) rfl (fun ls hl => ?_)
    refine lv_aload_n X.1 X.2.1 d_X_close_27 rfl (lv_at hl 1 rfl) ?_
    refine zx_callv (zx_runV (As := []) (rest := []) X hH mv_X_114 ((c_X_leaveAll g l N ad E2 F (va_up (va_up q 2 1) 3 0) rg ev sf lf hF8 hN hT hok1) _) (by omega) hT.1 rfl ⟨Nat.le_of_ble_eq_true rfl, Nat.le_of_ble_eq_true rfl⟩ rfl hl rfl (Nat.le_of_ble_eq_true rfl) d_X_close_28 ⟨(by dsimp only; omega), (by dsimp only; omega)⟩) hH (fun N1 ad1 E3 H locs hq hH => ?_)
    obtain ⟨rfl, rfl, hT, hf3⟩ := hq
    have hF := hF.tr hf3
    refine lv_iload_n X.1 X.2.1 d_X_close_31 rfl (lv_at hl 0 rfl) ?_
    exact zx_iret X hr hlk hH (Nat.le_of_ble_eq_true rfl) (Nat.le_of_ble_eq_true rfl) d_X_close_32 ⟨rfl, rfl, rfl, hT, hF⟩
  · have c1 := mt (zn_eq (nI_toInt (by omega)) zn_0).mpr c1
    refine lv_bipush (v := (-5)) X.1 X.2.1 d_X_close_7 (by decide) ?_
    exfalso; omega

set_option maxHeartbeats 4000000 in
set_option maxRecDepth 100000 in
theorem c_X_quick (g : zw_G) (l : Launch) (N : Nat) (ad : Nat → Nat) (E : Nat → va_E) (F : Nat) (q : Nat → Nat) (rg : zt_R) (ev sf lf : Nat → Nat) (hF8 : 8 ≤ F) (hN : N = F + 5 * q 0) (hT : zt_at g ad E F q rg ev sf lf) (hok : zt_ok q rg ev sf) (hop : q 2 = 0) : zc_i g l y_X_shutdown b_X_shutdown 3 (some .int) { frames := 3, cells := 0, slots := 0, locals := 120 } [.ref (ad (0)), .int (nI (1))] N ad E (fun v N1 ad1 E1 => N = N1 ∧ ad = ad1 ∧ v = nI (zp_cnt (fun i => decide ((rg i).1 2 = 0 ∧ 0 < (rg i).1 3 - (rg i).1 4)) (q 0)) ∧ zt_at g ad E1 F (va_up q 3 0) (zp_map zp_left rg (q 0)) ev sf lf ∧ zt_fr E E1 F) := by
  refine zc_i.of (by decide) (Nat.le_of_ble_eq_true rfl) ?_
  intro p e s m below meth c ls A X hr hlk hl hH
  have hl : lv_has ls 3 [(0, .ref (ad (0))), (1, .int (nI (1)))] := hl
  obtain ⟨k0, k2, k3, k3a, k4, k4a, k5, k5a, k6, k6a⟩ := hok.1
  have hF : zt_fr E E F := zt_fr.rf
  have hok1 := hok
  refine lv_aload_n X.1 X.2.1 d_X_shutdown_0 rfl (lv_at hl 0 rfl) ?_
  refine zx_get (v := .int (nI (q 2))) X hH fg_X_34 (by omega) hT.1 rfl d_X_shutdown_1 ?_
  refine lv_if_eq (tgt := 10) X.1 X.2.1 d_X_shutdown_4 (by decide) (fun c1 => ?_) (fun c1 => ?_)
  · have c1 := (zn_eq (nI_toInt (by omega)) zn_0).mp c1
    refine lv_aload_n X.1 X.2.1 d_X_shutdown_10 rfl (lv_at hl 0 rfl) ?_
    refine zx_get (v := .ref (ad (4))) X hH fg_X_27 (by omega) hT.1 rfl d_X_shutdown_11 ?_
    refine zx_callv (zx_runV (As := []) (rest := []) X hH mv_X_88 ((c_O_makeEmpty g l N ad E 4 5 600 (q 3) (q 4) sf (by omega) (by omega) (by decide) hok1.1.2.2.2.1 (Nat.le_trans hok1.1.2.2.2.2.2.1 (by decide)) (by decide) hT.2.2.2.1) _) (by omega) hT.2.2.2.1.1 rfl ⟨Nat.le_of_ble_eq_true rfl, Nat.le_of_ble_eq_true rfl⟩ rfl hl rfl (Nat.le_of_ble_eq_true rfl) d_X_shutdown_14 ⟨(by dsimp only; omega), (by dsimp only; omega)⟩) hH (fun N1 ad1 E2 H locs hq hH => ?_)
    obtain ⟨rfl, rfl, hO, hf2⟩ := hq
    have hT := hT.sch (q1 := (va_up q 3 0)) hF8 hN hO (fun _ _ _ => rfl) (fun j _ a b => hf2 j a b) rfl rfl rfl rfl rfl
    have hF := hF.tr (fun j a b => hf2 j (by omega) (by omega))
    have hok1 := hok1.clr
    refine lv_iload_n X.1 X.2.1 d_X_shutdown_17 rfl (lv_at hl 1 rfl) ?_
    refine lv_if_ne (tgt := 29) X.1 X.2.1 d_X_shutdown_18 (by decide) (fun c2 => ?_) (fun c2 => ?_)
    · have c2 := mt (zn_eq (nI_toInt (by omega)) zn_0).mpr c2
      refine lv_aload_n X.1 X.2.1 d_X_shutdown_29 rfl (lv_at hl 0 rfl) ?_
      refine zx_calli (zx_runV (As := []) (rest := []) X hH mv_X_110 ((c_X_countOpenUnits g l N ad E2 F (va_up q 3 0) rg ev sf lf hF8 hN hT hok1) _) (by omega) hT.1 rfl ⟨Nat.le_of_ble_eq_true rfl, Nat.le_of_ble_eq_true rfl⟩ rfl hl rfl (Nat.le_of_ble_eq_true rfl) d_X_shutdown_30 ⟨(by dsimp only; omega), (by dsimp only; omega)⟩) hH (fun r N1 ad1 E1 H locs hq hH => ?_)
      obtain ⟨rfl, rfl, rfl, rfl⟩ := hq
      refine lv_istore_n (lv' := [(2, .int (nI (zp_cnt (fun i => decide ((rg i).1 2 = 0 ∧ 0 < (rg i).1 3 - (rg i).1 4)) (q 0)))), (0, .ref (ad (0))), (1, .int (nI (1)))]) X.1 X.2.1 d_X_shutdown_33 rfl hl (by decide) rfl (fun ls hl => ?_)
      refine lv_aload_n X.1 X.2.1 d_X_shutdown_34 rfl (lv_at hl 1 rfl) ?_
      refine zx_callv (zx_runV (As := []) (rest := []) X hH mv_X_114 ((c_X_leaveAll g l N ad E2 F (va_up q 3 0) rg ev sf lf hF8 hN hT hok1) _) (by omega) hT.1 rfl ⟨Nat.le_of_ble_eq_true rfl, Nat.le_of_ble_eq_true rfl⟩ rfl hl rfl (Nat.le_of_ble_eq_true rfl) d_X_shutdown_35 ⟨(by dsimp only; omega), (by dsimp only; omega)⟩) hH (fun N1 ad1 E3 H locs hq hH => ?_)
      obtain ⟨rfl, rfl, hT, hf3⟩ := hq
      have hF := hF.tr hf3
      refine lv_iload_n X.1 X.2.1 d_X_shutdown_38 rfl (lv_at hl 0 rfl) ?_
      exact zx_iret X hr hlk hH (Nat.le_of_ble_eq_true rfl) (Nat.le_of_ble_eq_true rfl) d_X_shutdown_39 ⟨rfl, rfl, rfl, hT, hF⟩
    · have c2 := (zn_eq (nI_toInt (by omega)) zn_0).mp c2
      exfalso; omega
  · have c1 := mt (zn_eq (nI_toInt (by omega)) zn_0).mpr c1
    refine lv_bipush (v := (-5)) X.1 X.2.1 d_X_shutdown_7 (by decide) ?_
    exfalso; omega

set_option maxHeartbeats 4000000 in
set_option maxRecDepth 100000 in
theorem c_X_slow (g : zw_G) (l : Launch) (N : Nat) (ad : Nat → Nat) (E : Nat → va_E) (F : Nat) (q : Nat → Nat) (rg : zt_R) (ev sf lf : Nat → Nat) (hF8 : 8 ≤ F) (hN : N = F + 5 * q 0) (hT : zt_at g ad E F q rg ev sf lf) (hok : zt_ok q rg ev sf) (hop : q 2 = 0) (kc ks : Nat) (hkc : (zp_rnds (q 0) 3031 ((va_up q 3 0), rg, ev, lf)).1 6 ≤ q 6 + kc) (hks : 2 * (zp_rnds (q 0) 3031 ((va_up q 3 0), rg, ev, lf)).1 6 ≤ 2 * q 6 + ks) : zc_i g l y_X_shutdown b_X_shutdown 3 (some .int) { frames := 7, cells := kc, slots := ks, locals := 280 } [.ref (ad (0)), .int (nI (0))] N ad E (fun v N1 ad1 E1 => N = N1 ∧ (∀ k, k ≠ 7 → k < N → ad1 k = ad k) ∧ v = nI (zp_cnt (fun i => decide (((zp_map zp_canc (zp_rnds (q 0) 3031 ((va_up q 3 0), rg, ev, lf)).2.1 (q 0)) i).1 2 = 0 ∧ 0 < ((zp_map zp_canc (zp_rnds (q 0) 3031 ((va_up q 3 0), rg, ev, lf)).2.1 (q 0)) i).1 3 - ((zp_map zp_canc (zp_rnds (q 0) 3031 ((va_up q 3 0), rg, ev, lf)).2.1 (q 0)) i).1 4)) (q 0)) ∧ zt_at g ad1 E1 F (zp_rnds (q 0) 3031 ((va_up q 3 0), rg, ev, lf)).1 (zp_map zp_left (zp_map zp_canc (zp_rnds (q 0) 3031 ((va_up q 3 0), rg, ev, lf)).2.1 (q 0)) (q 0)) (zp_rnds (q 0) 3031 ((va_up q 3 0), rg, ev, lf)).2.2.1 sf (zp_rnds (q 0) 3031 ((va_up q 3 0), rg, ev, lf)).2.2.2 ∧ zt_fr E E1 F) := by
  refine zc_i.of (by decide) (Nat.le_of_ble_eq_true rfl) ?_
  intro p e s m below meth c ls A X hr hlk hl hH
  have hl : lv_has ls 3 [(0, .ref (ad (0))), (1, .int (nI (0)))] := hl
  obtain ⟨k0, k2, k3, k3a, k4, k4a, k5, k5a, k6, k6a⟩ := hok.1
  have hF : zt_fr E E F := zt_fr.rf
  have hok1 := hok
  refine lv_aload_n X.1 X.2.1 d_X_shutdown_0 rfl (lv_at hl 0 rfl) ?_
  refine zx_get (v := .int (nI (q 2))) X hH fg_X_34 (by omega) hT.1 rfl d_X_shutdown_1 ?_
  refine lv_if_eq (tgt := 10) X.1 X.2.1 d_X_shutdown_4 (by decide) (fun c1 => ?_) (fun c1 => ?_)
  · have c1 := (zn_eq (nI_toInt (by omega)) zn_0).mp c1
    refine lv_aload_n X.1 X.2.1 d_X_shutdown_10 rfl (lv_at hl 0 rfl) ?_
    refine zx_get (v := .ref (ad (4))) X hH fg_X_27 (by omega) hT.1 rfl d_X_shutdown_11 ?_
    refine zx_callv (zx_runV (As := []) (rest := []) X hH mv_X_88 ((c_O_makeEmpty g l N ad E 4 5 600 (q 3) (q 4) sf (by omega) (by omega) (by decide) hok1.1.2.2.2.1 (Nat.le_trans hok1.1.2.2.2.2.2.1 (by decide)) (by decide) hT.2.2.2.1) _) (by omega) hT.2.2.2.1.1 rfl ⟨Nat.le_of_ble_eq_true rfl, Nat.le_of_ble_eq_true rfl⟩ rfl hl rfl (Nat.le_of_ble_eq_true rfl) d_X_shutdown_14 ⟨(by dsimp only; omega), (by dsimp only; omega)⟩) hH (fun N1 ad1 E2 H locs hq hH => ?_)
    obtain ⟨rfl, rfl, hO, hf2⟩ := hq
    have hT := hT.sch (q1 := (va_up q 3 0)) hF8 hN hO (fun _ _ _ => rfl) (fun j _ a b => hf2 j a b) rfl rfl rfl rfl rfl
    have hF := hF.tr (fun j a b => hf2 j (by omega) (by omega))
    have hok1 := hok1.clr
    refine lv_iload_n X.1 X.2.1 d_X_shutdown_17 rfl (lv_at hl 1 rfl) ?_
    refine lv_if_ne (tgt := 29) X.1 X.2.1 d_X_shutdown_18 (by decide) (fun c2 => ?_) (fun c2 => ?_)
    · have c2 := mt (zn_eq (nI_toInt (by omega)) zn_0).mpr c2
      exfalso; omega
    · have c2 := (zn_eq (nI_toInt (by omega)) zn_0).mp c2
      refine lv_aload_n X.1 X.2.1 d_X_shutdown_21 rfl (lv_at hl 0 rfl) ?_
      obtain ⟨G, hG⟩ : ∃ G, (zp_rnds (q 0) 3031 ((va_up q 3 0), rg, ev, lf)) = G := ⟨_, rfl⟩
      obtain ⟨g0, g1, g2, g3, g4, g6⟩ := zp_rnds_fix (q 0) 3031 ((va_up q 3 0), rg, ev, lf)
      have gok := zt_ok.rnds (sf := sf) (q 0) 3031 ((va_up q 3 0), rg, ev, lf) (Nat.le_refl _) hok1
      rw [hG] at g0 g1 g2 g3 g4 g6 gok hkc hks
      have g0 : G.1 0 = q 0 := g0
      have g6 : q 6 ≤ G.1 6 := g6
      refine zx_callv (zx_runV (As := []) (rest := []) X hH mv_X_104 ((c_X_giveRounds g l N ad E2 F (va_up q 3 0) rg ev sf lf hF8 hN hT hok1 (G.1 6 - q 6) (2 * (G.1 6 - q 6)) (by show ((zp_rnds (q 0) 3031 ((va_up q 3 0), rg, ev, lf))).1 6 ≤ q 6 + _; rw [hG]; omega) (by show 2 * ((zp_rnds (q 0) 3031 ((va_up q 3 0), rg, ev, lf))).1 6 ≤ 2 * q 6 + _; rw [hG]; omega)) _) (by omega) hT.1 rfl ⟨Nat.le_of_ble_eq_true rfl, Nat.le_of_ble_eq_true rfl⟩ rfl hl rfl (Nat.le_of_ble_eq_true rfl) d_X_shutdown_22 ⟨(by dsimp only; omega), (by dsimp only; omega)⟩) hH (fun N1 ad2 E3 H locs hq hH => ?_)
      obtain ⟨rfl, ha, hT, hf3⟩ := hq
      have hT : zt_at g ad2 E3 F ((zp_rnds (q 0) 3031 ((va_up q 3 0), rg, ev, lf))).1 ((zp_rnds (q 0) 3031 ((va_up q 3 0), rg, ev, lf))).2.1 ((zp_rnds (q 0) 3031 ((va_up q 3 0), rg, ev, lf))).2.2.1 sf ((zp_rnds (q 0) 3031 ((va_up q 3 0), rg, ev, lf))).2.2.2 := hT
      rw [hG] at hT
      have hF := hF.tr hf3
      have hN1 : N = F + 5 * G.1 0 := by rw [g0]; exact hN
      rw [← ha 0 (by decide) (by omega)] at hl
      refine W.cs (cells' := G.1 6 - q 6) (slots' := 2 * (G.1 6 - q 6)) (by dsimp only; omega) (by dsimp only; omega) ?_
      refine lv_aload_n X.1 X.2.1 d_X_shutdown_25 rfl (lv_at hl 0 rfl) ?_
      refine zx_callv (zx_runV (As := []) (rest := []) X hH mv_X_107 ((c_X_cancelThoseThatMay g l N ad2 E3 F G.1 G.2.1 G.2.2.1 sf G.2.2.2 hF8 hN1 hT gok) _) (by omega) hT.1 rfl ⟨Nat.le_of_ble_eq_true rfl, Nat.le_of_ble_eq_true rfl⟩ rfl hl rfl (Nat.le_of_ble_eq_true rfl) d_X_shutdown_26 ⟨(by dsimp only; omega), (by dsimp only; omega)⟩) hH (fun N1 ad1 E4 H locs hq hH => ?_)
      obtain ⟨rfl, rfl, hT, hf4⟩ := hq
      have hF := hF.tr hf4
      have gok2 := gok.map (fun _ h => zr_ok.canc h) (G.1 0)
      refine lv_aload_n X.1 X.2.1 d_X_shutdown_29 rfl (lv_at hl 0 rfl) ?_
      refine zx_calli (zx_runV (As := []) (rest := []) X hH mv_X_110 ((c_X_countOpenUnits g l N ad2 E4 F G.1 (zp_map zp_canc G.2.1 (G.1 0)) G.2.2.1 sf G.2.2.2 hF8 hN1 hT gok2) _) (by omega) hT.1 rfl ⟨Nat.le_of_ble_eq_true rfl, Nat.le_of_ble_eq_true rfl⟩ rfl hl rfl (Nat.le_of_ble_eq_true rfl) d_X_shutdown_30 ⟨(by dsimp only; omega), (by dsimp only; omega)⟩) hH (fun r N1 ad1 E1 H locs hq hH => ?_)
      obtain ⟨rfl, rfl, rfl, rfl⟩ := hq
      refine lv_istore_n (lv' := [(2, .int (nI (zp_cnt (fun i => decide (((zp_map zp_canc G.2.1 (G.1 0)) i).1 2 = 0 ∧ 0 < ((zp_map zp_canc G.2.1 (G.1 0)) i).1 3 - ((zp_map zp_canc G.2.1 (G.1 0)) i).1 4)) (G.1 0)))), (0, .ref (ad2 (0))), (1, .int (nI (0)))]) X.1 X.2.1 d_X_shutdown_33 rfl hl (by decide) rfl (fun ls hl => ?_)
      refine lv_aload_n X.1 X.2.1 d_X_shutdown_34 rfl (lv_at hl 1 rfl) ?_
      refine zx_callv (zx_runV (As := []) (rest := []) X hH mv_X_114 ((c_X_leaveAll g l N ad2 E4 F G.1 (zp_map zp_canc G.2.1 (G.1 0)) G.2.2.1 sf G.2.2.2 hF8 hN1 hT gok2) _) (by omega) hT.1 rfl ⟨Nat.le_of_ble_eq_true rfl, Nat.le_of_ble_eq_true rfl⟩ rfl hl rfl (Nat.le_of_ble_eq_true rfl) d_X_shutdown_35 ⟨(by dsimp only; omega), (by dsimp only; omega)⟩) hH (fun N1 ad1 E5 H locs hq hH => ?_)
      obtain ⟨rfl, rfl, hT, hf5⟩ := hq
      have hF := hF.tr hf5
      refine lv_iload_n X.1 X.2.1 d_X_shutdown_38 rfl (lv_at hl 0 rfl) ?_
      rw [g0] at hT
      refine zx_top (b := nI (zp_cnt (fun i => decide (((zp_map zp_canc G.2.1 (q 0)) i).1 2 = 0 ∧ 0 < ((zp_map zp_canc G.2.1 (q 0)) i).1 3 - ((zp_map zp_canc G.2.1 (q 0)) i).1 4)) (q 0))) (by rw [g0]) ?_
      exact zx_iret X hr hlk hH (by dsimp only; omega) (by dsimp only; omega) d_X_shutdown_39 ⟨rfl, ha, by rw [hG], by rw [hG]; exact hT, hF⟩
  · have c1 := mt (zn_eq (nI_toInt (by omega)) zn_0).mpr c1
    refine lv_bipush (v := (-5)) X.1 X.2.1 d_X_shutdown_7 (by decide) ?_
    exfalso; omega
end
section
/-- a new region's numbers -/
def zp_new (st fl : Nat) : Nat → Nat := fun j => if j = 0 then st else if j = 1 then fl else 0
set_option maxHeartbeats 4000000 in
set_option maxRecDepth 100000 in
theorem c_V_init (g : zw_G) (l : Launch) (ad : Nat → Nat) (E : Nat → va_E) (b : Nat) (c_0 : E b = .inr (0, [.null])) : zc_v g l y_V_init b_V_init 1 { frames := 1, cells := 1, slots := 16, locals := 40 } [.ref (ad b)] (b + 1) ad E (fun N1 ad1 E1 => b + 2 = N1 ∧ (∀ k, k < b + 1 → ad1 k = ad k) ∧ ze_at g ad1 E1 b (b + 1) (fun _ => 0) ∧ ∀ k, k < b → E1 k = E k) := by
  refine zc_v.of (by decide) (Nat.le_of_ble_eq_true rfl) ?_
  intro p e s m below meth c ls A X hr hlk hnm hl hH
  have hl : lv_has ls 1 [(0, .ref (ad b))] := hl
  refine lv_aload_n X.1 X.2.1 d_V_init_0 rfl (lv_at hl 0 rfl) ?_
  refine zx_obj X hl zj_V (Nat.le_of_ble_eq_true rfl) (Nat.le_of_ble_eq_true rfl) d_V_init_1 ?_
  refine lv_aload_n X.1 X.2.1 d_V_init_4 rfl (lv_at hl 0 rfl) ?_
  refine lv_bipush (v := nI 16) X.1 X.2.1 d_V_init_5 (by decide) ?_
  refine zx_newi (j := 16) X hH zw_arrI rfl (by decide) (by dsimp only; omega) (by dsimp only; omega) d_V_init_7 (fun q0 H hH => ?_)
  have hH : zw_H g A s.heap s (b + 1 + 1) (va_up ad (b + 1) q0) (va_up E (b + 1) (zr_ia g 16 (fun _ => 0))) H _ := hH
  obtain ⟨ad1, had1⟩ : ∃ x, x = va_up ad (b + 1) q0 := ⟨_, rfl⟩
  obtain ⟨E1, hE1⟩ : ∃ x, x = va_up E (b + 1) (zr_ia g 16 (fun _ => 0)) := ⟨_, rfl⟩
  rw [← had1, ← hE1] at hH
  have a_1 : ∀ k, k < b + 1 → ad1 k = ad k := fun k hk => by rw [had1]; exact va_up_ne _ _ (by omega)
  have e_1 : ∀ k, k ≠ b + 1 → E1 k = E k := fun k hk => by rw [hE1]; exact va_up_ne _ _ hk
  have n_1 : E1 (b + 1) = (zr_ia g 16 (fun _ => 0)) := by rw [hE1]; exact va_up_self _ _ _
  refine W.eq (g2 := F0 m 9 ls [.ref (ad1 (b + 1)), .ref (ad1 (b))]) (by rw [had1, va_up_ne _ _ (show b ≠ b + 1 by omega)]) ?_
  rw [← a_1 (b) (by omega)] at hl
  have c_0 := (e_1 (b) (by omega)).trans c_0
  have c_1 := n_1
  refine zx_putF X hH fp_V_9 hnm rfl (by omega) c_0 (Nat.le_of_ble_eq_true rfl) rfl rfl d_V_init_9 (fun H locs hH => ?_)
  have hH : zw_H g A s.heap s (b + 2) ad1 (va_up E1 (b) (ze_o ad1 (b + 1))) H locs := hH
  obtain ⟨E2, hE2⟩ : ∃ x, x = va_up E1 (b) (ze_o ad1 (b + 1)) := ⟨_, rfl⟩
  rw [← hE2] at hH
  have e_2 : ∀ k, k ≠ b → E2 k = E1 k := fun k hk => by rw [hE2]; exact va_up_ne _ _ hk
  have c_0 : E2 (b) = (ze_o ad1 (b + 1)) := by rw [hE2]; exact va_up_self _ _ _
  have c_1 := (e_2 (b + 1) (by omega)).trans c_1
  exact zx_vret X hr hlk hH (by dsimp only; omega) (by dsimp only; omega) d_V_init_12 ⟨rfl, fun k hk => by rw [a_1 k (by omega)], ⟨c_0, c_1⟩, fun k hk => by rw [e_2 k (by omega), e_1 k (by omega)]⟩

set_option maxHeartbeats 4000000 in
set_option maxRecDepth 100000 in
theorem c_O_init (g : zw_G) (l : Launch) (ad : Nat → Nat) (E : Nat → va_E) (b lim : Nat) (c_0 : E b = .inr (2, [.int (nI 0), .null, .int (nI 0)])) : zc_v g l y_O_init b_O_init 2 { frames := 1, cells := 1, slots := 16, locals := 40 } [.ref (ad b), .int (nI lim)] (b + 1) ad E (fun N1 ad1 E1 => b + 2 = N1 ∧ (∀ k, k < b + 1 → ad1 k = ad k) ∧ zo_at g ad1 E1 b (b + 1) lim 0 16 (fun _ => 0) ∧ ∀ k, k < b → E1 k = E k) := by
  refine zc_v.of (by decide) (Nat.le_of_ble_eq_true rfl) ?_
  intro p e s m below meth c ls A X hr hlk hnm hl hH
  have hl : lv_has ls 2 [(0, .ref (ad b)), (1, .int (nI lim))] := hl
  refine lv_aload_n X.1 X.2.1 d_O_init_0 rfl (lv_at hl 0 rfl) ?_
  refine zx_obj X hl zj_O (Nat.le_of_ble_eq_true rfl) (Nat.le_of_ble_eq_true rfl) d_O_init_1 ?_
  refine lv_aload_n X.1 X.2.1 d_O_init_4 rfl (lv_at hl 0 rfl) ?_
  refine lv_bipush (v := nI 16) X.1 X.2.1 d_O_init_5 (by decide) ?_
  refine zx_newi (j := 16) X hH zw_arrI rfl (by decide) (by dsimp only; omega) (by dsimp only; omega) d_O_init_7 (fun q0 H hH => ?_)
  have hH : zw_H g A s.heap s (b + 1 + 1) (va_up ad (b + 1) q0) (va_up E (b + 1) (zr_ia g 16 (fun _ => 0))) H _ := hH
  obtain ⟨ad1, had1⟩ : ∃ x, x = va_up ad (b + 1) q0 := ⟨_, rfl⟩
  obtain ⟨E1, hE1⟩ : ∃ x, x = va_up E (b + 1) (zr_ia g 16 (fun _ => 0)) := ⟨_, rfl⟩
  rw [← had1, ← hE1] at hH
  have a_1 : ∀ k, k < b + 1 → ad1 k = ad k := fun k hk => by rw [had1]; exact va_up_ne _ _ (by omega)
  have e_1 : ∀ k, k ≠ b + 1 → E1 k = E k := fun k hk => by rw [hE1]; exact va_up_ne _ _ hk
  have n_1 : E1 (b + 1) = (zr_ia g 16 (fun _ => 0)) := by rw [hE1]; exact va_up_self _ _ _
  refine W.eq (g2 := F0 m 9 ls [.ref (ad1 (b + 1)), .ref (ad1 (b))]) (by rw [had1, va_up_ne _ _ (show b ≠ b + 1 by omega)]) ?_
  rw [← a_1 (b) (by omega)] at hl
  have c_0 := (e_1 (b) (by omega)).trans c_0
  have c_1 := n_1
  refine zx_put X hH fp_O_9 (by omega) c_0 (Nat.le_of_ble_eq_true rfl) rfl rfl d_O_init_9 (fun H locs hH => ?_)
  have hH : zw_H g A s.heap s (b + 2) ad1 (va_up E1 (b) (.inr (2, [.int (nI 0), .ref (ad1 (b + 1)), .int (nI 0)]))) H locs := hH
  obtain ⟨E2, hE2⟩ : ∃ x, x = va_up E1 (b) (.inr (2, [.int (nI 0), .ref (ad1 (b + 1)), .int (nI 0)])) := ⟨_, rfl⟩
  rw [← hE2] at hH
  have e_2 : ∀ k, k ≠ b → E2 k = E1 k := fun k hk => by rw [hE2]; exact va_up_ne _ _ hk
  have c_0 : E2 (b) = (.inr (2, [.int (nI 0), .ref (ad1 (b + 1)), .int (nI 0)])) := by rw [hE2]; exact va_up_self _ _ _
  have c_1 := (e_2 (b + 1) (by omega)).trans c_1
  refine lv_aload_n X.1 X.2.1 d_O_init_12 rfl (lv_at hl 0 rfl) ?_
  refine lv_iload_n X.1 X.2.1 d_O_init_13 rfl (lv_at hl 1 rfl) ?_
  refine zx_putF X hH fp_O_13 hnm rfl (by omega) c_0 (Nat.le_of_ble_eq_true rfl) rfl rfl d_O_init_14 (fun H locs hH => ?_)
  have hH : zw_H g A s.heap s (b + 2) ad1 (va_up E2 (b) (zo_o ad1 (b + 1) lim 0)) H locs := hH
  obtain ⟨E3, hE3⟩ : ∃ x, x = va_up E2 (b) (zo_o ad1 (b + 1) lim 0) := ⟨_, rfl⟩
  rw [← hE3] at hH
  have e_3 : ∀ k, k ≠ b → E3 k = E2 k := fun k hk => by rw [hE3]; exact va_up_ne _ _ hk
  have c_0 : E3 (b) = (zo_o ad1 (b + 1) lim 0) := by rw [hE3]; exact va_up_self _ _ _
  have c_1 := (e_3 (b + 1) (by omega)).trans c_1
  exact zx_vret X hr hlk hH (by dsimp only; omega) (by dsimp only; omega) d_O_init_17 ⟨rfl, fun k hk => by rw [a_1 k (by omega)], ⟨c_0, c_1⟩, fun k hk => by rw [e_3 k (by omega), e_2 k (by omega), e_1 k (by omega)]⟩

set_option maxHeartbeats 4000000 in
set_option maxRecDepth 100000 in
theorem c_R_init (g : zw_G) (l : Launch) (ad : Nat → Nat) (E : Nat → va_E) (b st fl : Nat) (c_0 : E b = .inr (1, [.int (nI 0), .int (nI 0), .int (nI 0), .int (nI 0), .int (nI 0), .int (nI 0), .int (nI 0), .int (nI 0), .int (nI 0), .null, .null, .null, .null])) : zc_v g l y_R_init b_R_init 3 { frames := 1, cells := 4, slots := 161, locals := 40 } [.ref (ad b), .int (nI st), .int (nI fl)] (b + 1) ad E (fun N1 ad1 E1 => b + 5 = N1 ∧ (∀ k, k < b + 1 → ad1 k = ad k) ∧ zr_at g ad1 E1 b (zp_new st fl) (fun _ _ => 0) ∧ ∀ k, k < b → E1 k = E k) := by
  refine zc_v.of (by decide) (Nat.le_of_ble_eq_true rfl) ?_
  intro p e s m below meth c ls A X hr hlk hnm hl hH
  have hl : lv_has ls 3 [(0, .ref (ad b)), (1, .int (nI st)), (2, .int (nI fl))] := hl
  refine lv_aload_n X.1 X.2.1 d_R_init_0 rfl (lv_at hl 0 rfl) ?_
  refine zx_obj X hl zj_R (Nat.le_of_ble_eq_true rfl) (Nat.le_of_ble_eq_true rfl) d_R_init_1 ?_
  refine lv_aload_n X.1 X.2.1 d_R_init_4 rfl (lv_at hl 0 rfl) ?_
  refine lv_iconst (v := nI 0) X.1 X.2.1 d_R_init_5 (by decide) ?_
  refine zx_put X hH fp_R_9 (by omega) c_0 (Nat.le_of_ble_eq_true rfl) rfl rfl d_R_init_6 (fun H locs hH => ?_)
  have hH : zw_H g A s.heap s (b + 1) ad (va_up E (b) (.inr (1, [.int (nI 0), .int (nI 0), .int (nI 0), .int (nI 0), .int (nI 0), .int (nI 0), .int (nI 0), .int (nI 0), .int (nI 0), .null, .null, .null, .null]))) H locs := hH
  obtain ⟨E1, hE1⟩ : ∃ x, x = va_up E (b) (.inr (1, [.int (nI 0), .int (nI 0), .int (nI 0), .int (nI 0), .int (nI 0), .int (nI 0), .int (nI 0), .int (nI 0), .int (nI 0), .null, .null, .null, .null])) := ⟨_, rfl⟩
  rw [← hE1] at hH
  have e_1 : ∀ k, k ≠ b → E1 k = E k := fun k hk => by rw [hE1]; exact va_up_ne _ _ hk
  have c_0 : E1 (b) = (.inr (1, [.int (nI 0), .int (nI 0), .int (nI 0), .int (nI 0), .int (nI 0), .int (nI 0), .int (nI 0), .int (nI 0), .int (nI 0), .null, .null, .null, .null])) := by rw [hE1]; exact va_up_self _ _ _
  refine lv_aload_n X.1 X.2.1 d_R_init_9 rfl (lv_at hl 0 rfl) ?_
  refine lv_bipush (v := nI 20) X.1 X.2.1 d_R_init_10 (by decide) ?_
  refine zx_newi (j := 20) X hH zw_arrI rfl (by decide) (by dsimp only; omega) (by dsimp only; omega) d_R_init_12 (fun q0 H hH => ?_)
  have hH : zw_H g A s.heap s (b + 1 + 1) (va_up ad (b + 1) q0) (va_up E1 (b + 1) (zr_ia g 20 (fun _ => 0))) H _ := hH
  obtain ⟨ad2, had2⟩ : ∃ x, x = va_up ad (b + 1) q0 := ⟨_, rfl⟩
  obtain ⟨E2, hE2⟩ : ∃ x, x = va_up E1 (b + 1) (zr_ia g 20 (fun _ => 0)) := ⟨_, rfl⟩
  rw [← had2, ← hE2] at hH
  have a_2 : ∀ k, k < b + 1 → ad2 k = ad k := fun k hk => by rw [had2]; exact va_up_ne _ _ (by omega)
  have e_2 : ∀ k, k ≠ b + 1 → E2 k = E1 k := fun k hk => by rw [hE2]; exact va_up_ne _ _ hk
  have n_2 : E2 (b + 1) = (zr_ia g 20 (fun _ => 0)) := by rw [hE2]; exact va_up_self _ _ _
  refine W.eq (g2 := F0 m 14 ls [.ref (ad2 (b + 1)), .ref (ad2 (b))]) (by rw [had2, va_up_ne _ _ (show b ≠ b + 1 by omega)]) ?_
  rw [← a_2 (b) (by omega)] at hl
  have c_0 := (e_2 (b) (by omega)).trans c_0
  have c_1 := n_2
  refine zx_putF X hH fp_R_15 hnm rfl (by omega) c_0 (Nat.le_of_ble_eq_true rfl) rfl rfl d_R_init_14 (fun H locs hH => ?_)
  have hH : zw_H g A s.heap s (b + 2) ad2 (va_up E2 (b) (.inr (1, [.int (nI 0), .int (nI 0), .int (nI 0), .int (nI 0), .int (nI 0), .int (nI 0), .int (nI 0), .int (nI 0), .int (nI 0), .ref (ad2 (b + 1)), .null, .null, .null]))) H locs := hH
  obtain ⟨E3, hE3⟩ : ∃ x, x = va_up E2 (b) (.inr (1, [.int (nI 0), .int (nI 0), .int (nI 0), .int (nI 0), .int (nI 0), .int (nI 0), .int (nI 0), .int (nI 0), .int (nI 0), .ref (ad2 (b + 1)), .null, .null, .null])) := ⟨_, rfl⟩
  rw [← hE3] at hH
  have e_3 : ∀ k, k ≠ b → E3 k = E2 k := fun k hk => by rw [hE3]; exact va_up_ne _ _ hk
  have c_0 : E3 (b) = (.inr (1, [.int (nI 0), .int (nI 0), .int (nI 0), .int (nI 0), .int (nI 0), .int (nI 0), .int (nI 0), .int (nI 0), .int (nI 0), .ref (ad2 (b + 1)), .null, .null, .null])) := by rw [hE3]; exact va_up_self _ _ _
  have c_1 := (e_3 (b + 1) (by omega)).trans c_1
  refine lv_aload_n X.1 X.2.1 d_R_init_17 rfl (lv_at hl 0 rfl) ?_
  refine lv_bipush (v := nI 20) X.1 X.2.1 d_R_init_18 (by decide) ?_
  refine zx_newi (j := 20) X hH zw_arrI rfl (by decide) (by dsimp only; omega) (by dsimp only; omega) d_R_init_20 (fun q0 H hH => ?_)
  have hH : zw_H g A s.heap s (b + 2 + 1) (va_up ad2 (b + 2) q0) (va_up E3 (b + 2) (zr_ia g 20 (fun _ => 0))) H _ := hH
  obtain ⟨ad4, had4⟩ : ∃ x, x = va_up ad2 (b + 2) q0 := ⟨_, rfl⟩
  obtain ⟨E4, hE4⟩ : ∃ x, x = va_up E3 (b + 2) (zr_ia g 20 (fun _ => 0)) := ⟨_, rfl⟩
  rw [← had4, ← hE4] at hH
  have a_4 : ∀ k, k < b + 2 → ad4 k = ad2 k := fun k hk => by rw [had4]; exact va_up_ne _ _ (by omega)
  have e_4 : ∀ k, k ≠ b + 2 → E4 k = E3 k := fun k hk => by rw [hE4]; exact va_up_ne _ _ hk
  have n_4 : E4 (b + 2) = (zr_ia g 20 (fun _ => 0)) := by rw [hE4]; exact va_up_self _ _ _
  refine W.eq (g2 := F0 m 22 ls [.ref (ad4 (b + 2)), .ref (ad4 (b))]) (by rw [had4, va_up_ne _ _ (show b ≠ b + 2 by omega)]) ?_
  rw [← a_4 (b) (by omega)] at hl
  have c_0 := (e_4 (b) (by omega)).trans c_0
  have c_1 := (e_4 (b + 1) (by omega)).trans c_1
  have c_2 := n_4
  have c_0 : E4 b = (.inr (1, [.int (nI 0), .int (nI 0), .int (nI 0), .int (nI 0), .int (nI 0), .int (nI 0), .int (nI 0), .int (nI 0), .int (nI 0), .ref (ad4 (b + 1)), .null, .null, .null])) := by rw [a_4 (b + 1) (by omega)]; exact c_0
  refine zx_putF X hH fp_R_19 hnm rfl (by omega) c_0 (Nat.le_of_ble_eq_true rfl) rfl rfl d_R_init_22 (fun H locs hH => ?_)
  have hH : zw_H g A s.heap s (b + 3) ad4 (va_up E4 (b) (.inr (1, [.int (nI 0), .int (nI 0), .int (nI 0), .int (nI 0), .int (nI 0), .int (nI 0), .int (nI 0), .int (nI 0), .int (nI 0), .ref (ad4 (b + 1)), .ref (ad4 (b + 2)), .null, .null]))) H locs := hH
  obtain ⟨E5, hE5⟩ : ∃ x, x = va_up E4 (b) (.inr (1, [.int (nI 0), .int (nI 0), .int (nI 0), .int (nI 0), .int (nI 0), .int (nI 0), .int (nI 0), .int (nI 0), .int (nI 0), .ref (ad4 (b + 1)), .ref (ad4 (b + 2)), .null, .null])) := ⟨_, rfl⟩
  rw [← hE5] at hH
  have e_5 : ∀ k, k ≠ b → E5 k = E4 k := fun k hk => by rw [hE5]; exact va_up_ne _ _ hk
  have c_0 : E5 (b) = (.inr (1, [.int (nI 0), .int (nI 0), .int (nI 0), .int (nI 0), .int (nI 0), .int (nI 0), .int (nI 0), .int (nI 0), .int (nI 0), .ref (ad4 (b + 1)), .ref (ad4 (b + 2)), .null, .null])) := by rw [hE5]; exact va_up_self _ _ _
  have c_1 := (e_5 (b + 1) (by omega)).trans c_1
  have c_2 := (e_5 (b + 2) (by omega)).trans c_2
  refine lv_aload_n X.1 X.2.1 d_R_init_25 rfl (lv_at hl 0 rfl) ?_
  refine lv_bipush (v := nI 20) X.1 X.2.1 d_R_init_26 (by decide) ?_
  refine zx_newz (j := 20) X hH zw_arrZ rfl (by decide) (by dsimp only; omega) (by dsimp only; omega) d_R_init_28 (fun q0 H hH => ?_)
  have hH : zw_H g A s.heap s (b + 3 + 1) (va_up ad4 (b + 3) q0) (va_up E5 (b + 3) (zr_za g 20 (fun _ => 0))) H _ := hH
  obtain ⟨ad6, had6⟩ : ∃ x, x = va_up ad4 (b + 3) q0 := ⟨_, rfl⟩
  obtain ⟨E6, hE6⟩ : ∃ x, x = va_up E5 (b + 3) (zr_za g 20 (fun _ => 0)) := ⟨_, rfl⟩
  rw [← had6, ← hE6] at hH
  have a_6 : ∀ k, k < b + 3 → ad6 k = ad4 k := fun k hk => by rw [had6]; exact va_up_ne _ _ (by omega)
  have e_6 : ∀ k, k ≠ b + 3 → E6 k = E5 k := fun k hk => by rw [hE6]; exact va_up_ne _ _ hk
  have n_6 : E6 (b + 3) = (zr_za g 20 (fun _ => 0)) := by rw [hE6]; exact va_up_self _ _ _
  refine W.eq (g2 := F0 m 30 ls [.ref (ad6 (b + 3)), .ref (ad6 (b))]) (by rw [had6, va_up_ne _ _ (show b ≠ b + 3 by omega)]) ?_
  rw [← a_6 (b) (by omega)] at hl
  have c_0 := (e_6 (b) (by omega)).trans c_0
  have c_1 := (e_6 (b + 1) (by omega)).trans c_1
  have c_2 := (e_6 (b + 2) (by omega)).trans c_2
  have c_3 := n_6
  have c_0 : E6 b = (.inr (1, [.int (nI 0), .int (nI 0), .int (nI 0), .int (nI 0), .int (nI 0), .int (nI 0), .int (nI 0), .int (nI 0), .int (nI 0), .ref (ad6 (b + 1)), .ref (ad6 (b + 2)), .null, .null])) := by rw [a_6 (b + 1) (by omega), a_6 (b + 2) (by omega)]; exact c_0
  refine zx_putF X hH fp_R_22 hnm rfl (by omega) c_0 (Nat.le_of_ble_eq_true rfl) rfl rfl d_R_init_30 (fun H locs hH => ?_)
  have hH : zw_H g A s.heap s (b + 4) ad6 (va_up E6 (b) (.inr (1, [.int (nI 0), .int (nI 0), .int (nI 0), .int (nI 0), .int (nI 0), .int (nI 0), .int (nI 0), .int (nI 0), .int (nI 0), .ref (ad6 (b + 1)), .ref (ad6 (b + 2)), .ref (ad6 (b + 3)), .null]))) H locs := hH
  obtain ⟨E7, hE7⟩ : ∃ x, x = va_up E6 (b) (.inr (1, [.int (nI 0), .int (nI 0), .int (nI 0), .int (nI 0), .int (nI 0), .int (nI 0), .int (nI 0), .int (nI 0), .int (nI 0), .ref (ad6 (b + 1)), .ref (ad6 (b + 2)), .ref (ad6 (b + 3)), .null])) := ⟨_, rfl⟩
  rw [← hE7] at hH
  have e_7 : ∀ k, k ≠ b → E7 k = E6 k := fun k hk => by rw [hE7]; exact va_up_ne _ _ hk
  have c_0 : E7 (b) = (.inr (1, [.int (nI 0), .int (nI 0), .int (nI 0), .int (nI 0), .int (nI 0), .int (nI 0), .int (nI 0), .int (nI 0), .int (nI 0), .ref (ad6 (b + 1)), .ref (ad6 (b + 2)), .ref (ad6 (b + 3)), .null])) := by rw [hE7]; exact va_up_self _ _ _
  have c_1 := (e_7 (b + 1) (by omega)).trans c_1
  have c_2 := (e_7 (b + 2) (by omega)).trans c_2
  have c_3 := (e_7 (b + 3) (by omega)).trans c_3
  refine lv_aload_n X.1 X.2.1 d_R_init_33 rfl (lv_at hl 0 rfl) ?_
  refine lv_bipush (v := nI 101) X.1 X.2.1 d_R_init_34 (by decide) ?_
  refine zx_newi (j := 101) X hH zw_arrI rfl (by decide) (by dsimp only; omega) (by dsimp only; omega) d_R_init_36 (fun q0 H hH => ?_)
  have hH : zw_H g A s.heap s (b + 4 + 1) (va_up ad6 (b + 4) q0) (va_up E7 (b + 4) (zr_ia g 101 (fun _ => 0))) H _ := hH
  obtain ⟨ad8, had8⟩ : ∃ x, x = va_up ad6 (b + 4) q0 := ⟨_, rfl⟩
  obtain ⟨E8, hE8⟩ : ∃ x, x = va_up E7 (b + 4) (zr_ia g 101 (fun _ => 0)) := ⟨_, rfl⟩
  rw [← had8, ← hE8] at hH
  have a_8 : ∀ k, k < b + 4 → ad8 k = ad6 k := fun k hk => by rw [had8]; exact va_up_ne _ _ (by omega)
  have e_8 : ∀ k, k ≠ b + 4 → E8 k = E7 k := fun k hk => by rw [hE8]; exact va_up_ne _ _ hk
  have n_8 : E8 (b + 4) = (zr_ia g 101 (fun _ => 0)) := by rw [hE8]; exact va_up_self _ _ _
  refine W.eq (g2 := F0 m 38 ls [.ref (ad8 (b + 4)), .ref (ad8 (b))]) (by rw [had8, va_up_ne _ _ (show b ≠ b + 4 by omega)]) ?_
  rw [← a_8 (b) (by omega)] at hl
  have c_0 := (e_8 (b) (by omega)).trans c_0
  have c_1 := (e_8 (b + 1) (by omega)).trans c_1
  have c_2 := (e_8 (b + 2) (by omega)).trans c_2
  have c_3 := (e_8 (b + 3) (by omega)).trans c_3
  have c_4 := n_8
  have c_0 : E8 b = (.inr (1, [.int (nI 0), .int (nI 0), .int (nI 0), .int (nI 0), .int (nI 0), .int (nI 0), .int (nI 0), .int (nI 0), .int (nI 0), .ref (ad8 (b + 1)), .ref (ad8 (b + 2)), .ref (ad8 (b + 3)), .null])) := by rw [a_8 (b + 1) (by omega), a_8 (b + 2) (by omega), a_8 (b + 3) (by omega)]; exact c_0
  refine zx_putF X hH fp_R_26 hnm rfl (by omega) c_0 (Nat.le_of_ble_eq_true rfl) rfl rfl d_R_init_38 (fun H locs hH => ?_)
  have hH : zw_H g A s.heap s (b + 5) ad8 (va_up E8 (b) (.inr (1, [.int (nI 0), .int (nI 0), .int (nI 0), .int (nI 0), .int (nI 0), .int (nI 0), .int (nI 0), .int (nI 0), .int (nI 0), .ref (ad8 (b + 1)), .ref (ad8 (b + 2)), .ref (ad8 (b + 3)), .ref (ad8 (b + 4))]))) H locs := hH
  obtain ⟨E9, hE9⟩ : ∃ x, x = va_up E8 (b) (.inr (1, [.int (nI 0), .int (nI 0), .int (nI 0), .int (nI 0), .int (nI 0), .int (nI 0), .int (nI 0), .int (nI 0), .int (nI 0), .ref (ad8 (b + 1)), .ref (ad8 (b + 2)), .ref (ad8 (b + 3)), .ref (ad8 (b + 4))])) := ⟨_, rfl⟩
  rw [← hE9] at hH
  have e_9 : ∀ k, k ≠ b → E9 k = E8 k := fun k hk => by rw [hE9]; exact va_up_ne _ _ hk
  have c_0 : E9 (b) = (.inr (1, [.int (nI 0), .int (nI 0), .int (nI 0), .int (nI 0), .int (nI 0), .int (nI 0), .int (nI 0), .int (nI 0), .int (nI 0), .ref (ad8 (b + 1)), .ref (ad8 (b + 2)), .ref (ad8 (b + 3)), .ref (ad8 (b + 4))])) := by rw [hE9]; exact va_up_self _ _ _
  have c_1 := (e_9 (b + 1) (by omega)).trans c_1
  have c_2 := (e_9 (b + 2) (by omega)).trans c_2
  have c_3 := (e_9 (b + 3) (by omega)).trans c_3
  have c_4 := (e_9 (b + 4) (by omega)).trans c_4
  refine lv_aload_n X.1 X.2.1 d_R_init_41 rfl (lv_at hl 0 rfl) ?_
  refine lv_iload_n X.1 X.2.1 d_R_init_42 rfl (lv_at hl 1 rfl) ?_
  refine zx_putF X hH fp_R_29 hnm rfl (by omega) c_0 (Nat.le_of_ble_eq_true rfl) rfl rfl d_R_init_43 (fun H locs hH => ?_)
  have hH : zw_H g A s.heap s (b + 5) ad8 (va_up E9 (b) (.inr (1, [.int (nI st), .int (nI 0), .int (nI 0), .int (nI 0), .int (nI 0), .int (nI 0), .int (nI 0), .int (nI 0), .int (nI 0), .ref (ad8 (b + 1)), .ref (ad8 (b + 2)), .ref (ad8 (b + 3)), .ref (ad8 (b + 4))]))) H locs := hH
  obtain ⟨E10, hE10⟩ : ∃ x, x = va_up E9 (b) (.inr (1, [.int (nI st), .int (nI 0), .int (nI 0), .int (nI 0), .int (nI 0), .int (nI 0), .int (nI 0), .int (nI 0), .int (nI 0), .ref (ad8 (b + 1)), .ref (ad8 (b + 2)), .ref (ad8 (b + 3)), .ref (ad8 (b + 4))])) := ⟨_, rfl⟩
  rw [← hE10] at hH
  have e_10 : ∀ k, k ≠ b → E10 k = E9 k := fun k hk => by rw [hE10]; exact va_up_ne _ _ hk
  have c_0 : E10 (b) = (.inr (1, [.int (nI st), .int (nI 0), .int (nI 0), .int (nI 0), .int (nI 0), .int (nI 0), .int (nI 0), .int (nI 0), .int (nI 0), .ref (ad8 (b + 1)), .ref (ad8 (b + 2)), .ref (ad8 (b + 3)), .ref (ad8 (b + 4))])) := by rw [hE10]; exact va_up_self _ _ _
  have c_1 := (e_10 (b + 1) (by omega)).trans c_1
  have c_2 := (e_10 (b + 2) (by omega)).trans c_2
  have c_3 := (e_10 (b + 3) (by omega)).trans c_3
  have c_4 := (e_10 (b + 4) (by omega)).trans c_4
  refine lv_aload_n X.1 X.2.1 d_R_init_46 rfl (lv_at hl 0 rfl) ?_
  refine lv_iload_n X.1 X.2.1 d_R_init_47 rfl (lv_at hl 2 rfl) ?_
  refine zx_putF X hH fp_R_32 hnm rfl (by omega) c_0 (Nat.le_of_ble_eq_true rfl) rfl rfl d_R_init_48 (fun H locs hH => ?_)
  have hH : zw_H g A s.heap s (b + 5) ad8 (va_up E10 (b) (.inr (1, [.int (nI st), .int (nI fl), .int (nI 0), .int (nI 0), .int (nI 0), .int (nI 0), .int (nI 0), .int (nI 0), .int (nI 0), .ref (ad8 (b + 1)), .ref (ad8 (b + 2)), .ref (ad8 (b + 3)), .ref (ad8 (b + 4))]))) H locs := hH
  obtain ⟨E11, hE11⟩ : ∃ x, x = va_up E10 (b) (.inr (1, [.int (nI st), .int (nI fl), .int (nI 0), .int (nI 0), .int (nI 0), .int (nI 0), .int (nI 0), .int (nI 0), .int (nI 0), .ref (ad8 (b + 1)), .ref (ad8 (b + 2)), .ref (ad8 (b + 3)), .ref (ad8 (b + 4))])) := ⟨_, rfl⟩
  rw [← hE11] at hH
  have e_11 : ∀ k, k ≠ b → E11 k = E10 k := fun k hk => by rw [hE11]; exact va_up_ne _ _ hk
  have c_0 : E11 (b) = (.inr (1, [.int (nI st), .int (nI fl), .int (nI 0), .int (nI 0), .int (nI 0), .int (nI 0), .int (nI 0), .int (nI 0), .int (nI 0), .ref (ad8 (b + 1)), .ref (ad8 (b + 2)), .ref (ad8 (b + 3)), .ref (ad8 (b + 4))])) := by rw [hE11]; exact va_up_self _ _ _
  have c_1 := (e_11 (b + 1) (by omega)).trans c_1
  have c_2 := (e_11 (b + 2) (by omega)).trans c_2
  have c_3 := (e_11 (b + 3) (by omega)).trans c_3
  have c_4 := (e_11 (b + 4) (by omega)).trans c_4
  exact zx_vret X hr hlk hH (by dsimp only; omega) (by dsimp only; omega) d_R_init_51 ⟨rfl, fun k hk => by rw [a_8 k (by omega), a_6 k (by omega), a_4 k (by omega), a_2 k (by omega)], ⟨c_0, c_1, c_2, c_3, c_4⟩, fun k hk => by rw [e_11 k (by omega), e_10 k (by omega), e_9 k (by omega), e_8 k (by omega), e_7 k (by omega), e_6 k (by omega), e_5 k (by omega), e_4 k (by omega), e_3 k (by omega), e_2 k (by omega), e_1 k (by omega)]⟩
end
section
def zp_q0 : Nat → Nat := fun j => if j = 4 then 16 else if j = 6 then 16 else 0
/-- region: the answer, the numbers, the regions -/
def zs_reg (q : Nat → Nat) (rg : zt_R) (x y : Int32) : Int32 × (Nat → Nat) × zt_R :=
  if (1 ≤ x.toInt ∧ x.toInt ≤ 100) ∧ 0 ≤ y.toInt ∧ y.toInt ≤ 100 then
    (if q 2 = 0 then (if 30 ≤ q 0 then (-1, q, rg) else (nI (q 0 + 1), va_up q 0 (q 0 + 1), va_up rg (q 0) (zp_new x.toInt.toNat y.toInt.toNat, fun _ _ => 0))) else (-5, q, rg))
  else (-4, q, rg)
section ZSR
variable {q : Nat → Nat} {rg : zt_R} {x y : Int32}
theorem zs_reg_bad (h : ¬ ((1 ≤ x.toInt ∧ x.toInt ≤ 100) ∧ 0 ≤ y.toInt ∧ y.toInt ≤ 100)) : zs_reg q rg x y = (-4, q, rg) := by
  unfold zs_reg; rw [if_neg h]
theorem zs_reg_off (h : (1 ≤ x.toInt ∧ x.toInt ≤ 100) ∧ 0 ≤ y.toInt ∧ y.toInt ≤ 100) (h2 : ¬ q 2 = 0) : zs_reg q rg x y = (-5, q, rg) := by
  unfold zs_reg; rw [if_pos h, if_neg h2]
theorem zs_reg_full (h : (1 ≤ x.toInt ∧ x.toInt ≤ 100) ∧ 0 ≤ y.toInt ∧ y.toInt ≤ 100) (h2 : q 2 = 0) (h3 : 30 ≤ q 0) : zs_reg q rg x y = (-1, q, rg) := by
  unfold zs_reg; rw [if_pos h, if_pos h2, if_pos h3]
theorem zs_reg_ok (h : (1 ≤ x.toInt ∧ x.toInt ≤ 100) ∧ 0 ≤ y.toInt ∧ y.toInt ≤ 100) (h2 : q 2 = 0) (h3 : ¬ 30 ≤ q 0) : zs_reg q rg x y = (nI (q 0 + 1), va_up q 0 (q 0 + 1), va_up rg (q 0) (zp_new x.toInt.toNat y.toInt.toNat, fun _ _ => 0)) := by
  unfold zs_reg; rw [if_pos h, if_pos h2, if_neg h3]
end ZSR
theorem zt_r_born {g : zw_G} {ad ad2 : Nat → Nat} {F n N : Nat} (hN : N = F + 5 * n) (h : ∀ k, k < N → ad2 k = ad k) : (Sum.inl (g.2 2, 30, .inr (.inr (.inr (.inr (va_up (fun i => if i < n then some (ad (F + 5 * i)) else none) n (some (ad2 N))))))) : va_E) = zt_r g ad2 F (n + 1) := by
  unfold zt_r
  have e : va_up (fun i => if i < n then some (ad (F + 5 * i)) else none) n (some (ad2 N)) = fun i => if i < n + 1 then some (ad2 (F + 5 * i)) else none := by
    funext i
    unfold va_up
    by_cases hi : i = n
    · subst hi; rw [if_pos rfl, if_pos (by omega), hN]
    · rw [if_neg hi]
      by_cases h2 : i < n
      · show (if i < n then _ else _) = _
        rw [if_pos h2, if_pos (by omega), h _ (by omega)]
      · show (if i < n then _ else _) = _
        rw [if_neg h2, if_neg (by omega)]
  rw [e]
theorem zt_at.born {g : zw_G} {ad ad2 : Nat → Nat} {E E4 : Nat → va_E} {F N : Nat} {q : Nat → Nat} {rg : zt_R} {ev sf lf : Nat → Nat} {r : (Nat → Nat) × (Nat → Nat → Nat)} (h : zt_at g ad E F q rg ev sf lf) (hF : 8 ≤ F) (hN : N = F + 5 * q 0) (ha : ∀ k, k < N → ad2 k = ad k) (h0 : E4 0 = zt_o ad2 (va_up q 0 (q 0 + 1))) (h1 : E4 1 = zt_r g ad2 F (q 0 + 1)) (he : ∀ k, 2 ≤ k → k < N → E4 k = E k) (hR : zr_at g ad2 E4 N r.1 r.2) : zt_at g ad2 E4 F (va_up q 0 (q 0 + 1)) (va_up rg (q 0) r) ev sf lf := by
  obtain ⟨-, -, h2, h3, h4, h5⟩ := h
  refine ⟨h0, h1, ⟨?_, ?_⟩, ⟨?_, ?_⟩, ⟨?_, ?_⟩, fun i hi => ?_⟩
  · rw [he 2 (by omega) (by omega), h2.1]; unfold ze_o; rw [ha 3 (by omega)]
  · rw [he 3 (by omega) (by omega)]; exact h2.2
  · rw [he 4 (by omega) (by omega), h3.1]; unfold zo_o; rw [ha 5 (by omega)]; rfl
  · rw [he 5 (by omega) (by omega)]; exact h3.2
  · rw [he 6 (by omega) (by omega), h4.1]; unfold zo_o; rw [ha 7 (by omega)]; rfl
  · rw [he 7 (by omega) (by omega)]; exact h4.2
  · have hi : i < q 0 + 1 := hi
    by_cases e : i = q 0
    · subst e
      rw [va_up_self, ← hN]
      exact hR
    · rw [va_up_ne _ _ e]
      exact ((h5 i (by omega)).keep (fun k a b => he k (by omega) (by omega))).ad (fun k a b => ha k (by omega))
theorem zt_r_0 {g : zw_G} {ad : Nat → Nat} (F : Nat) : zt_r g ad F 0 = .inl (g.2 2, 30, .inr (.inr (.inr (.inr (fun _ => none))))) := by
  unfold zt_r
  have e : (fun i => if i < 0 then some (ad (F + 5 * i)) else none) = (fun _ => none : Nat → Option Nat) := by funext i; rw [if_neg (Nat.not_lt_zero _)]
  rw [e]
set_option maxHeartbeats 4000000 in
set_option maxRecDepth 100000 in
theorem c_X_init (g : zw_G) (l : Launch) (ad : Nat → Nat) (E : Nat → va_E) (c_0 : E 0 = .inr (3, [.null, .null, .null, .null, .int (nI 0), .int (nI 0), .int (nI 0)])) : zc_v g l y_X_init b_X_init 1 { frames := 2, cells := 7, slots := 85, locals := 80 } [.ref (ad 0)] 1 ad E (fun N1 ad1 E1 => 8 = N1 ∧ ad1 0 = ad 0 ∧ ∀ (F : Nat) (rg : zt_R), zt_at g ad1 E1 F zp_q0 rg (fun _ => 0) (fun _ => 0) (fun _ => 0)) := by
  refine zc_v.of (by decide) (Nat.le_of_ble_eq_true rfl) ?_
  intro p e s m below meth c ls A X hr hlk hnm hl hH
  have hl : lv_has ls 1 [(0, .ref (ad 0))] := hl
  refine lv_aload_n X.1 X.2.1 d_X_init_0 rfl (lv_at hl 0 rfl) ?_
  refine zx_obj X hl zj_X (Nat.le_of_ble_eq_true rfl) (Nat.le_of_ble_eq_true rfl) d_X_init_1 ?_
  refine lv_aload_n X.1 X.2.1 d_X_init_4 rfl (lv_at hl 0 rfl) ?_
  refine lv_bipush (v := nI 30) X.1 X.2.1 d_X_init_5 (by decide) ?_
  refine zx_newq (j := 30) X hH zk_X_9 rfl (by decide) (by dsimp only; omega) (by dsimp only; omega) d_X_init_7 (fun q0 H hH => ?_)
  have hH : zw_H g A s.heap s (1 + 1) (va_up ad (1) q0) (va_up E (1) (.inl (g.2 2, 30, .inr (.inr (.inr (.inr (fun _ => none))))))) H _ := hH
  obtain ⟨ad1, had1⟩ : ∃ x, x = va_up ad (1) q0 := ⟨_, rfl⟩
  obtain ⟨E1, hE1⟩ : ∃ x, x = va_up E (1) (.inl (g.2 2, 30, .inr (.inr (.inr (.inr (fun _ => none)))))) := ⟨_, rfl⟩
  rw [← had1, ← hE1] at hH
  have a_1 : ∀ k, k < 1 → ad1 k = ad k := fun k hk => by rw [had1]; exact va_up_ne _ _ (by omega)
  have e_1 : ∀ k, k ≠ 1 → E1 k = E k := fun k hk => by rw [hE1]; exact va_up_ne _ _ hk
  have n_1 : E1 (1) = (.inl (g.2 2, 30, .inr (.inr (.inr (.inr (fun _ => none)))))) := by rw [hE1]; exact va_up_self _ _ _
  refine W.eq (g2 := F0 m 10 ls [.ref (ad1 (1)), .ref (ad1 (0))]) (by rw [had1, va_up_ne _ _ (show 0 ≠ 1 by omega)]) ?_
  rw [← a_1 (0) (by omega)] at hl
  have c_0 := (e_1 (0) (by omega)).trans c_0
  have c_1 := n_1
  refine zx_putF X hH fp_X_11 hnm rfl (by omega) c_0 (Nat.le_of_ble_eq_true rfl) rfl rfl d_X_init_10 (fun H locs hH => ?_)
  have hH : zw_H g A s.heap s (2) ad1 (va_up E1 (0) (.inr (3, [.ref (ad1 1), .null, .null, .null, .int (nI 0), .int (nI 0), .int (nI 0)]))) H locs := hH
  obtain ⟨E2, hE2⟩ : ∃ x, x = va_up E1 (0) (.inr (3, [.ref (ad1 1), .null, .null, .null, .int (nI 0), .int (nI 0), .int (nI 0)])) := ⟨_, rfl⟩
  rw [← hE2] at hH
  have e_2 : ∀ k, k ≠ 0 → E2 k = E1 k := fun k hk => by rw [hE2]; exact va_up_ne _ _ hk
  have c_0 : E2 (0) = (.inr (3, [.ref (ad1 1), .null, .null, .null, .int (nI 0), .int (nI 0), .int (nI 0)])) := by rw [hE2]; exact va_up_self _ _ _
  have c_1 := (e_2 (1) (by omega)).trans c_1
  refine lv_aload_n X.1 X.2.1 d_X_init_13 rfl (lv_at hl 0 rfl) ?_
  refine zx_new (ci := 0) (fs := [.null]) X hH rfl zI_V zY_V zP_V zk_X_15 zi_V zl_V (fun j hj => match j, hj with | 0, _ => rfl | (n + 1), h => absurd h (by omega)) (by dsimp only; omega) (by dsimp only; omega) d_X_init_14 (fun q0 H hH => ?_)
  have hH : zw_H g A s.heap s (2 + 1) (va_up ad1 (2) q0) (va_up E2 (2) (.inr (0, [.null]))) H _ := hH
  obtain ⟨ad3, had3⟩ : ∃ x, x = va_up ad1 (2) q0 := ⟨_, rfl⟩
  obtain ⟨E3, hE3⟩ : ∃ x, x = va_up E2 (2) (.inr (0, [.null])) := ⟨_, rfl⟩
  rw [← had3, ← hE3] at hH
  have a_3 : ∀ k, k < 2 → ad3 k = ad1 k := fun k hk => by rw [had3]; exact va_up_ne _ _ (by omega)
  have e_3 : ∀ k, k ≠ 2 → E3 k = E2 k := fun k hk => by rw [hE3]; exact va_up_ne _ _ hk
  have n_3 : E3 (2) = (.inr (0, [.null])) := by rw [hE3]; exact va_up_self _ _ _
  refine W.eq (g2 := F0 m 17 ls [.ref (ad3 (2)), .ref (ad3 (0))]) (by rw [had3, va_up_ne _ _ (show 0 ≠ 2 by omega)]) ?_
  rw [← a_3 (0) (by omega)] at hl
  have c_0 := (e_3 (0) (by omega)).trans c_0
  have c_1 := (e_3 (1) (by omega)).trans c_1
  have c_2 := n_3
  have c_0 : E3 0 = (.inr (3, [.ref (ad3 1), .null, .null, .null, .int (nI 0), .int (nI 0), .int (nI 0)])) := by rw [a_3 1 (by omega)]; exact c_0
  refine lv_dup X.1 X.2.1 d_X_init_17 rfl ?_
  refine zx_callv (zx_runIN (As := []) (rest := [.ref (ad3 (2)), .ref (ad3 (0))]) X hH mi_X_17 hH.1.2.1 ((c_V_init g l ad3 E3 2 c_2) _) ⟨Nat.le_of_ble_eq_true rfl, Nat.le_of_ble_eq_true rfl⟩ rfl hl rfl (Nat.le_of_ble_eq_true rfl) d_X_init_18 ⟨(by dsimp only; omega), (by dsimp only; omega)⟩) hH (fun N1 ad4 E4 H locs hq hH => ?_)
  obtain ⟨rfl, a_4, hV, e_4⟩ := hq
  have c_0 := (e_4 (0) (by omega)).trans c_0
  have c_1 := (e_4 (1) (by omega)).trans c_1
  have c_2 := hV.1
  have c_3 := hV.2
  have c_0 : E4 0 = (.inr (3, [.ref (ad4 1), .null, .null, .null, .int (nI 0), .int (nI 0), .int (nI 0)])) := by rw [a_4 1 (by omega)]; exact c_0
  refine W.eq (g2 := F0 m 21 ls [.ref (ad4 (2)), .ref (ad4 (0))]) (by rw [a_4 2 (by omega), a_4 0 (by omega)]) ?_
  rw [← a_4 0 (by omega)] at hl
  refine zx_putF X hH fp_X_18 hnm rfl (by omega) c_0 (Nat.le_of_ble_eq_true rfl) rfl rfl d_X_init_21 (fun H locs hH => ?_)
  have hH : zw_H g A s.heap s (4) ad4 (va_up E4 (0) (.inr (3, [.ref (ad4 1), .ref (ad4 2), .null, .null, .int (nI 0), .int (nI 0), .int (nI 0)]))) H locs := hH
  obtain ⟨E5, hE5⟩ : ∃ x, x = va_up E4 (0) (.inr (3, [.ref (ad4 1), .ref (ad4 2), .null, .null, .int (nI 0), .int (nI 0), .int (nI 0)])) := ⟨_, rfl⟩
  rw [← hE5] at hH
  have e_5 : ∀ k, k ≠ 0 → E5 k = E4 k := fun k hk => by rw [hE5]; exact va_up_ne _ _ hk
  have c_0 : E5 (0) = (.inr (3, [.ref (ad4 1), .ref (ad4 2), .null, .null, .int (nI 0), .int (nI 0), .int (nI 0)])) := by rw [hE5]; exact va_up_self _ _ _
  have c_1 := (e_5 (1) (by omega)).trans c_1
  have c_2 := (e_5 (2) (by omega)).trans c_2
  have c_3 := (e_5 (3) (by omega)).trans c_3
  refine lv_aload_n X.1 X.2.1 d_X_init_24 rfl (lv_at hl 0 rfl) ?_
  refine zx_new (ci := 2) (fs := [.int (nI 0), .null, .int (nI 0)]) X hH rfl zI_O zY_O zP_O zk_X_22 zi_O zl_O (fun j hj => match j, hj with | 0, _ => rfl | 1, _ => rfl | 2, _ => rfl | (n + 3), h => absurd h (by omega)) (by dsimp only; omega) (by dsimp only; omega) d_X_init_25 (fun q0 H hH => ?_)
  have hH : zw_H g A s.heap s (4 + 1) (va_up ad4 (4) q0) (va_up E5 (4) (.inr (2, [.int (nI 0), .null, .int (nI 0)]))) H _ := hH
  obtain ⟨ad6, had6⟩ : ∃ x, x = va_up ad4 (4) q0 := ⟨_, rfl⟩
  obtain ⟨E6, hE6⟩ : ∃ x, x = va_up E5 (4) (.inr (2, [.int (nI 0), .null, .int (nI 0)])) := ⟨_, rfl⟩
  rw [← had6, ← hE6] at hH
  have a_6 : ∀ k, k < 4 → ad6 k = ad4 k := fun k hk => by rw [had6]; exact va_up_ne _ _ (by omega)
  have e_6 : ∀ k, k ≠ 4 → E6 k = E5 k := fun k hk => by rw [hE6]; exact va_up_ne _ _ hk
  have n_6 : E6 (4) = (.inr (2, [.int (nI 0), .null, .int (nI 0)])) := by rw [hE6]; exact va_up_self _ _ _
  refine W.eq (g2 := F0 m 28 ls [.ref (ad6 (4)), .ref (ad6 (0))]) (by rw [had6, va_up_ne _ _ (show 0 ≠ 4 by omega)]) ?_
  rw [← a_6 (0) (by omega)] at hl
  have c_0 := (e_6 (0) (by omega)).trans c_0
  have c_1 := (e_6 (1) (by omega)).trans c_1
  have c_2 := (e_6 (2) (by omega)).trans c_2
  have c_3 := (e_6 (3) (by omega)).trans c_3
  have c_4 := n_6
  have c_0 : E6 0 = (.inr (3, [.ref (ad6 1), .ref (ad6 2), .null, .null, .int (nI 0), .int (nI 0), .int (nI 0)])) := by rw [a_6 1 (by omega), a_6 2 (by omega)]; exact c_0
  have c_2 : E6 2 = ze_o ad6 3 := by unfold ze_o; rw [a_6 3 (by omega)]; exact c_2
  refine lv_dup X.1 X.2.1 d_X_init_28 rfl ?_
  refine lv_sipush (v := nI 600) X.1 X.2.1 d_X_init_29 (by decide) ?_
  refine zx_callv (zx_runI (As := [.int (nI 600)]) (rest := [.ref (ad6 (4)), .ref (ad6 (0))]) X hH mi_X_24 ((c_O_init g l ad6 E6 4 600 c_4) _) ⟨Nat.le_of_ble_eq_true rfl, Nat.le_of_ble_eq_true rfl⟩ rfl hl rfl (Nat.le_of_ble_eq_true rfl) d_X_init_32 ⟨(by dsimp only; omega), (by dsimp only; omega)⟩) hH (fun N1 ad7 E7 H locs hq hH => ?_)
  obtain ⟨rfl, a_7, hV, e_7⟩ := hq
  have c_0 := (e_7 (0) (by omega)).trans c_0
  have c_1 := (e_7 (1) (by omega)).trans c_1
  have c_2 := (e_7 (2) (by omega)).trans c_2
  have c_3 := (e_7 (3) (by omega)).trans c_3
  have c_4 := hV.1
  have c_5 := hV.2
  have c_0 : E7 0 = (.inr (3, [.ref (ad7 1), .ref (ad7 2), .null, .null, .int (nI 0), .int (nI 0), .int (nI 0)])) := by rw [a_7 1 (by omega), a_7 2 (by omega)]; exact c_0
  have c_2 : E7 2 = ze_o ad7 3 := by unfold ze_o; rw [a_7 3 (by omega)]; exact c_2
  refine W.eq (g2 := F0 m 35 ls [.ref (ad7 (4)), .ref (ad7 (0))]) (by rw [a_7 4 (by omega), a_7 0 (by omega)]) ?_
  rw [← a_7 0 (by omega)] at hl
  refine zx_putF X hH fp_X_27 hnm rfl (by omega) c_0 (Nat.le_of_ble_eq_true rfl) rfl rfl d_X_init_35 (fun H locs hH => ?_)
  have hH : zw_H g A s.heap s (6) ad7 (va_up E7 (0) (.inr (3, [.ref (ad7 1), .ref (ad7 2), .ref (ad7 4), .null, .int (nI 0), .int (nI 0), .int (nI 0)]))) H locs := hH
  obtain ⟨E8, hE8⟩ : ∃ x, x = va_up E7 (0) (.inr (3, [.ref (ad7 1), .ref (ad7 2), .ref (ad7 4), .null, .int (nI 0), .int (nI 0), .int (nI 0)])) := ⟨_, rfl⟩
  rw [← hE8] at hH
  have e_8 : ∀ k, k ≠ 0 → E8 k = E7 k := fun k hk => by rw [hE8]; exact va_up_ne _ _ hk
  have c_0 : E8 (0) = (.inr (3, [.ref (ad7 1), .ref (ad7 2), .ref (ad7 4), .null, .int (nI 0), .int (nI 0), .int (nI 0)])) := by rw [hE8]; exact va_up_self _ _ _
  have c_1 := (e_8 (1) (by omega)).trans c_1
  have c_2 := (e_8 (2) (by omega)).trans c_2
  have c_3 := (e_8 (3) (by omega)).trans c_3
  have c_4 := (e_8 (4) (by omega)).trans c_4
  have c_5 := (e_8 (5) (by omega)).trans c_5
  refine lv_aload_n X.1 X.2.1 d_X_init_38 rfl (lv_at hl 0 rfl) ?_
  refine zx_new (ci := 2) (fs := [.int (nI 0), .null, .int (nI 0)]) X hH rfl zI_O zY_O zP_O zk_X_22 zi_O zl_O (fun j hj => match j, hj with | 0, _ => rfl | 1, _ => rfl | 2, _ => rfl | (n + 3), h => absurd h (by omega)) (by dsimp only; omega) (by dsimp only; omega) d_X_init_39 (fun q0 H hH => ?_)
  have hH : zw_H g A s.heap s (6 + 1) (va_up ad7 (6) q0) (va_up E8 (6) (.inr (2, [.int (nI 0), .null, .int (nI 0)]))) H _ := hH
  obtain ⟨ad9, had9⟩ : ∃ x, x = va_up ad7 (6) q0 := ⟨_, rfl⟩
  obtain ⟨E9, hE9⟩ : ∃ x, x = va_up E8 (6) (.inr (2, [.int (nI 0), .null, .int (nI 0)])) := ⟨_, rfl⟩
  rw [← had9, ← hE9] at hH
  have a_9 : ∀ k, k < 6 → ad9 k = ad7 k := fun k hk => by rw [had9]; exact va_up_ne _ _ (by omega)
  have e_9 : ∀ k, k ≠ 6 → E9 k = E8 k := fun k hk => by rw [hE9]; exact va_up_ne _ _ hk
  have n_9 : E9 (6) = (.inr (2, [.int (nI 0), .null, .int (nI 0)])) := by rw [hE9]; exact va_up_self _ _ _
  refine W.eq (g2 := F0 m 42 ls [.ref (ad9 (6)), .ref (ad9 (0))]) (by rw [had9, va_up_ne _ _ (show 0 ≠ 6 by omega)]) ?_
  rw [← a_9 (0) (by omega)] at hl
  have c_0 := (e_9 (0) (by omega)).trans c_0
  have c_1 := (e_9 (1) (by omega)).trans c_1
  have c_2 := (e_9 (2) (by omega)).trans c_2
  have c_3 := (e_9 (3) (by omega)).trans c_3
  have c_4 := (e_9 (4) (by omega)).trans c_4
  have c_5 := (e_9 (5) (by omega)).trans c_5
  have c_6 := n_9
  have c_0 : E9 0 = (.inr (3, [.ref (ad9 1), .ref (ad9 2), .ref (ad9 4), .null, .int (nI 0), .int (nI 0), .int (nI 0)])) := by rw [a_9 1 (by omega), a_9 2 (by omega), a_9 4 (by omega)]; exact c_0
  have c_2 : E9 2 = ze_o ad9 3 := by unfold ze_o; rw [a_9 3 (by omega)]; exact c_2
  have c_4 : E9 4 = zo_o ad9 5 600 0 := by unfold zo_o; rw [a_9 5 (by omega)]; exact c_4
  refine lv_dup X.1 X.2.1 d_X_init_42 rfl ?_
  refine lv_sipush (v := nI 3000) X.1 X.2.1 d_X_init_43 (by decide) ?_
  refine zx_callv (zx_runI (As := [.int (nI 3000)]) (rest := [.ref (ad9 (6)), .ref (ad9 (0))]) X hH mi_X_24 ((c_O_init g l ad9 E9 6 3000 c_6) _) ⟨Nat.le_of_ble_eq_true rfl, Nat.le_of_ble_eq_true rfl⟩ rfl hl rfl (Nat.le_of_ble_eq_true rfl) d_X_init_46 ⟨(by dsimp only; omega), (by dsimp only; omega)⟩) hH (fun N1 ad10 E10 H locs hq hH => ?_)
  obtain ⟨rfl, a_10, hV, e_10⟩ := hq
  have c_0 := (e_10 (0) (by omega)).trans c_0
  have c_1 := (e_10 (1) (by omega)).trans c_1
  have c_2 := (e_10 (2) (by omega)).trans c_2
  have c_3 := (e_10 (3) (by omega)).trans c_3
  have c_4 := (e_10 (4) (by omega)).trans c_4
  have c_5 := (e_10 (5) (by omega)).trans c_5
  have c_6 := hV.1
  have c_7 := hV.2
  have c_0 : E10 0 = (.inr (3, [.ref (ad10 1), .ref (ad10 2), .ref (ad10 4), .null, .int (nI 0), .int (nI 0), .int (nI 0)])) := by rw [a_10 1 (by omega), a_10 2 (by omega), a_10 4 (by omega)]; exact c_0
  have c_2 : E10 2 = ze_o ad10 3 := by unfold ze_o; rw [a_10 3 (by omega)]; exact c_2
  have c_4 : E10 4 = zo_o ad10 5 600 0 := by unfold zo_o; rw [a_10 5 (by omega)]; exact c_4
  refine W.eq (g2 := F0 m 49 ls [.ref (ad10 (6)), .ref (ad10 (0))]) (by rw [a_10 6 (by omega), a_10 0 (by omega)]) ?_
  rw [← a_10 0 (by omega)] at hl
  refine zx_putF X hH fp_X_31 hnm rfl (by omega) c_0 (Nat.le_of_ble_eq_true rfl) rfl rfl d_X_init_49 (fun H locs hH => ?_)
  have hH : zw_H g A s.heap s (8) ad10 (va_up E10 (0) (.inr (3, [.ref (ad10 1), .ref (ad10 2), .ref (ad10 4), .ref (ad10 6), .int (nI 0), .int (nI 0), .int (nI 0)]))) H locs := hH
  obtain ⟨E11, hE11⟩ : ∃ x, x = va_up E10 (0) (.inr (3, [.ref (ad10 1), .ref (ad10 2), .ref (ad10 4), .ref (ad10 6), .int (nI 0), .int (nI 0), .int (nI 0)])) := ⟨_, rfl⟩
  rw [← hE11] at hH
  have e_11 : ∀ k, k ≠ 0 → E11 k = E10 k := fun k hk => by rw [hE11]; exact va_up_ne _ _ hk
  have c_0 : E11 (0) = (.inr (3, [.ref (ad10 1), .ref (ad10 2), .ref (ad10 4), .ref (ad10 6), .int (nI 0), .int (nI 0), .int (nI 0)])) := by rw [hE11]; exact va_up_self _ _ _
  have c_1 := (e_11 (1) (by omega)).trans c_1
  have c_2 := (e_11 (2) (by omega)).trans c_2
  have c_3 := (e_11 (3) (by omega)).trans c_3
  have c_4 := (e_11 (4) (by omega)).trans c_4
  have c_5 := (e_11 (5) (by omega)).trans c_5
  have c_6 := (e_11 (6) (by omega)).trans c_6
  have c_7 := (e_11 (7) (by omega)).trans c_7
  exact zx_vret X hr hlk hH (by dsimp only; omega) (by dsimp only; omega) d_X_init_52 ⟨rfl, (fun k hk => by rw [a_10 k (by omega), a_9 k (by omega), a_7 k (by omega), a_6 k (by omega), a_4 k (by omega), a_3 k (by omega), a_1 k (by omega)] : ∀ k, k < 1 → ad10 k = ad k) 0 (by decide), fun F rg => ⟨c_0, c_1.trans (zt_r_0 F).symm, ⟨c_2, c_3⟩, ⟨c_4, c_5⟩, ⟨c_6, c_7⟩, fun i hi => absurd (show i < 0 from hi) (Nat.not_lt_zero _)⟩⟩
set_option maxHeartbeats 4000000 in
set_option maxRecDepth 100000 in
theorem c_X_region (g : zw_G) (l : Launch) (N : Nat) (ad : Nat → Nat) (E : Nat → va_E) (F : Nat) (q : Nat → Nat) (rg : zt_R) (ev sf lf : Nat → Nat) (hF8 : 8 ≤ F) (hN : N = F + 5 * q 0) (hT : zt_at g ad E F q rg ev sf lf) (hok : zt_ok q rg ev sf) (x y : Int32) (kc ks : Nat) (hkc : 5 * (zs_reg q rg x y).2.1 0 ≤ 5 * q 0 + kc) (hks : 174 * (zs_reg q rg x y).2.1 0 ≤ 174 * q 0 + ks) : zc_i g l y_X_region b_X_region 3 (some .int) { frames := 2, cells := kc, slots := ks, locals := 80 } [.ref (ad (0)), .int (x), .int (y)] N ad E (fun v N1 ad1 E1 => F + 5 * (zs_reg q rg x y).2.1 0 = N1 ∧ (∀ k, k < N → ad1 k = ad k) ∧ v = (zs_reg q rg x y).1 ∧ zt_at g ad1 E1 F (zs_reg q rg x y).2.1 (zs_reg q rg x y).2.2 ev sf lf ∧ zt_fr E E1 F) := by
  refine zc_i.of (by decide) (Nat.le_of_ble_eq_true rfl) ?_
  intro p e s m below meth c ls A X hr hlk hl hH
  have hl : lv_has ls 3 [(0, .ref (ad (0))), (1, .int (x)), (2, .int (y))] := hl
  obtain ⟨k0, k2, k3, k3a, k4, k4a, k5, k5a, k6, k6a⟩ := hok.1
  refine lv_iload_n X.1 X.2.1 d_X_region_0 rfl (lv_at hl 1 rfl) ?_
  refine lv_iconst (v := nI 1) X.1 X.2.1 d_X_region_1 (by decide) ?_
  refine lv_icmp_lt (tgt := 21) X.1 X.2.1 d_X_region_2 (by decide) (fun c1 => ?_) (fun c1 => ?_)
  · have c1 := (zn_lt rfl (nI_toInt (by omega))).mp c1
    refine lv_bipush (v := (-4)) X.1 X.2.1 d_X_region_21 (by decide) ?_
    exact zx_iret X hr hlk hH (by dsimp only; omega) (by dsimp only; omega) d_X_region_23 ⟨by rw [zs_reg_bad (by omega)]; exact hN.symm, fun _ _ => rfl, by rw [zs_reg_bad (by omega)], by rw [zs_reg_bad (by omega)]; exact hT, zt_fr.rf⟩
  · have c1 := mt (zn_lt rfl (nI_toInt (by omega))).mpr c1
    refine lv_iload_n X.1 X.2.1 d_X_region_5 rfl (lv_at hl 1 rfl) ?_
    refine lv_bipush (v := nI 100) X.1 X.2.1 d_X_region_6 (by decide) ?_
    refine lv_icmp_gt (tgt := 21) X.1 X.2.1 d_X_region_8 (by decide) (fun c2 => ?_) (fun c2 => ?_)
    · have c2 := (zn_lt (nI_toInt (by omega)) rfl).mp c2
      refine lv_bipush (v := (-4)) X.1 X.2.1 d_X_region_21 (by decide) ?_
      exact zx_iret X hr hlk hH (by dsimp only; omega) (by dsimp only; omega) d_X_region_23 ⟨by rw [zs_reg_bad (by omega)]; exact hN.symm, fun _ _ => rfl, by rw [zs_reg_bad (by omega)], by rw [zs_reg_bad (by omega)]; exact hT, zt_fr.rf⟩
    · have c2 := mt (zn_lt (nI_toInt (by omega)) rfl).mpr c2
      refine lv_iload_n X.1 X.2.1 d_X_region_11 rfl (lv_at hl 2 rfl) ?_
      refine lv_if_lt (tgt := 21) X.1 X.2.1 d_X_region_12 (by decide) (fun c3 => ?_) (fun c3 => ?_)
      · have c3 := (zn_lt rfl zn_0).mp c3
        refine lv_bipush (v := (-4)) X.1 X.2.1 d_X_region_21 (by decide) ?_
        exact zx_iret X hr hlk hH (by dsimp only; omega) (by dsimp only; omega) d_X_region_23 ⟨by rw [zs_reg_bad (by omega)]; exact hN.symm, fun _ _ => rfl, by rw [zs_reg_bad (by omega)], by rw [zs_reg_bad (by omega)]; exact hT, zt_fr.rf⟩
      · have c3 := mt (zn_lt rfl zn_0).mpr c3
        refine lv_iload_n X.1 X.2.1 d_X_region_15 rfl (lv_at hl 2 rfl) ?_
        refine lv_bipush (v := nI 100) X.1 X.2.1 d_X_region_16 (by decide) ?_
        refine lv_icmp_le (tgt := 24) X.1 X.2.1 d_X_region_18 (by decide) (fun c4 => ?_) (fun c4 => ?_)
        · have c4 := (zn_le rfl (nI_toInt (by omega))).mp c4
          refine lv_aload_n X.1 X.2.1 d_X_region_24 rfl (lv_at hl 0 rfl) ?_
          refine zx_get (v := .int (nI (q 2))) X hH fg_X_34 (by omega) hT.1 rfl d_X_region_25 ?_
          refine lv_if_eq (tgt := 34) X.1 X.2.1 d_X_region_28 (by decide) (fun c5 => ?_) (fun c5 => ?_)
          · have c5 := (zn_eq (nI_toInt (by omega)) zn_0).mp c5
            refine lv_aload_n X.1 X.2.1 d_X_region_34 rfl (lv_at hl 0 rfl) ?_
            refine zx_get (v := .int (nI (q 0))) X hH fg_X_38 (by omega) hT.1 rfl d_X_region_35 ?_
            refine lv_bipush (v := nI 30) X.1 X.2.1 d_X_region_38 (by decide) ?_
            refine lv_icmp_lt (tgt := 45) X.1 X.2.1 d_X_region_40 (by decide) (fun c6 => ?_) (fun c6 => ?_)
            · have c6 := (zn_lt (nI_toInt (by omega)) (nI_toInt (by omega))).mp c6
              refine lv_aload_n X.1 X.2.1 d_X_region_45 rfl (lv_at hl 0 rfl) ?_
              refine zx_get (v := .ref (ad (1))) X hH fg_X_11 (by omega) hT.1 rfl d_X_region_46 ?_
              refine lv_aload_n X.1 X.2.1 d_X_region_49 rfl (lv_at hl 0 rfl) ?_
              refine zx_get (v := .int (nI (q 0))) X hH fg_X_38 (by omega) hT.1 rfl d_X_region_50 ?_
              have hok9 := zs_reg_ok (q := q) (rg := rg) (x := x) (y := y) ⟨⟨by omega, by omega⟩, by omega, by omega⟩ (by omega) (by omega)
              rw [hok9] at hkc hks
              have hkc : 5 * (q 0 + 1) ≤ 5 * q 0 + kc := hkc
              have hks : 174 * (q 0 + 1) ≤ 174 * q 0 + ks := hks
              refine zx_new (ci := 1) (fs := [.int (nI 0), .int (nI 0), .int (nI 0), .int (nI 0), .int (nI 0), .int (nI 0), .int (nI 0), .int (nI 0), .int (nI 0), .null, .null, .null, .null]) X hH rfl zI_R zY_R zP_R zk_X_9 zi_R zl_R (fun j hj => match j, hj with | 0, _ => rfl | 1, _ => rfl | 2, _ => rfl | 3, _ => rfl | 4, _ => rfl | 5, _ => rfl | 6, _ => rfl | 7, _ => rfl | 8, _ => rfl | 9, _ => rfl | 10, _ => rfl | 11, _ => rfl | 12, _ => rfl | (n + 13), h => absurd h (by omega)) (by dsimp only; omega) (by dsimp only; omega) d_X_region_53 (fun q9 H hH => ?_)
              obtain ⟨ad1, had1⟩ : ∃ x, x = va_up ad N q9 := ⟨_, rfl⟩
              obtain ⟨E1, hE1⟩ : ∃ x, x = va_up E N (.inr (1, [.int (nI 0), .int (nI 0), .int (nI 0), .int (nI 0), .int (nI 0), .int (nI 0), .int (nI 0), .int (nI 0), .int (nI 0), .null, .null, .null, .null])) := ⟨_, rfl⟩
              rw [← hE1] at hH
              have a_1 : ∀ k, k < N → ad1 k = ad k := fun k hk => by rw [had1]; exact va_up_ne _ _ (by omega)
              have e_1 : ∀ k, k < N → E1 k = E k := fun k hk => by rw [hE1]; exact va_up_ne _ _ (by omega)
              have n_1 : E1 N = .inr (1, [.int (nI 0), .int (nI 0), .int (nI 0), .int (nI 0), .int (nI 0), .int (nI 0), .int (nI 0), .int (nI 0), .int (nI 0), .null, .null, .null, .null]) := by rw [hE1]; exact va_up_self _ _ _
              refine W.eq (g2 := F0 m 56 ls [.ref (ad1 N), .int (nI (q 0)), .ref (ad1 1)]) (by rw [a_1 1 (by omega), had1]) ?_
              rw [← had1] at hH
              rw [← a_1 0 (by omega)] at hl
              refine lv_dup X.1 X.2.1 d_X_region_56 rfl ?_
              refine lv_iload_n X.1 X.2.1 d_X_region_57 rfl (lv_at hl 1 rfl) ?_
              refine zx_top (zn_nat (x := x) (by omega)) ?_
              refine lv_iload_n X.1 X.2.1 d_X_region_58 rfl (lv_at hl 2 rfl) ?_
              refine zx_top (zn_nat (x := y) (by omega)) ?_
              refine zx_callv (zx_runI (As := [.int (nI x.toInt.toNat), .int (nI y.toInt.toNat)]) (rest := [.ref (ad1 N), .int (nI (q 0)), .ref (ad1 1)]) X hH mi_X_42 ((c_R_init g l ad1 E1 N x.toInt.toNat y.toInt.toNat n_1) _) ⟨Nat.le_of_ble_eq_true rfl, Nat.le_of_ble_eq_true rfl⟩ rfl hl rfl (Nat.le_of_ble_eq_true rfl) d_X_region_59 ⟨(by dsimp only; omega), (by dsimp only; omega)⟩) hH (fun N1 ad2 E2 H locs hq hH => ?_)
              obtain ⟨rfl, a_2, hR, e_2⟩ := hq
              have a2 : ∀ k, k < N → ad2 k = ad k := fun k hk => (a_2 k (by omega)).trans (a_1 k hk)
              have e2 : ∀ k, k < N → E2 k = E k := fun k hk => (e_2 k hk).trans (e_1 k hk)
              refine W.eq (g2 := F0 m 62 ls [.ref (ad2 N), .int (nI (q 0)), .ref (ad2 1)]) (by rw [a_2 N (by omega), a_2 1 (by omega)]) ?_
              rw [← a_2 0 (by omega)] at hl
              refine zx_aast (j := q 0) X hH (show 1 < N + 5 by omega) ((e2 1 (by omega)).trans hT.2.1) (show N < N + 5 by omega) hR.1 rfl (by omega) (by decide) d_X_region_62 (fun H locs hH => ?_)
              rw [zt_r_born hN a2] at hH
              obtain ⟨E3, hE3⟩ : ∃ x, x = va_up E2 1 (zt_r g ad2 F (q 0 + 1)) := ⟨_, rfl⟩
              rw [← hE3] at hH
              have e3 : ∀ k, k ≠ 1 → E3 k = E2 k := fun k hk => by rw [hE3]; exact va_up_ne _ _ hk
              have n3 : E3 1 = zt_r g ad2 F (q 0 + 1) := by rw [hE3]; exact va_up_self _ _ _
              have c_0 : E3 0 = zt_o ad2 q := by rw [e3 0 (by decide), e2 0 (by omega), hT.1]; unfold zt_o; rw [a2 1 (by omega), a2 2 (by omega), a2 4 (by omega), a2 6 (by omega)]
              refine lv_aload_n X.1 X.2.1 d_X_region_63 rfl (lv_at hl 0 rfl) ?_
              refine lv_dup X.1 X.2.1 d_X_region_64 rfl ?_
              refine zx_get (v := .int (nI (q 0))) X hH fg_X_38 (by omega) c_0 rfl d_X_region_65 ?_
              refine lv_iconst (v := nI 1) X.1 X.2.1 d_X_region_68 (by decide) ?_
              refine lv_iadd X.1 X.2.1 d_X_region_69 ?_
              refine zx_top (nI_add _ _) ?_
              refine zx_put X hH fp_X_38 (by omega) c_0 (Nat.le_of_ble_eq_true rfl) rfl rfl d_X_region_70 (fun H locs hH => ?_)
              have hH : zw_H g A s.heap s (N + 5) ad2 (va_up E3 0 (zt_o ad2 (va_up q 0 (q 0 + 1)))) H locs := hH
              obtain ⟨E4, hE4⟩ : ∃ x, x = va_up E3 0 (zt_o ad2 (va_up q 0 (q 0 + 1))) := ⟨_, rfl⟩
              rw [← hE4] at hH
              have e4 : ∀ k, k ≠ 0 → E4 k = E3 k := fun k hk => by rw [hE4]; exact va_up_ne _ _ hk
              have n4 : E4 0 = zt_o ad2 (va_up q 0 (q 0 + 1)) := by rw [hE4]; exact va_up_self _ _ _
              have hT := hT.born (r := (zp_new x.toInt.toNat y.toInt.toNat, fun _ _ => 0)) hF8 hN a2 n4 ((e4 1 (by decide)).trans n3) (fun k h1 h2 => by rw [e4 k (by omega), e3 k (by omega)]; exact e2 k h2) (hR.keep (fun k h1 h2 => by rw [e4 k (by omega), e3 k (by omega)]))
              have hfr : zt_fr E E4 F := fun k h1 h2 => by rw [e4 k (by omega), e3 k (by omega)]; exact e2 k (by omega)
              refine lv_aload_n X.1 X.2.1 d_X_region_73 rfl (lv_at hl 0 rfl) ?_
              refine zx_get (v := .int (nI (q 0 + 1))) X hH fg_X_38 (by omega) hT.1 rfl d_X_region_74 ?_
              exact zx_iret X hr hlk hH (by dsimp only; omega) (by dsimp only; omega) d_X_region_77 ⟨by rw [hok9]; show F + 5 * (q 0 + 1) = N + 5; omega, a2, by rw [hok9], by rw [hok9]; exact hT, hfr⟩
            · have c6 := mt (zn_lt (nI_toInt (by omega)) (nI_toInt (by omega))).mpr c6
              refine lv_iconst (v := (-1)) X.1 X.2.1 d_X_region_43 (by decide) ?_
              exact zx_iret X hr hlk hH (by dsimp only; omega) (by dsimp only; omega) d_X_region_44 ⟨by rw [zs_reg_full ⟨⟨by omega, by omega⟩, by omega, by omega⟩ (by omega) (by omega)]; exact hN.symm, fun _ _ => rfl, by rw [zs_reg_full ⟨⟨by omega, by omega⟩, by omega, by omega⟩ (by omega) (by omega)], by rw [zs_reg_full ⟨⟨by omega, by omega⟩, by omega, by omega⟩ (by omega) (by omega)]; exact hT, zt_fr.rf⟩
          · have c5 := mt (zn_eq (nI_toInt (by omega)) zn_0).mpr c5
            refine lv_bipush (v := (-5)) X.1 X.2.1 d_X_region_31 (by decide) ?_
            exact zx_iret X hr hlk hH (by dsimp only; omega) (by dsimp only; omega) d_X_region_33 ⟨by rw [zs_reg_off ⟨⟨by omega, by omega⟩, by omega, by omega⟩ (by omega)]; exact hN.symm, fun _ _ => rfl, by rw [zs_reg_off ⟨⟨by omega, by omega⟩, by omega, by omega⟩ (by omega)], by rw [zs_reg_off ⟨⟨by omega, by omega⟩, by omega, by omega⟩ (by omega)]; exact hT, zt_fr.rf⟩
        · have c4 := mt (zn_le rfl (nI_toInt (by omega))).mpr c4
          refine lv_bipush (v := (-4)) X.1 X.2.1 d_X_region_21 (by decide) ?_
          exact zx_iret X hr hlk hH (by dsimp only; omega) (by dsimp only; omega) d_X_region_23 ⟨by rw [zs_reg_bad (by omega)]; exact hN.symm, fun _ _ => rfl, by rw [zs_reg_bad (by omega)], by rw [zs_reg_bad (by omega)]; exact hT, zt_fr.rf⟩
end
section
/-! The reference: the object at 8, its arrays at 9 .. 24 -/
def zm_c (rg : zt_R) (j : Nat) : Nat → Nat := fun k => if k = 0 then 0 else (rg (k - 1)).1 j
def zm_w (rg : zt_R) (a : Nat) : Nat → Nat := fun k => (rg (k / 20)).2 a (k % 20)
def zm_d (rg : zt_R) : Nat → Nat := fun k => if k < 101 then 0 else (rg (k / 101 - 1)).2 3 (k % 101)
def zm_o (ad : Nat → Nat) (q : Nat → Nat) : va_E := .inr (4, [.int (nI 0), .int (nI (q 0)), .int (nI (q 3)), .int (nI (q 5)), .int (nI (q 1)), .int (nI (q 2)), .ref (ad 9), .ref (ad 10), .ref (ad 11), .ref (ad 12), .ref (ad 13), .ref (ad 14), .ref (ad 15), .ref (ad 16), .ref (ad 17), .ref (ad 18), .ref (ad 19), .ref (ad 20), .ref (ad 21), .ref (ad 22), .ref (ad 23), .ref (ad 24)])
def zm_at (g : zw_G) (ad : Nat → Nat) (E : Nat → va_E) (q : Nat → Nat) (rg : zt_R) (ev fs fl : Nat → Nat) : Prop :=
  E 8 = zm_o ad q ∧ E 9 = zr_ia g 31 (zm_c rg 0) ∧ E 10 = zr_ia g 31 (zm_c rg 1) ∧ E 11 = zr_ia g 31 (zm_c rg 2) ∧ E 12 = zr_ia g 31 (zm_c rg 3) ∧ E 13 = zr_ia g 31 (zm_c rg 4) ∧ E 14 = zr_ia g 31 (zm_c rg 6) ∧ E 15 = zr_ia g 31 (zm_c rg 5) ∧ E 16 = zr_ia g 31 (zm_c rg 8) ∧ E 17 = zr_za g 31 (zm_c rg 7) ∧ E 18 = zr_za g 620 (zm_w rg 2) ∧ E 19 = zr_ia g 3131 (zm_d rg) ∧ E 20 = zr_ia g 620 (zm_w rg 0) ∧ E 21 = zr_ia g 620 (zm_w rg 1) ∧ E 22 = zr_ia g 600 fs ∧ E 23 = zr_ia g 16 ev ∧ E 24 = zr_ia g 3100 fl
def zm_fr (E E1 : Nat → va_E) : Prop := ∀ k, (k < 8 ∨ 25 ≤ k) → E1 k = E k
theorem zm_fr.rf {E : Nat → va_E} : zm_fr E E := fun _ _ => rfl
theorem zm_fr.tr {E E1 E2 : Nat → va_E} (h : zm_fr E E1) (h2 : zm_fr E1 E2) : zm_fr E E2 := fun k hk => (h2 k hk).trans (h k hk)
theorem zm_fr.up {E E1 : Nat → va_E} {k : Nat} {x : va_E} (h : zm_fr E E1) (h1 : 8 ≤ k) (h2 : k < 25) : zm_fr E (va_up E1 k x) := fun j hj => by
  rw [va_up_ne _ _ (by omega)]; exact h j hj
section ZMC
variable {rg : zt_R} {i j v : Nat} {r : (Nat → Nat) × (Nat → Nat → Nat)}
theorem zm_c_at (rg : zt_R) (i j : Nat) (r : (Nat → Nat) × (Nat → Nat → Nat)) : zm_c (va_up rg i r) j (i + 1) = r.1 j := by
  unfold zm_c
  rw [if_neg (by omega), show i + 1 - 1 = i by omega, va_up_self]
theorem zm_c_a (rg : zt_R) (i j : Nat) : zm_c rg j (i + 1) = (rg i).1 j := by
  unfold zm_c
  rw [if_neg (by omega), show i + 1 - 1 = i by omega]
theorem zm_c_set : zm_c (va_up rg i (va_up r.1 j v, r.2)) j = va_up (zm_c (va_up rg i r) j) (i + 1) v := by
  funext k
  unfold zm_c
  by_cases h0 : k = 0
  · subst h0
    rw [if_pos rfl, va_up_ne _ _ (by omega)]
    show _ = (if (0 : Nat) = 0 then 0 else _)
    rw [if_pos rfl]
  · rw [if_neg h0]
    by_cases h : k = i + 1
    · subst h
      rw [va_up_self, show i + 1 - 1 = i by omega, va_up_self]
      exact va_up_self _ _ _
    · rw [va_up_ne _ _ h, va_up_ne _ _ (by omega)]
      show _ = (if k = 0 then 0 else _)
      rw [if_neg h0, va_up_ne _ _ (by omega)]
theorem zm_c_ne {j2 : Nat} (h : j2 ≠ j) {a : Nat → Nat → Nat} : zm_c (va_up rg i (va_up r.1 j v, a)) j2 = zm_c (va_up rg i r) j2 := by
  funext k
  unfold zm_c
  by_cases h0 : k = 0
  · rw [if_pos h0, if_pos h0]
  · rw [if_neg h0, if_neg h0]
    by_cases e : k - 1 = i
    · rw [e, va_up_self, va_up_self]; exact va_up_ne _ _ h
    · rw [va_up_ne _ _ e, va_up_ne _ _ e]
theorem zm_c_ar {j2 : Nat} {a : Nat → Nat → Nat} : zm_c (va_up rg i (r.1, a)) j2 = zm_c (va_up rg i r) j2 := by
  funext k
  unfold zm_c
  by_cases h0 : k = 0
  · rw [if_pos h0, if_pos h0]
  · rw [if_neg h0, if_neg h0]
    by_cases e : k - 1 = i
    · rw [e, va_up_self, va_up_self]
    · rw [va_up_ne _ _ e, va_up_ne _ _ e]
theorem zm_w_sc {a : Nat} {s : Nat → Nat} : zm_w (va_up rg i (s, r.2)) a = zm_w (va_up rg i r) a := by
  funext k
  unfold zm_w
  by_cases e : k / 20 = i
  · rw [e, va_up_self, va_up_self]
  · rw [va_up_ne _ _ e, va_up_ne _ _ e]
theorem zm_d_sc {s : Nat → Nat} : zm_d (va_up rg i (s, r.2)) = zm_d (va_up rg i r) := by
  funext k
  unfold zm_d
  by_cases h0 : k < 101
  · rw [if_pos h0, if_pos h0]
  · rw [if_neg h0, if_neg h0]
    by_cases e : k / 101 - 1 = i
    · rw [e, va_up_self, va_up_self]
    · rw [va_up_ne _ _ e, va_up_ne _ _ e]
theorem zm_w_at (rg : zt_R) (i a : Nat) (r : (Nat → Nat) × (Nat → Nat → Nat)) {m : Nat} (hm : m < 20) : zm_w (va_up rg i r) a (20 * i + m) = r.2 a m := by
  unfold zm_w
  rw [show (20 * i + m) / 20 = i by omega, show (20 * i + m) % 20 = m by omega, va_up_self]
theorem zm_d_at (rg : zt_R) (i : Nat) (r : (Nat → Nat) × (Nat → Nat → Nat)) {m : Nat} (hm : m ≤ 100) : zm_d (va_up rg i r) (101 * (i + 1) + m) = r.2 3 m := by
  unfold zm_d
  rw [if_neg (by omega), show (101 * (i + 1) + m) / 101 - 1 = i by omega, show (101 * (i + 1) + m) % 101 = m by omega, va_up_self]
theorem zm_w_set {a m : Nat} (hm : m < 20) : zm_w (va_up rg i (r.1, va_up r.2 a (va_up (r.2 a) m v))) a = va_up (zm_w (va_up rg i r) a) (20 * i + m) v := by
  funext k
  by_cases h : k = 20 * i + m
  · subst h
    rw [va_up_self, zm_w_at rg i a _ hm]
    show va_up r.2 a (va_up (r.2 a) m v) a m = v
    rw [va_up_self, va_up_self]
  · rw [va_up_ne _ _ h]
    unfold zm_w
    by_cases e : k / 20 = i
    · rw [e, va_up_self, va_up_self]
      show va_up r.2 a (va_up (r.2 a) m v) a (k % 20) = _
      rw [va_up_self, va_up_ne _ _ (by omega)]
    · rw [va_up_ne _ _ e, va_up_ne _ _ e]
theorem zm_w_ne {a b : Nat} (h : b ≠ a) {f : Nat → Nat} : zm_w (va_up rg i (r.1, va_up r.2 a f)) b = zm_w (va_up rg i r) b := by
  funext k
  unfold zm_w
  by_cases e : k / 20 = i
  · rw [e, va_up_self, va_up_self]
    show va_up r.2 a f b (k % 20) = _
    rw [va_up_ne _ _ h]
  · rw [va_up_ne _ _ e, va_up_ne _ _ e]
theorem zm_d_ne {a : Nat} (h : 3 ≠ a) {f : Nat → Nat} : zm_d (va_up rg i (r.1, va_up r.2 a f)) = zm_d (va_up rg i r) := by
  funext k
  unfold zm_d
  by_cases h0 : k < 101
  · rw [if_pos h0, if_pos h0]
  · rw [if_neg h0, if_neg h0]
    by_cases e : k / 101 - 1 = i
    · rw [e, va_up_self, va_up_self]
      show va_up r.2 a f 3 (k % 101) = _
      rw [va_up_ne _ _ h]
    · rw [va_up_ne _ _ e, va_up_ne _ _ e]
theorem zm_d_set {m : Nat} (hm : m ≤ 100) : zm_d (va_up rg i (r.1, va_up r.2 3 (va_up (r.2 3) m v))) = va_up (zm_d (va_up rg i r)) (101 * (i + 1) + m) v := by
  funext k
  by_cases h : k = 101 * (i + 1) + m
  · subst h
    rw [va_up_self, zm_d_at rg i _ hm]
    show va_up r.2 3 (va_up (r.2 3) m v) 3 m = v
    rw [va_up_self, va_up_self]
  · rw [va_up_ne _ _ h]
    unfold zm_d
    by_cases h0 : k < 101
    · rw [if_pos h0, if_pos h0]
    · rw [if_neg h0, if_neg h0]
      by_cases e : k / 101 - 1 = i
      · rw [e, va_up_self, va_up_self]
        show va_up r.2 3 (va_up (r.2 3) m v) 3 (k % 101) = _
        rw [va_up_self, va_up_ne _ _ (by omega)]
      · rw [va_up_ne _ _ e, va_up_ne _ _ e]
end ZMC
theorem zm_at.s0 {g : zw_G} {ad : Nat → Nat} {E : Nat → va_E} {q : Nat → Nat} {rg : zt_R} {ev fs fl : Nat → Nat} {i : Nat} {r : (Nat → Nat) × (Nat → Nat → Nat)} (h : zm_at g ad E q (va_up rg i r) ev fs fl) (v : Nat) : zm_at g ad (va_up E 9 (zr_ia g 31 (va_up (zm_c (va_up rg i r) 0) (i + 1) v))) q (va_up rg i (va_up r.1 0 v, r.2)) ev fs fl := ⟨by rw [va_up_ne _ _ (by decide)]; exact h.1, by rw [va_up_self, zm_c_set], by rw [va_up_ne _ _ (by decide), zm_c_ne (by decide)]; exact h.2.2.1, by rw [va_up_ne _ _ (by decide), zm_c_ne (by decide)]; exact h.2.2.2.1, by rw [va_up_ne _ _ (by decide), zm_c_ne (by decide)]; exact h.2.2.2.2.1, by rw [va_up_ne _ _ (by decide), zm_c_ne (by decide)]; exact h.2.2.2.2.2.1, by rw [va_up_ne _ _ (by decide), zm_c_ne (by decide)]; exact h.2.2.2.2.2.2.1, by rw [va_up_ne _ _ (by decide), zm_c_ne (by decide)]; exact h.2.2.2.2.2.2.2.1, by rw [va_up_ne _ _ (by decide), zm_c_ne (by decide)]; exact h.2.2.2.2.2.2.2.2.1, by rw [va_up_ne _ _ (by decide), zm_c_ne (by decide)]; exact h.2.2.2.2.2.2.2.2.2.1, by rw [va_up_ne _ _ (by decide), zm_w_sc]; exact h.2.2.2.2.2.2.2.2.2.2.1, by rw [va_up_ne _ _ (by decide), zm_d_sc]; exact h.2.2.2.2.2.2.2.2.2.2.2.1, by rw [va_up_ne _ _ (by decide), zm_w_sc]; exact h.2.2.2.2.2.2.2.2.2.2.2.2.1, by rw [va_up_ne _ _ (by decide), zm_w_sc]; exact h.2.2.2.2.2.2.2.2.2.2.2.2.2.1, by rw [va_up_ne _ _ (by decide)]; exact h.2.2.2.2.2.2.2.2.2.2.2.2.2.2.1, by rw [va_up_ne _ _ (by decide)]; exact h.2.2.2.2.2.2.2.2.2.2.2.2.2.2.2.1, by rw [va_up_ne _ _ (by decide)]; exact h.2.2.2.2.2.2.2.2.2.2.2.2.2.2.2.2⟩
theorem zm_at.s1 {g : zw_G} {ad : Nat → Nat} {E : Nat → va_E} {q : Nat → Nat} {rg : zt_R} {ev fs fl : Nat → Nat} {i : Nat} {r : (Nat → Nat) × (Nat → Nat → Nat)} (h : zm_at g ad E q (va_up rg i r) ev fs fl) (v : Nat) : zm_at g ad (va_up E 10 (zr_ia g 31 (va_up (zm_c (va_up rg i r) 1) (i + 1) v))) q (va_up rg i (va_up r.1 1 v, r.2)) ev fs fl := ⟨by rw [va_up_ne _ _ (by decide)]; exact h.1, by rw [va_up_ne _ _ (by decide), zm_c_ne (by decide)]; exact h.2.1, by rw [va_up_self, zm_c_set], by rw [va_up_ne _ _ (by decide), zm_c_ne (by decide)]; exact h.2.2.2.1, by rw [va_up_ne _ _ (by decide), zm_c_ne (by decide)]; exact h.2.2.2.2.1, by rw [va_up_ne _ _ (by decide), zm_c_ne (by decide)]; exact h.2.2.2.2.2.1, by rw [va_up_ne _ _ (by decide), zm_c_ne (by decide)]; exact h.2.2.2.2.2.2.1, by rw [va_up_ne _ _ (by decide), zm_c_ne (by decide)]; exact h.2.2.2.2.2.2.2.1, by rw [va_up_ne _ _ (by decide), zm_c_ne (by decide)]; exact h.2.2.2.2.2.2.2.2.1, by rw [va_up_ne _ _ (by decide), zm_c_ne (by decide)]; exact h.2.2.2.2.2.2.2.2.2.1, by rw [va_up_ne _ _ (by decide), zm_w_sc]; exact h.2.2.2.2.2.2.2.2.2.2.1, by rw [va_up_ne _ _ (by decide), zm_d_sc]; exact h.2.2.2.2.2.2.2.2.2.2.2.1, by rw [va_up_ne _ _ (by decide), zm_w_sc]; exact h.2.2.2.2.2.2.2.2.2.2.2.2.1, by rw [va_up_ne _ _ (by decide), zm_w_sc]; exact h.2.2.2.2.2.2.2.2.2.2.2.2.2.1, by rw [va_up_ne _ _ (by decide)]; exact h.2.2.2.2.2.2.2.2.2.2.2.2.2.2.1, by rw [va_up_ne _ _ (by decide)]; exact h.2.2.2.2.2.2.2.2.2.2.2.2.2.2.2.1, by rw [va_up_ne _ _ (by decide)]; exact h.2.2.2.2.2.2.2.2.2.2.2.2.2.2.2.2⟩
theorem zm_at.s2 {g : zw_G} {ad : Nat → Nat} {E : Nat → va_E} {q : Nat → Nat} {rg : zt_R} {ev fs fl : Nat → Nat} {i : Nat} {r : (Nat → Nat) × (Nat → Nat → Nat)} (h : zm_at g ad E q (va_up rg i r) ev fs fl) (v : Nat) : zm_at g ad (va_up E 11 (zr_ia g 31 (va_up (zm_c (va_up rg i r) 2) (i + 1) v))) q (va_up rg i (va_up r.1 2 v, r.2)) ev fs fl := ⟨by rw [va_up_ne _ _ (by decide)]; exact h.1, by rw [va_up_ne _ _ (by decide), zm_c_ne (by decide)]; exact h.2.1, by rw [va_up_ne _ _ (by decide), zm_c_ne (by decide)]; exact h.2.2.1, by rw [va_up_self, zm_c_set], by rw [va_up_ne _ _ (by decide), zm_c_ne (by decide)]; exact h.2.2.2.2.1, by rw [va_up_ne _ _ (by decide), zm_c_ne (by decide)]; exact h.2.2.2.2.2.1, by rw [va_up_ne _ _ (by decide), zm_c_ne (by decide)]; exact h.2.2.2.2.2.2.1, by rw [va_up_ne _ _ (by decide), zm_c_ne (by decide)]; exact h.2.2.2.2.2.2.2.1, by rw [va_up_ne _ _ (by decide), zm_c_ne (by decide)]; exact h.2.2.2.2.2.2.2.2.1, by rw [va_up_ne _ _ (by decide), zm_c_ne (by decide)]; exact h.2.2.2.2.2.2.2.2.2.1, by rw [va_up_ne _ _ (by decide), zm_w_sc]; exact h.2.2.2.2.2.2.2.2.2.2.1, by rw [va_up_ne _ _ (by decide), zm_d_sc]; exact h.2.2.2.2.2.2.2.2.2.2.2.1, by rw [va_up_ne _ _ (by decide), zm_w_sc]; exact h.2.2.2.2.2.2.2.2.2.2.2.2.1, by rw [va_up_ne _ _ (by decide), zm_w_sc]; exact h.2.2.2.2.2.2.2.2.2.2.2.2.2.1, by rw [va_up_ne _ _ (by decide)]; exact h.2.2.2.2.2.2.2.2.2.2.2.2.2.2.1, by rw [va_up_ne _ _ (by decide)]; exact h.2.2.2.2.2.2.2.2.2.2.2.2.2.2.2.1, by rw [va_up_ne _ _ (by decide)]; exact h.2.2.2.2.2.2.2.2.2.2.2.2.2.2.2.2⟩
theorem zm_at.s3 {g : zw_G} {ad : Nat → Nat} {E : Nat → va_E} {q : Nat → Nat} {rg : zt_R} {ev fs fl : Nat → Nat} {i : Nat} {r : (Nat → Nat) × (Nat → Nat → Nat)} (h : zm_at g ad E q (va_up rg i r) ev fs fl) (v : Nat) : zm_at g ad (va_up E 12 (zr_ia g 31 (va_up (zm_c (va_up rg i r) 3) (i + 1) v))) q (va_up rg i (va_up r.1 3 v, r.2)) ev fs fl := ⟨by rw [va_up_ne _ _ (by decide)]; exact h.1, by rw [va_up_ne _ _ (by decide), zm_c_ne (by decide)]; exact h.2.1, by rw [va_up_ne _ _ (by decide), zm_c_ne (by decide)]; exact h.2.2.1, by rw [va_up_ne _ _ (by decide), zm_c_ne (by decide)]; exact h.2.2.2.1, by rw [va_up_self, zm_c_set], by rw [va_up_ne _ _ (by decide), zm_c_ne (by decide)]; exact h.2.2.2.2.2.1, by rw [va_up_ne _ _ (by decide), zm_c_ne (by decide)]; exact h.2.2.2.2.2.2.1, by rw [va_up_ne _ _ (by decide), zm_c_ne (by decide)]; exact h.2.2.2.2.2.2.2.1, by rw [va_up_ne _ _ (by decide), zm_c_ne (by decide)]; exact h.2.2.2.2.2.2.2.2.1, by rw [va_up_ne _ _ (by decide), zm_c_ne (by decide)]; exact h.2.2.2.2.2.2.2.2.2.1, by rw [va_up_ne _ _ (by decide), zm_w_sc]; exact h.2.2.2.2.2.2.2.2.2.2.1, by rw [va_up_ne _ _ (by decide), zm_d_sc]; exact h.2.2.2.2.2.2.2.2.2.2.2.1, by rw [va_up_ne _ _ (by decide), zm_w_sc]; exact h.2.2.2.2.2.2.2.2.2.2.2.2.1, by rw [va_up_ne _ _ (by decide), zm_w_sc]; exact h.2.2.2.2.2.2.2.2.2.2.2.2.2.1, by rw [va_up_ne _ _ (by decide)]; exact h.2.2.2.2.2.2.2.2.2.2.2.2.2.2.1, by rw [va_up_ne _ _ (by decide)]; exact h.2.2.2.2.2.2.2.2.2.2.2.2.2.2.2.1, by rw [va_up_ne _ _ (by decide)]; exact h.2.2.2.2.2.2.2.2.2.2.2.2.2.2.2.2⟩
theorem zm_at.s4 {g : zw_G} {ad : Nat → Nat} {E : Nat → va_E} {q : Nat → Nat} {rg : zt_R} {ev fs fl : Nat → Nat} {i : Nat} {r : (Nat → Nat) × (Nat → Nat → Nat)} (h : zm_at g ad E q (va_up rg i r) ev fs fl) (v : Nat) : zm_at g ad (va_up E 13 (zr_ia g 31 (va_up (zm_c (va_up rg i r) 4) (i + 1) v))) q (va_up rg i (va_up r.1 4 v, r.2)) ev fs fl := ⟨by rw [va_up_ne _ _ (by decide)]; exact h.1, by rw [va_up_ne _ _ (by decide), zm_c_ne (by decide)]; exact h.2.1, by rw [va_up_ne _ _ (by decide), zm_c_ne (by decide)]; exact h.2.2.1, by rw [va_up_ne _ _ (by decide), zm_c_ne (by decide)]; exact h.2.2.2.1, by rw [va_up_ne _ _ (by decide), zm_c_ne (by decide)]; exact h.2.2.2.2.1, by rw [va_up_self, zm_c_set], by rw [va_up_ne _ _ (by decide), zm_c_ne (by decide)]; exact h.2.2.2.2.2.2.1, by rw [va_up_ne _ _ (by decide), zm_c_ne (by decide)]; exact h.2.2.2.2.2.2.2.1, by rw [va_up_ne _ _ (by decide), zm_c_ne (by decide)]; exact h.2.2.2.2.2.2.2.2.1, by rw [va_up_ne _ _ (by decide), zm_c_ne (by decide)]; exact h.2.2.2.2.2.2.2.2.2.1, by rw [va_up_ne _ _ (by decide), zm_w_sc]; exact h.2.2.2.2.2.2.2.2.2.2.1, by rw [va_up_ne _ _ (by decide), zm_d_sc]; exact h.2.2.2.2.2.2.2.2.2.2.2.1, by rw [va_up_ne _ _ (by decide), zm_w_sc]; exact h.2.2.2.2.2.2.2.2.2.2.2.2.1, by rw [va_up_ne _ _ (by decide), zm_w_sc]; exact h.2.2.2.2.2.2.2.2.2.2.2.2.2.1, by rw [va_up_ne _ _ (by decide)]; exact h.2.2.2.2.2.2.2.2.2.2.2.2.2.2.1, by rw [va_up_ne _ _ (by decide)]; exact h.2.2.2.2.2.2.2.2.2.2.2.2.2.2.2.1, by rw [va_up_ne _ _ (by decide)]; exact h.2.2.2.2.2.2.2.2.2.2.2.2.2.2.2.2⟩
theorem zm_at.s6 {g : zw_G} {ad : Nat → Nat} {E : Nat → va_E} {q : Nat → Nat} {rg : zt_R} {ev fs fl : Nat → Nat} {i : Nat} {r : (Nat → Nat) × (Nat → Nat → Nat)} (h : zm_at g ad E q (va_up rg i r) ev fs fl) (v : Nat) : zm_at g ad (va_up E 14 (zr_ia g 31 (va_up (zm_c (va_up rg i r) 6) (i + 1) v))) q (va_up rg i (va_up r.1 6 v, r.2)) ev fs fl := ⟨by rw [va_up_ne _ _ (by decide)]; exact h.1, by rw [va_up_ne _ _ (by decide), zm_c_ne (by decide)]; exact h.2.1, by rw [va_up_ne _ _ (by decide), zm_c_ne (by decide)]; exact h.2.2.1, by rw [va_up_ne _ _ (by decide), zm_c_ne (by decide)]; exact h.2.2.2.1, by rw [va_up_ne _ _ (by decide), zm_c_ne (by decide)]; exact h.2.2.2.2.1, by rw [va_up_ne _ _ (by decide), zm_c_ne (by decide)]; exact h.2.2.2.2.2.1, by rw [va_up_self, zm_c_set], by rw [va_up_ne _ _ (by decide), zm_c_ne (by decide)]; exact h.2.2.2.2.2.2.2.1, by rw [va_up_ne _ _ (by decide), zm_c_ne (by decide)]; exact h.2.2.2.2.2.2.2.2.1, by rw [va_up_ne _ _ (by decide), zm_c_ne (by decide)]; exact h.2.2.2.2.2.2.2.2.2.1, by rw [va_up_ne _ _ (by decide), zm_w_sc]; exact h.2.2.2.2.2.2.2.2.2.2.1, by rw [va_up_ne _ _ (by decide), zm_d_sc]; exact h.2.2.2.2.2.2.2.2.2.2.2.1, by rw [va_up_ne _ _ (by decide), zm_w_sc]; exact h.2.2.2.2.2.2.2.2.2.2.2.2.1, by rw [va_up_ne _ _ (by decide), zm_w_sc]; exact h.2.2.2.2.2.2.2.2.2.2.2.2.2.1, by rw [va_up_ne _ _ (by decide)]; exact h.2.2.2.2.2.2.2.2.2.2.2.2.2.2.1, by rw [va_up_ne _ _ (by decide)]; exact h.2.2.2.2.2.2.2.2.2.2.2.2.2.2.2.1, by rw [va_up_ne _ _ (by decide)]; exact h.2.2.2.2.2.2.2.2.2.2.2.2.2.2.2.2⟩
theorem zm_at.s5 {g : zw_G} {ad : Nat → Nat} {E : Nat → va_E} {q : Nat → Nat} {rg : zt_R} {ev fs fl : Nat → Nat} {i : Nat} {r : (Nat → Nat) × (Nat → Nat → Nat)} (h : zm_at g ad E q (va_up rg i r) ev fs fl) (v : Nat) : zm_at g ad (va_up E 15 (zr_ia g 31 (va_up (zm_c (va_up rg i r) 5) (i + 1) v))) q (va_up rg i (va_up r.1 5 v, r.2)) ev fs fl := ⟨by rw [va_up_ne _ _ (by decide)]; exact h.1, by rw [va_up_ne _ _ (by decide), zm_c_ne (by decide)]; exact h.2.1, by rw [va_up_ne _ _ (by decide), zm_c_ne (by decide)]; exact h.2.2.1, by rw [va_up_ne _ _ (by decide), zm_c_ne (by decide)]; exact h.2.2.2.1, by rw [va_up_ne _ _ (by decide), zm_c_ne (by decide)]; exact h.2.2.2.2.1, by rw [va_up_ne _ _ (by decide), zm_c_ne (by decide)]; exact h.2.2.2.2.2.1, by rw [va_up_ne _ _ (by decide), zm_c_ne (by decide)]; exact h.2.2.2.2.2.2.1, by rw [va_up_self, zm_c_set], by rw [va_up_ne _ _ (by decide), zm_c_ne (by decide)]; exact h.2.2.2.2.2.2.2.2.1, by rw [va_up_ne _ _ (by decide), zm_c_ne (by decide)]; exact h.2.2.2.2.2.2.2.2.2.1, by rw [va_up_ne _ _ (by decide), zm_w_sc]; exact h.2.2.2.2.2.2.2.2.2.2.1, by rw [va_up_ne _ _ (by decide), zm_d_sc]; exact h.2.2.2.2.2.2.2.2.2.2.2.1, by rw [va_up_ne _ _ (by decide), zm_w_sc]; exact h.2.2.2.2.2.2.2.2.2.2.2.2.1, by rw [va_up_ne _ _ (by decide), zm_w_sc]; exact h.2.2.2.2.2.2.2.2.2.2.2.2.2.1, by rw [va_up_ne _ _ (by decide)]; exact h.2.2.2.2.2.2.2.2.2.2.2.2.2.2.1, by rw [va_up_ne _ _ (by decide)]; exact h.2.2.2.2.2.2.2.2.2.2.2.2.2.2.2.1, by rw [va_up_ne _ _ (by decide)]; exact h.2.2.2.2.2.2.2.2.2.2.2.2.2.2.2.2⟩
theorem zm_at.s8 {g : zw_G} {ad : Nat → Nat} {E : Nat → va_E} {q : Nat → Nat} {rg : zt_R} {ev fs fl : Nat → Nat} {i : Nat} {r : (Nat → Nat) × (Nat → Nat → Nat)} (h : zm_at g ad E q (va_up rg i r) ev fs fl) (v : Nat) : zm_at g ad (va_up E 16 (zr_ia g 31 (va_up (zm_c (va_up rg i r) 8) (i + 1) v))) q (va_up rg i (va_up r.1 8 v, r.2)) ev fs fl := ⟨by rw [va_up_ne _ _ (by decide)]; exact h.1, by rw [va_up_ne _ _ (by decide), zm_c_ne (by decide)]; exact h.2.1, by rw [va_up_ne _ _ (by decide), zm_c_ne (by decide)]; exact h.2.2.1, by rw [va_up_ne _ _ (by decide), zm_c_ne (by decide)]; exact h.2.2.2.1, by rw [va_up_ne _ _ (by decide), zm_c_ne (by decide)]; exact h.2.2.2.2.1, by rw [va_up_ne _ _ (by decide), zm_c_ne (by decide)]; exact h.2.2.2.2.2.1, by rw [va_up_ne _ _ (by decide), zm_c_ne (by decide)]; exact h.2.2.2.2.2.2.1, by rw [va_up_ne _ _ (by decide), zm_c_ne (by decide)]; exact h.2.2.2.2.2.2.2.1, by rw [va_up_self, zm_c_set], by rw [va_up_ne _ _ (by decide), zm_c_ne (by decide)]; exact h.2.2.2.2.2.2.2.2.2.1, by rw [va_up_ne _ _ (by decide), zm_w_sc]; exact h.2.2.2.2.2.2.2.2.2.2.1, by rw [va_up_ne _ _ (by decide), zm_d_sc]; exact h.2.2.2.2.2.2.2.2.2.2.2.1, by rw [va_up_ne _ _ (by decide), zm_w_sc]; exact h.2.2.2.2.2.2.2.2.2.2.2.2.1, by rw [va_up_ne _ _ (by decide), zm_w_sc]; exact h.2.2.2.2.2.2.2.2.2.2.2.2.2.1, by rw [va_up_ne _ _ (by decide)]; exact h.2.2.2.2.2.2.2.2.2.2.2.2.2.2.1, by rw [va_up_ne _ _ (by decide)]; exact h.2.2.2.2.2.2.2.2.2.2.2.2.2.2.2.1, by rw [va_up_ne _ _ (by decide)]; exact h.2.2.2.2.2.2.2.2.2.2.2.2.2.2.2.2⟩
theorem zm_at.s7 {g : zw_G} {ad : Nat → Nat} {E : Nat → va_E} {q : Nat → Nat} {rg : zt_R} {ev fs fl : Nat → Nat} {i : Nat} {r : (Nat → Nat) × (Nat → Nat → Nat)} (h : zm_at g ad E q (va_up rg i r) ev fs fl) (v : Nat) : zm_at g ad (va_up E 17 (zr_za g 31 (va_up (zm_c (va_up rg i r) 7) (i + 1) v))) q (va_up rg i (va_up r.1 7 v, r.2)) ev fs fl := ⟨by rw [va_up_ne _ _ (by decide)]; exact h.1, by rw [va_up_ne _ _ (by decide), zm_c_ne (by decide)]; exact h.2.1, by rw [va_up_ne _ _ (by decide), zm_c_ne (by decide)]; exact h.2.2.1, by rw [va_up_ne _ _ (by decide), zm_c_ne (by decide)]; exact h.2.2.2.1, by rw [va_up_ne _ _ (by decide), zm_c_ne (by decide)]; exact h.2.2.2.2.1, by rw [va_up_ne _ _ (by decide), zm_c_ne (by decide)]; exact h.2.2.2.2.2.1, by rw [va_up_ne _ _ (by decide), zm_c_ne (by decide)]; exact h.2.2.2.2.2.2.1, by rw [va_up_ne _ _ (by decide), zm_c_ne (by decide)]; exact h.2.2.2.2.2.2.2.1, by rw [va_up_ne _ _ (by decide), zm_c_ne (by decide)]; exact h.2.2.2.2.2.2.2.2.1, by rw [va_up_self, zm_c_set], by rw [va_up_ne _ _ (by decide), zm_w_sc]; exact h.2.2.2.2.2.2.2.2.2.2.1, by rw [va_up_ne _ _ (by decide), zm_d_sc]; exact h.2.2.2.2.2.2.2.2.2.2.2.1, by rw [va_up_ne _ _ (by decide), zm_w_sc]; exact h.2.2.2.2.2.2.2.2.2.2.2.2.1, by rw [va_up_ne _ _ (by decide), zm_w_sc]; exact h.2.2.2.2.2.2.2.2.2.2.2.2.2.1, by rw [va_up_ne _ _ (by decide)]; exact h.2.2.2.2.2.2.2.2.2.2.2.2.2.2.1, by rw [va_up_ne _ _ (by decide)]; exact h.2.2.2.2.2.2.2.2.2.2.2.2.2.2.2.1, by rw [va_up_ne _ _ (by decide)]; exact h.2.2.2.2.2.2.2.2.2.2.2.2.2.2.2.2⟩
theorem zm_at.w2 {g : zw_G} {ad : Nat → Nat} {E : Nat → va_E} {q : Nat → Nat} {rg : zt_R} {ev fs fl : Nat → Nat} {i : Nat} {r : (Nat → Nat) × (Nat → Nat → Nat)} (h : zm_at g ad E q (va_up rg i r) ev fs fl) {m : Nat} (hm : m < 20) (v : Nat) : zm_at g ad (va_up E 18 (zr_za g 620 (va_up (zm_w (va_up rg i r) 2) (20 * i + m) v))) q (va_up rg i (r.1, va_up r.2 2 (va_up (r.2 2) m v))) ev fs fl := ⟨by rw [va_up_ne _ _ (by decide)]; exact h.1, by rw [va_up_ne _ _ (by decide), zm_c_ar]; exact h.2.1, by rw [va_up_ne _ _ (by decide), zm_c_ar]; exact h.2.2.1, by rw [va_up_ne _ _ (by decide), zm_c_ar]; exact h.2.2.2.1, by rw [va_up_ne _ _ (by decide), zm_c_ar]; exact h.2.2.2.2.1, by rw [va_up_ne _ _ (by decide), zm_c_ar]; exact h.2.2.2.2.2.1, by rw [va_up_ne _ _ (by decide), zm_c_ar]; exact h.2.2.2.2.2.2.1, by rw [va_up_ne _ _ (by decide), zm_c_ar]; exact h.2.2.2.2.2.2.2.1, by rw [va_up_ne _ _ (by decide), zm_c_ar]; exact h.2.2.2.2.2.2.2.2.1, by rw [va_up_ne _ _ (by decide), zm_c_ar]; exact h.2.2.2.2.2.2.2.2.2.1, by rw [va_up_self, zm_w_set hm], by rw [va_up_ne _ _ (by decide), zm_d_ne (by decide)]; exact h.2.2.2.2.2.2.2.2.2.2.2.1, by rw [va_up_ne _ _ (by decide), zm_w_ne (by decide)]; exact h.2.2.2.2.2.2.2.2.2.2.2.2.1, by rw [va_up_ne _ _ (by decide), zm_w_ne (by decide)]; exact h.2.2.2.2.2.2.2.2.2.2.2.2.2.1, by rw [va_up_ne _ _ (by decide)]; exact h.2.2.2.2.2.2.2.2.2.2.2.2.2.2.1, by rw [va_up_ne _ _ (by decide)]; exact h.2.2.2.2.2.2.2.2.2.2.2.2.2.2.2.1, by rw [va_up_ne _ _ (by decide)]; exact h.2.2.2.2.2.2.2.2.2.2.2.2.2.2.2.2⟩
theorem zm_at.w0 {g : zw_G} {ad : Nat → Nat} {E : Nat → va_E} {q : Nat → Nat} {rg : zt_R} {ev fs fl : Nat → Nat} {i : Nat} {r : (Nat → Nat) × (Nat → Nat → Nat)} (h : zm_at g ad E q (va_up rg i r) ev fs fl) {m : Nat} (hm : m < 20) (v : Nat) : zm_at g ad (va_up E 20 (zr_ia g 620 (va_up (zm_w (va_up rg i r) 0) (20 * i + m) v))) q (va_up rg i (r.1, va_up r.2 0 (va_up (r.2 0) m v))) ev fs fl := ⟨by rw [va_up_ne _ _ (by decide)]; exact h.1, by rw [va_up_ne _ _ (by decide), zm_c_ar]; exact h.2.1, by rw [va_up_ne _ _ (by decide), zm_c_ar]; exact h.2.2.1, by rw [va_up_ne _ _ (by decide), zm_c_ar]; exact h.2.2.2.1, by rw [va_up_ne _ _ (by decide), zm_c_ar]; exact h.2.2.2.2.1, by rw [va_up_ne _ _ (by decide), zm_c_ar]; exact h.2.2.2.2.2.1, by rw [va_up_ne _ _ (by decide), zm_c_ar]; exact h.2.2.2.2.2.2.1, by rw [va_up_ne _ _ (by decide), zm_c_ar]; exact h.2.2.2.2.2.2.2.1, by rw [va_up_ne _ _ (by decide), zm_c_ar]; exact h.2.2.2.2.2.2.2.2.1, by rw [va_up_ne _ _ (by decide), zm_c_ar]; exact h.2.2.2.2.2.2.2.2.2.1, by rw [va_up_ne _ _ (by decide), zm_w_ne (by decide)]; exact h.2.2.2.2.2.2.2.2.2.2.1, by rw [va_up_ne _ _ (by decide), zm_d_ne (by decide)]; exact h.2.2.2.2.2.2.2.2.2.2.2.1, by rw [va_up_self, zm_w_set hm], by rw [va_up_ne _ _ (by decide), zm_w_ne (by decide)]; exact h.2.2.2.2.2.2.2.2.2.2.2.2.2.1, by rw [va_up_ne _ _ (by decide)]; exact h.2.2.2.2.2.2.2.2.2.2.2.2.2.2.1, by rw [va_up_ne _ _ (by decide)]; exact h.2.2.2.2.2.2.2.2.2.2.2.2.2.2.2.1, by rw [va_up_ne _ _ (by decide)]; exact h.2.2.2.2.2.2.2.2.2.2.2.2.2.2.2.2⟩
theorem zm_at.w1 {g : zw_G} {ad : Nat → Nat} {E : Nat → va_E} {q : Nat → Nat} {rg : zt_R} {ev fs fl : Nat → Nat} {i : Nat} {r : (Nat → Nat) × (Nat → Nat → Nat)} (h : zm_at g ad E q (va_up rg i r) ev fs fl) {m : Nat} (hm : m < 20) (v : Nat) : zm_at g ad (va_up E 21 (zr_ia g 620 (va_up (zm_w (va_up rg i r) 1) (20 * i + m) v))) q (va_up rg i (r.1, va_up r.2 1 (va_up (r.2 1) m v))) ev fs fl := ⟨by rw [va_up_ne _ _ (by decide)]; exact h.1, by rw [va_up_ne _ _ (by decide), zm_c_ar]; exact h.2.1, by rw [va_up_ne _ _ (by decide), zm_c_ar]; exact h.2.2.1, by rw [va_up_ne _ _ (by decide), zm_c_ar]; exact h.2.2.2.1, by rw [va_up_ne _ _ (by decide), zm_c_ar]; exact h.2.2.2.2.1, by rw [va_up_ne _ _ (by decide), zm_c_ar]; exact h.2.2.2.2.2.1, by rw [va_up_ne _ _ (by decide), zm_c_ar]; exact h.2.2.2.2.2.2.1, by rw [va_up_ne _ _ (by decide), zm_c_ar]; exact h.2.2.2.2.2.2.2.1, by rw [va_up_ne _ _ (by decide), zm_c_ar]; exact h.2.2.2.2.2.2.2.2.1, by rw [va_up_ne _ _ (by decide), zm_c_ar]; exact h.2.2.2.2.2.2.2.2.2.1, by rw [va_up_ne _ _ (by decide), zm_w_ne (by decide)]; exact h.2.2.2.2.2.2.2.2.2.2.1, by rw [va_up_ne _ _ (by decide), zm_d_ne (by decide)]; exact h.2.2.2.2.2.2.2.2.2.2.2.1, by rw [va_up_ne _ _ (by decide), zm_w_ne (by decide)]; exact h.2.2.2.2.2.2.2.2.2.2.2.2.1, by rw [va_up_self, zm_w_set hm], by rw [va_up_ne _ _ (by decide)]; exact h.2.2.2.2.2.2.2.2.2.2.2.2.2.2.1, by rw [va_up_ne _ _ (by decide)]; exact h.2.2.2.2.2.2.2.2.2.2.2.2.2.2.2.1, by rw [va_up_ne _ _ (by decide)]; exact h.2.2.2.2.2.2.2.2.2.2.2.2.2.2.2.2⟩
theorem zm_at.d {g : zw_G} {ad : Nat → Nat} {E : Nat → va_E} {q : Nat → Nat} {rg : zt_R} {ev fs fl : Nat → Nat} {i : Nat} {r : (Nat → Nat) × (Nat → Nat → Nat)} (h : zm_at g ad E q (va_up rg i r) ev fs fl) {m : Nat} (hm : m ≤ 100) (v : Nat) : zm_at g ad (va_up E 19 (zr_ia g 3131 (va_up (zm_d (va_up rg i r)) (101 * (i + 1) + m) v))) q (va_up rg i (r.1, va_up r.2 3 (va_up (r.2 3) m v))) ev fs fl := ⟨by rw [va_up_ne _ _ (by decide)]; exact h.1, by rw [va_up_ne _ _ (by decide), zm_c_ar]; exact h.2.1, by rw [va_up_ne _ _ (by decide), zm_c_ar]; exact h.2.2.1, by rw [va_up_ne _ _ (by decide), zm_c_ar]; exact h.2.2.2.1, by rw [va_up_ne _ _ (by decide), zm_c_ar]; exact h.2.2.2.2.1, by rw [va_up_ne _ _ (by decide), zm_c_ar]; exact h.2.2.2.2.2.1, by rw [va_up_ne _ _ (by decide), zm_c_ar]; exact h.2.2.2.2.2.2.1, by rw [va_up_ne _ _ (by decide), zm_c_ar]; exact h.2.2.2.2.2.2.2.1, by rw [va_up_ne _ _ (by decide), zm_c_ar]; exact h.2.2.2.2.2.2.2.2.1, by rw [va_up_ne _ _ (by decide), zm_c_ar]; exact h.2.2.2.2.2.2.2.2.2.1, by rw [va_up_ne _ _ (by decide), zm_w_ne (by decide)]; exact h.2.2.2.2.2.2.2.2.2.2.1, by rw [va_up_self, zm_d_set hm], by rw [va_up_ne _ _ (by decide), zm_w_ne (by decide)]; exact h.2.2.2.2.2.2.2.2.2.2.2.2.1, by rw [va_up_ne _ _ (by decide), zm_w_ne (by decide)]; exact h.2.2.2.2.2.2.2.2.2.2.2.2.2.1, by rw [va_up_ne _ _ (by decide)]; exact h.2.2.2.2.2.2.2.2.2.2.2.2.2.2.1, by rw [va_up_ne _ _ (by decide)]; exact h.2.2.2.2.2.2.2.2.2.2.2.2.2.2.2.1, by rw [va_up_ne _ _ (by decide)]; exact h.2.2.2.2.2.2.2.2.2.2.2.2.2.2.2.2⟩
theorem zm_at.o {g : zw_G} {ad : Nat → Nat} {E : Nat → va_E} {q : Nat → Nat} {rg : zt_R} {ev fs fl : Nat → Nat} (h : zm_at g ad E q rg ev fs fl) (q1 : Nat → Nat) : zm_at g ad (va_up E 8 (zm_o ad q1)) q1 rg ev fs fl := ⟨va_up_self _ _ _, by rw [va_up_ne _ _ (by decide)]; exact h.2.1, by rw [va_up_ne _ _ (by decide)]; exact h.2.2.1, by rw [va_up_ne _ _ (by decide)]; exact h.2.2.2.1, by rw [va_up_ne _ _ (by decide)]; exact h.2.2.2.2.1, by rw [va_up_ne _ _ (by decide)]; exact h.2.2.2.2.2.1, by rw [va_up_ne _ _ (by decide)]; exact h.2.2.2.2.2.2.1, by rw [va_up_ne _ _ (by decide)]; exact h.2.2.2.2.2.2.2.1, by rw [va_up_ne _ _ (by decide)]; exact h.2.2.2.2.2.2.2.2.1, by rw [va_up_ne _ _ (by decide)]; exact h.2.2.2.2.2.2.2.2.2.1, by rw [va_up_ne _ _ (by decide)]; exact h.2.2.2.2.2.2.2.2.2.2.1, by rw [va_up_ne _ _ (by decide)]; exact h.2.2.2.2.2.2.2.2.2.2.2.1, by rw [va_up_ne _ _ (by decide)]; exact h.2.2.2.2.2.2.2.2.2.2.2.2.1, by rw [va_up_ne _ _ (by decide)]; exact h.2.2.2.2.2.2.2.2.2.2.2.2.2.1, by rw [va_up_ne _ _ (by decide)]; exact h.2.2.2.2.2.2.2.2.2.2.2.2.2.2.1, by rw [va_up_ne _ _ (by decide)]; exact h.2.2.2.2.2.2.2.2.2.2.2.2.2.2.2.1, by rw [va_up_ne _ _ (by decide)]; exact h.2.2.2.2.2.2.2.2.2.2.2.2.2.2.2.2⟩
theorem zm_at.fs {g : zw_G} {ad : Nat → Nat} {E : Nat → va_E} {q : Nat → Nat} {rg : zt_R} {ev fs fl : Nat → Nat} (h : zm_at g ad E q rg ev fs fl) (f : Nat → Nat) : zm_at g ad (va_up E 22 (zr_ia g 600 f)) q rg ev f fl := ⟨by rw [va_up_ne _ _ (by decide)]; exact h.1, by rw [va_up_ne _ _ (by decide)]; exact h.2.1, by rw [va_up_ne _ _ (by decide)]; exact h.2.2.1, by rw [va_up_ne _ _ (by decide)]; exact h.2.2.2.1, by rw [va_up_ne _ _ (by decide)]; exact h.2.2.2.2.1, by rw [va_up_ne _ _ (by decide)]; exact h.2.2.2.2.2.1, by rw [va_up_ne _ _ (by decide)]; exact h.2.2.2.2.2.2.1, by rw [va_up_ne _ _ (by decide)]; exact h.2.2.2.2.2.2.2.1, by rw [va_up_ne _ _ (by decide)]; exact h.2.2.2.2.2.2.2.2.1, by rw [va_up_ne _ _ (by decide)]; exact h.2.2.2.2.2.2.2.2.2.1, by rw [va_up_ne _ _ (by decide)]; exact h.2.2.2.2.2.2.2.2.2.2.1, by rw [va_up_ne _ _ (by decide)]; exact h.2.2.2.2.2.2.2.2.2.2.2.1, by rw [va_up_ne _ _ (by decide)]; exact h.2.2.2.2.2.2.2.2.2.2.2.2.1, by rw [va_up_ne _ _ (by decide)]; exact h.2.2.2.2.2.2.2.2.2.2.2.2.2.1, va_up_self _ _ _, by rw [va_up_ne _ _ (by decide)]; exact h.2.2.2.2.2.2.2.2.2.2.2.2.2.2.2.1, by rw [va_up_ne _ _ (by decide)]; exact h.2.2.2.2.2.2.2.2.2.2.2.2.2.2.2.2⟩
theorem zm_at.ev {g : zw_G} {ad : Nat → Nat} {E : Nat → va_E} {q : Nat → Nat} {rg : zt_R} {ev fs fl : Nat → Nat} (h : zm_at g ad E q rg ev fs fl) (f : Nat → Nat) : zm_at g ad (va_up E 23 (zr_ia g 16 f)) q rg f fs fl := ⟨by rw [va_up_ne _ _ (by decide)]; exact h.1, by rw [va_up_ne _ _ (by decide)]; exact h.2.1, by rw [va_up_ne _ _ (by decide)]; exact h.2.2.1, by rw [va_up_ne _ _ (by decide)]; exact h.2.2.2.1, by rw [va_up_ne _ _ (by decide)]; exact h.2.2.2.2.1, by rw [va_up_ne _ _ (by decide)]; exact h.2.2.2.2.2.1, by rw [va_up_ne _ _ (by decide)]; exact h.2.2.2.2.2.2.1, by rw [va_up_ne _ _ (by decide)]; exact h.2.2.2.2.2.2.2.1, by rw [va_up_ne _ _ (by decide)]; exact h.2.2.2.2.2.2.2.2.1, by rw [va_up_ne _ _ (by decide)]; exact h.2.2.2.2.2.2.2.2.2.1, by rw [va_up_ne _ _ (by decide)]; exact h.2.2.2.2.2.2.2.2.2.2.1, by rw [va_up_ne _ _ (by decide)]; exact h.2.2.2.2.2.2.2.2.2.2.2.1, by rw [va_up_ne _ _ (by decide)]; exact h.2.2.2.2.2.2.2.2.2.2.2.2.1, by rw [va_up_ne _ _ (by decide)]; exact h.2.2.2.2.2.2.2.2.2.2.2.2.2.1, by rw [va_up_ne _ _ (by decide)]; exact h.2.2.2.2.2.2.2.2.2.2.2.2.2.2.1, va_up_self _ _ _, by rw [va_up_ne _ _ (by decide)]; exact h.2.2.2.2.2.2.2.2.2.2.2.2.2.2.2.2⟩
theorem zm_at.fl {g : zw_G} {ad : Nat → Nat} {E : Nat → va_E} {q : Nat → Nat} {rg : zt_R} {ev fs fl : Nat → Nat} (h : zm_at g ad E q rg ev fs fl) (f : Nat → Nat) : zm_at g ad (va_up E 24 (zr_ia g 3100 f)) q rg ev fs f := ⟨by rw [va_up_ne _ _ (by decide)]; exact h.1, by rw [va_up_ne _ _ (by decide)]; exact h.2.1, by rw [va_up_ne _ _ (by decide)]; exact h.2.2.1, by rw [va_up_ne _ _ (by decide)]; exact h.2.2.2.1, by rw [va_up_ne _ _ (by decide)]; exact h.2.2.2.2.1, by rw [va_up_ne _ _ (by decide)]; exact h.2.2.2.2.2.1, by rw [va_up_ne _ _ (by decide)]; exact h.2.2.2.2.2.2.1, by rw [va_up_ne _ _ (by decide)]; exact h.2.2.2.2.2.2.2.1, by rw [va_up_ne _ _ (by decide)]; exact h.2.2.2.2.2.2.2.2.1, by rw [va_up_ne _ _ (by decide)]; exact h.2.2.2.2.2.2.2.2.2.1, by rw [va_up_ne _ _ (by decide)]; exact h.2.2.2.2.2.2.2.2.2.2.1, by rw [va_up_ne _ _ (by decide)]; exact h.2.2.2.2.2.2.2.2.2.2.2.1, by rw [va_up_ne _ _ (by decide)]; exact h.2.2.2.2.2.2.2.2.2.2.2.2.1, by rw [va_up_ne _ _ (by decide)]; exact h.2.2.2.2.2.2.2.2.2.2.2.2.2.1, by rw [va_up_ne _ _ (by decide)]; exact h.2.2.2.2.2.2.2.2.2.2.2.2.2.2.1, by rw [va_up_ne _ _ (by decide)]; exact h.2.2.2.2.2.2.2.2.2.2.2.2.2.2.2.1, va_up_self _ _ _⟩
theorem zm_at.keep {g : zw_G} {ad : Nat → Nat} {E : Nat → va_E} {q : Nat → Nat} {rg : zt_R} {ev fs fl : Nat → Nat} {E1 : Nat → va_E} {ad1 : Nat → Nat} (h : zm_at g ad E q rg ev fs fl) (hk : ∀ k, 8 ≤ k → k < 25 → E1 k = E k) (ha : ∀ k, 8 ≤ k → k < 25 → ad1 k = ad k) : zm_at g ad1 E1 q rg ev fs fl := by
  refine ⟨?_, by rw [hk 9 (by decide) (by decide)]; exact h.2.1, by rw [hk 10 (by decide) (by decide)]; exact h.2.2.1, by rw [hk 11 (by decide) (by decide)]; exact h.2.2.2.1, by rw [hk 12 (by decide) (by decide)]; exact h.2.2.2.2.1, by rw [hk 13 (by decide) (by decide)]; exact h.2.2.2.2.2.1, by rw [hk 14 (by decide) (by decide)]; exact h.2.2.2.2.2.2.1, by rw [hk 15 (by decide) (by decide)]; exact h.2.2.2.2.2.2.2.1, by rw [hk 16 (by decide) (by decide)]; exact h.2.2.2.2.2.2.2.2.1, by rw [hk 17 (by decide) (by decide)]; exact h.2.2.2.2.2.2.2.2.2.1, by rw [hk 18 (by decide) (by decide)]; exact h.2.2.2.2.2.2.2.2.2.2.1, by rw [hk 19 (by decide) (by decide)]; exact h.2.2.2.2.2.2.2.2.2.2.2.1, by rw [hk 20 (by decide) (by decide)]; exact h.2.2.2.2.2.2.2.2.2.2.2.2.1, by rw [hk 21 (by decide) (by decide)]; exact h.2.2.2.2.2.2.2.2.2.2.2.2.2.1, by rw [hk 22 (by decide) (by decide)]; exact h.2.2.2.2.2.2.2.2.2.2.2.2.2.2.1, by rw [hk 23 (by decide) (by decide)]; exact h.2.2.2.2.2.2.2.2.2.2.2.2.2.2.2.1, by rw [hk 24 (by decide) (by decide)]; exact h.2.2.2.2.2.2.2.2.2.2.2.2.2.2.2.2⟩
  rw [hk 8 (by decide) (by decide), h.1]
  unfold zm_o
  rw [ha 9 (by decide) (by decide), ha 10 (by decide) (by decide), ha 11 (by decide) (by decide), ha 12 (by decide) (by decide), ha 13 (by decide) (by decide), ha 14 (by decide) (by decide), ha 15 (by decide) (by decide), ha 16 (by decide) (by decide), ha 17 (by decide) (by decide), ha 18 (by decide) (by decide), ha 19 (by decide) (by decide), ha 20 (by decide) (by decide), ha 21 (by decide) (by decide), ha 22 (by decide) (by decide), ha 23 (by decide) (by decide), ha 24 (by decide) (by decide)]
theorem zm_at.q {g : zw_G} {ad : Nat → Nat} {E : Nat → va_E} {q : Nat → Nat} {rg : zt_R} {ev fs fl : Nat → Nat} {q1 : Nat → Nat} (h : zm_at g ad E q rg ev fs fl) (h0 : q1 0 = q 0) (h1 : q1 1 = q 1) (h2 : q1 2 = q 2) (h3 : q1 3 = q 3) (h5 : q1 5 = q 5) : zm_at g ad E q1 rg ev fs fl := by
  refine ⟨?_, h.2⟩
  rw [h.1]; unfold zm_o; rw [h0, h1, h2, h3, h5]
theorem zm_at.rg {g : zw_G} {ad : Nat → Nat} {E : Nat → va_E} {q : Nat → Nat} {rg : zt_R} {ev fs fl : Nat → Nat} {rg1 : zt_R} (h : zm_at g ad E q rg ev fs fl) (e : rg = rg1) : zm_at g ad E q rg1 ev fs fl := e ▸ h
end
section
theorem d_M_init_0 : decode b_M_init 0 = .ok (.aload_n 0, 1) := by decide +kernel
theorem d_M_init_1 : decode b_M_init 1 = .ok (.invokespecial 1, 3) := by decide +kernel
theorem d_M_init_4 : decode b_M_init 4 = .ok (.aload_n 0, 1) := by decide +kernel
theorem d_M_init_5 : decode b_M_init 5 = .ok (.bipush 31, 2) := by decide +kernel
theorem d_M_init_7 : decode b_M_init 7 = .ok (.newarray .int, 2) := by decide +kernel
theorem d_M_init_9 : decode b_M_init 9 = .ok (.putfield 7, 3) := by decide +kernel
theorem d_M_init_12 : decode b_M_init 12 = .ok (.aload_n 0, 1) := by decide +kernel
theorem d_M_init_13 : decode b_M_init 13 = .ok (.bipush 31, 2) := by decide +kernel
theorem d_M_init_15 : decode b_M_init 15 = .ok (.newarray .int, 2) := by decide +kernel
theorem d_M_init_17 : decode b_M_init 17 = .ok (.putfield 13, 3) := by decide +kernel
theorem d_M_init_20 : decode b_M_init 20 = .ok (.aload_n 0, 1) := by decide +kernel
theorem d_M_init_21 : decode b_M_init 21 = .ok (.bipush 31, 2) := by decide +kernel
theorem d_M_init_23 : decode b_M_init 23 = .ok (.newarray .int, 2) := by decide +kernel
theorem d_M_init_25 : decode b_M_init 25 = .ok (.putfield 16, 3) := by decide +kernel
theorem d_M_init_28 : decode b_M_init 28 = .ok (.aload_n 0, 1) := by decide +kernel
theorem d_M_init_29 : decode b_M_init 29 = .ok (.bipush 31, 2) := by decide +kernel
theorem d_M_init_31 : decode b_M_init 31 = .ok (.newarray .int, 2) := by decide +kernel
theorem d_M_init_33 : decode b_M_init 33 = .ok (.putfield 19, 3) := by decide +kernel
theorem d_M_init_36 : decode b_M_init 36 = .ok (.aload_n 0, 1) := by decide +kernel
theorem d_M_init_37 : decode b_M_init 37 = .ok (.bipush 31, 2) := by decide +kernel
theorem d_M_init_39 : decode b_M_init 39 = .ok (.newarray .int, 2) := by decide +kernel
theorem d_M_init_41 : decode b_M_init 41 = .ok (.putfield 22, 3) := by decide +kernel
theorem d_M_init_44 : decode b_M_init 44 = .ok (.aload_n 0, 1) := by decide +kernel
theorem d_M_init_45 : decode b_M_init 45 = .ok (.bipush 31, 2) := by decide +kernel
theorem d_M_init_47 : decode b_M_init 47 = .ok (.newarray .int, 2) := by decide +kernel
theorem d_M_init_49 : decode b_M_init 49 = .ok (.putfield 25, 3) := by decide +kernel
theorem d_M_init_52 : decode b_M_init 52 = .ok (.aload_n 0, 1) := by decide +kernel
theorem d_M_init_53 : decode b_M_init 53 = .ok (.bipush 31, 2) := by decide +kernel
theorem d_M_init_55 : decode b_M_init 55 = .ok (.newarray .int, 2) := by decide +kernel
theorem d_M_init_57 : decode b_M_init 57 = .ok (.putfield 28, 3) := by decide +kernel
theorem d_M_init_60 : decode b_M_init 60 = .ok (.aload_n 0, 1) := by decide +kernel
theorem d_M_init_61 : decode b_M_init 61 = .ok (.bipush 31, 2) := by decide +kernel
theorem d_M_init_63 : decode b_M_init 63 = .ok (.newarray .int, 2) := by decide +kernel
theorem d_M_init_65 : decode b_M_init 65 = .ok (.putfield 31, 3) := by decide +kernel
theorem d_M_init_68 : decode b_M_init 68 = .ok (.aload_n 0, 1) := by decide +kernel
theorem d_M_init_69 : decode b_M_init 69 = .ok (.bipush 31, 2) := by decide +kernel
theorem d_M_init_71 : decode b_M_init 71 = .ok (.newarray .boolean, 2) := by decide +kernel
theorem d_M_init_73 : decode b_M_init 73 = .ok (.putfield 34, 3) := by decide +kernel
theorem d_M_init_76 : decode b_M_init 76 = .ok (.aload_n 0, 1) := by decide +kernel
theorem d_M_init_77 : decode b_M_init 77 = .ok (.sipush 620, 3) := by decide +kernel
theorem d_M_init_80 : decode b_M_init 80 = .ok (.newarray .boolean, 2) := by decide +kernel
theorem d_M_init_82 : decode b_M_init 82 = .ok (.putfield 38, 3) := by decide +kernel
theorem d_M_init_85 : decode b_M_init 85 = .ok (.aload_n 0, 1) := by decide +kernel
theorem d_M_init_86 : decode b_M_init 86 = .ok (.sipush 3131, 3) := by decide +kernel
theorem d_M_init_89 : decode b_M_init 89 = .ok (.newarray .int, 2) := by decide +kernel
theorem d_M_init_91 : decode b_M_init 91 = .ok (.putfield 41, 3) := by decide +kernel
theorem d_M_init_94 : decode b_M_init 94 = .ok (.aload_n 0, 1) := by decide +kernel
theorem d_M_init_95 : decode b_M_init 95 = .ok (.sipush 620, 3) := by decide +kernel
theorem d_M_init_98 : decode b_M_init 98 = .ok (.newarray .int, 2) := by decide +kernel
theorem d_M_init_100 : decode b_M_init 100 = .ok (.putfield 44, 3) := by decide +kernel
theorem d_M_init_103 : decode b_M_init 103 = .ok (.aload_n 0, 1) := by decide +kernel
theorem d_M_init_104 : decode b_M_init 104 = .ok (.sipush 620, 3) := by decide +kernel
theorem d_M_init_107 : decode b_M_init 107 = .ok (.newarray .int, 2) := by decide +kernel
theorem d_M_init_109 : decode b_M_init 109 = .ok (.putfield 47, 3) := by decide +kernel
theorem d_M_init_112 : decode b_M_init 112 = .ok (.aload_n 0, 1) := by decide +kernel
theorem d_M_init_113 : decode b_M_init 113 = .ok (.sipush 600, 3) := by decide +kernel
theorem d_M_init_116 : decode b_M_init 116 = .ok (.newarray .int, 2) := by decide +kernel
theorem d_M_init_118 : decode b_M_init 118 = .ok (.putfield 50, 3) := by decide +kernel
theorem d_M_init_121 : decode b_M_init 121 = .ok (.aload_n 0, 1) := by decide +kernel
theorem d_M_init_122 : decode b_M_init 122 = .ok (.bipush 16, 2) := by decide +kernel
theorem d_M_init_124 : decode b_M_init 124 = .ok (.newarray .int, 2) := by decide +kernel
theorem d_M_init_126 : decode b_M_init 126 = .ok (.putfield 53, 3) := by decide +kernel
theorem d_M_init_129 : decode b_M_init 129 = .ok (.aload_n 0, 1) := by decide +kernel
theorem d_M_init_130 : decode b_M_init 130 = .ok (.sipush 3100, 3) := by decide +kernel
theorem d_M_init_133 : decode b_M_init 133 = .ok (.newarray .int, 2) := by decide +kernel
theorem d_M_init_135 : decode b_M_init 135 = .ok (.putfield 56, 3) := by decide +kernel
theorem d_M_init_138 : decode b_M_init 138 = .ok (.return_, 1) := by decide +kernel
theorem d_M_isRegion_0 : decode b_M_isRegion 0 = .ok (.iload_n 1, 1) := by decide +kernel
theorem d_M_isRegion_1 : decode b_M_isRegion 1 = .ok (.ifCond .le 15, 3) := by decide +kernel
theorem d_M_isRegion_4 : decode b_M_isRegion 4 = .ok (.iload_n 1, 1) := by decide +kernel
theorem d_M_isRegion_5 : decode b_M_isRegion 5 = .ok (.aload_n 0, 1) := by decide +kernel
theorem d_M_isRegion_6 : decode b_M_isRegion 6 = .ok (.getfield 63, 3) := by decide +kernel
theorem d_M_isRegion_9 : decode b_M_isRegion 9 = .ok (.if_icmp .gt 7, 3) := by decide +kernel
theorem d_M_isRegion_12 : decode b_M_isRegion 12 = .ok (.iconst 1, 1) := by decide +kernel
theorem d_M_isRegion_13 : decode b_M_isRegion 13 = .ok (.goto 4, 3) := by decide +kernel
theorem d_M_isRegion_16 : decode b_M_isRegion 16 = .ok (.iconst 0, 1) := by decide +kernel
theorem d_M_isRegion_17 : decode b_M_isRegion 17 = .ok (.ireturn, 1) := by decide +kernel
theorem d_M_region_0 : decode b_M_region 0 = .ok (.aload_n 0, 1) := by decide +kernel
theorem d_M_region_1 : decode b_M_region 1 = .ok (.iconst 0, 1) := by decide +kernel
theorem d_M_region_2 : decode b_M_region 2 = .ok (.putfield 59, 3) := by decide +kernel
theorem d_M_region_5 : decode b_M_region 5 = .ok (.iload_n 1, 1) := by decide +kernel
theorem d_M_region_6 : decode b_M_region 6 = .ok (.iconst 1, 1) := by decide +kernel
theorem d_M_region_7 : decode b_M_region 7 = .ok (.if_icmp .lt 19, 3) := by decide +kernel
theorem d_M_region_10 : decode b_M_region 10 = .ok (.iload_n 1, 1) := by decide +kernel
theorem d_M_region_11 : decode b_M_region 11 = .ok (.bipush 100, 2) := by decide +kernel
theorem d_M_region_13 : decode b_M_region 13 = .ok (.if_icmp .gt 13, 3) := by decide +kernel
theorem d_M_region_16 : decode b_M_region 16 = .ok (.iload_n 2, 1) := by decide +kernel
theorem d_M_region_17 : decode b_M_region 17 = .ok (.ifCond .lt 9, 3) := by decide +kernel
theorem d_M_region_20 : decode b_M_region 20 = .ok (.iload_n 2, 1) := by decide +kernel
theorem d_M_region_21 : decode b_M_region 21 = .ok (.bipush 100, 2) := by decide +kernel
theorem d_M_region_23 : decode b_M_region 23 = .ok (.if_icmp .le 6, 3) := by decide +kernel
theorem d_M_region_26 : decode b_M_region 26 = .ok (.bipush (-4), 2) := by decide +kernel
theorem d_M_region_28 : decode b_M_region 28 = .ok (.ireturn, 1) := by decide +kernel
theorem d_M_region_29 : decode b_M_region 29 = .ok (.aload_n 0, 1) := by decide +kernel
theorem d_M_region_30 : decode b_M_region 30 = .ok (.getfield 66, 3) := by decide +kernel
theorem d_M_region_33 : decode b_M_region 33 = .ok (.ifCond .eq 6, 3) := by decide +kernel
theorem d_M_region_36 : decode b_M_region 36 = .ok (.bipush (-5), 2) := by decide +kernel
theorem d_M_region_38 : decode b_M_region 38 = .ok (.ireturn, 1) := by decide +kernel
theorem d_M_region_39 : decode b_M_region 39 = .ok (.aload_n 0, 1) := by decide +kernel
theorem d_M_region_40 : decode b_M_region 40 = .ok (.getfield 63, 3) := by decide +kernel
theorem d_M_region_43 : decode b_M_region 43 = .ok (.bipush 30, 2) := by decide +kernel
theorem d_M_region_45 : decode b_M_region 45 = .ok (.if_icmp .ne 5, 3) := by decide +kernel
theorem d_M_region_48 : decode b_M_region 48 = .ok (.iconst (-1), 1) := by decide +kernel
theorem d_M_region_49 : decode b_M_region 49 = .ok (.ireturn, 1) := by decide +kernel
theorem d_M_region_50 : decode b_M_region 50 = .ok (.aload_n 0, 1) := by decide +kernel
theorem d_M_region_51 : decode b_M_region 51 = .ok (.dup, 1) := by decide +kernel
theorem d_M_region_52 : decode b_M_region 52 = .ok (.getfield 63, 3) := by decide +kernel
theorem d_M_region_55 : decode b_M_region 55 = .ok (.iconst 1, 1) := by decide +kernel
theorem d_M_region_56 : decode b_M_region 56 = .ok (.iadd, 1) := by decide +kernel
theorem d_M_region_57 : decode b_M_region 57 = .ok (.putfield 63, 3) := by decide +kernel
theorem d_M_region_60 : decode b_M_region 60 = .ok (.aload_n 0, 1) := by decide +kernel
theorem d_M_region_61 : decode b_M_region 61 = .ok (.getfield 7, 3) := by decide +kernel
theorem d_M_region_64 : decode b_M_region 64 = .ok (.aload_n 0, 1) := by decide +kernel
theorem d_M_region_65 : decode b_M_region 65 = .ok (.getfield 63, 3) := by decide +kernel
theorem d_M_region_68 : decode b_M_region 68 = .ok (.iload_n 1, 1) := by decide +kernel
theorem d_M_region_69 : decode b_M_region 69 = .ok (.iastore, 1) := by decide +kernel
theorem d_M_region_70 : decode b_M_region 70 = .ok (.aload_n 0, 1) := by decide +kernel
theorem d_M_region_71 : decode b_M_region 71 = .ok (.getfield 13, 3) := by decide +kernel
theorem d_M_region_74 : decode b_M_region 74 = .ok (.aload_n 0, 1) := by decide +kernel
theorem d_M_region_75 : decode b_M_region 75 = .ok (.getfield 63, 3) := by decide +kernel
theorem d_M_region_78 : decode b_M_region 78 = .ok (.iload_n 2, 1) := by decide +kernel
theorem d_M_region_79 : decode b_M_region 79 = .ok (.iastore, 1) := by decide +kernel
theorem d_M_region_80 : decode b_M_region 80 = .ok (.aload_n 0, 1) := by decide +kernel
theorem d_M_region_81 : decode b_M_region 81 = .ok (.getfield 63, 3) := by decide +kernel
theorem d_M_region_84 : decode b_M_region 84 = .ok (.ireturn, 1) := by decide +kernel
theorem d_M_waits_0 : decode b_M_waits 0 = .ok (.aload_n 0, 1) := by decide +kernel
theorem d_M_waits_1 : decode b_M_waits 1 = .ok (.iconst 0, 1) := by decide +kernel
theorem d_M_waits_2 : decode b_M_waits 2 = .ok (.putfield 59, 3) := by decide +kernel
theorem d_M_waits_5 : decode b_M_waits 5 = .ok (.aload_n 0, 1) := by decide +kernel
theorem d_M_waits_6 : decode b_M_waits 6 = .ok (.iload_n 1, 1) := by decide +kernel
theorem d_M_waits_7 : decode b_M_waits 7 = .ok (.invokevirtual 70, 3) := by decide +kernel
theorem d_M_waits_10 : decode b_M_waits 10 = .ok (.ifCond .ne 6, 3) := by decide +kernel
theorem d_M_waits_13 : decode b_M_waits 13 = .ok (.bipush (-2), 2) := by decide +kernel
theorem d_M_waits_15 : decode b_M_waits 15 = .ok (.ireturn, 1) := by decide +kernel
theorem d_M_waits_16 : decode b_M_waits 16 = .ok (.iload_n 2, 1) := by decide +kernel
theorem d_M_waits_17 : decode b_M_waits 17 = .ok (.iconst 1, 1) := by decide +kernel
theorem d_M_waits_18 : decode b_M_waits 18 = .ok (.if_icmp .lt 23, 3) := by decide +kernel
theorem d_M_waits_21 : decode b_M_waits 21 = .ok (.iload_n 2, 1) := by decide +kernel
theorem d_M_waits_22 : decode b_M_waits 22 = .ok (.aload_n 0, 1) := by decide +kernel
theorem d_M_waits_23 : decode b_M_waits 23 = .ok (.getfield 7, 3) := by decide +kernel
theorem d_M_waits_26 : decode b_M_waits 26 = .ok (.iload_n 1, 1) := by decide +kernel
theorem d_M_waits_27 : decode b_M_waits 27 = .ok (.iaload, 1) := by decide +kernel
theorem d_M_waits_28 : decode b_M_waits 28 = .ok (.if_icmp .gt 13, 3) := by decide +kernel
theorem d_M_waits_31 : decode b_M_waits 31 = .ok (.iload_n 3, 1) := by decide +kernel
theorem d_M_waits_32 : decode b_M_waits 32 = .ok (.ifCond .lt 9, 3) := by decide +kernel
theorem d_M_waits_35 : decode b_M_waits 35 = .ok (.iload_n 3, 1) := by decide +kernel
theorem d_M_waits_36 : decode b_M_waits 36 = .ok (.bipush 15, 2) := by decide +kernel
theorem d_M_waits_38 : decode b_M_waits 38 = .ok (.if_icmp .le 6, 3) := by decide +kernel
theorem d_M_waits_41 : decode b_M_waits 41 = .ok (.bipush (-4), 2) := by decide +kernel
theorem d_M_waits_43 : decode b_M_waits 43 = .ok (.ireturn, 1) := by decide +kernel
theorem d_M_waits_44 : decode b_M_waits 44 = .ok (.aload_n 0, 1) := by decide +kernel
theorem d_M_waits_45 : decode b_M_waits 45 = .ok (.getfield 19, 3) := by decide +kernel
theorem d_M_waits_48 : decode b_M_waits 48 = .ok (.iload_n 1, 1) := by decide +kernel
theorem d_M_waits_49 : decode b_M_waits 49 = .ok (.iaload, 1) := by decide +kernel
theorem d_M_waits_50 : decode b_M_waits 50 = .ok (.iload_n 2, 1) := by decide +kernel
theorem d_M_waits_51 : decode b_M_waits 51 = .ok (.if_icmp .ge 12, 3) := by decide +kernel
theorem d_M_waits_54 : decode b_M_waits 54 = .ok (.aload_n 0, 1) := by decide +kernel
theorem d_M_waits_55 : decode b_M_waits 55 = .ok (.getfield 16, 3) := by decide +kernel
theorem d_M_waits_58 : decode b_M_waits 58 = .ok (.iload_n 1, 1) := by decide +kernel
theorem d_M_waits_59 : decode b_M_waits 59 = .ok (.iaload, 1) := by decide +kernel
theorem d_M_waits_60 : decode b_M_waits 60 = .ok (.ifCond .eq 6, 3) := by decide +kernel
theorem d_M_waits_63 : decode b_M_waits 63 = .ok (.bipush (-5), 2) := by decide +kernel
theorem d_M_waits_65 : decode b_M_waits 65 = .ok (.ireturn, 1) := by decide +kernel
theorem d_M_waits_66 : decode b_M_waits 66 = .ok (.aload_n 0, 1) := by decide +kernel
theorem d_M_waits_67 : decode b_M_waits 67 = .ok (.getfield 31, 3) := by decide +kernel
theorem d_M_waits_70 : decode b_M_waits 70 = .ok (.iload_n 1, 1) := by decide +kernel
theorem d_M_waits_71 : decode b_M_waits 71 = .ok (.iaload, 1) := by decide +kernel
theorem d_M_waits_72 : decode b_M_waits 72 = .ok (.bipush 20, 2) := by decide +kernel
theorem d_M_waits_74 : decode b_M_waits 74 = .ok (.if_icmp .ne 5, 3) := by decide +kernel
theorem d_M_waits_77 : decode b_M_waits 77 = .ok (.iconst (-1), 1) := by decide +kernel
theorem d_M_waits_78 : decode b_M_waits 78 = .ok (.ireturn, 1) := by decide +kernel
theorem d_M_waits_79 : decode b_M_waits 79 = .ok (.aload_n 0, 1) := by decide +kernel
theorem d_M_waits_80 : decode b_M_waits 80 = .ok (.getfield 44, 3) := by decide +kernel
theorem d_M_waits_83 : decode b_M_waits 83 = .ok (.bipush 20, 2) := by decide +kernel
theorem d_M_waits_85 : decode b_M_waits 85 = .ok (.iload_n 1, 1) := by decide +kernel
theorem d_M_waits_86 : decode b_M_waits 86 = .ok (.imul, 1) := by decide +kernel
theorem d_M_waits_87 : decode b_M_waits 87 = .ok (.bipush 20, 2) := by decide +kernel
theorem d_M_waits_89 : decode b_M_waits 89 = .ok (.isub, 1) := by decide +kernel
theorem d_M_waits_90 : decode b_M_waits 90 = .ok (.aload_n 0, 1) := by decide +kernel
theorem d_M_waits_91 : decode b_M_waits 91 = .ok (.getfield 31, 3) := by decide +kernel
theorem d_M_waits_94 : decode b_M_waits 94 = .ok (.iload_n 1, 1) := by decide +kernel
theorem d_M_waits_95 : decode b_M_waits 95 = .ok (.iaload, 1) := by decide +kernel
theorem d_M_waits_96 : decode b_M_waits 96 = .ok (.iadd, 1) := by decide +kernel
theorem d_M_waits_97 : decode b_M_waits 97 = .ok (.iload_n 2, 1) := by decide +kernel
theorem d_M_waits_98 : decode b_M_waits 98 = .ok (.iastore, 1) := by decide +kernel
theorem d_M_waits_99 : decode b_M_waits 99 = .ok (.aload_n 0, 1) := by decide +kernel
theorem d_M_waits_100 : decode b_M_waits 100 = .ok (.getfield 47, 3) := by decide +kernel
theorem d_M_waits_103 : decode b_M_waits 103 = .ok (.bipush 20, 2) := by decide +kernel
theorem d_M_waits_105 : decode b_M_waits 105 = .ok (.iload_n 1, 1) := by decide +kernel
theorem d_M_waits_106 : decode b_M_waits 106 = .ok (.imul, 1) := by decide +kernel
theorem d_M_waits_107 : decode b_M_waits 107 = .ok (.bipush 20, 2) := by decide +kernel
theorem d_M_waits_109 : decode b_M_waits 109 = .ok (.isub, 1) := by decide +kernel
theorem d_M_waits_110 : decode b_M_waits 110 = .ok (.aload_n 0, 1) := by decide +kernel
theorem d_M_waits_111 : decode b_M_waits 111 = .ok (.getfield 31, 3) := by decide +kernel
theorem d_M_waits_114 : decode b_M_waits 114 = .ok (.iload_n 1, 1) := by decide +kernel
theorem d_M_waits_115 : decode b_M_waits 115 = .ok (.iaload, 1) := by decide +kernel
theorem d_M_waits_116 : decode b_M_waits 116 = .ok (.iadd, 1) := by decide +kernel
theorem d_M_waits_117 : decode b_M_waits 117 = .ok (.iload_n 3, 1) := by decide +kernel
theorem d_M_waits_118 : decode b_M_waits 118 = .ok (.iastore, 1) := by decide +kernel
theorem d_M_waits_119 : decode b_M_waits 119 = .ok (.aload_n 0, 1) := by decide +kernel
theorem d_M_waits_120 : decode b_M_waits 120 = .ok (.getfield 31, 3) := by decide +kernel
theorem d_M_waits_123 : decode b_M_waits 123 = .ok (.iload_n 1, 1) := by decide +kernel
theorem d_M_waits_124 : decode b_M_waits 124 = .ok (.dup2, 1) := by decide +kernel
theorem d_M_waits_125 : decode b_M_waits 125 = .ok (.iaload, 1) := by decide +kernel
theorem d_M_waits_126 : decode b_M_waits 126 = .ok (.iconst 1, 1) := by decide +kernel
theorem d_M_waits_127 : decode b_M_waits 127 = .ok (.iadd, 1) := by decide +kernel
theorem d_M_waits_128 : decode b_M_waits 128 = .ok (.iastore, 1) := by decide +kernel
theorem d_M_waits_129 : decode b_M_waits 129 = .ok (.aload_n 0, 1) := by decide +kernel
theorem d_M_waits_130 : decode b_M_waits 130 = .ok (.getfield 31, 3) := by decide +kernel
theorem d_M_waits_133 : decode b_M_waits 133 = .ok (.iload_n 1, 1) := by decide +kernel
theorem d_M_waits_134 : decode b_M_waits 134 = .ok (.iaload, 1) := by decide +kernel
theorem d_M_waits_135 : decode b_M_waits 135 = .ok (.ireturn, 1) := by decide +kernel
theorem d_M_post_0 : decode b_M_post 0 = .ok (.aload_n 0, 1) := by decide +kernel
theorem d_M_post_1 : decode b_M_post 1 = .ok (.iconst 0, 1) := by decide +kernel
theorem d_M_post_2 : decode b_M_post 2 = .ok (.putfield 59, 3) := by decide +kernel
theorem d_M_post_5 : decode b_M_post 5 = .ok (.iload_n 1, 1) := by decide +kernel
theorem d_M_post_6 : decode b_M_post 6 = .ok (.ifCond .lt 9, 3) := by decide +kernel
theorem d_M_post_9 : decode b_M_post 9 = .ok (.iload_n 1, 1) := by decide +kernel
theorem d_M_post_10 : decode b_M_post 10 = .ok (.bipush 15, 2) := by decide +kernel
theorem d_M_post_12 : decode b_M_post 12 = .ok (.if_icmp .le 6, 3) := by decide +kernel
theorem d_M_post_15 : decode b_M_post 15 = .ok (.bipush (-4), 2) := by decide +kernel
theorem d_M_post_17 : decode b_M_post 17 = .ok (.ireturn, 1) := by decide +kernel
theorem d_M_post_18 : decode b_M_post 18 = .ok (.aload_n 0, 1) := by decide +kernel
theorem d_M_post_19 : decode b_M_post 19 = .ok (.getfield 66, 3) := by decide +kernel
theorem d_M_post_22 : decode b_M_post 22 = .ok (.ifCond .eq 6, 3) := by decide +kernel
theorem d_M_post_25 : decode b_M_post 25 = .ok (.bipush (-5), 2) := by decide +kernel
theorem d_M_post_27 : decode b_M_post 27 = .ok (.ireturn, 1) := by decide +kernel
theorem d_M_post_28 : decode b_M_post 28 = .ok (.aload_n 0, 1) := by decide +kernel
theorem d_M_post_29 : decode b_M_post 29 = .ok (.getfield 53, 3) := by decide +kernel
theorem d_M_post_32 : decode b_M_post 32 = .ok (.iload_n 1, 1) := by decide +kernel
theorem d_M_post_33 : decode b_M_post 33 = .ok (.dup2, 1) := by decide +kernel
theorem d_M_post_34 : decode b_M_post 34 = .ok (.iaload, 1) := by decide +kernel
theorem d_M_post_35 : decode b_M_post 35 = .ok (.iconst 1, 1) := by decide +kernel
theorem d_M_post_36 : decode b_M_post 36 = .ok (.iadd, 1) := by decide +kernel
theorem d_M_post_37 : decode b_M_post 37 = .ok (.iastore, 1) := by decide +kernel
theorem d_M_post_38 : decode b_M_post 38 = .ok (.aload_n 0, 1) := by decide +kernel
theorem d_M_post_39 : decode b_M_post 39 = .ok (.getfield 53, 3) := by decide +kernel
theorem d_M_post_42 : decode b_M_post 42 = .ok (.iload_n 1, 1) := by decide +kernel
theorem d_M_post_43 : decode b_M_post 43 = .ok (.iaload, 1) := by decide +kernel
theorem d_M_post_44 : decode b_M_post 44 = .ok (.ireturn, 1) := by decide +kernel
theorem d_M_turn_0 : decode b_M_turn 0 = .ok (.aload_n 0, 1) := by decide +kernel
theorem d_M_turn_1 : decode b_M_turn 1 = .ok (.iconst 0, 1) := by decide +kernel
theorem d_M_turn_2 : decode b_M_turn 2 = .ok (.putfield 59, 3) := by decide +kernel
theorem d_M_turn_5 : decode b_M_turn 5 = .ok (.aload_n 0, 1) := by decide +kernel
theorem d_M_turn_6 : decode b_M_turn 6 = .ok (.getfield 66, 3) := by decide +kernel
theorem d_M_turn_9 : decode b_M_turn 9 = .ok (.ifCond .ne 21, 3) := by decide +kernel
theorem d_M_turn_12 : decode b_M_turn 12 = .ok (.aload_n 0, 1) := by decide +kernel
theorem d_M_turn_13 : decode b_M_turn 13 = .ok (.iload_n 1, 1) := by decide +kernel
theorem d_M_turn_14 : decode b_M_turn 14 = .ok (.invokevirtual 70, 3) := by decide +kernel
theorem d_M_turn_17 : decode b_M_turn 17 = .ok (.ifCond .eq 13, 3) := by decide +kernel
theorem d_M_turn_20 : decode b_M_turn 20 = .ok (.aload_n 0, 1) := by decide +kernel
theorem d_M_turn_21 : decode b_M_turn 21 = .ok (.getfield 74, 3) := by decide +kernel
theorem d_M_turn_24 : decode b_M_turn 24 = .ok (.sipush 600, 3) := by decide +kernel
theorem d_M_turn_27 : decode b_M_turn 27 = .ok (.if_icmp .ne 4, 3) := by decide +kernel
theorem d_M_turn_30 : decode b_M_turn 30 = .ok (.return_, 1) := by decide +kernel
theorem d_M_turn_31 : decode b_M_turn 31 = .ok (.aload_n 0, 1) := by decide +kernel
theorem d_M_turn_32 : decode b_M_turn 32 = .ok (.getfield 50, 3) := by decide +kernel
theorem d_M_turn_35 : decode b_M_turn 35 = .ok (.aload_n 0, 1) := by decide +kernel
theorem d_M_turn_36 : decode b_M_turn 36 = .ok (.getfield 74, 3) := by decide +kernel
theorem d_M_turn_39 : decode b_M_turn 39 = .ok (.iload_n 1, 1) := by decide +kernel
theorem d_M_turn_40 : decode b_M_turn 40 = .ok (.iastore, 1) := by decide +kernel
theorem d_M_turn_41 : decode b_M_turn 41 = .ok (.aload_n 0, 1) := by decide +kernel
theorem d_M_turn_42 : decode b_M_turn 42 = .ok (.dup, 1) := by decide +kernel
theorem d_M_turn_43 : decode b_M_turn 43 = .ok (.getfield 74, 3) := by decide +kernel
theorem d_M_turn_46 : decode b_M_turn 46 = .ok (.iconst 1, 1) := by decide +kernel
theorem d_M_turn_47 : decode b_M_turn 47 = .ok (.iadd, 1) := by decide +kernel
theorem d_M_turn_48 : decode b_M_turn 48 = .ok (.putfield 74, 3) := by decide +kernel
theorem d_M_turn_51 : decode b_M_turn 51 = .ok (.return_, 1) := by decide +kernel
theorem d_M_of_0 : decode b_M_of 0 = .ok (.bipush 101, 2) := by decide +kernel
theorem d_M_of_2 : decode b_M_of 2 = .ok (.iload_n 0, 1) := by decide +kernel
theorem d_M_of_3 : decode b_M_of 3 = .ok (.imul, 1) := by decide +kernel
theorem d_M_of_4 : decode b_M_of 4 = .ok (.iload_n 1, 1) := by decide +kernel
theorem d_M_of_5 : decode b_M_of 5 = .ok (.iadd, 1) := by decide +kernel
theorem d_M_of_6 : decode b_M_of 6 = .ok (.ireturn, 1) := by decide +kernel
theorem d_M_decision_0 : decode b_M_decision 0 = .ok (.aload_n 0, 1) := by decide +kernel
theorem d_M_decision_1 : decode b_M_decision 1 = .ok (.iconst 0, 1) := by decide +kernel
theorem d_M_decision_2 : decode b_M_decision 2 = .ok (.putfield 59, 3) := by decide +kernel
theorem d_M_decision_5 : decode b_M_decision 5 = .ok (.aload_n 0, 1) := by decide +kernel
theorem d_M_decision_6 : decode b_M_decision 6 = .ok (.iload_n 1, 1) := by decide +kernel
theorem d_M_decision_7 : decode b_M_decision 7 = .ok (.invokevirtual 70, 3) := by decide +kernel
theorem d_M_decision_10 : decode b_M_decision 10 = .ok (.ifCond .ne 6, 3) := by decide +kernel
theorem d_M_decision_13 : decode b_M_decision 13 = .ok (.bipush (-2), 2) := by decide +kernel
theorem d_M_decision_15 : decode b_M_decision 15 = .ok (.ireturn, 1) := by decide +kernel
theorem d_M_decision_16 : decode b_M_decision 16 = .ok (.iload_n 2, 1) := by decide +kernel
theorem d_M_decision_17 : decode b_M_decision 17 = .ok (.iconst 1, 1) := by decide +kernel
theorem d_M_decision_18 : decode b_M_decision 18 = .ok (.if_icmp .lt 13, 3) := by decide +kernel
theorem d_M_decision_21 : decode b_M_decision 21 = .ok (.iload_n 2, 1) := by decide +kernel
theorem d_M_decision_22 : decode b_M_decision 22 = .ok (.aload_n 0, 1) := by decide +kernel
theorem d_M_decision_23 : decode b_M_decision 23 = .ok (.getfield 7, 3) := by decide +kernel
theorem d_M_decision_26 : decode b_M_decision 26 = .ok (.iload_n 1, 1) := by decide +kernel
theorem d_M_decision_27 : decode b_M_decision 27 = .ok (.iaload, 1) := by decide +kernel
theorem d_M_decision_28 : decode b_M_decision 28 = .ok (.if_icmp .lt 6, 3) := by decide +kernel
theorem d_M_decision_31 : decode b_M_decision 31 = .ok (.bipush (-4), 2) := by decide +kernel
theorem d_M_decision_33 : decode b_M_decision 33 = .ok (.ireturn, 1) := by decide +kernel
theorem d_M_decision_34 : decode b_M_decision 34 = .ok (.aload_n 0, 1) := by decide +kernel
theorem d_M_decision_35 : decode b_M_decision 35 = .ok (.getfield 19, 3) := by decide +kernel
theorem d_M_decision_38 : decode b_M_decision 38 = .ok (.iload_n 1, 1) := by decide +kernel
theorem d_M_decision_39 : decode b_M_decision 39 = .ok (.iaload, 1) := by decide +kernel
theorem d_M_decision_40 : decode b_M_decision 40 = .ok (.iload_n 2, 1) := by decide +kernel
theorem d_M_decision_41 : decode b_M_decision 41 = .ok (.if_icmp .ge 12, 3) := by decide +kernel
theorem d_M_decision_44 : decode b_M_decision 44 = .ok (.aload_n 0, 1) := by decide +kernel
theorem d_M_decision_45 : decode b_M_decision 45 = .ok (.getfield 16, 3) := by decide +kernel
theorem d_M_decision_48 : decode b_M_decision 48 = .ok (.iload_n 1, 1) := by decide +kernel
theorem d_M_decision_49 : decode b_M_decision 49 = .ok (.iaload, 1) := by decide +kernel
theorem d_M_decision_50 : decode b_M_decision 50 = .ok (.ifCond .eq 6, 3) := by decide +kernel
theorem d_M_decision_53 : decode b_M_decision 53 = .ok (.bipush (-5), 2) := by decide +kernel
theorem d_M_decision_55 : decode b_M_decision 55 = .ok (.ireturn, 1) := by decide +kernel
theorem d_M_decision_56 : decode b_M_decision 56 = .ok (.aload_n 0, 1) := by decide +kernel
theorem d_M_decision_57 : decode b_M_decision 57 = .ok (.getfield 41, 3) := by decide +kernel
theorem d_M_decision_60 : decode b_M_decision 60 = .ok (.iload_n 1, 1) := by decide +kernel
theorem d_M_decision_61 : decode b_M_decision 61 = .ok (.iload_n 2, 1) := by decide +kernel
theorem d_M_decision_62 : decode b_M_decision 62 = .ok (.invokestatic 77, 3) := by decide +kernel
theorem d_M_decision_65 : decode b_M_decision 65 = .ok (.iaload, 1) := by decide +kernel
theorem d_M_decision_66 : decode b_M_decision 66 = .ok (.aload_n 0, 1) := by decide +kernel
theorem d_M_decision_67 : decode b_M_decision 67 = .ok (.getfield 41, 3) := by decide +kernel
theorem d_M_decision_70 : decode b_M_decision 70 = .ok (.iload_n 1, 1) := by decide +kernel
theorem d_M_decision_71 : decode b_M_decision 71 = .ok (.iload_n 2, 1) := by decide +kernel
theorem d_M_decision_72 : decode b_M_decision 72 = .ok (.iconst 1, 1) := by decide +kernel
theorem d_M_decision_73 : decode b_M_decision 73 = .ok (.iadd, 1) := by decide +kernel
theorem d_M_decision_74 : decode b_M_decision 74 = .ok (.invokestatic 77, 3) := by decide +kernel
theorem d_M_decision_77 : decode b_M_decision 77 = .ok (.iaload, 1) := by decide +kernel
theorem d_M_decision_78 : decode b_M_decision 78 = .ok (.iadd, 1) := by decide +kernel
theorem d_M_decision_79 : decode b_M_decision 79 = .ok (.ifCond .le 5, 3) := by decide +kernel
theorem d_M_decision_82 : decode b_M_decision 82 = .ok (.iconst 0, 1) := by decide +kernel
theorem d_M_decision_83 : decode b_M_decision 83 = .ok (.ireturn, 1) := by decide +kernel
theorem d_M_decision_84 : decode b_M_decision 84 = .ok (.aload_n 0, 1) := by decide +kernel
theorem d_M_decision_85 : decode b_M_decision 85 = .ok (.getfield 41, 3) := by decide +kernel
theorem d_M_decision_88 : decode b_M_decision 88 = .ok (.iload_n 1, 1) := by decide +kernel
theorem d_M_decision_89 : decode b_M_decision 89 = .ok (.iload_n 2, 1) := by decide +kernel
theorem d_M_decision_90 : decode b_M_decision 90 = .ok (.invokestatic 77, 3) := by decide +kernel
theorem d_M_decision_93 : decode b_M_decision 93 = .ok (.iconst 1, 1) := by decide +kernel
theorem d_M_decision_94 : decode b_M_decision 94 = .ok (.iastore, 1) := by decide +kernel
theorem d_M_decision_95 : decode b_M_decision 95 = .ok (.aload_n 0, 1) := by decide +kernel
theorem d_M_decision_96 : decode b_M_decision 96 = .ok (.getfield 41, 3) := by decide +kernel
theorem d_M_decision_99 : decode b_M_decision 99 = .ok (.iload_n 1, 1) := by decide +kernel
theorem d_M_decision_100 : decode b_M_decision 100 = .ok (.iload_n 2, 1) := by decide +kernel
theorem d_M_decision_101 : decode b_M_decision 101 = .ok (.iconst 1, 1) := by decide +kernel
theorem d_M_decision_102 : decode b_M_decision 102 = .ok (.iadd, 1) := by decide +kernel
theorem d_M_decision_103 : decode b_M_decision 103 = .ok (.invokestatic 77, 3) := by decide +kernel
theorem d_M_decision_106 : decode b_M_decision 106 = .ok (.iconst 2, 1) := by decide +kernel
theorem d_M_decision_107 : decode b_M_decision 107 = .ok (.iastore, 1) := by decide +kernel
theorem d_M_decision_108 : decode b_M_decision 108 = .ok (.iconst 1, 1) := by decide +kernel
theorem d_M_decision_109 : decode b_M_decision 109 = .ok (.ireturn, 1) := by decide +kernel
theorem d_M_isBetween_0 : decode b_M_isBetween 0 = .ok (.aload_n 0, 1) := by decide +kernel
theorem d_M_isBetween_1 : decode b_M_isBetween 1 = .ok (.getfield 19, 3) := by decide +kernel
theorem d_M_isBetween_4 : decode b_M_isBetween 4 = .ok (.iload_n 1, 1) := by decide +kernel
theorem d_M_isBetween_5 : decode b_M_isBetween 5 = .ok (.iaload, 1) := by decide +kernel
theorem d_M_isBetween_6 : decode b_M_isBetween 6 = .ok (.ifCond .le 26, 3) := by decide +kernel
theorem d_M_isBetween_9 : decode b_M_isBetween 9 = .ok (.aload_n 0, 1) := by decide +kernel
theorem d_M_isBetween_10 : decode b_M_isBetween 10 = .ok (.getfield 41, 3) := by decide +kernel
theorem d_M_isBetween_13 : decode b_M_isBetween 13 = .ok (.iload_n 1, 1) := by decide +kernel
theorem d_M_isBetween_14 : decode b_M_isBetween 14 = .ok (.aload_n 0, 1) := by decide +kernel
theorem d_M_isBetween_15 : decode b_M_isBetween 15 = .ok (.getfield 19, 3) := by decide +kernel
theorem d_M_isBetween_18 : decode b_M_isBetween 18 = .ok (.iload_n 1, 1) := by decide +kernel
theorem d_M_isBetween_19 : decode b_M_isBetween 19 = .ok (.iaload, 1) := by decide +kernel
theorem d_M_isBetween_20 : decode b_M_isBetween 20 = .ok (.invokestatic 77, 3) := by decide +kernel
theorem d_M_isBetween_23 : decode b_M_isBetween 23 = .ok (.iaload, 1) := by decide +kernel
theorem d_M_isBetween_24 : decode b_M_isBetween 24 = .ok (.iconst 1, 1) := by decide +kernel
theorem d_M_isBetween_25 : decode b_M_isBetween 25 = .ok (.if_icmp .ne 7, 3) := by decide +kernel
theorem d_M_isBetween_28 : decode b_M_isBetween 28 = .ok (.iconst 1, 1) := by decide +kernel
theorem d_M_isBetween_29 : decode b_M_isBetween 29 = .ok (.goto 4, 3) := by decide +kernel
theorem d_M_isBetween_32 : decode b_M_isBetween 32 = .ok (.iconst 0, 1) := by decide +kernel
theorem d_M_isBetween_33 : decode b_M_isBetween 33 = .ok (.ireturn, 1) := by decide +kernel
theorem d_M_end_0 : decode b_M_end 0 = .ok (.aload_n 0, 1) := by decide +kernel
theorem d_M_end_1 : decode b_M_end 1 = .ok (.getfield 16, 3) := by decide +kernel
theorem d_M_end_4 : decode b_M_end 4 = .ok (.iload_n 1, 1) := by decide +kernel
theorem d_M_end_5 : decode b_M_end 5 = .ok (.iload_n 2, 1) := by decide +kernel
theorem d_M_end_6 : decode b_M_end 6 = .ok (.iastore, 1) := by decide +kernel
theorem d_M_end_7 : decode b_M_end 7 = .ok (.aload_n 0, 1) := by decide +kernel
theorem d_M_end_8 : decode b_M_end 8 = .ok (.getfield 25, 3) := by decide +kernel
theorem d_M_end_11 : decode b_M_end 11 = .ok (.iload_n 1, 1) := by decide +kernel
theorem d_M_end_12 : decode b_M_end 12 = .ok (.dup2, 1) := by decide +kernel
theorem d_M_end_13 : decode b_M_end 13 = .ok (.iaload, 1) := by decide +kernel
theorem d_M_end_14 : decode b_M_end 14 = .ok (.iconst 1, 1) := by decide +kernel
theorem d_M_end_15 : decode b_M_end 15 = .ok (.iadd, 1) := by decide +kernel
theorem d_M_end_16 : decode b_M_end 16 = .ok (.iastore, 1) := by decide +kernel
theorem d_M_end_17 : decode b_M_end 17 = .ok (.aload_n 0, 1) := by decide +kernel
theorem d_M_end_18 : decode b_M_end 18 = .ok (.getfield 28, 3) := by decide +kernel
theorem d_M_end_21 : decode b_M_end 21 = .ok (.iload_n 1, 1) := by decide +kernel
theorem d_M_end_22 : decode b_M_end 22 = .ok (.iload_n 2, 1) := by decide +kernel
theorem d_M_end_23 : decode b_M_end 23 = .ok (.iconst 1, 1) := by decide +kernel
theorem d_M_end_24 : decode b_M_end 24 = .ok (.if_icmp .ne 7, 3) := by decide +kernel
theorem d_M_end_27 : decode b_M_end 27 = .ok (.iconst 0, 1) := by decide +kernel
theorem d_M_end_28 : decode b_M_end 28 = .ok (.goto 16, 3) := by decide +kernel
theorem d_M_end_31 : decode b_M_end 31 = .ok (.aload_n 0, 1) := by decide +kernel
theorem d_M_end_32 : decode b_M_end 32 = .ok (.getfield 19, 3) := by decide +kernel
theorem d_M_end_35 : decode b_M_end 35 = .ok (.iload_n 1, 1) := by decide +kernel
theorem d_M_end_36 : decode b_M_end 36 = .ok (.iaload, 1) := by decide +kernel
theorem d_M_end_37 : decode b_M_end 37 = .ok (.aload_n 0, 1) := by decide +kernel
theorem d_M_end_38 : decode b_M_end 38 = .ok (.getfield 22, 3) := by decide +kernel
theorem d_M_end_41 : decode b_M_end 41 = .ok (.iload_n 1, 1) := by decide +kernel
theorem d_M_end_42 : decode b_M_end 42 = .ok (.iaload, 1) := by decide +kernel
theorem d_M_end_43 : decode b_M_end 43 = .ok (.isub, 1) := by decide +kernel
theorem d_M_end_44 : decode b_M_end 44 = .ok (.iastore, 1) := by decide +kernel
theorem d_M_end_45 : decode b_M_end 45 = .ok (.return_, 1) := by decide +kernel
theorem d_M_isFree_0 : decode b_M_isFree 0 = .ok (.bipush 20, 2) := by decide +kernel
theorem d_M_isFree_2 : decode b_M_isFree 2 = .ok (.iload_n 1, 1) := by decide +kernel
theorem d_M_isFree_3 : decode b_M_isFree 3 = .ok (.imul, 1) := by decide +kernel
theorem d_M_isFree_4 : decode b_M_isFree 4 = .ok (.bipush 20, 2) := by decide +kernel
theorem d_M_isFree_6 : decode b_M_isFree 6 = .ok (.isub, 1) := by decide +kernel
theorem d_M_isFree_7 : decode b_M_isFree 7 = .ok (.istore_n 2, 1) := by decide +kernel
theorem d_M_isFree_8 : decode b_M_isFree 8 = .ok (.iload_n 2, 1) := by decide +kernel
theorem d_M_isFree_9 : decode b_M_isFree 9 = .ok (.bipush 20, 2) := by decide +kernel
theorem d_M_isFree_11 : decode b_M_isFree 11 = .ok (.iload_n 1, 1) := by decide +kernel
theorem d_M_isFree_12 : decode b_M_isFree 12 = .ok (.imul, 1) := by decide +kernel
theorem d_M_isFree_13 : decode b_M_isFree 13 = .ok (.bipush 20, 2) := by decide +kernel
theorem d_M_isFree_15 : decode b_M_isFree 15 = .ok (.isub, 1) := by decide +kernel
theorem d_M_isFree_16 : decode b_M_isFree 16 = .ok (.aload_n 0, 1) := by decide +kernel
theorem d_M_isFree_17 : decode b_M_isFree 17 = .ok (.getfield 31, 3) := by decide +kernel
theorem d_M_isFree_20 : decode b_M_isFree 20 = .ok (.iload_n 1, 1) := by decide +kernel
theorem d_M_isFree_21 : decode b_M_isFree 21 = .ok (.iaload, 1) := by decide +kernel
theorem d_M_isFree_22 : decode b_M_isFree 22 = .ok (.iadd, 1) := by decide +kernel
theorem d_M_isFree_23 : decode b_M_isFree 23 = .ok (.if_icmp .ge 76, 3) := by decide +kernel
theorem d_M_isFree_26 : decode b_M_isFree 26 = .ok (.aload_n 0, 1) := by decide +kernel
theorem d_M_isFree_27 : decode b_M_isFree 27 = .ok (.getfield 44, 3) := by decide +kernel
theorem d_M_isFree_30 : decode b_M_isFree 30 = .ok (.iload_n 2, 1) := by decide +kernel
theorem d_M_isFree_31 : decode b_M_isFree 31 = .ok (.iaload, 1) := by decide +kernel
theorem d_M_isFree_32 : decode b_M_isFree 32 = .ok (.aload_n 0, 1) := by decide +kernel
theorem d_M_isFree_33 : decode b_M_isFree 33 = .ok (.getfield 19, 3) := by decide +kernel
theorem d_M_isFree_36 : decode b_M_isFree 36 = .ok (.iload_n 1, 1) := by decide +kernel
theorem d_M_isFree_37 : decode b_M_isFree 37 = .ok (.iaload, 1) := by decide +kernel
theorem d_M_isFree_38 : decode b_M_isFree 38 = .ok (.iconst 1, 1) := by decide +kernel
theorem d_M_isFree_39 : decode b_M_isFree 39 = .ok (.iadd, 1) := by decide +kernel
theorem d_M_isFree_40 : decode b_M_isFree 40 = .ok (.if_icmp .ne 53, 3) := by decide +kernel
theorem d_M_isFree_43 : decode b_M_isFree 43 = .ok (.aload_n 0, 1) := by decide +kernel
theorem d_M_isFree_44 : decode b_M_isFree 44 = .ok (.getfield 38, 3) := by decide +kernel
theorem d_M_isFree_47 : decode b_M_isFree 47 = .ok (.iload_n 2, 1) := by decide +kernel
theorem d_M_isFree_48 : decode b_M_isFree 48 = .ok (.baload, 1) := by decide +kernel
theorem d_M_isFree_49 : decode b_M_isFree 49 = .ok (.ifCond .eq 6, 3) := by decide +kernel
theorem d_M_isFree_52 : decode b_M_isFree 52 = .ok (.goto 41, 3) := by decide +kernel
theorem d_M_isFree_55 : decode b_M_isFree 55 = .ok (.aload_n 0, 1) := by decide +kernel
theorem d_M_isFree_56 : decode b_M_isFree 56 = .ok (.getfield 53, 3) := by decide +kernel
theorem d_M_isFree_59 : decode b_M_isFree 59 = .ok (.aload_n 0, 1) := by decide +kernel
theorem d_M_isFree_60 : decode b_M_isFree 60 = .ok (.getfield 47, 3) := by decide +kernel
theorem d_M_isFree_63 : decode b_M_isFree 63 = .ok (.iload_n 2, 1) := by decide +kernel
theorem d_M_isFree_64 : decode b_M_isFree 64 = .ok (.iaload, 1) := by decide +kernel
theorem d_M_isFree_65 : decode b_M_isFree 65 = .ok (.iaload, 1) := by decide +kernel
theorem d_M_isFree_66 : decode b_M_isFree 66 = .ok (.ifCond .ne 5, 3) := by decide +kernel
theorem d_M_isFree_69 : decode b_M_isFree 69 = .ok (.iconst 0, 1) := by decide +kernel
theorem d_M_isFree_70 : decode b_M_isFree 70 = .ok (.ireturn, 1) := by decide +kernel
theorem d_M_isFree_71 : decode b_M_isFree 71 = .ok (.aload_n 0, 1) := by decide +kernel
theorem d_M_isFree_72 : decode b_M_isFree 72 = .ok (.getfield 53, 3) := by decide +kernel
theorem d_M_isFree_75 : decode b_M_isFree 75 = .ok (.aload_n 0, 1) := by decide +kernel
theorem d_M_isFree_76 : decode b_M_isFree 76 = .ok (.getfield 47, 3) := by decide +kernel
theorem d_M_isFree_79 : decode b_M_isFree 79 = .ok (.iload_n 2, 1) := by decide +kernel
theorem d_M_isFree_80 : decode b_M_isFree 80 = .ok (.iaload, 1) := by decide +kernel
theorem d_M_isFree_81 : decode b_M_isFree 81 = .ok (.dup2, 1) := by decide +kernel
theorem d_M_isFree_82 : decode b_M_isFree 82 = .ok (.iaload, 1) := by decide +kernel
theorem d_M_isFree_83 : decode b_M_isFree 83 = .ok (.iconst 1, 1) := by decide +kernel
theorem d_M_isFree_84 : decode b_M_isFree 84 = .ok (.isub, 1) := by decide +kernel
theorem d_M_isFree_85 : decode b_M_isFree 85 = .ok (.iastore, 1) := by decide +kernel
theorem d_M_isFree_86 : decode b_M_isFree 86 = .ok (.aload_n 0, 1) := by decide +kernel
theorem d_M_isFree_87 : decode b_M_isFree 87 = .ok (.getfield 38, 3) := by decide +kernel
theorem d_M_isFree_90 : decode b_M_isFree 90 = .ok (.iload_n 2, 1) := by decide +kernel
theorem d_M_isFree_91 : decode b_M_isFree 91 = .ok (.iconst 1, 1) := by decide +kernel
theorem d_M_isFree_92 : decode b_M_isFree 92 = .ok (.bastore, 1) := by decide +kernel
theorem d_M_isFree_93 : decode b_M_isFree 93 = .ok (.iinc 2 1, 3) := by decide +kernel
theorem d_M_isFree_96 : decode b_M_isFree 96 = .ok (.goto (-88), 3) := by decide +kernel
theorem d_M_isFree_99 : decode b_M_isFree 99 = .ok (.iconst 1, 1) := by decide +kernel
theorem d_M_isFree_100 : decode b_M_isFree 100 = .ok (.ireturn, 1) := by decide +kernel
theorem d_M_goes_0 : decode b_M_goes 0 = .ok (.aload_n 0, 1) := by decide +kernel
theorem d_M_goes_1 : decode b_M_goes 1 = .ok (.getfield 16, 3) := by decide +kernel
theorem d_M_goes_4 : decode b_M_goes 4 = .ok (.iload_n 1, 1) := by decide +kernel
theorem d_M_goes_5 : decode b_M_goes 5 = .ok (.iaload, 1) := by decide +kernel
theorem d_M_goes_6 : decode b_M_goes 6 = .ok (.ifCond .eq 5, 3) := by decide +kernel
theorem d_M_goes_9 : decode b_M_goes 9 = .ok (.iconst 0, 1) := by decide +kernel
theorem d_M_goes_10 : decode b_M_goes 10 = .ok (.ireturn, 1) := by decide +kernel
theorem d_M_goes_11 : decode b_M_goes 11 = .ok (.aload_n 0, 1) := by decide +kernel
theorem d_M_goes_12 : decode b_M_goes 12 = .ok (.getfield 34, 3) := by decide +kernel
theorem d_M_goes_15 : decode b_M_goes 15 = .ok (.iload_n 1, 1) := by decide +kernel
theorem d_M_goes_16 : decode b_M_goes 16 = .ok (.baload, 1) := by decide +kernel
theorem d_M_goes_17 : decode b_M_goes 17 = .ok (.ifCond .eq 19, 3) := by decide +kernel
theorem d_M_goes_20 : decode b_M_goes 20 = .ok (.aload_n 0, 1) := by decide +kernel
theorem d_M_goes_21 : decode b_M_goes 21 = .ok (.iload_n 1, 1) := by decide +kernel
theorem d_M_goes_22 : decode b_M_goes 22 = .ok (.invokevirtual 81, 3) := by decide +kernel
theorem d_M_goes_25 : decode b_M_goes 25 = .ok (.ifCond .ne 11, 3) := by decide +kernel
theorem d_M_goes_28 : decode b_M_goes 28 = .ok (.aload_n 0, 1) := by decide +kernel
theorem d_M_goes_29 : decode b_M_goes 29 = .ok (.iload_n 1, 1) := by decide +kernel
theorem d_M_goes_30 : decode b_M_goes 30 = .ok (.iconst 3, 1) := by decide +kernel
theorem d_M_goes_31 : decode b_M_goes 31 = .ok (.invokevirtual 84, 3) := by decide +kernel
theorem d_M_goes_34 : decode b_M_goes 34 = .ok (.iconst 2, 1) := by decide +kernel
theorem d_M_goes_35 : decode b_M_goes 35 = .ok (.ireturn, 1) := by decide +kernel
theorem d_M_goes_36 : decode b_M_goes 36 = .ok (.aload_n 0, 1) := by decide +kernel
theorem d_M_goes_37 : decode b_M_goes 37 = .ok (.iload_n 1, 1) := by decide +kernel
theorem d_M_goes_38 : decode b_M_goes 38 = .ok (.invokevirtual 88, 3) := by decide +kernel
theorem d_M_goes_41 : decode b_M_goes 41 = .ok (.ifCond .ne 5, 3) := by decide +kernel
theorem d_M_goes_44 : decode b_M_goes 44 = .ok (.iconst 0, 1) := by decide +kernel
theorem d_M_goes_45 : decode b_M_goes 45 = .ok (.ireturn, 1) := by decide +kernel
theorem d_M_goes_46 : decode b_M_goes 46 = .ok (.aload_n 0, 1) := by decide +kernel
theorem d_M_goes_47 : decode b_M_goes 47 = .ok (.getfield 13, 3) := by decide +kernel
theorem d_M_goes_50 : decode b_M_goes 50 = .ok (.iload_n 1, 1) := by decide +kernel
theorem d_M_goes_51 : decode b_M_goes 51 = .ok (.iaload, 1) := by decide +kernel
theorem d_M_goes_52 : decode b_M_goes 52 = .ok (.aload_n 0, 1) := by decide +kernel
theorem d_M_goes_53 : decode b_M_goes 53 = .ok (.getfield 19, 3) := by decide +kernel
theorem d_M_goes_56 : decode b_M_goes 56 = .ok (.iload_n 1, 1) := by decide +kernel
theorem d_M_goes_57 : decode b_M_goes 57 = .ok (.iaload, 1) := by decide +kernel
theorem d_M_goes_58 : decode b_M_goes 58 = .ok (.iconst 1, 1) := by decide +kernel
theorem d_M_goes_59 : decode b_M_goes 59 = .ok (.iadd, 1) := by decide +kernel
theorem d_M_goes_60 : decode b_M_goes 60 = .ok (.if_icmp .ne 11, 3) := by decide +kernel
theorem d_M_goes_63 : decode b_M_goes 63 = .ok (.aload_n 0, 1) := by decide +kernel
theorem d_M_goes_64 : decode b_M_goes 64 = .ok (.iload_n 1, 1) := by decide +kernel
theorem d_M_goes_65 : decode b_M_goes 65 = .ok (.iconst 2, 1) := by decide +kernel
theorem d_M_goes_66 : decode b_M_goes 66 = .ok (.invokevirtual 84, 3) := by decide +kernel
theorem d_M_goes_69 : decode b_M_goes 69 = .ok (.iconst 2, 1) := by decide +kernel
theorem d_M_goes_70 : decode b_M_goes 70 = .ok (.ireturn, 1) := by decide +kernel
theorem d_M_goes_71 : decode b_M_goes 71 = .ok (.aload_n 0, 1) := by decide +kernel
theorem d_M_goes_72 : decode b_M_goes 72 = .ok (.getfield 19, 3) := by decide +kernel
theorem d_M_goes_75 : decode b_M_goes 75 = .ok (.iload_n 1, 1) := by decide +kernel
theorem d_M_goes_76 : decode b_M_goes 76 = .ok (.dup2, 1) := by decide +kernel
theorem d_M_goes_77 : decode b_M_goes 77 = .ok (.iaload, 1) := by decide +kernel
theorem d_M_goes_78 : decode b_M_goes 78 = .ok (.iconst 1, 1) := by decide +kernel
theorem d_M_goes_79 : decode b_M_goes 79 = .ok (.iadd, 1) := by decide +kernel
theorem d_M_goes_80 : decode b_M_goes 80 = .ok (.iastore, 1) := by decide +kernel
theorem d_M_goes_81 : decode b_M_goes 81 = .ok (.aload_n 0, 1) := by decide +kernel
theorem d_M_goes_82 : decode b_M_goes 82 = .ok (.getfield 56, 3) := by decide +kernel
theorem d_M_goes_85 : decode b_M_goes 85 = .ok (.aload_n 0, 1) := by decide +kernel
theorem d_M_goes_86 : decode b_M_goes 86 = .ok (.getfield 91, 3) := by decide +kernel
theorem d_M_goes_89 : decode b_M_goes 89 = .ok (.sipush 1000, 3) := by decide +kernel
theorem d_M_goes_92 : decode b_M_goes 92 = .ok (.iload_n 1, 1) := by decide +kernel
theorem d_M_goes_93 : decode b_M_goes 93 = .ok (.imul, 1) := by decide +kernel
theorem d_M_goes_94 : decode b_M_goes 94 = .ok (.aload_n 0, 1) := by decide +kernel
theorem d_M_goes_95 : decode b_M_goes 95 = .ok (.getfield 19, 3) := by decide +kernel
theorem d_M_goes_98 : decode b_M_goes 98 = .ok (.iload_n 1, 1) := by decide +kernel
theorem d_M_goes_99 : decode b_M_goes 99 = .ok (.iaload, 1) := by decide +kernel
theorem d_M_goes_100 : decode b_M_goes 100 = .ok (.iadd, 1) := by decide +kernel
theorem d_M_goes_101 : decode b_M_goes 101 = .ok (.iastore, 1) := by decide +kernel
theorem d_M_goes_102 : decode b_M_goes 102 = .ok (.aload_n 0, 1) := by decide +kernel
theorem d_M_goes_103 : decode b_M_goes 103 = .ok (.dup, 1) := by decide +kernel
theorem d_M_goes_104 : decode b_M_goes 104 = .ok (.getfield 91, 3) := by decide +kernel
theorem d_M_goes_107 : decode b_M_goes 107 = .ok (.iconst 1, 1) := by decide +kernel
theorem d_M_goes_108 : decode b_M_goes 108 = .ok (.iadd, 1) := by decide +kernel
theorem d_M_goes_109 : decode b_M_goes 109 = .ok (.putfield 91, 3) := by decide +kernel
theorem d_M_goes_112 : decode b_M_goes 112 = .ok (.aload_n 0, 1) := by decide +kernel
theorem d_M_goes_113 : decode b_M_goes 113 = .ok (.getfield 41, 3) := by decide +kernel
theorem d_M_goes_116 : decode b_M_goes 116 = .ok (.iload_n 1, 1) := by decide +kernel
theorem d_M_goes_117 : decode b_M_goes 117 = .ok (.aload_n 0, 1) := by decide +kernel
theorem d_M_goes_118 : decode b_M_goes 118 = .ok (.getfield 19, 3) := by decide +kernel
theorem d_M_goes_121 : decode b_M_goes 121 = .ok (.iload_n 1, 1) := by decide +kernel
theorem d_M_goes_122 : decode b_M_goes 122 = .ok (.iaload, 1) := by decide +kernel
theorem d_M_goes_123 : decode b_M_goes 123 = .ok (.invokestatic 77, 3) := by decide +kernel
theorem d_M_goes_126 : decode b_M_goes 126 = .ok (.iaload, 1) := by decide +kernel
theorem d_M_goes_127 : decode b_M_goes 127 = .ok (.iconst 2, 1) := by decide +kernel
theorem d_M_goes_128 : decode b_M_goes 128 = .ok (.if_icmp .ne 15, 3) := by decide +kernel
theorem d_M_goes_131 : decode b_M_goes 131 = .ok (.aload_n 0, 1) := by decide +kernel
theorem d_M_goes_132 : decode b_M_goes 132 = .ok (.getfield 22, 3) := by decide +kernel
theorem d_M_goes_135 : decode b_M_goes 135 = .ok (.iload_n 1, 1) := by decide +kernel
theorem d_M_goes_136 : decode b_M_goes 136 = .ok (.aload_n 0, 1) := by decide +kernel
theorem d_M_goes_137 : decode b_M_goes 137 = .ok (.getfield 19, 3) := by decide +kernel
theorem d_M_goes_140 : decode b_M_goes 140 = .ok (.iload_n 1, 1) := by decide +kernel
theorem d_M_goes_141 : decode b_M_goes 141 = .ok (.iaload, 1) := by decide +kernel
theorem d_M_goes_142 : decode b_M_goes 142 = .ok (.iastore, 1) := by decide +kernel
theorem d_M_goes_143 : decode b_M_goes 143 = .ok (.aload_n 0, 1) := by decide +kernel
theorem d_M_goes_144 : decode b_M_goes 144 = .ok (.getfield 19, 3) := by decide +kernel
theorem d_M_goes_147 : decode b_M_goes 147 = .ok (.iload_n 1, 1) := by decide +kernel
theorem d_M_goes_148 : decode b_M_goes 148 = .ok (.iaload, 1) := by decide +kernel
theorem d_M_goes_149 : decode b_M_goes 149 = .ok (.aload_n 0, 1) := by decide +kernel
theorem d_M_goes_150 : decode b_M_goes 150 = .ok (.getfield 7, 3) := by decide +kernel
theorem d_M_goes_153 : decode b_M_goes 153 = .ok (.iload_n 1, 1) := by decide +kernel
theorem d_M_goes_154 : decode b_M_goes 154 = .ok (.iaload, 1) := by decide +kernel
theorem d_M_goes_155 : decode b_M_goes 155 = .ok (.if_icmp .ne 9, 3) := by decide +kernel
theorem d_M_goes_158 : decode b_M_goes 158 = .ok (.aload_n 0, 1) := by decide +kernel
theorem d_M_goes_159 : decode b_M_goes 159 = .ok (.iload_n 1, 1) := by decide +kernel
theorem d_M_goes_160 : decode b_M_goes 160 = .ok (.iconst 1, 1) := by decide +kernel
theorem d_M_goes_161 : decode b_M_goes 161 = .ok (.invokevirtual 84, 3) := by decide +kernel
theorem d_M_goes_164 : decode b_M_goes 164 = .ok (.iconst 1, 1) := by decide +kernel
theorem d_M_goes_165 : decode b_M_goes 165 = .ok (.ireturn, 1) := by decide +kernel
theorem d_M_run_0 : decode b_M_run 0 = .ok (.aload_n 0, 1) := by decide +kernel
theorem d_M_run_1 : decode b_M_run 1 = .ok (.iconst 0, 1) := by decide +kernel
theorem d_M_run_2 : decode b_M_run 2 = .ok (.putfield 59, 3) := by decide +kernel
theorem d_M_run_5 : decode b_M_run 5 = .ok (.aload_n 0, 1) := by decide +kernel
theorem d_M_run_6 : decode b_M_run 6 = .ok (.getfield 66, 3) := by decide +kernel
theorem d_M_run_9 : decode b_M_run 9 = .ok (.ifCond .eq 6, 3) := by decide +kernel
theorem d_M_run_12 : decode b_M_run 12 = .ok (.bipush (-5), 2) := by decide +kernel
theorem d_M_run_14 : decode b_M_run 14 = .ok (.ireturn, 1) := by decide +kernel
theorem d_M_run_15 : decode b_M_run 15 = .ok (.iconst 0, 1) := by decide +kernel
theorem d_M_run_16 : decode b_M_run 16 = .ok (.istore_n 1, 1) := by decide +kernel
theorem d_M_run_17 : decode b_M_run 17 = .ok (.iconst 0, 1) := by decide +kernel
theorem d_M_run_18 : decode b_M_run 18 = .ok (.istore_n 2, 1) := by decide +kernel
theorem d_M_run_19 : decode b_M_run 19 = .ok (.iload_n 2, 1) := by decide +kernel
theorem d_M_run_20 : decode b_M_run 20 = .ok (.aload_n 0, 1) := by decide +kernel
theorem d_M_run_21 : decode b_M_run 21 = .ok (.getfield 74, 3) := by decide +kernel
theorem d_M_run_24 : decode b_M_run 24 = .ok (.if_icmp .ge 51, 3) := by decide +kernel
theorem d_M_run_27 : decode b_M_run 27 = .ok (.aload_n 0, 1) := by decide +kernel
theorem d_M_run_28 : decode b_M_run 28 = .ok (.aload_n 0, 1) := by decide +kernel
theorem d_M_run_29 : decode b_M_run 29 = .ok (.getfield 50, 3) := by decide +kernel
theorem d_M_run_32 : decode b_M_run 32 = .ok (.iload_n 2, 1) := by decide +kernel
theorem d_M_run_33 : decode b_M_run 33 = .ok (.iaload, 1) := by decide +kernel
theorem d_M_run_34 : decode b_M_run 34 = .ok (.invokevirtual 94, 3) := by decide +kernel
theorem d_M_run_37 : decode b_M_run 37 = .ok (.istore_n 3, 1) := by decide +kernel
theorem d_M_run_38 : decode b_M_run 38 = .ok (.iload_n 1, 1) := by decide +kernel
theorem d_M_run_39 : decode b_M_run 39 = .ok (.iload_n 3, 1) := by decide +kernel
theorem d_M_run_40 : decode b_M_run 40 = .ok (.iconst 1, 1) := by decide +kernel
theorem d_M_run_41 : decode b_M_run 41 = .ok (.if_icmp .ne 7, 3) := by decide +kernel
theorem d_M_run_44 : decode b_M_run 44 = .ok (.iconst 1, 1) := by decide +kernel
theorem d_M_run_45 : decode b_M_run 45 = .ok (.goto 4, 3) := by decide +kernel
theorem d_M_run_48 : decode b_M_run 48 = .ok (.iconst 0, 1) := by decide +kernel
theorem d_M_run_49 : decode b_M_run 49 = .ok (.iadd, 1) := by decide +kernel
theorem d_M_run_50 : decode b_M_run 50 = .ok (.istore_n 1, 1) := by decide +kernel
theorem d_M_run_51 : decode b_M_run 51 = .ok (.aload_n 0, 1) := by decide +kernel
theorem d_M_run_52 : decode b_M_run 52 = .ok (.dup, 1) := by decide +kernel
theorem d_M_run_53 : decode b_M_run 53 = .ok (.getfield 98, 3) := by decide +kernel
theorem d_M_run_56 : decode b_M_run 56 = .ok (.iload_n 3, 1) := by decide +kernel
theorem d_M_run_57 : decode b_M_run 57 = .ok (.ifCond .ne 7, 3) := by decide +kernel
theorem d_M_run_60 : decode b_M_run 60 = .ok (.iconst 1, 1) := by decide +kernel
theorem d_M_run_61 : decode b_M_run 61 = .ok (.goto 4, 3) := by decide +kernel
theorem d_M_run_64 : decode b_M_run 64 = .ok (.iconst 0, 1) := by decide +kernel
theorem d_M_run_65 : decode b_M_run 65 = .ok (.iadd, 1) := by decide +kernel
theorem d_M_run_66 : decode b_M_run 66 = .ok (.putfield 98, 3) := by decide +kernel
theorem d_M_run_69 : decode b_M_run 69 = .ok (.iinc 2 1, 3) := by decide +kernel
theorem d_M_run_72 : decode b_M_run 72 = .ok (.goto (-53), 3) := by decide +kernel
theorem d_M_run_75 : decode b_M_run 75 = .ok (.aload_n 0, 1) := by decide +kernel
theorem d_M_run_76 : decode b_M_run 76 = .ok (.iconst 0, 1) := by decide +kernel
theorem d_M_run_77 : decode b_M_run 77 = .ok (.putfield 74, 3) := by decide +kernel
theorem d_M_run_80 : decode b_M_run 80 = .ok (.iload_n 1, 1) := by decide +kernel
theorem d_M_run_81 : decode b_M_run 81 = .ok (.ireturn, 1) := by decide +kernel
theorem d_M_cancel_0 : decode b_M_cancel 0 = .ok (.aload_n 0, 1) := by decide +kernel
theorem d_M_cancel_1 : decode b_M_cancel 1 = .ok (.iconst 0, 1) := by decide +kernel
theorem d_M_cancel_2 : decode b_M_cancel 2 = .ok (.putfield 59, 3) := by decide +kernel
theorem d_M_cancel_5 : decode b_M_cancel 5 = .ok (.aload_n 0, 1) := by decide +kernel
theorem d_M_cancel_6 : decode b_M_cancel 6 = .ok (.getfield 66, 3) := by decide +kernel
theorem d_M_cancel_9 : decode b_M_cancel 9 = .ok (.ifCond .ne 29, 3) := by decide +kernel
theorem d_M_cancel_12 : decode b_M_cancel 12 = .ok (.aload_n 0, 1) := by decide +kernel
theorem d_M_cancel_13 : decode b_M_cancel 13 = .ok (.iload_n 1, 1) := by decide +kernel
theorem d_M_cancel_14 : decode b_M_cancel 14 = .ok (.invokevirtual 70, 3) := by decide +kernel
theorem d_M_cancel_17 : decode b_M_cancel 17 = .ok (.ifCond .eq 21, 3) := by decide +kernel
theorem d_M_cancel_20 : decode b_M_cancel 20 = .ok (.aload_n 0, 1) := by decide +kernel
theorem d_M_cancel_21 : decode b_M_cancel 21 = .ok (.getfield 16, 3) := by decide +kernel
theorem d_M_cancel_24 : decode b_M_cancel 24 = .ok (.iload_n 1, 1) := by decide +kernel
theorem d_M_cancel_25 : decode b_M_cancel 25 = .ok (.iaload, 1) := by decide +kernel
theorem d_M_cancel_26 : decode b_M_cancel 26 = .ok (.ifCond .ne 12, 3) := by decide +kernel
theorem d_M_cancel_29 : decode b_M_cancel 29 = .ok (.aload_n 0, 1) := by decide +kernel
theorem d_M_cancel_30 : decode b_M_cancel 30 = .ok (.getfield 34, 3) := by decide +kernel
theorem d_M_cancel_33 : decode b_M_cancel 33 = .ok (.iload_n 1, 1) := by decide +kernel
theorem d_M_cancel_34 : decode b_M_cancel 34 = .ok (.baload, 1) := by decide +kernel
theorem d_M_cancel_35 : decode b_M_cancel 35 = .ok (.ifCond .eq 5, 3) := by decide +kernel
theorem d_M_cancel_38 : decode b_M_cancel 38 = .ok (.iconst 0, 1) := by decide +kernel
theorem d_M_cancel_39 : decode b_M_cancel 39 = .ok (.ireturn, 1) := by decide +kernel
theorem d_M_cancel_40 : decode b_M_cancel 40 = .ok (.aload_n 0, 1) := by decide +kernel
theorem d_M_cancel_41 : decode b_M_cancel 41 = .ok (.getfield 34, 3) := by decide +kernel
theorem d_M_cancel_44 : decode b_M_cancel 44 = .ok (.iload_n 1, 1) := by decide +kernel
theorem d_M_cancel_45 : decode b_M_cancel 45 = .ok (.iconst 1, 1) := by decide +kernel
theorem d_M_cancel_46 : decode b_M_cancel 46 = .ok (.bastore, 1) := by decide +kernel
theorem d_M_cancel_47 : decode b_M_cancel 47 = .ok (.iconst 1, 1) := by decide +kernel
theorem d_M_cancel_48 : decode b_M_cancel 48 = .ok (.ireturn, 1) := by decide +kernel
theorem d_M_leave_0 : decode b_M_leave 0 = .ok (.aload_n 0, 1) := by decide +kernel
theorem d_M_leave_1 : decode b_M_leave 1 = .ok (.getfield 16, 3) := by decide +kernel
theorem d_M_leave_4 : decode b_M_leave 4 = .ok (.iload_n 1, 1) := by decide +kernel
theorem d_M_leave_5 : decode b_M_leave 5 = .ok (.iconst 4, 1) := by decide +kernel
theorem d_M_leave_6 : decode b_M_leave 6 = .ok (.iastore, 1) := by decide +kernel
theorem d_M_leave_7 : decode b_M_leave 7 = .ok (.aload_n 0, 1) := by decide +kernel
theorem d_M_leave_8 : decode b_M_leave 8 = .ok (.getfield 19, 3) := by decide +kernel
theorem d_M_leave_11 : decode b_M_leave 11 = .ok (.iload_n 1, 1) := by decide +kernel
theorem d_M_leave_12 : decode b_M_leave 12 = .ok (.iaload, 1) := by decide +kernel
theorem d_M_leave_13 : decode b_M_leave 13 = .ok (.aload_n 0, 1) := by decide +kernel
theorem d_M_leave_14 : decode b_M_leave 14 = .ok (.getfield 22, 3) := by decide +kernel
theorem d_M_leave_17 : decode b_M_leave 17 = .ok (.iload_n 1, 1) := by decide +kernel
theorem d_M_leave_18 : decode b_M_leave 18 = .ok (.iaload, 1) := by decide +kernel
theorem d_M_leave_19 : decode b_M_leave 19 = .ok (.if_icmp .le 7, 3) := by decide +kernel
theorem d_M_leave_22 : decode b_M_leave 22 = .ok (.iconst 1, 1) := by decide +kernel
theorem d_M_leave_23 : decode b_M_leave 23 = .ok (.goto 4, 3) := by decide +kernel
theorem d_M_leave_26 : decode b_M_leave 26 = .ok (.iconst 0, 1) := by decide +kernel
theorem d_M_leave_27 : decode b_M_leave 27 = .ok (.ireturn, 1) := by decide +kernel
theorem d_M_shutdown_0 : decode b_M_shutdown 0 = .ok (.aload_n 0, 1) := by decide +kernel
theorem d_M_shutdown_1 : decode b_M_shutdown 1 = .ok (.iconst 0, 1) := by decide +kernel
theorem d_M_shutdown_2 : decode b_M_shutdown 2 = .ok (.putfield 59, 3) := by decide +kernel
theorem d_M_shutdown_5 : decode b_M_shutdown 5 = .ok (.aload_n 0, 1) := by decide +kernel
theorem d_M_shutdown_6 : decode b_M_shutdown 6 = .ok (.getfield 66, 3) := by decide +kernel
theorem d_M_shutdown_9 : decode b_M_shutdown 9 = .ok (.ifCond .eq 6, 3) := by decide +kernel
theorem d_M_shutdown_12 : decode b_M_shutdown 12 = .ok (.bipush (-5), 2) := by decide +kernel
theorem d_M_shutdown_14 : decode b_M_shutdown 14 = .ok (.ireturn, 1) := by decide +kernel
theorem d_M_shutdown_15 : decode b_M_shutdown 15 = .ok (.aload_n 0, 1) := by decide +kernel
theorem d_M_shutdown_16 : decode b_M_shutdown 16 = .ok (.iconst 0, 1) := by decide +kernel
theorem d_M_shutdown_17 : decode b_M_shutdown 17 = .ok (.putfield 74, 3) := by decide +kernel
theorem d_M_shutdown_20 : decode b_M_shutdown 20 = .ok (.iload_n 1, 1) := by decide +kernel
theorem d_M_shutdown_21 : decode b_M_shutdown 21 = .ok (.ifCond .ne 7, 3) := by decide +kernel
theorem d_M_shutdown_24 : decode b_M_shutdown 24 = .ok (.iconst 1, 1) := by decide +kernel
theorem d_M_shutdown_25 : decode b_M_shutdown 25 = .ok (.goto 4, 3) := by decide +kernel
theorem d_M_shutdown_28 : decode b_M_shutdown 28 = .ok (.iconst 0, 1) := by decide +kernel
theorem d_M_shutdown_29 : decode b_M_shutdown 29 = .ok (.istore_n 2, 1) := by decide +kernel
theorem d_M_shutdown_30 : decode b_M_shutdown 30 = .ok (.iload_n 2, 1) := by decide +kernel
theorem d_M_shutdown_31 : decode b_M_shutdown 31 = .ok (.ifCond .eq 54, 3) := by decide +kernel
theorem d_M_shutdown_34 : decode b_M_shutdown 34 = .ok (.iconst 0, 1) := by decide +kernel
theorem d_M_shutdown_35 : decode b_M_shutdown 35 = .ok (.istore_n 2, 1) := by decide +kernel
theorem d_M_shutdown_36 : decode b_M_shutdown 36 = .ok (.iconst 1, 1) := by decide +kernel
theorem d_M_shutdown_37 : decode b_M_shutdown 37 = .ok (.istore_n 3, 1) := by decide +kernel
theorem d_M_shutdown_38 : decode b_M_shutdown 38 = .ok (.iload_n 3, 1) := by decide +kernel
theorem d_M_shutdown_39 : decode b_M_shutdown 39 = .ok (.aload_n 0, 1) := by decide +kernel
theorem d_M_shutdown_40 : decode b_M_shutdown 40 = .ok (.getfield 63, 3) := by decide +kernel
theorem d_M_shutdown_43 : decode b_M_shutdown 43 = .ok (.if_icmp .gt 39, 3) := by decide +kernel
theorem d_M_shutdown_46 : decode b_M_shutdown 46 = .ok (.aload_n 0, 1) := by decide +kernel
theorem d_M_shutdown_47 : decode b_M_shutdown 47 = .ok (.iload_n 3, 1) := by decide +kernel
theorem d_M_shutdown_48 : decode b_M_shutdown 48 = .ok (.invokevirtual 94, 3) := by decide +kernel
theorem d_M_shutdown_51 : decode b_M_shutdown 51 = .ok (.ifCond .le 7, 3) := by decide +kernel
theorem d_M_shutdown_54 : decode b_M_shutdown 54 = .ok (.iconst 1, 1) := by decide +kernel
theorem d_M_shutdown_55 : decode b_M_shutdown 55 = .ok (.goto 4, 3) := by decide +kernel
theorem d_M_shutdown_58 : decode b_M_shutdown 58 = .ok (.iconst 0, 1) := by decide +kernel
theorem d_M_shutdown_59 : decode b_M_shutdown 59 = .ok (.istore 4, 2) := by decide +kernel
theorem d_M_shutdown_61 : decode b_M_shutdown 61 = .ok (.iload_n 2, 1) := by decide +kernel
theorem d_M_shutdown_62 : decode b_M_shutdown 62 = .ok (.ifCond .ne 8, 3) := by decide +kernel
theorem d_M_shutdown_65 : decode b_M_shutdown 65 = .ok (.iload 4, 2) := by decide +kernel
theorem d_M_shutdown_67 : decode b_M_shutdown 67 = .ok (.ifCond .eq 7, 3) := by decide +kernel
theorem d_M_shutdown_70 : decode b_M_shutdown 70 = .ok (.iconst 1, 1) := by decide +kernel
theorem d_M_shutdown_71 : decode b_M_shutdown 71 = .ok (.goto 4, 3) := by decide +kernel
theorem d_M_shutdown_74 : decode b_M_shutdown 74 = .ok (.iconst 0, 1) := by decide +kernel
theorem d_M_shutdown_75 : decode b_M_shutdown 75 = .ok (.istore_n 2, 1) := by decide +kernel
theorem d_M_shutdown_76 : decode b_M_shutdown 76 = .ok (.iinc 3 1, 3) := by decide +kernel
theorem d_M_shutdown_79 : decode b_M_shutdown 79 = .ok (.goto (-41), 3) := by decide +kernel
theorem d_M_shutdown_82 : decode b_M_shutdown 82 = .ok (.goto (-52), 3) := by decide +kernel
theorem d_M_shutdown_85 : decode b_M_shutdown 85 = .ok (.iconst 0, 1) := by decide +kernel
theorem d_M_shutdown_86 : decode b_M_shutdown 86 = .ok (.istore_n 3, 1) := by decide +kernel
theorem d_M_shutdown_87 : decode b_M_shutdown 87 = .ok (.iconst 1, 1) := by decide +kernel
theorem d_M_shutdown_88 : decode b_M_shutdown 88 = .ok (.istore 4, 2) := by decide +kernel
theorem d_M_shutdown_90 : decode b_M_shutdown 90 = .ok (.iload 4, 2) := by decide +kernel
theorem d_M_shutdown_92 : decode b_M_shutdown 92 = .ok (.aload_n 0, 1) := by decide +kernel
theorem d_M_shutdown_93 : decode b_M_shutdown 93 = .ok (.getfield 63, 3) := by decide +kernel
theorem d_M_shutdown_96 : decode b_M_shutdown 96 = .ok (.if_icmp .gt 54, 3) := by decide +kernel
theorem d_M_shutdown_99 : decode b_M_shutdown 99 = .ok (.aload_n 0, 1) := by decide +kernel
theorem d_M_shutdown_100 : decode b_M_shutdown 100 = .ok (.getfield 16, 3) := by decide +kernel
theorem d_M_shutdown_103 : decode b_M_shutdown 103 = .ok (.iload 4, 2) := by decide +kernel
theorem d_M_shutdown_105 : decode b_M_shutdown 105 = .ok (.iaload, 1) := by decide +kernel
theorem d_M_shutdown_106 : decode b_M_shutdown 106 = .ok (.ifCond .eq 6, 3) := by decide +kernel
theorem d_M_shutdown_109 : decode b_M_shutdown 109 = .ok (.goto 35, 3) := by decide +kernel
theorem d_M_shutdown_112 : decode b_M_shutdown 112 = .ok (.iload_n 1, 1) := by decide +kernel
theorem d_M_shutdown_113 : decode b_M_shutdown 113 = .ok (.ifCond .ne 12, 3) := by decide +kernel
theorem d_M_shutdown_116 : decode b_M_shutdown 116 = .ok (.aload_n 0, 1) := by decide +kernel
theorem d_M_shutdown_117 : decode b_M_shutdown 117 = .ok (.iload 4, 2) := by decide +kernel
theorem d_M_shutdown_119 : decode b_M_shutdown 119 = .ok (.invokevirtual 81, 3) := by decide +kernel
theorem d_M_shutdown_122 : decode b_M_shutdown 122 = .ok (.ifCond .eq 15, 3) := by decide +kernel
theorem d_M_shutdown_125 : decode b_M_shutdown 125 = .ok (.iload_n 3, 1) := by decide +kernel
theorem d_M_shutdown_126 : decode b_M_shutdown 126 = .ok (.aload_n 0, 1) := by decide +kernel
theorem d_M_shutdown_127 : decode b_M_shutdown 127 = .ok (.iload 4, 2) := by decide +kernel
theorem d_M_shutdown_129 : decode b_M_shutdown 129 = .ok (.invokevirtual 101, 3) := by decide +kernel
theorem d_M_shutdown_132 : decode b_M_shutdown 132 = .ok (.iadd, 1) := by decide +kernel
theorem d_M_shutdown_133 : decode b_M_shutdown 133 = .ok (.istore_n 3, 1) := by decide +kernel
theorem d_M_shutdown_134 : decode b_M_shutdown 134 = .ok (.goto 10, 3) := by decide +kernel
theorem d_M_shutdown_137 : decode b_M_shutdown 137 = .ok (.aload_n 0, 1) := by decide +kernel
theorem d_M_shutdown_138 : decode b_M_shutdown 138 = .ok (.iload 4, 2) := by decide +kernel
theorem d_M_shutdown_140 : decode b_M_shutdown 140 = .ok (.iconst 3, 1) := by decide +kernel
theorem d_M_shutdown_141 : decode b_M_shutdown 141 = .ok (.invokevirtual 84, 3) := by decide +kernel
theorem d_M_shutdown_144 : decode b_M_shutdown 144 = .ok (.iinc 4 1, 3) := by decide +kernel
theorem d_M_shutdown_147 : decode b_M_shutdown 147 = .ok (.goto (-57), 3) := by decide +kernel
theorem d_M_shutdown_150 : decode b_M_shutdown 150 = .ok (.iload_n 3, 1) := by decide +kernel
theorem d_M_shutdown_151 : decode b_M_shutdown 151 = .ok (.ireturn, 1) := by decide +kernel
theorem d_M_close_0 : decode b_M_close 0 = .ok (.aload_n 0, 1) := by decide +kernel
theorem d_M_close_1 : decode b_M_close 1 = .ok (.iconst 0, 1) := by decide +kernel
theorem d_M_close_2 : decode b_M_close 2 = .ok (.putfield 59, 3) := by decide +kernel
theorem d_M_close_5 : decode b_M_close 5 = .ok (.aload_n 0, 1) := by decide +kernel
theorem d_M_close_6 : decode b_M_close 6 = .ok (.getfield 66, 3) := by decide +kernel
theorem d_M_close_9 : decode b_M_close 9 = .ok (.ifCond .eq 6, 3) := by decide +kernel
theorem d_M_close_12 : decode b_M_close 12 = .ok (.bipush (-5), 2) := by decide +kernel
theorem d_M_close_14 : decode b_M_close 14 = .ok (.ireturn, 1) := by decide +kernel
theorem d_M_close_15 : decode b_M_close 15 = .ok (.aload_n 0, 1) := by decide +kernel
theorem d_M_close_16 : decode b_M_close 16 = .ok (.iconst 1, 1) := by decide +kernel
theorem d_M_close_17 : decode b_M_close 17 = .ok (.putfield 66, 3) := by decide +kernel
theorem d_M_close_20 : decode b_M_close 20 = .ok (.aload_n 0, 1) := by decide +kernel
theorem d_M_close_21 : decode b_M_close 21 = .ok (.iconst 0, 1) := by decide +kernel
theorem d_M_close_22 : decode b_M_close 22 = .ok (.putfield 74, 3) := by decide +kernel
theorem d_M_close_25 : decode b_M_close 25 = .ok (.iconst 0, 1) := by decide +kernel
theorem d_M_close_26 : decode b_M_close 26 = .ok (.istore_n 1, 1) := by decide +kernel
theorem d_M_close_27 : decode b_M_close 27 = .ok (.iconst 1, 1) := by decide +kernel
theorem d_M_close_28 : decode b_M_close 28 = .ok (.istore_n 2, 1) := by decide +kernel
theorem d_M_close_29 : decode b_M_close 29 = .ok (.iload_n 2, 1) := by decide +kernel
theorem d_M_close_30 : decode b_M_close 30 = .ok (.aload_n 0, 1) := by decide +kernel
theorem d_M_close_31 : decode b_M_close 31 = .ok (.getfield 63, 3) := by decide +kernel
theorem d_M_close_34 : decode b_M_close 34 = .ok (.if_icmp .gt 51, 3) := by decide +kernel
theorem d_M_close_37 : decode b_M_close 37 = .ok (.iload_n 1, 1) := by decide +kernel
theorem d_M_close_38 : decode b_M_close 38 = .ok (.aload_n 0, 1) := by decide +kernel
theorem d_M_close_39 : decode b_M_close 39 = .ok (.getfield 16, 3) := by decide +kernel
theorem d_M_close_42 : decode b_M_close 42 = .ok (.iload_n 2, 1) := by decide +kernel
theorem d_M_close_43 : decode b_M_close 43 = .ok (.iaload, 1) := by decide +kernel
theorem d_M_close_44 : decode b_M_close 44 = .ok (.ifCond .ne 7, 3) := by decide +kernel
theorem d_M_close_47 : decode b_M_close 47 = .ok (.iconst 1, 1) := by decide +kernel
theorem d_M_close_48 : decode b_M_close 48 = .ok (.goto 4, 3) := by decide +kernel
theorem d_M_close_51 : decode b_M_close 51 = .ok (.iconst 0, 1) := by decide +kernel
theorem d_M_close_52 : decode b_M_close 52 = .ok (.iadd, 1) := by decide +kernel
theorem d_M_close_53 : decode b_M_close 53 = .ok (.istore_n 1, 1) := by decide +kernel
theorem d_M_close_54 : decode b_M_close 54 = .ok (.aload_n 0, 1) := by decide +kernel
theorem d_M_close_55 : decode b_M_close 55 = .ok (.getfield 16, 3) := by decide +kernel
theorem d_M_close_58 : decode b_M_close 58 = .ok (.iload_n 2, 1) := by decide +kernel
theorem d_M_close_59 : decode b_M_close 59 = .ok (.aload_n 0, 1) := by decide +kernel
theorem d_M_close_60 : decode b_M_close 60 = .ok (.getfield 16, 3) := by decide +kernel
theorem d_M_close_63 : decode b_M_close 63 = .ok (.iload_n 2, 1) := by decide +kernel
theorem d_M_close_64 : decode b_M_close 64 = .ok (.iaload, 1) := by decide +kernel
theorem d_M_close_65 : decode b_M_close 65 = .ok (.ifCond .ne 7, 3) := by decide +kernel
theorem d_M_close_68 : decode b_M_close 68 = .ok (.iconst 4, 1) := by decide +kernel
theorem d_M_close_69 : decode b_M_close 69 = .ok (.goto 9, 3) := by decide +kernel
theorem d_M_close_72 : decode b_M_close 72 = .ok (.aload_n 0, 1) := by decide +kernel
theorem d_M_close_73 : decode b_M_close 73 = .ok (.getfield 16, 3) := by decide +kernel
theorem d_M_close_76 : decode b_M_close 76 = .ok (.iload_n 2, 1) := by decide +kernel
theorem d_M_close_77 : decode b_M_close 77 = .ok (.iaload, 1) := by decide +kernel
theorem d_M_close_78 : decode b_M_close 78 = .ok (.iastore, 1) := by decide +kernel
theorem d_M_close_79 : decode b_M_close 79 = .ok (.iinc 2 1, 3) := by decide +kernel
theorem d_M_close_82 : decode b_M_close 82 = .ok (.goto (-53), 3) := by decide +kernel
theorem d_M_close_85 : decode b_M_close 85 = .ok (.iload_n 1, 1) := by decide +kernel
theorem d_M_close_86 : decode b_M_close 86 = .ok (.ireturn, 1) := by decide +kernel
theorem d_M_log_0 : decode b_M_log 0 = .ok (.aload_n 0, 1) := by decide +kernel
theorem d_M_log_1 : decode b_M_log 1 = .ok (.iconst 0, 1) := by decide +kernel
theorem d_M_log_2 : decode b_M_log 2 = .ok (.putfield 59, 3) := by decide +kernel
theorem d_M_log_5 : decode b_M_log 5 = .ok (.iload_n 1, 1) := by decide +kernel
theorem d_M_log_6 : decode b_M_log 6 = .ok (.ifCond .lt 20, 3) := by decide +kernel
theorem d_M_log_9 : decode b_M_log 9 = .ok (.iload_n 1, 1) := by decide +kernel
theorem d_M_log_10 : decode b_M_log 10 = .ok (.aload_n 0, 1) := by decide +kernel
theorem d_M_log_11 : decode b_M_log 11 = .ok (.getfield 91, 3) := by decide +kernel
theorem d_M_log_14 : decode b_M_log 14 = .ok (.if_icmp .ge 12, 3) := by decide +kernel
theorem d_M_log_17 : decode b_M_log 17 = .ok (.aload_n 0, 1) := by decide +kernel
theorem d_M_log_18 : decode b_M_log 18 = .ok (.getfield 56, 3) := by decide +kernel
theorem d_M_log_21 : decode b_M_log 21 = .ok (.iload_n 1, 1) := by decide +kernel
theorem d_M_log_22 : decode b_M_log 22 = .ok (.iaload, 1) := by decide +kernel
theorem d_M_log_23 : decode b_M_log 23 = .ok (.goto 4, 3) := by decide +kernel
theorem d_M_log_26 : decode b_M_log 26 = .ok (.iconst 0, 1) := by decide +kernel
theorem d_M_log_27 : decode b_M_log 27 = .ok (.ireturn, 1) := by decide +kernel
theorem d_M_cleaned_0 : decode b_M_cleaned 0 = .ok (.aload_n 0, 1) := by decide +kernel
theorem d_M_cleaned_1 : decode b_M_cleaned 1 = .ok (.iconst 0, 1) := by decide +kernel
theorem d_M_cleaned_2 : decode b_M_cleaned 2 = .ok (.putfield 59, 3) := by decide +kernel
theorem d_M_cleaned_5 : decode b_M_cleaned 5 = .ok (.aload_n 0, 1) := by decide +kernel
theorem d_M_cleaned_6 : decode b_M_cleaned 6 = .ok (.iload_n 1, 1) := by decide +kernel
theorem d_M_cleaned_7 : decode b_M_cleaned 7 = .ok (.invokevirtual 70, 3) := by decide +kernel
theorem d_M_cleaned_10 : decode b_M_cleaned 10 = .ok (.ifCond .eq 12, 3) := by decide +kernel
theorem d_M_cleaned_13 : decode b_M_cleaned 13 = .ok (.aload_n 0, 1) := by decide +kernel
theorem d_M_cleaned_14 : decode b_M_cleaned 14 = .ok (.getfield 25, 3) := by decide +kernel
theorem d_M_cleaned_17 : decode b_M_cleaned 17 = .ok (.iload_n 1, 1) := by decide +kernel
theorem d_M_cleaned_18 : decode b_M_cleaned 18 = .ok (.iaload, 1) := by decide +kernel
theorem d_M_cleaned_19 : decode b_M_cleaned 19 = .ok (.goto 5, 3) := by decide +kernel
theorem d_M_cleaned_22 : decode b_M_cleaned 22 = .ok (.bipush (-2), 2) := by decide +kernel
theorem d_M_cleaned_24 : decode b_M_cleaned 24 = .ok (.ireturn, 1) := by decide +kernel
theorem d_M_backed_0 : decode b_M_backed 0 = .ok (.aload_n 0, 1) := by decide +kernel
theorem d_M_backed_1 : decode b_M_backed 1 = .ok (.iconst 0, 1) := by decide +kernel
theorem d_M_backed_2 : decode b_M_backed 2 = .ok (.putfield 59, 3) := by decide +kernel
theorem d_M_backed_5 : decode b_M_backed 5 = .ok (.aload_n 0, 1) := by decide +kernel
theorem d_M_backed_6 : decode b_M_backed 6 = .ok (.iload_n 1, 1) := by decide +kernel
theorem d_M_backed_7 : decode b_M_backed 7 = .ok (.invokevirtual 70, 3) := by decide +kernel
theorem d_M_backed_10 : decode b_M_backed 10 = .ok (.ifCond .eq 12, 3) := by decide +kernel
theorem d_M_backed_13 : decode b_M_backed 13 = .ok (.aload_n 0, 1) := by decide +kernel
theorem d_M_backed_14 : decode b_M_backed 14 = .ok (.getfield 28, 3) := by decide +kernel
theorem d_M_backed_17 : decode b_M_backed 17 = .ok (.iload_n 1, 1) := by decide +kernel
theorem d_M_backed_18 : decode b_M_backed 18 = .ok (.iaload, 1) := by decide +kernel
theorem d_M_backed_19 : decode b_M_backed 19 = .ok (.goto 5, 3) := by decide +kernel
theorem d_M_backed_22 : decode b_M_backed 22 = .ok (.bipush (-2), 2) := by decide +kernel
theorem d_M_backed_24 : decode b_M_backed 24 = .ok (.ireturn, 1) := by decide +kernel
theorem d_M_finished_0 : decode b_M_finished 0 = .ok (.aload_n 0, 1) := by decide +kernel
theorem d_M_finished_1 : decode b_M_finished 1 = .ok (.iconst 0, 1) := by decide +kernel
theorem d_M_finished_2 : decode b_M_finished 2 = .ok (.putfield 59, 3) := by decide +kernel
theorem d_M_finished_5 : decode b_M_finished 5 = .ok (.aload_n 0, 1) := by decide +kernel
theorem d_M_finished_6 : decode b_M_finished 6 = .ok (.iload_n 1, 1) := by decide +kernel
theorem d_M_finished_7 : decode b_M_finished 7 = .ok (.invokevirtual 70, 3) := by decide +kernel
theorem d_M_finished_10 : decode b_M_finished 10 = .ok (.ifCond .eq 12, 3) := by decide +kernel
theorem d_M_finished_13 : decode b_M_finished 13 = .ok (.aload_n 0, 1) := by decide +kernel
theorem d_M_finished_14 : decode b_M_finished 14 = .ok (.getfield 16, 3) := by decide +kernel
theorem d_M_finished_17 : decode b_M_finished 17 = .ok (.iload_n 1, 1) := by decide +kernel
theorem d_M_finished_18 : decode b_M_finished 18 = .ok (.iaload, 1) := by decide +kernel
theorem d_M_finished_19 : decode b_M_finished 19 = .ok (.goto 5, 3) := by decide +kernel
theorem d_M_finished_22 : decode b_M_finished 22 = .ok (.bipush (-2), 2) := by decide +kernel
theorem d_M_finished_24 : decode b_M_finished 24 = .ok (.ireturn, 1) := by decide +kernel
theorem d_M_done_0 : decode b_M_done 0 = .ok (.aload_n 0, 1) := by decide +kernel
theorem d_M_done_1 : decode b_M_done 1 = .ok (.iconst 0, 1) := by decide +kernel
theorem d_M_done_2 : decode b_M_done 2 = .ok (.putfield 59, 3) := by decide +kernel
theorem d_M_done_5 : decode b_M_done 5 = .ok (.aload_n 0, 1) := by decide +kernel
theorem d_M_done_6 : decode b_M_done 6 = .ok (.iload_n 1, 1) := by decide +kernel
theorem d_M_done_7 : decode b_M_done 7 = .ok (.invokevirtual 70, 3) := by decide +kernel
theorem d_M_done_10 : decode b_M_done 10 = .ok (.ifCond .eq 12, 3) := by decide +kernel
theorem d_M_done_13 : decode b_M_done 13 = .ok (.aload_n 0, 1) := by decide +kernel
theorem d_M_done_14 : decode b_M_done 14 = .ok (.getfield 19, 3) := by decide +kernel
theorem d_M_done_17 : decode b_M_done 17 = .ok (.iload_n 1, 1) := by decide +kernel
theorem d_M_done_18 : decode b_M_done 18 = .ok (.iaload, 1) := by decide +kernel
theorem d_M_done_19 : decode b_M_done 19 = .ok (.goto 5, 3) := by decide +kernel
theorem d_M_done_22 : decode b_M_done 22 = .ok (.bipush (-2), 2) := by decide +kernel
theorem d_M_done_24 : decode b_M_done 24 = .ok (.ireturn, 1) := by decide +kernel
theorem d_M_count_0 : decode b_M_count 0 = .ok (.aload_n 0, 1) := by decide +kernel
theorem d_M_count_1 : decode b_M_count 1 = .ok (.iconst 0, 1) := by decide +kernel
theorem d_M_count_2 : decode b_M_count 2 = .ok (.putfield 59, 3) := by decide +kernel
theorem d_M_count_5 : decode b_M_count 5 = .ok (.iconst 0, 1) := by decide +kernel
theorem d_M_count_6 : decode b_M_count 6 = .ok (.istore_n 2, 1) := by decide +kernel
theorem d_M_count_7 : decode b_M_count 7 = .ok (.iconst 1, 1) := by decide +kernel
theorem d_M_count_8 : decode b_M_count 8 = .ok (.istore_n 3, 1) := by decide +kernel
theorem d_M_count_9 : decode b_M_count 9 = .ok (.iload_n 3, 1) := by decide +kernel
theorem d_M_count_10 : decode b_M_count 10 = .ok (.aload_n 0, 1) := by decide +kernel
theorem d_M_count_11 : decode b_M_count 11 = .ok (.getfield 63, 3) := by decide +kernel
theorem d_M_count_14 : decode b_M_count 14 = .ok (.if_icmp .gt 26, 3) := by decide +kernel
theorem d_M_count_17 : decode b_M_count 17 = .ok (.iload_n 2, 1) := by decide +kernel
theorem d_M_count_18 : decode b_M_count 18 = .ok (.aload_n 0, 1) := by decide +kernel
theorem d_M_count_19 : decode b_M_count 19 = .ok (.getfield 16, 3) := by decide +kernel
theorem d_M_count_22 : decode b_M_count 22 = .ok (.iload_n 3, 1) := by decide +kernel
theorem d_M_count_23 : decode b_M_count 23 = .ok (.iaload, 1) := by decide +kernel
theorem d_M_count_24 : decode b_M_count 24 = .ok (.ifCond .ne 7, 3) := by decide +kernel
theorem d_M_count_27 : decode b_M_count 27 = .ok (.iconst 1, 1) := by decide +kernel
theorem d_M_count_28 : decode b_M_count 28 = .ok (.goto 4, 3) := by decide +kernel
theorem d_M_count_31 : decode b_M_count 31 = .ok (.iconst 0, 1) := by decide +kernel
theorem d_M_count_32 : decode b_M_count 32 = .ok (.iadd, 1) := by decide +kernel
theorem d_M_count_33 : decode b_M_count 33 = .ok (.istore_n 2, 1) := by decide +kernel
theorem d_M_count_34 : decode b_M_count 34 = .ok (.iinc 3 1, 3) := by decide +kernel
theorem d_M_count_37 : decode b_M_count 37 = .ok (.goto (-28), 3) := by decide +kernel
theorem d_M_count_40 : decode b_M_count 40 = .ok (.iload_n 1, 1) := by decide +kernel
theorem d_M_count_41 : decode b_M_count 41 = .ok (.tableswitch 74 0 5 #[39, 44, 49, 54, 56, 61], 39) := by decide +kernel
theorem d_M_count_80 : decode b_M_count 80 = .ok (.aload_n 0, 1) := by decide +kernel
theorem d_M_count_81 : decode b_M_count 81 = .ok (.getfield 63, 3) := by decide +kernel
theorem d_M_count_84 : decode b_M_count 84 = .ok (.ireturn, 1) := by decide +kernel
theorem d_M_count_85 : decode b_M_count 85 = .ok (.aload_n 0, 1) := by decide +kernel
theorem d_M_count_86 : decode b_M_count 86 = .ok (.getfield 74, 3) := by decide +kernel
theorem d_M_count_89 : decode b_M_count 89 = .ok (.ireturn, 1) := by decide +kernel
theorem d_M_count_90 : decode b_M_count 90 = .ok (.aload_n 0, 1) := by decide +kernel
theorem d_M_count_91 : decode b_M_count 91 = .ok (.getfield 91, 3) := by decide +kernel
theorem d_M_count_94 : decode b_M_count 94 = .ok (.ireturn, 1) := by decide +kernel
theorem d_M_count_95 : decode b_M_count 95 = .ok (.iload_n 2, 1) := by decide +kernel
theorem d_M_count_96 : decode b_M_count 96 = .ok (.ireturn, 1) := by decide +kernel
theorem d_M_count_97 : decode b_M_count 97 = .ok (.aload_n 0, 1) := by decide +kernel
theorem d_M_count_98 : decode b_M_count 98 = .ok (.getfield 98, 3) := by decide +kernel
theorem d_M_count_101 : decode b_M_count 101 = .ok (.ireturn, 1) := by decide +kernel
theorem d_M_count_102 : decode b_M_count 102 = .ok (.aload_n 0, 1) := by decide +kernel
theorem d_M_count_103 : decode b_M_count 103 = .ok (.getfield 66, 3) := by decide +kernel
theorem d_M_count_106 : decode b_M_count 106 = .ok (.ifCond .eq 7, 3) := by decide +kernel
theorem d_M_count_109 : decode b_M_count 109 = .ok (.iconst 1, 1) := by decide +kernel
theorem d_M_count_110 : decode b_M_count 110 = .ok (.goto 4, 3) := by decide +kernel
theorem d_M_count_113 : decode b_M_count 113 = .ok (.iconst 0, 1) := by decide +kernel
theorem d_M_count_114 : decode b_M_count 114 = .ok (.ireturn, 1) := by decide +kernel
theorem d_M_count_115 : decode b_M_count 115 = .ok (.iload_n 1, 1) := by decide +kernel
theorem d_M_count_116 : decode b_M_count 116 = .ok (.bipush 9, 2) := by decide +kernel
theorem d_M_count_118 : decode b_M_count 118 = .ok (.if_icmp .le 21, 3) := by decide +kernel
theorem d_M_count_121 : decode b_M_count 121 = .ok (.iload_n 1, 1) := by decide +kernel
theorem d_M_count_122 : decode b_M_count 122 = .ok (.bipush 26, 2) := by decide +kernel
theorem d_M_count_124 : decode b_M_count 124 = .ok (.if_icmp .ge 15, 3) := by decide +kernel
theorem d_M_count_127 : decode b_M_count 127 = .ok (.aload_n 0, 1) := by decide +kernel
theorem d_M_count_128 : decode b_M_count 128 = .ok (.getfield 53, 3) := by decide +kernel
theorem d_M_count_131 : decode b_M_count 131 = .ok (.iload_n 1, 1) := by decide +kernel
theorem d_M_count_132 : decode b_M_count 132 = .ok (.bipush 10, 2) := by decide +kernel
theorem d_M_count_134 : decode b_M_count 134 = .ok (.isub, 1) := by decide +kernel
theorem d_M_count_135 : decode b_M_count 135 = .ok (.iaload, 1) := by decide +kernel
theorem d_M_count_136 : decode b_M_count 136 = .ok (.goto 4, 3) := by decide +kernel
theorem d_M_count_139 : decode b_M_count 139 = .ok (.iconst (-1), 1) := by decide +kernel
theorem d_M_count_140 : decode b_M_count 140 = .ok (.ireturn, 1) := by decide +kernel
end
section
def zm_end (sc : Nat → Nat) (k : Nat) : Nat → Nat := va_up (va_up (va_up sc 2 k) 6 (sc 6 + 1)) 5 (if k = 1 then 0 else sc 3 - sc 4)
set_option maxHeartbeats 4000000 in
set_option maxRecDepth 100000 in
theorem c_M_of (g : zw_G) (l : Launch) (N : Nat) (ad : Nat → Nat) (E : Nat → va_E) (a b : Nat) : zc_i g l y_M_of b_M_of 2 (some .int) { frames := 0, cells := 0, slots := 0, locals := 0 } [.int (nI (a)), .int (nI (b))] N ad E (fun v N1 ad1 E1 => N = N1 ∧ ad = ad1 ∧ E = E1 ∧ v = nI (101 * a + b)) := by
  refine zc_i.of (by decide) (Nat.le_of_ble_eq_true rfl) ?_
  intro p e s m below meth c ls A X hr hlk hl hH
  have hl : lv_has ls 2 [(0, .int (nI (a))), (1, .int (nI (b)))] := hl
  refine lv_bipush (v := nI 101) X.1 X.2.1 d_M_of_0 (by decide) ?_
  refine lv_iload_n X.1 X.2.1 d_M_of_2 rfl (lv_at hl 0 rfl) ?_
  refine lv_imul X.1 X.2.1 d_M_of_3 ?_
  refine zx_top (pk_mul _ _) ?_
  refine lv_iload_n X.1 X.2.1 d_M_of_4 rfl (lv_at hl 1 rfl) ?_
  refine lv_iadd X.1 X.2.1 d_M_of_5 ?_
  refine zx_top (nI_add _ _) ?_
  exact zx_iret X hr hlk hH (Nat.le_of_ble_eq_true rfl) (Nat.le_of_ble_eq_true rfl) d_M_of_6 ⟨rfl, rfl, rfl, rfl⟩

set_option maxHeartbeats 4000000 in
set_option maxRecDepth 100000 in
theorem c_M_isRegion (g : zw_G) (l : Launch) (N : Nat) (ad : Nat → Nat) (E : Nat → va_E) (q : Nat → Nat) (rg : zt_R) (ev fs fl : Nat → Nat) (hN : 25 ≤ N) (hq0 : q 0 ≤ 30) (hM : zm_at g ad E q rg ev fs fl) (x : Int32) : zc_i g l y_M_isRegion b_M_isRegion 2 (some .boolean) { frames := 0, cells := 0, slots := 0, locals := 0 } [.ref (ad (8)), .int (x)] N ad E (fun v N1 ad1 E1 => N = N1 ∧ ad = ad1 ∧ E = E1 ∧ v = nI (if 1 ≤ x.toInt ∧ x.toInt ≤ (q 0 : Int) then 1 else 0)) := by
  refine zc_i.of (by decide) (Nat.le_of_ble_eq_true rfl) ?_
  intro p e s m below meth c ls A X hr hlk hl hH
  have hl : lv_has ls 2 [(0, .ref (ad (8))), (1, .int (x))] := hl
  refine lv_iload_n X.1 X.2.1 d_M_isRegion_0 rfl (lv_at hl 1 rfl) ?_
  refine lv_if_le (tgt := 16) X.1 X.2.1 d_M_isRegion_1 (by decide) (fun c1 => ?_) (fun c1 => ?_)
  · have c1 := (zn_le rfl zn_0).mp c1
    refine lv_iconst (v := nI 0) X.1 X.2.1 d_M_isRegion_16 (by decide) ?_
    exact zx_zret X hr hlk hH (Nat.le_of_ble_eq_true rfl) (Nat.le_of_ble_eq_true rfl) d_M_isRegion_17 rfl ⟨rfl, rfl, rfl, (by first | rfl | (rw [if_pos (by omega)]) | (rw [if_neg (by omega)]))⟩
  · have c1 := mt (zn_le rfl zn_0).mpr c1
    refine lv_iload_n X.1 X.2.1 d_M_isRegion_4 rfl (lv_at hl 1 rfl) ?_
    refine lv_aload_n X.1 X.2.1 d_M_isRegion_5 rfl (lv_at hl 0 rfl) ?_
    refine zx_get (v := .int (nI (q 0))) X hH fg_M_63 (by omega) hM.1 rfl d_M_isRegion_6 ?_
    refine lv_icmp_gt (tgt := 16) X.1 X.2.1 d_M_isRegion_9 (by decide) (fun c2 => ?_) (fun c2 => ?_)
    · have c2 := (zn_lt (nI_toInt (by omega)) rfl).mp c2
      refine lv_iconst (v := nI 0) X.1 X.2.1 d_M_isRegion_16 (by decide) ?_
      exact zx_zret X hr hlk hH (Nat.le_of_ble_eq_true rfl) (Nat.le_of_ble_eq_true rfl) d_M_isRegion_17 rfl ⟨rfl, rfl, rfl, (by first | rfl | (rw [if_pos (by omega)]) | (rw [if_neg (by omega)]))⟩
    · have c2 := mt (zn_lt (nI_toInt (by omega)) rfl).mpr c2
      refine lv_iconst (v := nI 1) X.1 X.2.1 d_M_isRegion_12 (by decide) ?_
      refine lv_goto (tgt := 17) X.1 X.2.1 d_M_isRegion_13 (by decide) ?_
      exact zx_zret X hr hlk hH (Nat.le_of_ble_eq_true rfl) (Nat.le_of_ble_eq_true rfl) d_M_isRegion_17 rfl ⟨rfl, rfl, rfl, (by first | rfl | (rw [if_pos (by omega)]) | (rw [if_neg (by omega)]))⟩

set_option maxHeartbeats 4000000 in
set_option maxRecDepth 100000 in
theorem c_M_isBetween (g : zw_G) (l : Launch) (N : Nat) (ad : Nat → Nat) (E : Nat → va_E) (q : Nat → Nat) (rg : zt_R) (ev fs fl : Nat → Nat) (i : Nat) (r : (Nat → Nat) × (Nat → Nat → Nat)) (hN : 25 ≤ N) (hi : i < 30) (hro : zr_ok r.1 r.2) (hM : zm_at g ad E q (va_up rg i r) ev fs fl) (hz0 : r.2 3 0 = 0) : zc_i g l y_M_isBetween b_M_isBetween 2 (some .boolean) { frames := 1, cells := 0, slots := 0, locals := 40 } [.ref (ad (8)), .int (nI (i + 1))] N ad E (fun v N1 ad1 E1 => N = N1 ∧ ad = ad1 ∧ E = E1 ∧ v = nI (if r.2 3 (r.1 3) = 1 then 1 else 0)) := by
  refine zc_i.of (by decide) (Nat.le_of_ble_eq_true rfl) ?_
  intro p e s m below meth c ls A X hr hlk hl hH
  have hl : lv_has ls 2 [(0, .ref (ad (8))), (1, .int (nI (i + 1)))] := hl
  obtain ⟨r0, r1, r2, r3, r4, r5, r7, r8, r6⟩ := hro.1
  have k9 := hro.2.2.2.2 (r.1 3)
  refine lv_aload_n X.1 X.2.1 d_M_isBetween_0 rfl (lv_at hl 0 rfl) ?_
  refine zx_get (v := .ref (ad (12))) X hH fg_M_19 (by omega) hM.1 rfl d_M_isBetween_1 ?_
  refine lv_iload_n X.1 X.2.1 d_M_isBetween_4 rfl (lv_at hl 1 rfl) ?_
  refine zx_iald (j := i + 1) X hH (by omega) (show E 12 = zr_ia g 31 (zm_c (va_up rg i (r)) 3) from hM.2.2.2.2.1) rfl (by omega) (by decide) d_M_isBetween_5 ?_
  refine zx_top (b := nI (r.1 3)) (congrArg nI (zm_c_at _ _ _ _)) ?_
  refine lv_if_le (tgt := 32) X.1 X.2.1 d_M_isBetween_6 (by decide) (fun c1 => ?_) (fun c1 => ?_)
  · have c1 := (zn_le (nI_toInt (by omega)) zn_0).mp c1
    refine lv_iconst (v := nI 0) X.1 X.2.1 d_M_isBetween_32 (by decide) ?_
    exact zx_zret X hr hlk hH (Nat.le_of_ble_eq_true rfl) (Nat.le_of_ble_eq_true rfl) d_M_isBetween_33 rfl ⟨rfl, rfl, rfl, (by first | (rw [if_pos (by omega)]) | (rw [if_neg (by omega)]) | (rw [show r.1 3 = 0 by omega, if_neg (by omega)]))⟩
  · have c1 := mt (zn_le (nI_toInt (by omega)) zn_0).mpr c1
    refine lv_aload_n X.1 X.2.1 d_M_isBetween_9 rfl (lv_at hl 0 rfl) ?_
    refine zx_get (v := .ref (ad (19))) X hH fg_M_41 (by omega) hM.1 rfl d_M_isBetween_10 ?_
    refine lv_iload_n X.1 X.2.1 d_M_isBetween_13 rfl (lv_at hl 1 rfl) ?_
    refine lv_aload_n X.1 X.2.1 d_M_isBetween_14 rfl (lv_at hl 0 rfl) ?_
    refine zx_get (v := .ref (ad (12))) X hH fg_M_19 (by omega) hM.1 rfl d_M_isBetween_15 ?_
    refine lv_iload_n X.1 X.2.1 d_M_isBetween_18 rfl (lv_at hl 1 rfl) ?_
    refine zx_iald (j := i + 1) X hH (by omega) (show E 12 = zr_ia g 31 (zm_c (va_up rg i (r)) 3) from hM.2.2.2.2.1) rfl (by omega) (by decide) d_M_isBetween_19 ?_
    refine zx_top (b := nI (r.1 3)) (congrArg nI (zm_c_at _ _ _ _)) ?_
    refine zx_calli (zx_runS (As := [.int (nI (i + 1)), .int (nI (r.1 3))]) (rest := [.ref (ad (19))]) X hH ms_M_77 ((c_M_of g l N ad E (i + 1) (r.1 3)) _) ⟨Nat.le_of_ble_eq_true rfl, Nat.le_of_ble_eq_true rfl⟩ rfl hl rfl (Nat.le_of_ble_eq_true rfl) d_M_isBetween_20 ⟨Nat.le_of_ble_eq_true rfl, Nat.le_of_ble_eq_true rfl⟩) hH (fun r N1 ad1 E1 H locs hq hH => ?_)
    obtain ⟨rfl, rfl, rfl, rfl⟩ := hq
    refine zx_iald (j := 101 * (i + 1) + (r.1 3)) X hH (by omega) (show E 19 = zr_ia g 3131 (zm_d (va_up rg i (r))) from hM.2.2.2.2.2.2.2.2.2.2.2.1) rfl (by omega) (by decide) d_M_isBetween_23 ?_
    refine zx_top (b := nI (r.2 3 (r.1 3))) (congrArg nI (zm_d_at _ _ _ (by omega))) ?_
    refine lv_iconst (v := nI 1) X.1 X.2.1 d_M_isBetween_24 (by decide) ?_
    refine lv_icmp_ne (tgt := 32) X.1 X.2.1 d_M_isBetween_25 (by decide) (fun c2 => ?_) (fun c2 => ?_)
    · have c2 := mt (zn_eq (nI_toInt (by omega)) (nI_toInt (by omega))).mpr c2
      refine lv_iconst (v := nI 0) X.1 X.2.1 d_M_isBetween_32 (by decide) ?_
      exact zx_zret X hr hlk hH (Nat.le_of_ble_eq_true rfl) (Nat.le_of_ble_eq_true rfl) d_M_isBetween_33 rfl ⟨rfl, rfl, rfl, (by first | (rw [if_pos (by omega)]) | (rw [if_neg (by omega)]) | (rw [show r.1 3 = 0 by omega, if_neg (by omega)]))⟩
    · have c2 := (zn_eq (nI_toInt (by omega)) (nI_toInt (by omega))).mp c2
      refine lv_iconst (v := nI 1) X.1 X.2.1 d_M_isBetween_28 (by decide) ?_
      refine lv_goto (tgt := 33) X.1 X.2.1 d_M_isBetween_29 (by decide) ?_
      exact zx_zret X hr hlk hH (Nat.le_of_ble_eq_true rfl) (Nat.le_of_ble_eq_true rfl) d_M_isBetween_33 rfl ⟨rfl, rfl, rfl, (by first | (rw [if_pos (by omega)]) | (rw [if_neg (by omega)]) | (rw [show r.1 3 = 0 by omega, if_neg (by omega)]))⟩

set_option maxHeartbeats 4000000 in
set_option maxRecDepth 100000 in
theorem c_M_end (g : zw_G) (l : Launch) (N : Nat) (ad : Nat → Nat) (E : Nat → va_E) (q : Nat → Nat) (rg : zt_R) (ev fs fl : Nat → Nat) (i : Nat) (r : (Nat → Nat) × (Nat → Nat → Nat)) (hN : 25 ≤ N) (hi : i < 30) (h43 : r.1 4 ≤ r.1 3) (hM : zm_at g ad E q (va_up rg i r) ev fs fl) (k : Nat) (hk : k ≤ 4) : zc_v g l y_M_end b_M_end 3 { frames := 0, cells := 0, slots := 0, locals := 0 } [.ref (ad (8)), .int (nI (i + 1)), .int (nI (k))] N ad E (fun N1 ad1 E1 => N = N1 ∧ ad = ad1 ∧ zm_at g ad E1 q (va_up rg i (zm_end r.1 k, r.2)) ev fs fl ∧ zm_fr E E1) := by
  refine zc_v.of (by decide) (Nat.le_of_ble_eq_true rfl) ?_
  intro p e s m below meth c ls A X hr hlk hnm hl hH
  have hl : lv_has ls 3 [(0, .ref (ad (8))), (1, .int (nI (i + 1))), (2, .int (nI (k)))] := hl
  have hF : zm_fr E E := zm_fr.rf
  refine lv_aload_n X.1 X.2.1 d_M_end_0 rfl (lv_at hl 0 rfl) ?_
  refine zx_get (v := .ref (ad (11))) X hH fg_M_16 (by omega) hM.1 rfl d_M_end_1 ?_
  refine lv_iload_n X.1 X.2.1 d_M_end_4 rfl (lv_at hl 1 rfl) ?_
  refine lv_iload_n X.1 X.2.1 d_M_end_5 rfl (lv_at hl 2 rfl) ?_
  refine zx_iast (j := i + 1) (x := nI (k)) X hH (by omega) (show E 11 = zr_ia g 31 (zm_c (va_up rg i (r)) 2) from hM.2.2.2.1) rfl (by omega) (by decide) d_M_end_6 (fun H locs hH => ?_)
  rw [zr_upd] at hH
  have hH : zw_H g A s.heap s N ad (va_up E 11 (zr_ia g 31 (va_up (zm_c (va_up rg i (r)) 2) (i + 1) (k)))) H locs := hH
  have hM := hM.s2 (k)
  have hF := hF.up (k := 11) (x := (zr_ia g 31 (va_up (zm_c (va_up rg i (r)) 2) (i + 1) (k)))) (by decide) (by decide)
  generalize va_up E 11 (zr_ia g 31 (va_up (zm_c (va_up rg i (r)) 2) (i + 1) (k))) = E1 at hH hM hF
  have hM : zm_at g ad E1 q (va_up rg i (va_up r.1 2 (k), r.2)) ev fs fl := hM
  refine lv_aload_n X.1 X.2.1 d_M_end_7 rfl (lv_at hl 0 rfl) ?_
  refine zx_get (v := .ref (ad (14))) X hH fg_M_25 (by omega) hM.1 rfl d_M_end_8 ?_
  refine lv_iload_n X.1 X.2.1 d_M_end_11 rfl (lv_at hl 1 rfl) ?_
  refine lv_dup2_11 X.1 X.2.1 d_M_end_12 rfl rfl ?_
  refine zx_iald (j := i + 1) X hH (by omega) (show E1 14 = zr_ia g 31 (zm_c (va_up rg i (va_up r.1 2 (k), r.2)) 6) from hM.2.2.2.2.2.2.1) rfl (by omega) (by decide) d_M_end_13 ?_
  refine zx_top (b := nI (r.1 6)) (congrArg nI (zm_c_at _ _ _ _)) ?_
  refine lv_iconst (v := nI 1) X.1 X.2.1 d_M_end_14 (by decide) ?_
  refine lv_iadd X.1 X.2.1 d_M_end_15 ?_
  refine zx_top (nI_add _ _) ?_
  refine zx_iast (j := i + 1) (x := nI ((r.1 6) + (1))) X hH (by omega) (show E1 14 = zr_ia g 31 (zm_c (va_up rg i (va_up r.1 2 (k), r.2)) 6) from hM.2.2.2.2.2.2.1) rfl (by omega) (by decide) d_M_end_16 (fun H locs hH => ?_)
  rw [zr_upd] at hH
  have hH : zw_H g A s.heap s N ad (va_up E1 14 (zr_ia g 31 (va_up (zm_c (va_up rg i (va_up r.1 2 (k), r.2)) 6) (i + 1) ((r.1 6) + (1))))) H locs := hH
  have hM := hM.s6 ((r.1 6) + (1))
  have hF := hF.up (k := 14) (x := (zr_ia g 31 (va_up (zm_c (va_up rg i (va_up r.1 2 (k), r.2)) 6) (i + 1) ((r.1 6) + (1))))) (by decide) (by decide)
  generalize va_up E1 14 (zr_ia g 31 (va_up (zm_c (va_up rg i (va_up r.1 2 (k), r.2)) 6) (i + 1) ((r.1 6) + (1)))) = E2 at hH hM hF
  have hM : zm_at g ad E2 q (va_up rg i (va_up (va_up r.1 2 (k)) 6 ((r.1 6) + (1)), r.2)) ev fs fl := hM
  refine lv_aload_n X.1 X.2.1 d_M_end_17 rfl (lv_at hl 0 rfl) ?_
  refine zx_get (v := .ref (ad (15))) X hH fg_M_28 (by omega) hM.1 rfl d_M_end_18 ?_
  refine lv_iload_n X.1 X.2.1 d_M_end_21 rfl (lv_at hl 1 rfl) ?_
  refine lv_iload_n X.1 X.2.1 d_M_end_22 rfl (lv_at hl 2 rfl) ?_
  refine lv_iconst (v := nI 1) X.1 X.2.1 d_M_end_23 (by decide) ?_
  refine lv_icmp_ne (tgt := 31) X.1 X.2.1 d_M_end_24 (by decide) (fun c3 => ?_) (fun c3 => ?_)
  · have c3 := mt (zn_eq (nI_toInt (by omega)) (nI_toInt (by omega))).mpr c3
    refine lv_aload_n X.1 X.2.1 d_M_end_31 rfl (lv_at hl 0 rfl) ?_
    refine zx_get (v := .ref (ad (12))) X hH fg_M_19 (by omega) hM.1 rfl d_M_end_32 ?_
    refine lv_iload_n X.1 X.2.1 d_M_end_35 rfl (lv_at hl 1 rfl) ?_
    refine zx_iald (j := i + 1) X hH (by omega) (show E2 12 = zr_ia g 31 (zm_c (va_up rg i (va_up (va_up r.1 2 (k)) 6 ((r.1 6) + (1)), r.2)) 3) from hM.2.2.2.2.1) rfl (by omega) (by decide) d_M_end_36 ?_
    refine zx_top (b := nI (r.1 3)) (congrArg nI (zm_c_at _ _ _ _)) ?_
    refine lv_aload_n X.1 X.2.1 d_M_end_37 rfl (lv_at hl 0 rfl) ?_
    refine zx_get (v := .ref (ad (13))) X hH fg_M_22 (by omega) hM.1 rfl d_M_end_38 ?_
    refine lv_iload_n X.1 X.2.1 d_M_end_41 rfl (lv_at hl 1 rfl) ?_
    refine zx_iald (j := i + 1) X hH (by omega) (show E2 13 = zr_ia g 31 (zm_c (va_up rg i (va_up (va_up r.1 2 (k)) 6 ((r.1 6) + (1)), r.2)) 4) from hM.2.2.2.2.2.1) rfl (by omega) (by decide) d_M_end_42 ?_
    refine zx_top (b := nI (r.1 4)) (congrArg nI (zm_c_at _ _ _ _)) ?_
    refine lv_isub X.1 X.2.1 d_M_end_43 ?_
    refine zx_top (pk_sub (by omega)) ?_
    refine zx_iast (j := i + 1) (x := nI ((r.1 3) - (r.1 4))) X hH (by omega) (show E2 15 = zr_ia g 31 (zm_c (va_up rg i (va_up (va_up r.1 2 (k)) 6 ((r.1 6) + (1)), r.2)) 5) from hM.2.2.2.2.2.2.2.1) rfl (by omega) (by decide) d_M_end_44 (fun H locs hH => ?_)
    rw [zr_upd] at hH
    have hH : zw_H g A s.heap s N ad (va_up E2 15 (zr_ia g 31 (va_up (zm_c (va_up rg i (va_up (va_up r.1 2 (k)) 6 ((r.1 6) + (1)), r.2)) 5) (i + 1) ((r.1 3) - (r.1 4))))) H locs := hH
    have hM := hM.s5 ((r.1 3) - (r.1 4))
    have hF := hF.up (k := 15) (x := (zr_ia g 31 (va_up (zm_c (va_up rg i (va_up (va_up r.1 2 (k)) 6 ((r.1 6) + (1)), r.2)) 5) (i + 1) ((r.1 3) - (r.1 4))))) (by decide) (by decide)
    generalize va_up E2 15 (zr_ia g 31 (va_up (zm_c (va_up rg i (va_up (va_up r.1 2 (k)) 6 ((r.1 6) + (1)), r.2)) 5) (i + 1) ((r.1 3) - (r.1 4)))) = E4 at hH hM hF
    have hM : zm_at g ad E4 q (va_up rg i (va_up (va_up (va_up r.1 2 (k)) 6 ((r.1 6) + (1))) 5 ((r.1 3) - (r.1 4)), r.2)) ev fs fl := hM
    exact zx_vret X hr hlk hH (Nat.le_of_ble_eq_true rfl) (Nat.le_of_ble_eq_true rfl) d_M_end_45 ⟨rfl, rfl, (by unfold zm_end; first | (rw [if_pos (by omega)]; exact hM) | (rw [if_neg (by omega)]; exact hM)), hF⟩
  · have c3 := (zn_eq (nI_toInt (by omega)) (nI_toInt (by omega))).mp c3
    refine lv_iconst (v := nI 0) X.1 X.2.1 d_M_end_27 (by decide) ?_
    refine lv_goto (tgt := 44) X.1 X.2.1 d_M_end_28 (by decide) ?_
    refine zx_iast (j := i + 1) (x := nI (0)) X hH (by omega) (show E2 15 = zr_ia g 31 (zm_c (va_up rg i (va_up (va_up r.1 2 (k)) 6 ((r.1 6) + (1)), r.2)) 5) from hM.2.2.2.2.2.2.2.1) rfl (by omega) (by decide) d_M_end_44 (fun H locs hH => ?_)
    rw [zr_upd] at hH
    have hH : zw_H g A s.heap s N ad (va_up E2 15 (zr_ia g 31 (va_up (zm_c (va_up rg i (va_up (va_up r.1 2 (k)) 6 ((r.1 6) + (1)), r.2)) 5) (i + 1) (0)))) H locs := hH
    have hM := hM.s5 (0)
    have hF := hF.up (k := 15) (x := (zr_ia g 31 (va_up (zm_c (va_up rg i (va_up (va_up r.1 2 (k)) 6 ((r.1 6) + (1)), r.2)) 5) (i + 1) (0)))) (by decide) (by decide)
    generalize va_up E2 15 (zr_ia g 31 (va_up (zm_c (va_up rg i (va_up (va_up r.1 2 (k)) 6 ((r.1 6) + (1)), r.2)) 5) (i + 1) (0))) = E5 at hH hM hF
    have hM : zm_at g ad E5 q (va_up rg i (va_up (va_up (va_up r.1 2 (k)) 6 ((r.1 6) + (1))) 5 (0), r.2)) ev fs fl := hM
    exact zx_vret X hr hlk hH (Nat.le_of_ble_eq_true rfl) (Nat.le_of_ble_eq_true rfl) d_M_end_45 ⟨rfl, rfl, (by unfold zm_end; first | (rw [if_pos (by omega)]; exact hM) | (rw [if_neg (by omega)]; exact hM)), hF⟩

set_option maxHeartbeats 4000000 in
set_option maxRecDepth 100000 in
theorem c_M_leave (g : zw_G) (l : Launch) (N : Nat) (ad : Nat → Nat) (E : Nat → va_E) (q : Nat → Nat) (rg : zt_R) (ev fs fl : Nat → Nat) (i : Nat) (r : (Nat → Nat) × (Nat → Nat → Nat)) (hN : 25 ≤ N) (hi : i < 30) (hro : zr_ok r.1 r.2) (hM : zm_at g ad E q (va_up rg i r) ev fs fl) : zc_i g l y_M_leave b_M_leave 2 (some .int) { frames := 0, cells := 0, slots := 0, locals := 0 } [.ref (ad (8)), .int (nI (i + 1))] N ad E (fun v N1 ad1 E1 => N = N1 ∧ ad = ad1 ∧ v = nI (if 0 < r.1 3 - r.1 4 then 1 else 0) ∧ zm_at g ad E1 q (va_up rg i (va_up r.1 2 4, r.2)) ev fs fl ∧ zm_fr E E1) := by
  refine zc_i.of (by decide) (Nat.le_of_ble_eq_true rfl) ?_
  intro p e s m below meth c ls A X hr hlk hl hH
  have hl : lv_has ls 2 [(0, .ref (ad (8))), (1, .int (nI (i + 1)))] := hl
  obtain ⟨r0, r1, r2, r3, r4, r5, r7, r8, r6⟩ := hro.1
  have hF : zm_fr E E := zm_fr.rf
  refine lv_aload_n X.1 X.2.1 d_M_leave_0 rfl (lv_at hl 0 rfl) ?_
  refine zx_get (v := .ref (ad (11))) X hH fg_M_16 (by omega) hM.1 rfl d_M_leave_1 ?_
  refine lv_iload_n X.1 X.2.1 d_M_leave_4 rfl (lv_at hl 1 rfl) ?_
  refine lv_iconst (v := nI 4) X.1 X.2.1 d_M_leave_5 (by decide) ?_
  refine zx_iast (j := i + 1) (x := nI (4)) X hH (by omega) (show E 11 = zr_ia g 31 (zm_c (va_up rg i (r)) 2) from hM.2.2.2.1) rfl (by omega) (by decide) d_M_leave_6 (fun H locs hH => ?_)
  rw [zr_upd] at hH
  have hH : zw_H g A s.heap s N ad (va_up E 11 (zr_ia g 31 (va_up (zm_c (va_up rg i (r)) 2) (i + 1) (4)))) H locs := hH
  have hM := hM.s2 (4)
  have hF := hF.up (k := 11) (x := (zr_ia g 31 (va_up (zm_c (va_up rg i (r)) 2) (i + 1) (4)))) (by decide) (by decide)
  generalize va_up E 11 (zr_ia g 31 (va_up (zm_c (va_up rg i (r)) 2) (i + 1) (4))) = E1 at hH hM hF
  have hM : zm_at g ad E1 q (va_up rg i (va_up r.1 2 (4), r.2)) ev fs fl := hM
  refine lv_aload_n X.1 X.2.1 d_M_leave_7 rfl (lv_at hl 0 rfl) ?_
  refine zx_get (v := .ref (ad (12))) X hH fg_M_19 (by omega) hM.1 rfl d_M_leave_8 ?_
  refine lv_iload_n X.1 X.2.1 d_M_leave_11 rfl (lv_at hl 1 rfl) ?_
  refine zx_iald (j := i + 1) X hH (by omega) (show E1 12 = zr_ia g 31 (zm_c (va_up rg i (va_up r.1 2 (4), r.2)) 3) from hM.2.2.2.2.1) rfl (by omega) (by decide) d_M_leave_12 ?_
  refine zx_top (b := nI (r.1 3)) (congrArg nI (zm_c_at _ _ _ _)) ?_
  refine lv_aload_n X.1 X.2.1 d_M_leave_13 rfl (lv_at hl 0 rfl) ?_
  refine zx_get (v := .ref (ad (13))) X hH fg_M_22 (by omega) hM.1 rfl d_M_leave_14 ?_
  refine lv_iload_n X.1 X.2.1 d_M_leave_17 rfl (lv_at hl 1 rfl) ?_
  refine zx_iald (j := i + 1) X hH (by omega) (show E1 13 = zr_ia g 31 (zm_c (va_up rg i (va_up r.1 2 (4), r.2)) 4) from hM.2.2.2.2.2.1) rfl (by omega) (by decide) d_M_leave_18 ?_
  refine zx_top (b := nI (r.1 4)) (congrArg nI (zm_c_at _ _ _ _)) ?_
  refine lv_icmp_le (tgt := 26) X.1 X.2.1 d_M_leave_19 (by decide) (fun c2 => ?_) (fun c2 => ?_)
  · have c2 := (zn_le (nI_toInt (by omega)) (nI_toInt (by omega))).mp c2
    refine lv_iconst (v := nI 0) X.1 X.2.1 d_M_leave_26 (by decide) ?_
    exact zx_iret X hr hlk hH (Nat.le_of_ble_eq_true rfl) (Nat.le_of_ble_eq_true rfl) d_M_leave_27 ⟨rfl, rfl, (by first | rfl | (rw [if_pos (by omega)]) | (rw [if_neg (by omega)])), hM, hF⟩
  · have c2 := mt (zn_le (nI_toInt (by omega)) (nI_toInt (by omega))).mpr c2
    refine lv_iconst (v := nI 1) X.1 X.2.1 d_M_leave_22 (by decide) ?_
    refine lv_goto (tgt := 27) X.1 X.2.1 d_M_leave_23 (by decide) ?_
    exact zx_iret X hr hlk hH (Nat.le_of_ble_eq_true rfl) (Nat.le_of_ble_eq_true rfl) d_M_leave_27 ⟨rfl, rfl, (by first | rfl | (rw [if_pos (by omega)]) | (rw [if_neg (by omega)])), hM, hF⟩

set_option maxHeartbeats 4000000 in
set_option maxRecDepth 100000 in
theorem c_M_isFree (g : zw_G) (l : Launch) (N : Nat) (ad : Nat → Nat) (E : Nat → va_E) (q : Nat → Nat) (rg : zt_R) (ev fs fl : Nat → Nat) (i : Nat) (r : (Nat → Nat) × (Nat → Nat → Nat)) (hN : 25 ≤ N) (hi : i < 30) (hro : zr_ok r.1 r.2) (hM : zm_at g ad E q (va_up rg i r) ev fs fl) (hev : ∀ j, ev j < 1000000) : zc_i g l y_M_isFree b_M_isFree 3 (some .boolean) { frames := 0, cells := 0, slots := 0, locals := 0 } [.ref (ad (8)), .int (nI (i + 1))] N ad E (fun v N1 ad1 E1 => N = N1 ∧ ad = ad1 ∧ v = nI (if (zp_tw (r.2 0) (r.2 1) (r.1 3 + 1) (r.1 8) 0 (r.2 2) ev).1 = true then 1 else 0) ∧ zm_at g ad E1 q (va_up rg i (r.1, va_up r.2 2 (zp_tw (r.2 0) (r.2 1) (r.1 3 + 1) (r.1 8) 0 (r.2 2) ev).2.1)) (zp_tw (r.2 0) (r.2 1) (r.1 3 + 1) (r.1 8) 0 (r.2 2) ev).2.2 fs fl ∧ zm_fr E E1) := by
  refine zc_i.of (by decide) (Nat.le_of_ble_eq_true rfl) ?_
  intro p e s m below meth c ls A X hr hlk hl hH
  have hl : lv_has ls 3 [(0, .ref (ad (8))), (1, .int (nI (i + 1)))] := hl
  obtain ⟨r0, r1, r2, r3, r4, r5, r7, r8, r6⟩ := hro.1
  refine lv_bipush (v := nI 20) X.1 X.2.1 d_M_isFree_0 (by decide) ?_
  refine lv_iload_n X.1 X.2.1 d_M_isFree_2 rfl (lv_at hl 1 rfl) ?_
  refine lv_imul X.1 X.2.1 d_M_isFree_3 ?_
  refine zx_top (pk_mul _ _) ?_
  refine lv_bipush (v := nI 20) X.1 X.2.1 d_M_isFree_4 (by decide) ?_
  refine lv_isub X.1 X.2.1 d_M_isFree_6 ?_
  refine zx_top (pk_sub (by omega)) ?_
  refine zx_top (b := nI (20 * i + 0)) (congrArg nI (by omega)) ?_
  refine lv_istore_n (lv' := [(2, .int (nI (20 * i + 0))), (0, .ref (ad (8))), (1, .int (nI (i + 1)))]) X.1 X.2.1 d_M_isFree_7 rfl hl (by decide) rfl (fun ls hl => ?_)
  refine zx_loop (σ := Nat × (Nat → Nat) × (Nat → Nat) × (Nat → va_E)) (fun x H locs ls => x.1 ≤ r.1 8 ∧ zm_at g ad x.2.2.2 q (va_up rg i (r.1, va_up r.2 2 x.2.1)) x.2.2.1 fs fl ∧ zm_fr E x.2.2.2 ∧ (∀ j, x.2.2.1 j < 1000000) ∧ (∀ j, x.2.1 j ≤ 1) ∧ zp_tw (r.2 0) (r.2 1) (r.1 3 + 1) (r.1 8) 0 (r.2 2) ev = zp_tw (r.2 0) (r.2 1) (r.1 3 + 1) (r.1 8 - x.1) x.1 x.2.1 x.2.2.1 ∧ zw_H g A s.heap s N ad x.2.2.2 H locs ∧ lv_has ls 3 [(2, .int (nI (20 * i + x.1))), (0, .ref (ad 8)), (1, .int (nI (i + 1)))]) (fun x => r.1 8 - x.1) (fun _ => 0) (fun _ => 0) ?_ (0, r.2 2, ev, E) _ _ _ ⟨Nat.zero_le _, hM.rg (congrArg (fun z => va_up rg i (r.1, z)) (zr_id r.2 2)), zm_fr.rf, hev, hro.2.2.2.1, rfl, hH, hl⟩
  rintro ⟨m, tk, ev1, E1⟩ H locs ls ⟨hm, hM, hF, hev, htk, hT, hH, hl⟩ ih
  dsimp only at hm hM hF hev htk hT hH hl ih
  have k10 := hro.2.1 m
  have k11 := hro.2.2.1 m
  have k12 := htk m
  have k13 := hev (r.2 1 m)
  refine lv_iload_n X.1 X.2.1 d_M_isFree_8 rfl (lv_at hl 0 rfl) ?_
  refine lv_bipush (v := nI 20) X.1 X.2.1 d_M_isFree_9 (by decide) ?_
  refine lv_iload_n X.1 X.2.1 d_M_isFree_11 rfl (lv_at hl 2 rfl) ?_
  refine lv_imul X.1 X.2.1 d_M_isFree_12 ?_
  refine zx_top (pk_mul _ _) ?_
  refine lv_bipush (v := nI 20) X.1 X.2.1 d_M_isFree_13 (by decide) ?_
  refine lv_isub X.1 X.2.1 d_M_isFree_15 ?_
  refine zx_top (pk_sub (by omega)) ?_
  refine lv_aload_n X.1 X.2.1 d_M_isFree_16 rfl (lv_at hl 1 rfl) ?_
  refine zx_get (v := .ref (ad (16))) X hH fg_M_31 (by omega) hM.1 rfl d_M_isFree_17 ?_
  refine lv_iload_n X.1 X.2.1 d_M_isFree_20 rfl (lv_at hl 2 rfl) ?_
  refine zx_iald (j := i + 1) X hH (by omega) (show E1 16 = zr_ia g 31 (zm_c (va_up rg i (r.1, va_up r.2 2 tk)) 8) from hM.2.2.2.2.2.2.2.2.1) rfl (by omega) (by decide) d_M_isFree_21 ?_
  refine zx_top (b := nI (r.1 8)) (congrArg nI (zm_c_at _ _ _ _)) ?_
  refine lv_iadd X.1 X.2.1 d_M_isFree_22 ?_
  refine zx_top (nI_add _ _) ?_
  refine lv_icmp_ge (tgt := 99) X.1 X.2.1 d_M_isFree_23 (by decide) (fun c2 => ?_) (fun c2 => ?_)
  · have c2 := (zn_le (nI_toInt (by omega)) (nI_toInt (by omega))).mp c2
    refine lv_iconst (v := nI 1) X.1 X.2.1 d_M_isFree_99 (by decide) ?_
    exact zx_zret X hr hlk hH (Nat.le_of_ble_eq_true rfl) (Nat.le_of_ble_eq_true rfl) d_M_isFree_100 rfl ⟨rfl, rfl, by rw [hT, show r.1 8 - m = 0 by omega, zp_tw_0]; exact ⟨rfl, hM, hF⟩⟩
  · have c2 := mt (zn_le (nI_toInt (by omega)) (nI_toInt (by omega))).mpr c2
    refine lv_aload_n X.1 X.2.1 d_M_isFree_26 rfl (lv_at hl 1 rfl) ?_
    refine zx_get (v := .ref (ad (20))) X hH fg_M_44 (by omega) hM.1 rfl d_M_isFree_27 ?_
    refine lv_iload_n X.1 X.2.1 d_M_isFree_30 rfl (lv_at hl 0 rfl) ?_
    refine zx_iald (j := 20 * i + m) X hH (by omega) (show E1 20 = zr_ia g 620 (zm_w (va_up rg i (r.1, va_up r.2 2 tk)) 0) from hM.2.2.2.2.2.2.2.2.2.2.2.2.1) (congrArg nI (by omega)) (by omega) (by decide) d_M_isFree_31 ?_
    refine zx_top (b := nI (r.2 0 m)) (congrArg nI (zm_w_at _ _ _ _ (by omega))) ?_
    refine lv_aload_n X.1 X.2.1 d_M_isFree_32 rfl (lv_at hl 1 rfl) ?_
    refine zx_get (v := .ref (ad (12))) X hH fg_M_19 (by omega) hM.1 rfl d_M_isFree_33 ?_
    refine lv_iload_n X.1 X.2.1 d_M_isFree_36 rfl (lv_at hl 2 rfl) ?_
    refine zx_iald (j := i + 1) X hH (by omega) (show E1 12 = zr_ia g 31 (zm_c (va_up rg i (r.1, va_up r.2 2 tk)) 3) from hM.2.2.2.2.1) rfl (by omega) (by decide) d_M_isFree_37 ?_
    refine zx_top (b := nI (r.1 3)) (congrArg nI (zm_c_at _ _ _ _)) ?_
    refine lv_iconst (v := nI 1) X.1 X.2.1 d_M_isFree_38 (by decide) ?_
    refine lv_iadd X.1 X.2.1 d_M_isFree_39 ?_
    refine zx_top (nI_add _ _) ?_
    refine lv_icmp_ne (tgt := 93) X.1 X.2.1 d_M_isFree_40 (by decide) (fun c3 => ?_) (fun c3 => ?_)
    · have c3 := mt (zn_eq (nI_toInt (by omega)) (nI_toInt (by omega))).mpr c3
      refine lv_iinc (v := nI (20 * i + m + 1)) (lv' := [(2, .int (nI (20 * i + m + 1))), (0, .ref (ad (8))), (1, .int (nI (i + 1)))]) X.1 X.2.1 d_M_isFree_93 hl (k := 0) rfl (nI_add _ _) (by decide) rfl (fun ls hl => ?_)
      refine lv_goto (tgt := 8) X.1 X.2.1 d_M_isFree_96 (by decide) ?_
      exact ih (m + 1, tk, ev1, E1) _ _ _ ⟨by omega, hM, hF, hev, htk, (hT.trans (by rw [show r.1 8 - m = (r.1 8 - (m + 1)) + 1 by omega]; exact zp_tw_no (by omega))), hH, lv_sub hl [0, 1, 2] rfl⟩ (by show r.1 8 - (m + 1) < r.1 8 - m; omega)
    · have c3 := (zn_eq (nI_toInt (by omega)) (nI_toInt (by omega))).mp c3
      refine lv_aload_n X.1 X.2.1 d_M_isFree_43 rfl (lv_at hl 1 rfl) ?_
      refine zx_get (v := .ref (ad (18))) X hH fg_M_38 (by omega) hM.1 rfl d_M_isFree_44 ?_
      refine lv_iload_n X.1 X.2.1 d_M_isFree_47 rfl (lv_at hl 0 rfl) ?_
      refine zx_zald (j := 20 * i + m) X hH (by omega) (show E1 18 = zr_za g 620 (zm_w (va_up rg i (r.1, va_up r.2 2 tk)) 2) from hM.2.2.2.2.2.2.2.2.2.2.1) (congrArg nI (by omega)) (by omega) (by decide) d_M_isFree_48 ?_
      refine zx_top (b := nI (tk m)) (congrArg nI (zm_w_at _ _ _ _ (by omega))) ?_
      refine lv_if_eq (tgt := 55) X.1 X.2.1 d_M_isFree_49 (by decide) (fun c4 => ?_) (fun c4 => ?_)
      · have c4 := (zn_eq (nI_toInt (by omega)) zn_0).mp c4
        refine lv_aload_n X.1 X.2.1 d_M_isFree_55 rfl (lv_at hl 1 rfl) ?_
        refine zx_get (v := .ref (ad (23))) X hH fg_M_53 (by omega) hM.1 rfl d_M_isFree_56 ?_
        refine lv_aload_n X.1 X.2.1 d_M_isFree_59 rfl (lv_at hl 1 rfl) ?_
        refine zx_get (v := .ref (ad (21))) X hH fg_M_47 (by omega) hM.1 rfl d_M_isFree_60 ?_
        refine lv_iload_n X.1 X.2.1 d_M_isFree_63 rfl (lv_at hl 0 rfl) ?_
        refine zx_iald (j := 20 * i + m) X hH (by omega) (show E1 21 = zr_ia g 620 (zm_w (va_up rg i (r.1, va_up r.2 2 tk)) 1) from hM.2.2.2.2.2.2.2.2.2.2.2.2.2.1) (congrArg nI (by omega)) (by omega) (by decide) d_M_isFree_64 ?_
        refine zx_top (b := nI (r.2 1 m)) (congrArg nI (zm_w_at _ _ _ _ (by omega))) ?_
        refine zx_iald (j := r.2 1 m) X hH (by omega) (show E1 23 = zr_ia g 16 ev1 from hM.2.2.2.2.2.2.2.2.2.2.2.2.2.2.2.1) rfl (by omega) (by decide) d_M_isFree_65 ?_
        refine lv_if_ne (tgt := 71) X.1 X.2.1 d_M_isFree_66 (by decide) (fun c5 => ?_) (fun c5 => ?_)
        · have c5 := mt (zn_eq (nI_toInt (by omega)) zn_0).mpr c5
          refine lv_aload_n X.1 X.2.1 d_M_isFree_71 rfl (lv_at hl 1 rfl) ?_
          refine zx_get (v := .ref (ad (23))) X hH fg_M_53 (by omega) hM.1 rfl d_M_isFree_72 ?_
          refine lv_aload_n X.1 X.2.1 d_M_isFree_75 rfl (lv_at hl 1 rfl) ?_
          refine zx_get (v := .ref (ad (21))) X hH fg_M_47 (by omega) hM.1 rfl d_M_isFree_76 ?_
          refine lv_iload_n X.1 X.2.1 d_M_isFree_79 rfl (lv_at hl 0 rfl) ?_
          refine zx_iald (j := 20 * i + m) X hH (by omega) (show E1 21 = zr_ia g 620 (zm_w (va_up rg i (r.1, va_up r.2 2 tk)) 1) from hM.2.2.2.2.2.2.2.2.2.2.2.2.2.1) (congrArg nI (by omega)) (by omega) (by decide) d_M_isFree_80 ?_
          refine zx_top (b := nI (r.2 1 m)) (congrArg nI (zm_w_at _ _ _ _ (by omega))) ?_
          refine lv_dup2_11 X.1 X.2.1 d_M_isFree_81 rfl rfl ?_
          refine zx_iald (j := r.2 1 m) X hH (by omega) (show E1 23 = zr_ia g 16 ev1 from hM.2.2.2.2.2.2.2.2.2.2.2.2.2.2.2.1) rfl (by omega) (by decide) d_M_isFree_82 ?_
          refine lv_iconst (v := nI 1) X.1 X.2.1 d_M_isFree_83 (by decide) ?_
          refine lv_isub X.1 X.2.1 d_M_isFree_84 ?_
          refine zx_top (pk_sub (by omega)) ?_
          refine zx_iast (j := r.2 1 m) X hH (by omega) (show E1 23 = zr_ia g 16 ev1 from hM.2.2.2.2.2.2.2.2.2.2.2.2.2.2.2.1) rfl (by omega) (by decide) d_M_isFree_85 (fun H locs hH => ?_)
          rw [zr_upd] at hH
          have hH : zw_H g A s.heap s N ad (va_up E1 23 (zr_ia g 16 (va_up ev1 (r.2 1 m) (ev1 (r.2 1 m) - 1)))) H locs := hH
          have hM := hM.ev (va_up ev1 (r.2 1 m) (ev1 (r.2 1 m) - 1))
          have hF := hF.up (k := 23) (x := (zr_ia g 16 (va_up ev1 (r.2 1 m) (ev1 (r.2 1 m) - 1)))) (by decide) (by decide)
          generalize va_up E1 23 (zr_ia g 16 (va_up ev1 (r.2 1 m) (ev1 (r.2 1 m) - 1))) = E6 at hH hM hF
          have hev2 : ∀ j, (va_up ev1 (r.2 1 m) (ev1 (r.2 1 m) - 1)) j < 1000000 := fun j => by have := hev j; have := hev (r.2 1 m); unfold va_up; split <;> omega
          refine lv_aload_n X.1 X.2.1 d_M_isFree_86 rfl (lv_at hl 1 rfl) ?_
          refine zx_get (v := .ref (ad (18))) X hH fg_M_38 (by omega) hM.1 rfl d_M_isFree_87 ?_
          refine lv_iload_n X.1 X.2.1 d_M_isFree_90 rfl (lv_at hl 0 rfl) ?_
          refine lv_iconst (v := nI 1) X.1 X.2.1 d_M_isFree_91 (by decide) ?_
          refine zx_zast (j := 20 * i + m) X hH (by omega) (show E6 18 = zr_za g 620 (zm_w (va_up rg i (r.1, va_up r.2 2 tk)) 2) from hM.2.2.2.2.2.2.2.2.2.2.1) rfl (by omega) (by decide) (by decide) d_M_isFree_92 (fun H locs hH => ?_)
          rw [zr_upd] at hH
          have hH : zw_H g A s.heap s N ad (va_up E6 18 (zr_za g 620 (va_up (zm_w (va_up rg i (r.1, va_up r.2 2 tk)) 2) (20 * i + m) 1))) H locs := hH
          have hM : zm_at g ad (va_up E6 18 (zr_za g 620 (va_up (zm_w (va_up rg i (r.1, va_up r.2 2 tk)) 2) (20 * i + m) 1))) q (va_up rg i (r.1, va_up r.2 2 (va_up tk m 1))) (va_up ev1 (r.2 1 m) (ev1 (r.2 1 m) - 1)) fs fl := (hM.w2 (m := m) (by omega) 1).rg (congrArg (fun z => va_up rg i (r.1, z)) (bx_uu r.2 2 tk (va_up tk m 1)))
          have hF := hF.up (k := 18) (x := (zr_za g 620 (va_up (zm_w (va_up rg i (r.1, va_up r.2 2 tk)) 2) (20 * i + m) 1))) (by decide) (by decide)
          generalize va_up E6 18 (zr_za g 620 (va_up (zm_w (va_up rg i (r.1, va_up r.2 2 tk)) 2) (20 * i + m) 1)) = E7 at hH hM hF
          have htk2 : ∀ j, va_up tk m 1 j ≤ 1 := fun j => by have := htk j; unfold va_up; split <;> omega
          refine lv_iinc (v := nI (20 * i + m + 1)) (lv' := [(2, .int (nI (20 * i + m + 1))), (0, .ref (ad (8))), (1, .int (nI (i + 1)))]) X.1 X.2.1 d_M_isFree_93 hl (k := 0) rfl (nI_add _ _) (by decide) rfl (fun ls hl => ?_)
          refine lv_goto (tgt := 8) X.1 X.2.1 d_M_isFree_96 (by decide) ?_
          exact ih (m + 1, va_up tk m 1, (va_up ev1 (r.2 1 m) (ev1 (r.2 1 m) - 1)), E7) _ _ _ ⟨by omega, hM, hF, hev2, htk2, (hT.trans (by rw [show r.1 8 - m = (r.1 8 - (m + 1)) + 1 by omega]; exact zp_tw_take ⟨by omega, by omega⟩ (by omega))), hH, lv_sub hl [0, 1, 2] rfl⟩ (by show r.1 8 - (m + 1) < r.1 8 - m; omega)
        · have c5 := (zn_eq (nI_toInt (by omega)) zn_0).mp c5
          refine lv_iconst (v := nI 0) X.1 X.2.1 d_M_isFree_69 (by decide) ?_
          exact zx_zret X hr hlk hH (Nat.le_of_ble_eq_true rfl) (Nat.le_of_ble_eq_true rfl) d_M_isFree_70 rfl ⟨rfl, rfl, by rw [hT, show r.1 8 - m = (r.1 8 - (m + 1)) + 1 by omega, zp_tw_stop ⟨by omega, by omega⟩ (by omega)]; exact ⟨rfl, hM, hF⟩⟩
      · have c4 := mt (zn_eq (nI_toInt (by omega)) zn_0).mpr c4
        refine lv_goto (tgt := 93) X.1 X.2.1 d_M_isFree_52 (by decide) ?_
        refine lv_iinc (v := nI (20 * i + m + 1)) (lv' := [(2, .int (nI (20 * i + m + 1))), (0, .ref (ad (8))), (1, .int (nI (i + 1)))]) X.1 X.2.1 d_M_isFree_93 hl (k := 0) rfl (nI_add _ _) (by decide) rfl (fun ls hl => ?_)
        refine lv_goto (tgt := 8) X.1 X.2.1 d_M_isFree_96 (by decide) ?_
        exact ih (m + 1, tk, ev1, E1) _ _ _ ⟨by omega, hM, hF, hev, htk, (hT.trans (by rw [show r.1 8 - m = (r.1 8 - (m + 1)) + 1 by omega]; exact zp_tw_no (by omega))), hH, lv_sub hl [0, 1, 2] rfl⟩ (by show r.1 8 - (m + 1) < r.1 8 - m; omega)
end
section
theorem zm_end_back {sc : Nat → Nat} {k : Nat} (h : k ≠ 1) : zm_end sc k = zp_back sc k := by
  unfold zm_end zp_back
  rw [if_neg h]
  funext j
  unfold va_up
  by_cases h5 : j = 5
  · subst h5; rw [if_pos rfl, if_neg (by decide), if_neg (by decide), if_pos rfl]
  · rw [if_neg h5]
    by_cases h6 : j = 6
    · subst h6; rw [if_pos rfl, if_pos rfl]
    · rw [if_neg h6, if_neg h6]
      by_cases h2 : j = 2
      · subst h2; rw [if_pos rfl, if_pos rfl]
      · rw [if_neg h2, if_neg h2, if_neg h5]
section ZMS
variable {sc : Nat → Nat} {ar : Nat → Nat → Nat} {t : Nat}
theorem zm_end_1 (S : Nat → Nat) (h : S 5 = 0) : zm_end S 1 = va_up (va_up S 2 1) 6 (S 6 + 1) := by
  unfold zm_end
  rw [if_pos rfl]
  have e := zr_id (va_up (va_up S 2 1) 6 (S 6 + 1)) 5
  rw [show va_up (va_up S 2 1) 6 (S 6 + 1) 5 = 0 from h] at e
  exact e.symm
theorem zm_step_dd (h : ar 3 t = 2) (h2 : sc 0 ≤ t) (h5 : sc 5 = 0) : zm_end (va_up (va_up sc 3 t) 4 t) 1 = zp_step sc ar t := by
  rw [zm_end_1 (va_up (va_up sc 3 t) 4 t) h5]; unfold zp_step zp_s2; rw [if_pos h2, if_pos h]; rfl
theorem zm_step_nd (h : ¬ ar 3 t = 2) (h2 : sc 0 ≤ t) (h5 : sc 5 = 0) : zm_end (va_up sc 3 t) 1 = zp_step sc ar t := by
  rw [zm_end_1 (va_up sc 3 t) h5]; unfold zp_step zp_s2; rw [if_pos h2, if_neg h]; rfl
theorem zm_step_dn (h : ar 3 t = 2) (h2 : ¬ sc 0 ≤ t) : va_up (va_up sc 3 t) 4 t = zp_step sc ar t := by
  unfold zp_step zp_s2; rw [if_neg h2, if_pos h]
theorem zm_step_nn (h : ¬ ar 3 t = 2) (h2 : ¬ sc 0 ≤ t) : va_up sc 3 t = zp_step sc ar t := by
  unfold zp_step zp_s2; rw [if_neg h2, if_neg h]
end ZMS
set_option maxHeartbeats 4000000 in
set_option maxRecDepth 100000 in
theorem c_M_goes (g : zw_G) (l : Launch) (N : Nat) (ad : Nat → Nat) (E : Nat → va_E) (q : Nat → Nat) (rg : zt_R) (ev fs fl : Nat → Nat) (i : Nat) (r : (Nat → Nat) × (Nat → Nat → Nat)) (hN : 25 ≤ N) (hi : i < 30) (hro : zr_ok r.1 r.2) (hM : zm_at g ad E q (va_up rg i r) ev fs fl) (hev : ∀ j, ev j < 1000000) (hz0 : r.2 3 0 = 0) (hz5 : r.1 2 = 0 → r.1 5 = 0) (hq5 : q 5 < 3100) : zc_i g l y_M_goes b_M_goes 2 (some .int) { frames := 2, cells := 0, slots := 0, locals := 80 } [.ref (ad (8)), .int (nI (i + 1))] N ad E (fun v N1 ad1 E1 => N = N1 ∧ ad = ad1 ∧ v = nI (zp_turn r.1 r.2 ev).1 ∧ zm_at g ad E1 (if (zp_turn r.1 r.2 ev).1 = 1 then va_up q 5 (q 5 + 1) else q) (va_up rg i ((zp_turn r.1 r.2 ev).2.1, (zp_turn r.1 r.2 ev).2.2.1)) (zp_turn r.1 r.2 ev).2.2.2 fs (if (zp_turn r.1 r.2 ev).1 = 1 then va_up fl (q 5) (1000 * (i + 1) + (r.1 3 + 1)) else fl) ∧ zm_fr E E1) := by
  refine zc_i.of (by decide) (Nat.le_of_ble_eq_true rfl) ?_
  intro p e s m below meth c ls A X hr hlk hl hH
  have hl : lv_has ls 2 [(0, .ref (ad (8))), (1, .int (nI (i + 1)))] := hl
  obtain ⟨r0, r1, r2, r3, r4, r5, r7, r8, r6⟩ := hro.1
  have hF : zm_fr E E := zm_fr.rf
  have k9 := hro.2.2.2.2 (r.1 3 + 1)
  refine lv_aload_n X.1 X.2.1 d_M_goes_0 rfl (lv_at hl 0 rfl) ?_
  refine zx_get (v := .ref (ad (11))) X hH fg_M_16 (by omega) hM.1 rfl d_M_goes_1 ?_
  refine lv_iload_n X.1 X.2.1 d_M_goes_4 rfl (lv_at hl 1 rfl) ?_
  refine zx_iald (j := i + 1) X hH (by omega) (show E 11 = zr_ia g 31 (zm_c (va_up rg i (r)) 2) from hM.2.2.2.1) rfl (by omega) (by decide) d_M_goes_5 ?_
  refine zx_top (b := nI (r.1 2)) (congrArg nI (zm_c_at _ _ _ _)) ?_
  refine lv_if_eq (tgt := 11) X.1 X.2.1 d_M_goes_6 (by decide) (fun c2 => ?_) (fun c2 => ?_)
  · have c2 := (zn_eq (nI_toInt (by omega)) zn_0).mp c2
    refine lv_aload_n X.1 X.2.1 d_M_goes_11 rfl (lv_at hl 0 rfl) ?_
    refine zx_get (v := .ref (ad (17))) X hH fg_M_34 (by omega) hM.1 rfl d_M_goes_12 ?_
    refine lv_iload_n X.1 X.2.1 d_M_goes_15 rfl (lv_at hl 1 rfl) ?_
    refine zx_zald (j := i + 1) X hH (by omega) (show E 17 = zr_za g 31 (zm_c (va_up rg i (r)) 7) from hM.2.2.2.2.2.2.2.2.2.1) rfl (by omega) (by decide) d_M_goes_16 ?_
    refine zx_top (b := nI (r.1 7)) (congrArg nI (zm_c_at _ _ _ _)) ?_
    refine lv_if_eq (tgt := 36) X.1 X.2.1 d_M_goes_17 (by decide) (fun c3 => ?_) (fun c3 => ?_)
    · have c3 := (zn_eq (nI_toInt (by omega)) zn_0).mp c3
      refine lv_aload_n X.1 X.2.1 d_M_goes_36 rfl (lv_at hl 0 rfl) ?_
      refine lv_iload_n X.1 X.2.1 d_M_goes_37 rfl (lv_at hl 1 rfl) ?_
      refine zx_calli (zx_runV (As := [.int (nI (i + 1))]) (rest := []) X hH mv_M_88 ((c_M_isFree g l N ad E q rg ev fs fl i r hN hi hro hM hev) _) (by omega) hM.1 rfl ⟨Nat.le_of_ble_eq_true rfl, Nat.le_of_ble_eq_true rfl⟩ rfl hl rfl (Nat.le_of_ble_eq_true rfl) d_M_goes_38 ⟨Nat.le_of_ble_eq_true rfl, Nat.le_of_ble_eq_true rfl⟩) hH (fun r N1 ad1 E8 H locs hq hH => ?_)
      obtain ⟨rfl, rfl, rfl, hM, hF⟩ := hq
      by_cases dw : (zp_tw (r.2 0) (r.2 1) (r.1 3 + 1) (r.1 8) 0 (r.2 2) ev).1 = true
      · refine zx_top (b := nI 1) (by rw [if_pos dw]) ?_
        refine lv_if_ne (tgt := 46) X.1 X.2.1 d_M_goes_41 (by decide) (fun _ => ?_) (fun z => absurd z (by decide))
        refine lv_aload_n X.1 X.2.1 d_M_goes_46 rfl (lv_at hl 0 rfl) ?_
        refine zx_get (v := .ref (ad (10))) X hH fg_M_13 (by omega) hM.1 rfl d_M_goes_47 ?_
        refine lv_iload_n X.1 X.2.1 d_M_goes_50 rfl (lv_at hl 1 rfl) ?_
        refine zx_iald (j := i + 1) X hH (by omega) (show E8 10 = zr_ia g 31 (zm_c (va_up rg i (r.1, va_up r.2 2 (zp_tw (r.2 0) (r.2 1) (r.1 3 + 1) (r.1 8) 0 (r.2 2) ev).2.1)) 1) from hM.2.2.1) rfl (by omega) (by decide) d_M_goes_51 ?_
        refine zx_top (b := nI (r.1 1)) (congrArg nI (zm_c_at _ _ _ _)) ?_
        refine lv_aload_n X.1 X.2.1 d_M_goes_52 rfl (lv_at hl 0 rfl) ?_
        refine zx_get (v := .ref (ad (12))) X hH fg_M_19 (by omega) hM.1 rfl d_M_goes_53 ?_
        refine lv_iload_n X.1 X.2.1 d_M_goes_56 rfl (lv_at hl 1 rfl) ?_
        refine zx_iald (j := i + 1) X hH (by omega) (show E8 12 = zr_ia g 31 (zm_c (va_up rg i (r.1, va_up r.2 2 (zp_tw (r.2 0) (r.2 1) (r.1 3 + 1) (r.1 8) 0 (r.2 2) ev).2.1)) 3) from hM.2.2.2.2.1) rfl (by omega) (by decide) d_M_goes_57 ?_
        refine zx_top (b := nI (r.1 3)) (congrArg nI (zm_c_at _ _ _ _)) ?_
        refine lv_iconst (v := nI 1) X.1 X.2.1 d_M_goes_58 (by decide) ?_
        refine lv_iadd X.1 X.2.1 d_M_goes_59 ?_
        refine zx_top (nI_add _ _) ?_
        refine lv_icmp_ne (tgt := 71) X.1 X.2.1 d_M_goes_60 (by decide) (fun c4 => ?_) (fun c4 => ?_)
        · have c4 := mt (zn_eq (nI_toInt (by omega)) (nI_toInt (by omega))).mpr c4
          refine lv_aload_n X.1 X.2.1 d_M_goes_71 rfl (lv_at hl 0 rfl) ?_
          refine zx_get (v := .ref (ad (12))) X hH fg_M_19 (by omega) hM.1 rfl d_M_goes_72 ?_
          refine lv_iload_n X.1 X.2.1 d_M_goes_75 rfl (lv_at hl 1 rfl) ?_
          refine lv_dup2_11 X.1 X.2.1 d_M_goes_76 rfl rfl ?_
          refine zx_iald (j := i + 1) X hH (by omega) (show E8 12 = zr_ia g 31 (zm_c (va_up rg i (r.1, va_up r.2 2 (zp_tw (r.2 0) (r.2 1) (r.1 3 + 1) (r.1 8) 0 (r.2 2) ev).2.1)) 3) from hM.2.2.2.2.1) rfl (by omega) (by decide) d_M_goes_77 ?_
          refine zx_top (b := nI (r.1 3)) (congrArg nI (zm_c_at _ _ _ _)) ?_
          refine lv_iconst (v := nI 1) X.1 X.2.1 d_M_goes_78 (by decide) ?_
          refine lv_iadd X.1 X.2.1 d_M_goes_79 ?_
          refine zx_top (nI_add _ _) ?_
          refine zx_iast (j := i + 1) (x := nI ((r.1 3) + (1))) X hH (by omega) (show E8 12 = zr_ia g 31 (zm_c (va_up rg i (r.1, va_up r.2 2 (zp_tw (r.2 0) (r.2 1) (r.1 3 + 1) (r.1 8) 0 (r.2 2) ev).2.1)) 3) from hM.2.2.2.2.1) rfl (by omega) (by decide) d_M_goes_80 (fun H locs hH => ?_)
          rw [zr_upd] at hH
          have hH : zw_H g A s.heap s N ad (va_up E8 12 (zr_ia g 31 (va_up (zm_c (va_up rg i (r.1, va_up r.2 2 (zp_tw (r.2 0) (r.2 1) (r.1 3 + 1) (r.1 8) 0 (r.2 2) ev).2.1)) 3) (i + 1) ((r.1 3) + (1))))) H locs := hH
          have hM := hM.s3 ((r.1 3) + (1))
          have hF := hF.up (k := 12) (x := (zr_ia g 31 (va_up (zm_c (va_up rg i (r.1, va_up r.2 2 (zp_tw (r.2 0) (r.2 1) (r.1 3 + 1) (r.1 8) 0 (r.2 2) ev).2.1)) 3) (i + 1) ((r.1 3) + (1))))) (by decide) (by decide)
          generalize va_up E8 12 (zr_ia g 31 (va_up (zm_c (va_up rg i (r.1, va_up r.2 2 (zp_tw (r.2 0) (r.2 1) (r.1 3 + 1) (r.1 8) 0 (r.2 2) ev).2.1)) 3) (i + 1) ((r.1 3) + (1)))) = E5 at hH hM hF
          have hM : zm_at g ad E5 q (va_up rg i (va_up r.1 3 ((r.1 3) + (1)), va_up r.2 2 (zp_tw (r.2 0) (r.2 1) (r.1 3 + 1) (r.1 8) 0 (r.2 2) ev).2.1)) (zp_tw (r.2 0) (r.2 1) (r.1 3 + 1) (r.1 8) 0 (r.2 2) ev).2.2 fs fl := hM
          refine lv_aload_n X.1 X.2.1 d_M_goes_81 rfl (lv_at hl 0 rfl) ?_
          refine zx_get (v := .ref (ad (24))) X hH fg_M_56 (by omega) hM.1 rfl d_M_goes_82 ?_
          refine lv_aload_n X.1 X.2.1 d_M_goes_85 rfl (lv_at hl 0 rfl) ?_
          refine zx_get (v := .int (nI (q 5))) X hH fg_M_91 (by omega) hM.1 rfl d_M_goes_86 ?_
          refine lv_sipush (v := nI 1000) X.1 X.2.1 d_M_goes_89 (by decide) ?_
          refine lv_iload_n X.1 X.2.1 d_M_goes_92 rfl (lv_at hl 1 rfl) ?_
          refine lv_imul X.1 X.2.1 d_M_goes_93 ?_
          refine zx_top (pk_mul _ _) ?_
          refine lv_aload_n X.1 X.2.1 d_M_goes_94 rfl (lv_at hl 0 rfl) ?_
          refine zx_get (v := .ref (ad (12))) X hH fg_M_19 (by omega) hM.1 rfl d_M_goes_95 ?_
          refine lv_iload_n X.1 X.2.1 d_M_goes_98 rfl (lv_at hl 1 rfl) ?_
          refine zx_iald (j := i + 1) X hH (by omega) (show E5 12 = zr_ia g 31 (zm_c (va_up rg i (va_up r.1 3 ((r.1 3) + (1)), va_up r.2 2 (zp_tw (r.2 0) (r.2 1) (r.1 3 + 1) (r.1 8) 0 (r.2 2) ev).2.1)) 3) from hM.2.2.2.2.1) rfl (by omega) (by decide) d_M_goes_99 ?_
          refine zx_top (b := nI ((r.1 3) + (1))) (congrArg nI (zm_c_at _ _ _ _)) ?_
          refine lv_iadd X.1 X.2.1 d_M_goes_100 ?_
          refine zx_top (nI_add _ _) ?_
          refine zx_iast (j := q 5) (x := nI (1000 * (i + 1) + (r.1 3 + 1))) X hH (by omega) (show E5 24 = zr_ia g 3100 fl from hM.2.2.2.2.2.2.2.2.2.2.2.2.2.2.2.2) rfl (by omega) (by decide) d_M_goes_101 (fun H locs hH => ?_)
          rw [zr_upd] at hH
          have hH : zw_H g A s.heap s N ad (va_up E5 24 (zr_ia g 3100 (va_up fl (q 5) (1000 * (i + 1) + (r.1 3 + 1))))) H locs := hH
          have hM := hM.fl (va_up fl (q 5) (1000 * (i + 1) + (r.1 3 + 1)))
          have hF := hF.up (k := 24) (x := (zr_ia g 3100 (va_up fl (q 5) (1000 * (i + 1) + (r.1 3 + 1))))) (by decide) (by decide)
          generalize va_up E5 24 (zr_ia g 3100 (va_up fl (q 5) (1000 * (i + 1) + (r.1 3 + 1)))) = E6 at hH hM hF
          refine lv_aload_n X.1 X.2.1 d_M_goes_102 rfl (lv_at hl 0 rfl) ?_
          refine lv_dup X.1 X.2.1 d_M_goes_103 rfl ?_
          refine zx_get (v := .int (nI (q 5))) X hH fg_M_91 (by omega) hM.1 rfl d_M_goes_104 ?_
          refine lv_iconst (v := nI 1) X.1 X.2.1 d_M_goes_107 (by decide) ?_
          refine lv_iadd X.1 X.2.1 d_M_goes_108 ?_
          refine zx_top (nI_add _ _) ?_
          refine zx_put X hH fp_M_91 (by omega) hM.1 (Nat.le_of_ble_eq_true rfl) rfl rfl d_M_goes_109 (fun H locs hH => ?_)
          have hH : zw_H g A s.heap s N ad (va_up E6 8 (zm_o ad (va_up q 5 (q 5 + 1)))) H locs := hH
          have hM := hM.o (va_up q 5 (q 5 + 1))
          have hF := hF.up (k := 8) (x := (zm_o ad (va_up q 5 (q 5 + 1)))) (by decide) (by decide)
          generalize va_up E6 8 (zm_o ad (va_up q 5 (q 5 + 1))) = E7 at hH hM hF
          refine lv_aload_n X.1 X.2.1 d_M_goes_112 rfl (lv_at hl 0 rfl) ?_
          refine zx_get (v := .ref (ad (19))) X hH fg_M_41 (by omega) hM.1 rfl d_M_goes_113 ?_
          refine lv_iload_n X.1 X.2.1 d_M_goes_116 rfl (lv_at hl 1 rfl) ?_
          refine lv_aload_n X.1 X.2.1 d_M_goes_117 rfl (lv_at hl 0 rfl) ?_
          refine zx_get (v := .ref (ad (12))) X hH fg_M_19 (by omega) hM.1 rfl d_M_goes_118 ?_
          refine lv_iload_n X.1 X.2.1 d_M_goes_121 rfl (lv_at hl 1 rfl) ?_
          refine zx_iald (j := i + 1) X hH (by omega) (show E7 12 = zr_ia g 31 (zm_c (va_up rg i (va_up r.1 3 ((r.1 3) + (1)), va_up r.2 2 (zp_tw (r.2 0) (r.2 1) (r.1 3 + 1) (r.1 8) 0 (r.2 2) ev).2.1)) 3) from hM.2.2.2.2.1) rfl (by omega) (by decide) d_M_goes_122 ?_
          refine zx_top (b := nI ((r.1 3) + (1))) (congrArg nI (zm_c_at _ _ _ _)) ?_
          refine zx_calli (zx_runS (As := [.int (nI (i + 1)), .int (nI ((r.1 3) + (1)))]) (rest := [.ref (ad (19))]) X hH ms_M_77 ((c_M_of g l N ad E7 (i + 1) ((r.1 3) + (1))) _) ⟨Nat.le_of_ble_eq_true rfl, Nat.le_of_ble_eq_true rfl⟩ rfl hl rfl (Nat.le_of_ble_eq_true rfl) d_M_goes_123 ⟨Nat.le_of_ble_eq_true rfl, Nat.le_of_ble_eq_true rfl⟩) hH (fun r N1 ad1 E1 H locs hq hH => ?_)
          obtain ⟨rfl, rfl, rfl, rfl⟩ := hq
          refine zx_iald (j := 101 * (i + 1) + (r.1 3 + 1)) X hH (by omega) (show E7 19 = zr_ia g 3131 (zm_d (va_up rg i (va_up r.1 3 ((r.1 3) + (1)), va_up r.2 2 (zp_tw (r.2 0) (r.2 1) (r.1 3 + 1) (r.1 8) 0 (r.2 2) ev).2.1))) from hM.2.2.2.2.2.2.2.2.2.2.2.1) rfl (by omega) (by decide) d_M_goes_126 ?_
          refine zx_top (b := nI (r.2 3 (r.1 3 + 1))) (congrArg nI (zm_d_at _ _ _ (by omega))) ?_
          refine lv_iconst (v := nI 2) X.1 X.2.1 d_M_goes_127 (by decide) ?_
          refine lv_icmp_ne (tgt := 143) X.1 X.2.1 d_M_goes_128 (by decide) (fun c8 => ?_) (fun c8 => ?_)
          · have c8 := mt (zn_eq (nI_toInt (by omega)) (nI_toInt (by omega))).mpr c8
            refine lv_aload_n X.1 X.2.1 d_M_goes_143 rfl (lv_at hl 0 rfl) ?_
            refine zx_get (v := .ref (ad (12))) X hH fg_M_19 (by omega) hM.1 rfl d_M_goes_144 ?_
            refine lv_iload_n X.1 X.2.1 d_M_goes_147 rfl (lv_at hl 1 rfl) ?_
            refine zx_iald (j := i + 1) X hH (by omega) (show E7 12 = zr_ia g 31 (zm_c (va_up rg i (va_up r.1 3 ((r.1 3) + (1)), va_up r.2 2 (zp_tw (r.2 0) (r.2 1) (r.1 3 + 1) (r.1 8) 0 (r.2 2) ev).2.1)) 3) from hM.2.2.2.2.1) rfl (by omega) (by decide) d_M_goes_148 ?_
            refine zx_top (b := nI ((r.1 3) + (1))) (congrArg nI (zm_c_at _ _ _ _)) ?_
            refine lv_aload_n X.1 X.2.1 d_M_goes_149 rfl (lv_at hl 0 rfl) ?_
            refine zx_get (v := .ref (ad (9))) X hH fg_M_7 (by omega) hM.1 rfl d_M_goes_150 ?_
            refine lv_iload_n X.1 X.2.1 d_M_goes_153 rfl (lv_at hl 1 rfl) ?_
            refine zx_iald (j := i + 1) X hH (by omega) (show E7 9 = zr_ia g 31 (zm_c (va_up rg i (va_up r.1 3 ((r.1 3) + (1)), va_up r.2 2 (zp_tw (r.2 0) (r.2 1) (r.1 3 + 1) (r.1 8) 0 (r.2 2) ev).2.1)) 0) from hM.2.1) rfl (by omega) (by decide) d_M_goes_154 ?_
            refine zx_top (b := nI (r.1 0)) (congrArg nI (zm_c_at _ _ _ _)) ?_
            refine lv_icmp_ne (tgt := 164) X.1 X.2.1 d_M_goes_155 (by decide) (fun c9 => ?_) (fun c9 => ?_)
            · have c9 := mt (zn_eq (nI_toInt (by omega)) (nI_toInt (by omega))).mpr c9
              refine lv_iconst (v := nI 1) X.1 X.2.1 d_M_goes_164 (by decide) ?_
              exact zx_iret X hr hlk hH (Nat.le_of_ble_eq_true rfl) (Nat.le_of_ble_eq_true rfl) d_M_goes_165 ⟨rfl, rfl, by rw [zp_turn_step (by omega) (by omega) dw (by omega)]; exact ⟨rfl, (by rw [← zm_step_nn (ar := va_up r.2 2 (zp_tw (r.2 0) (r.2 1) (r.1 3 + 1) (r.1 8) 0 (r.2 2) ev).2.1) (show ¬ r.2 3 (r.1 3 + 1) = 2 by omega) (by omega)]; exact hM), hF⟩⟩
            · have c9 := (zn_eq (nI_toInt (by omega)) (nI_toInt (by omega))).mp c9
              refine lv_aload_n X.1 X.2.1 d_M_goes_158 rfl (lv_at hl 0 rfl) ?_
              refine lv_iload_n X.1 X.2.1 d_M_goes_159 rfl (lv_at hl 1 rfl) ?_
              refine lv_iconst (v := nI 1) X.1 X.2.1 d_M_goes_160 (by decide) ?_
              refine zx_callv (zx_runV (As := [.int (nI (i + 1)), .int (nI (1))]) (rest := []) X hH mv_M_84 ((c_M_end g l N ad E7 (va_up q 5 (q 5 + 1)) rg (zp_tw (r.2 0) (r.2 1) (r.1 3 + 1) (r.1 8) 0 (r.2 2) ev).2.2 fs (va_up fl (q 5) (1000 * (i + 1) + (r.1 3 + 1))) i (va_up r.1 3 ((r.1 3) + (1)), va_up r.2 2 (zp_tw (r.2 0) (r.2 1) (r.1 3 + 1) (r.1 8) 0 (r.2 2) ev).2.1) hN hi (by show _ ≤ r.1 3 + 1; first | exact Nat.le_refl _ | (show r.1 4 ≤ _; omega)) hM 1 (by decide)) _) (by omega) hM.1 rfl ⟨Nat.le_of_ble_eq_true rfl, Nat.le_of_ble_eq_true rfl⟩ rfl hl rfl (Nat.le_of_ble_eq_true rfl) d_M_goes_161 ⟨Nat.le_of_ble_eq_true rfl, Nat.le_of_ble_eq_true rfl⟩) hH (fun N1 ad1 E9 H locs hq hH => ?_)
              obtain ⟨rfl, rfl, hM, hF1⟩ := hq
              have hF := hF.tr hF1
              refine lv_iconst (v := nI 1) X.1 X.2.1 d_M_goes_164 (by decide) ?_
              exact zx_iret X hr hlk hH (Nat.le_of_ble_eq_true rfl) (Nat.le_of_ble_eq_true rfl) d_M_goes_165 ⟨rfl, rfl, by rw [zp_turn_step (by omega) (by omega) dw (by omega)]; exact ⟨rfl, (by rw [← zm_step_nd (ar := va_up r.2 2 (zp_tw (r.2 0) (r.2 1) (r.1 3 + 1) (r.1 8) 0 (r.2 2) ev).2.1) (show ¬ r.2 3 (r.1 3 + 1) = 2 by omega) (by omega) (hz5 (by omega))]; exact hM), hF⟩⟩
          · have c8 := (zn_eq (nI_toInt (by omega)) (nI_toInt (by omega))).mp c8
            refine lv_aload_n X.1 X.2.1 d_M_goes_131 rfl (lv_at hl 0 rfl) ?_
            refine zx_get (v := .ref (ad (13))) X hH fg_M_22 (by omega) hM.1 rfl d_M_goes_132 ?_
            refine lv_iload_n X.1 X.2.1 d_M_goes_135 rfl (lv_at hl 1 rfl) ?_
            refine lv_aload_n X.1 X.2.1 d_M_goes_136 rfl (lv_at hl 0 rfl) ?_
            refine zx_get (v := .ref (ad (12))) X hH fg_M_19 (by omega) hM.1 rfl d_M_goes_137 ?_
            refine lv_iload_n X.1 X.2.1 d_M_goes_140 rfl (lv_at hl 1 rfl) ?_
            refine zx_iald (j := i + 1) X hH (by omega) (show E7 12 = zr_ia g 31 (zm_c (va_up rg i (va_up r.1 3 ((r.1 3) + (1)), va_up r.2 2 (zp_tw (r.2 0) (r.2 1) (r.1 3 + 1) (r.1 8) 0 (r.2 2) ev).2.1)) 3) from hM.2.2.2.2.1) rfl (by omega) (by decide) d_M_goes_141 ?_
            refine zx_top (b := nI ((r.1 3) + (1))) (congrArg nI (zm_c_at _ _ _ _)) ?_
            refine zx_iast (j := i + 1) (x := nI ((r.1 3) + (1))) X hH (by omega) (show E7 13 = zr_ia g 31 (zm_c (va_up rg i (va_up r.1 3 ((r.1 3) + (1)), va_up r.2 2 (zp_tw (r.2 0) (r.2 1) (r.1 3 + 1) (r.1 8) 0 (r.2 2) ev).2.1)) 4) from hM.2.2.2.2.2.1) rfl (by omega) (by decide) d_M_goes_142 (fun H locs hH => ?_)
            rw [zr_upd] at hH
            have hH : zw_H g A s.heap s N ad (va_up E7 13 (zr_ia g 31 (va_up (zm_c (va_up rg i (va_up r.1 3 ((r.1 3) + (1)), va_up r.2 2 (zp_tw (r.2 0) (r.2 1) (r.1 3 + 1) (r.1 8) 0 (r.2 2) ev).2.1)) 4) (i + 1) ((r.1 3) + (1))))) H locs := hH
            have hM := hM.s4 ((r.1 3) + (1))
            have hF := hF.up (k := 13) (x := (zr_ia g 31 (va_up (zm_c (va_up rg i (va_up r.1 3 ((r.1 3) + (1)), va_up r.2 2 (zp_tw (r.2 0) (r.2 1) (r.1 3 + 1) (r.1 8) 0 (r.2 2) ev).2.1)) 4) (i + 1) ((r.1 3) + (1))))) (by decide) (by decide)
            generalize va_up E7 13 (zr_ia g 31 (va_up (zm_c (va_up rg i (va_up r.1 3 ((r.1 3) + (1)), va_up r.2 2 (zp_tw (r.2 0) (r.2 1) (r.1 3 + 1) (r.1 8) 0 (r.2 2) ev).2.1)) 4) (i + 1) ((r.1 3) + (1)))) = E10 at hH hM hF
            have hM : zm_at g ad E10 (va_up q 5 (q 5 + 1)) (va_up rg i (va_up (va_up r.1 3 ((r.1 3) + (1))) 4 ((r.1 3) + (1)), va_up r.2 2 (zp_tw (r.2 0) (r.2 1) (r.1 3 + 1) (r.1 8) 0 (r.2 2) ev).2.1)) (zp_tw (r.2 0) (r.2 1) (r.1 3 + 1) (r.1 8) 0 (r.2 2) ev).2.2 fs (va_up fl (q 5) (1000 * (i + 1) + (r.1 3 + 1))) := hM
            refine lv_aload_n X.1 X.2.1 d_M_goes_143 rfl (lv_at hl 0 rfl) ?_
            refine zx_get (v := .ref (ad (12))) X hH fg_M_19 (by omega) hM.1 rfl d_M_goes_144 ?_
            refine lv_iload_n X.1 X.2.1 d_M_goes_147 rfl (lv_at hl 1 rfl) ?_
            refine zx_iald (j := i + 1) X hH (by omega) (show E10 12 = zr_ia g 31 (zm_c (va_up rg i (va_up (va_up r.1 3 ((r.1 3) + (1))) 4 ((r.1 3) + (1)), va_up r.2 2 (zp_tw (r.2 0) (r.2 1) (r.1 3 + 1) (r.1 8) 0 (r.2 2) ev).2.1)) 3) from hM.2.2.2.2.1) rfl (by omega) (by decide) d_M_goes_148 ?_
            refine zx_top (b := nI ((r.1 3) + (1))) (congrArg nI (zm_c_at _ _ _ _)) ?_
            refine lv_aload_n X.1 X.2.1 d_M_goes_149 rfl (lv_at hl 0 rfl) ?_
            refine zx_get (v := .ref (ad (9))) X hH fg_M_7 (by omega) hM.1 rfl d_M_goes_150 ?_
            refine lv_iload_n X.1 X.2.1 d_M_goes_153 rfl (lv_at hl 1 rfl) ?_
            refine zx_iald (j := i + 1) X hH (by omega) (show E10 9 = zr_ia g 31 (zm_c (va_up rg i (va_up (va_up r.1 3 ((r.1 3) + (1))) 4 ((r.1 3) + (1)), va_up r.2 2 (zp_tw (r.2 0) (r.2 1) (r.1 3 + 1) (r.1 8) 0 (r.2 2) ev).2.1)) 0) from hM.2.1) rfl (by omega) (by decide) d_M_goes_154 ?_
            refine zx_top (b := nI (r.1 0)) (congrArg nI (zm_c_at _ _ _ _)) ?_
            refine lv_icmp_ne (tgt := 164) X.1 X.2.1 d_M_goes_155 (by decide) (fun c11 => ?_) (fun c11 => ?_)
            · have c11 := mt (zn_eq (nI_toInt (by omega)) (nI_toInt (by omega))).mpr c11
              refine lv_iconst (v := nI 1) X.1 X.2.1 d_M_goes_164 (by decide) ?_
              exact zx_iret X hr hlk hH (Nat.le_of_ble_eq_true rfl) (Nat.le_of_ble_eq_true rfl) d_M_goes_165 ⟨rfl, rfl, by rw [zp_turn_step (by omega) (by omega) dw (by omega)]; exact ⟨rfl, (by rw [← zm_step_dn (ar := va_up r.2 2 (zp_tw (r.2 0) (r.2 1) (r.1 3 + 1) (r.1 8) 0 (r.2 2) ev).2.1) (show r.2 3 (r.1 3 + 1) = 2 by omega) (by omega)]; exact hM), hF⟩⟩
            · have c11 := (zn_eq (nI_toInt (by omega)) (nI_toInt (by omega))).mp c11
              refine lv_aload_n X.1 X.2.1 d_M_goes_158 rfl (lv_at hl 0 rfl) ?_
              refine lv_iload_n X.1 X.2.1 d_M_goes_159 rfl (lv_at hl 1 rfl) ?_
              refine lv_iconst (v := nI 1) X.1 X.2.1 d_M_goes_160 (by decide) ?_
              refine zx_callv (zx_runV (As := [.int (nI (i + 1)), .int (nI (1))]) (rest := []) X hH mv_M_84 ((c_M_end g l N ad E10 (va_up q 5 (q 5 + 1)) rg (zp_tw (r.2 0) (r.2 1) (r.1 3 + 1) (r.1 8) 0 (r.2 2) ev).2.2 fs (va_up fl (q 5) (1000 * (i + 1) + (r.1 3 + 1))) i (va_up (va_up r.1 3 ((r.1 3) + (1))) 4 ((r.1 3) + (1)), va_up r.2 2 (zp_tw (r.2 0) (r.2 1) (r.1 3 + 1) (r.1 8) 0 (r.2 2) ev).2.1) hN hi (by show _ ≤ r.1 3 + 1; first | exact Nat.le_refl _ | (show r.1 4 ≤ _; omega)) hM 1 (by decide)) _) (by omega) hM.1 rfl ⟨Nat.le_of_ble_eq_true rfl, Nat.le_of_ble_eq_true rfl⟩ rfl hl rfl (Nat.le_of_ble_eq_true rfl) d_M_goes_161 ⟨Nat.le_of_ble_eq_true rfl, Nat.le_of_ble_eq_true rfl⟩) hH (fun N1 ad1 E9 H locs hq hH => ?_)
              obtain ⟨rfl, rfl, hM, hF1⟩ := hq
              have hF := hF.tr hF1
              refine lv_iconst (v := nI 1) X.1 X.2.1 d_M_goes_164 (by decide) ?_
              exact zx_iret X hr hlk hH (Nat.le_of_ble_eq_true rfl) (Nat.le_of_ble_eq_true rfl) d_M_goes_165 ⟨rfl, rfl, by rw [zp_turn_step (by omega) (by omega) dw (by omega)]; exact ⟨rfl, (by rw [← zm_step_dd (ar := va_up r.2 2 (zp_tw (r.2 0) (r.2 1) (r.1 3 + 1) (r.1 8) 0 (r.2 2) ev).2.1) (show r.2 3 (r.1 3 + 1) = 2 by omega) (by omega) (hz5 (by omega))]; exact hM), hF⟩⟩
        · have c4 := (zn_eq (nI_toInt (by omega)) (nI_toInt (by omega))).mp c4
          refine lv_aload_n X.1 X.2.1 d_M_goes_63 rfl (lv_at hl 0 rfl) ?_
          refine lv_iload_n X.1 X.2.1 d_M_goes_64 rfl (lv_at hl 1 rfl) ?_
          refine lv_iconst (v := nI 2) X.1 X.2.1 d_M_goes_65 (by decide) ?_
          refine zx_callv (zx_runV (As := [.int (nI (i + 1)), .int (nI (2))]) (rest := []) X hH mv_M_84 ((c_M_end g l N ad E8 q rg (zp_tw (r.2 0) (r.2 1) (r.1 3 + 1) (r.1 8) 0 (r.2 2) ev).2.2 fs fl i (r.1, va_up r.2 2 (zp_tw (r.2 0) (r.2 1) (r.1 3 + 1) (r.1 8) 0 (r.2 2) ev).2.1) hN hi r4 hM 2 (by decide)) _) (by omega) hM.1 rfl ⟨Nat.le_of_ble_eq_true rfl, Nat.le_of_ble_eq_true rfl⟩ rfl hl rfl (Nat.le_of_ble_eq_true rfl) d_M_goes_66 ⟨Nat.le_of_ble_eq_true rfl, Nat.le_of_ble_eq_true rfl⟩) hH (fun N1 ad1 E9 H locs hq hH => ?_)
          obtain ⟨rfl, rfl, hM, hF1⟩ := hq
          have hF := hF.tr hF1
          refine lv_iconst (v := nI 2) X.1 X.2.1 d_M_goes_69 (by decide) ?_
          exact zx_iret X hr hlk hH (Nat.le_of_ble_eq_true rfl) (Nat.le_of_ble_eq_true rfl) d_M_goes_70 ⟨rfl, rfl, by rw [zp_turn_fail (by omega) (by omega) dw (by omega)]; exact ⟨rfl, (by rw [← zm_end_back (by decide)]; exact hM), hF⟩⟩
      · refine zx_top (b := nI 0) (by rw [if_neg dw]) ?_
        refine lv_if_ne (tgt := 46) X.1 X.2.1 d_M_goes_41 (by decide) (fun z => absurd (by decide) z) (fun _ => ?_)
        refine lv_iconst (v := nI 0) X.1 X.2.1 d_M_goes_44 (by decide) ?_
        exact zx_iret X hr hlk hH (Nat.le_of_ble_eq_true rfl) (Nat.le_of_ble_eq_true rfl) d_M_goes_45 ⟨rfl, rfl, by rw [zp_turn_wait (by omega) (by omega) dw]; exact ⟨rfl, hM, hF⟩⟩
    · have c3 := mt (zn_eq (nI_toInt (by omega)) zn_0).mpr c3
      refine lv_aload_n X.1 X.2.1 d_M_goes_20 rfl (lv_at hl 0 rfl) ?_
      refine lv_iload_n X.1 X.2.1 d_M_goes_21 rfl (lv_at hl 1 rfl) ?_
      refine zx_calli (zx_runV (As := [.int (nI (i + 1))]) (rest := []) X hH mv_M_81 ((c_M_isBetween g l N ad E q rg ev fs fl i r hN hi hro hM hz0) _) (by omega) hM.1 rfl ⟨Nat.le_of_ble_eq_true rfl, Nat.le_of_ble_eq_true rfl⟩ rfl hl rfl (Nat.le_of_ble_eq_true rfl) d_M_goes_22 ⟨Nat.le_of_ble_eq_true rfl, Nat.le_of_ble_eq_true rfl⟩) hH (fun r N1 ad1 E1 H locs hq hH => ?_)
      obtain ⟨rfl, rfl, rfl, rfl⟩ := hq
      by_cases d12 : r.2 3 (r.1 3) = 1
      · refine zx_top (b := nI 1) (by rw [if_pos d12]) ?_
        refine lv_if_ne (tgt := 36) X.1 X.2.1 d_M_goes_25 (by decide) (fun z => ?_) (fun z => ?_)
        · clear z
          refine lv_aload_n X.1 X.2.1 d_M_goes_36 rfl (lv_at hl 0 rfl) ?_
          refine lv_iload_n X.1 X.2.1 d_M_goes_37 rfl (lv_at hl 1 rfl) ?_
          refine zx_calli (zx_runV (As := [.int (nI (i + 1))]) (rest := []) X hH mv_M_88 ((c_M_isFree g l N ad E q rg ev fs fl i r hN hi hro hM hev) _) (by omega) hM.1 rfl ⟨Nat.le_of_ble_eq_true rfl, Nat.le_of_ble_eq_true rfl⟩ rfl hl rfl (Nat.le_of_ble_eq_true rfl) d_M_goes_38 ⟨Nat.le_of_ble_eq_true rfl, Nat.le_of_ble_eq_true rfl⟩) hH (fun r N1 ad1 E8 H locs hq hH => ?_)
          obtain ⟨rfl, rfl, rfl, hM, hF⟩ := hq
          by_cases dw : (zp_tw (r.2 0) (r.2 1) (r.1 3 + 1) (r.1 8) 0 (r.2 2) ev).1 = true
          · refine zx_top (b := nI 1) (by rw [if_pos dw]) ?_
            refine lv_if_ne (tgt := 46) X.1 X.2.1 d_M_goes_41 (by decide) (fun _ => ?_) (fun z => absurd z (by decide))
            refine lv_aload_n X.1 X.2.1 d_M_goes_46 rfl (lv_at hl 0 rfl) ?_
            refine zx_get (v := .ref (ad (10))) X hH fg_M_13 (by omega) hM.1 rfl d_M_goes_47 ?_
            refine lv_iload_n X.1 X.2.1 d_M_goes_50 rfl (lv_at hl 1 rfl) ?_
            refine zx_iald (j := i + 1) X hH (by omega) (show E8 10 = zr_ia g 31 (zm_c (va_up rg i (r.1, va_up r.2 2 (zp_tw (r.2 0) (r.2 1) (r.1 3 + 1) (r.1 8) 0 (r.2 2) ev).2.1)) 1) from hM.2.2.1) rfl (by omega) (by decide) d_M_goes_51 ?_
            refine zx_top (b := nI (r.1 1)) (congrArg nI (zm_c_at _ _ _ _)) ?_
            refine lv_aload_n X.1 X.2.1 d_M_goes_52 rfl (lv_at hl 0 rfl) ?_
            refine zx_get (v := .ref (ad (12))) X hH fg_M_19 (by omega) hM.1 rfl d_M_goes_53 ?_
            refine lv_iload_n X.1 X.2.1 d_M_goes_56 rfl (lv_at hl 1 rfl) ?_
            refine zx_iald (j := i + 1) X hH (by omega) (show E8 12 = zr_ia g 31 (zm_c (va_up rg i (r.1, va_up r.2 2 (zp_tw (r.2 0) (r.2 1) (r.1 3 + 1) (r.1 8) 0 (r.2 2) ev).2.1)) 3) from hM.2.2.2.2.1) rfl (by omega) (by decide) d_M_goes_57 ?_
            refine zx_top (b := nI (r.1 3)) (congrArg nI (zm_c_at _ _ _ _)) ?_
            refine lv_iconst (v := nI 1) X.1 X.2.1 d_M_goes_58 (by decide) ?_
            refine lv_iadd X.1 X.2.1 d_M_goes_59 ?_
            refine zx_top (nI_add _ _) ?_
            refine lv_icmp_ne (tgt := 71) X.1 X.2.1 d_M_goes_60 (by decide) (fun c13 => ?_) (fun c13 => ?_)
            · have c13 := mt (zn_eq (nI_toInt (by omega)) (nI_toInt (by omega))).mpr c13
              refine lv_aload_n X.1 X.2.1 d_M_goes_71 rfl (lv_at hl 0 rfl) ?_
              refine zx_get (v := .ref (ad (12))) X hH fg_M_19 (by omega) hM.1 rfl d_M_goes_72 ?_
              refine lv_iload_n X.1 X.2.1 d_M_goes_75 rfl (lv_at hl 1 rfl) ?_
              refine lv_dup2_11 X.1 X.2.1 d_M_goes_76 rfl rfl ?_
              refine zx_iald (j := i + 1) X hH (by omega) (show E8 12 = zr_ia g 31 (zm_c (va_up rg i (r.1, va_up r.2 2 (zp_tw (r.2 0) (r.2 1) (r.1 3 + 1) (r.1 8) 0 (r.2 2) ev).2.1)) 3) from hM.2.2.2.2.1) rfl (by omega) (by decide) d_M_goes_77 ?_
              refine zx_top (b := nI (r.1 3)) (congrArg nI (zm_c_at _ _ _ _)) ?_
              refine lv_iconst (v := nI 1) X.1 X.2.1 d_M_goes_78 (by decide) ?_
              refine lv_iadd X.1 X.2.1 d_M_goes_79 ?_
              refine zx_top (nI_add _ _) ?_
              refine zx_iast (j := i + 1) (x := nI ((r.1 3) + (1))) X hH (by omega) (show E8 12 = zr_ia g 31 (zm_c (va_up rg i (r.1, va_up r.2 2 (zp_tw (r.2 0) (r.2 1) (r.1 3 + 1) (r.1 8) 0 (r.2 2) ev).2.1)) 3) from hM.2.2.2.2.1) rfl (by omega) (by decide) d_M_goes_80 (fun H locs hH => ?_)
              rw [zr_upd] at hH
              have hH : zw_H g A s.heap s N ad (va_up E8 12 (zr_ia g 31 (va_up (zm_c (va_up rg i (r.1, va_up r.2 2 (zp_tw (r.2 0) (r.2 1) (r.1 3 + 1) (r.1 8) 0 (r.2 2) ev).2.1)) 3) (i + 1) ((r.1 3) + (1))))) H locs := hH
              have hM := hM.s3 ((r.1 3) + (1))
              have hF := hF.up (k := 12) (x := (zr_ia g 31 (va_up (zm_c (va_up rg i (r.1, va_up r.2 2 (zp_tw (r.2 0) (r.2 1) (r.1 3 + 1) (r.1 8) 0 (r.2 2) ev).2.1)) 3) (i + 1) ((r.1 3) + (1))))) (by decide) (by decide)
              generalize va_up E8 12 (zr_ia g 31 (va_up (zm_c (va_up rg i (r.1, va_up r.2 2 (zp_tw (r.2 0) (r.2 1) (r.1 3 + 1) (r.1 8) 0 (r.2 2) ev).2.1)) 3) (i + 1) ((r.1 3) + (1)))) = E14 at hH hM hF
              have hM : zm_at g ad E14 q (va_up rg i (va_up r.1 3 ((r.1 3) + (1)), va_up r.2 2 (zp_tw (r.2 0) (r.2 1) (r.1 3 + 1) (r.1 8) 0 (r.2 2) ev).2.1)) (zp_tw (r.2 0) (r.2 1) (r.1 3 + 1) (r.1 8) 0 (r.2 2) ev).2.2 fs fl := hM
              refine lv_aload_n X.1 X.2.1 d_M_goes_81 rfl (lv_at hl 0 rfl) ?_
              refine zx_get (v := .ref (ad (24))) X hH fg_M_56 (by omega) hM.1 rfl d_M_goes_82 ?_
              refine lv_aload_n X.1 X.2.1 d_M_goes_85 rfl (lv_at hl 0 rfl) ?_
              refine zx_get (v := .int (nI (q 5))) X hH fg_M_91 (by omega) hM.1 rfl d_M_goes_86 ?_
              refine lv_sipush (v := nI 1000) X.1 X.2.1 d_M_goes_89 (by decide) ?_
              refine lv_iload_n X.1 X.2.1 d_M_goes_92 rfl (lv_at hl 1 rfl) ?_
              refine lv_imul X.1 X.2.1 d_M_goes_93 ?_
              refine zx_top (pk_mul _ _) ?_
              refine lv_aload_n X.1 X.2.1 d_M_goes_94 rfl (lv_at hl 0 rfl) ?_
              refine zx_get (v := .ref (ad (12))) X hH fg_M_19 (by omega) hM.1 rfl d_M_goes_95 ?_
              refine lv_iload_n X.1 X.2.1 d_M_goes_98 rfl (lv_at hl 1 rfl) ?_
              refine zx_iald (j := i + 1) X hH (by omega) (show E14 12 = zr_ia g 31 (zm_c (va_up rg i (va_up r.1 3 ((r.1 3) + (1)), va_up r.2 2 (zp_tw (r.2 0) (r.2 1) (r.1 3 + 1) (r.1 8) 0 (r.2 2) ev).2.1)) 3) from hM.2.2.2.2.1) rfl (by omega) (by decide) d_M_goes_99 ?_
              refine zx_top (b := nI ((r.1 3) + (1))) (congrArg nI (zm_c_at _ _ _ _)) ?_
              refine lv_iadd X.1 X.2.1 d_M_goes_100 ?_
              refine zx_top (nI_add _ _) ?_
              refine zx_iast (j := q 5) (x := nI (1000 * (i + 1) + (r.1 3 + 1))) X hH (by omega) (show E14 24 = zr_ia g 3100 fl from hM.2.2.2.2.2.2.2.2.2.2.2.2.2.2.2.2) rfl (by omega) (by decide) d_M_goes_101 (fun H locs hH => ?_)
              rw [zr_upd] at hH
              have hH : zw_H g A s.heap s N ad (va_up E14 24 (zr_ia g 3100 (va_up fl (q 5) (1000 * (i + 1) + (r.1 3 + 1))))) H locs := hH
              have hM := hM.fl (va_up fl (q 5) (1000 * (i + 1) + (r.1 3 + 1)))
              have hF := hF.up (k := 24) (x := (zr_ia g 3100 (va_up fl (q 5) (1000 * (i + 1) + (r.1 3 + 1))))) (by decide) (by decide)
              generalize va_up E14 24 (zr_ia g 3100 (va_up fl (q 5) (1000 * (i + 1) + (r.1 3 + 1)))) = E15 at hH hM hF
              refine lv_aload_n X.1 X.2.1 d_M_goes_102 rfl (lv_at hl 0 rfl) ?_
              refine lv_dup X.1 X.2.1 d_M_goes_103 rfl ?_
              refine zx_get (v := .int (nI (q 5))) X hH fg_M_91 (by omega) hM.1 rfl d_M_goes_104 ?_
              refine lv_iconst (v := nI 1) X.1 X.2.1 d_M_goes_107 (by decide) ?_
              refine lv_iadd X.1 X.2.1 d_M_goes_108 ?_
              refine zx_top (nI_add _ _) ?_
              refine zx_put X hH fp_M_91 (by omega) hM.1 (Nat.le_of_ble_eq_true rfl) rfl rfl d_M_goes_109 (fun H locs hH => ?_)
              have hH : zw_H g A s.heap s N ad (va_up E15 8 (zm_o ad (va_up q 5 (q 5 + 1)))) H locs := hH
              have hM := hM.o (va_up q 5 (q 5 + 1))
              have hF := hF.up (k := 8) (x := (zm_o ad (va_up q 5 (q 5 + 1)))) (by decide) (by decide)
              generalize va_up E15 8 (zm_o ad (va_up q 5 (q 5 + 1))) = E16 at hH hM hF
              refine lv_aload_n X.1 X.2.1 d_M_goes_112 rfl (lv_at hl 0 rfl) ?_
              refine zx_get (v := .ref (ad (19))) X hH fg_M_41 (by omega) hM.1 rfl d_M_goes_113 ?_
              refine lv_iload_n X.1 X.2.1 d_M_goes_116 rfl (lv_at hl 1 rfl) ?_
              refine lv_aload_n X.1 X.2.1 d_M_goes_117 rfl (lv_at hl 0 rfl) ?_
              refine zx_get (v := .ref (ad (12))) X hH fg_M_19 (by omega) hM.1 rfl d_M_goes_118 ?_
              refine lv_iload_n X.1 X.2.1 d_M_goes_121 rfl (lv_at hl 1 rfl) ?_
              refine zx_iald (j := i + 1) X hH (by omega) (show E16 12 = zr_ia g 31 (zm_c (va_up rg i (va_up r.1 3 ((r.1 3) + (1)), va_up r.2 2 (zp_tw (r.2 0) (r.2 1) (r.1 3 + 1) (r.1 8) 0 (r.2 2) ev).2.1)) 3) from hM.2.2.2.2.1) rfl (by omega) (by decide) d_M_goes_122 ?_
              refine zx_top (b := nI ((r.1 3) + (1))) (congrArg nI (zm_c_at _ _ _ _)) ?_
              refine zx_calli (zx_runS (As := [.int (nI (i + 1)), .int (nI ((r.1 3) + (1)))]) (rest := [.ref (ad (19))]) X hH ms_M_77 ((c_M_of g l N ad E16 (i + 1) ((r.1 3) + (1))) _) ⟨Nat.le_of_ble_eq_true rfl, Nat.le_of_ble_eq_true rfl⟩ rfl hl rfl (Nat.le_of_ble_eq_true rfl) d_M_goes_123 ⟨Nat.le_of_ble_eq_true rfl, Nat.le_of_ble_eq_true rfl⟩) hH (fun r N1 ad1 E1 H locs hq hH => ?_)
              obtain ⟨rfl, rfl, rfl, rfl⟩ := hq
              refine zx_iald (j := 101 * (i + 1) + (r.1 3 + 1)) X hH (by omega) (show E16 19 = zr_ia g 3131 (zm_d (va_up rg i (va_up r.1 3 ((r.1 3) + (1)), va_up r.2 2 (zp_tw (r.2 0) (r.2 1) (r.1 3 + 1) (r.1 8) 0 (r.2 2) ev).2.1))) from hM.2.2.2.2.2.2.2.2.2.2.2.1) rfl (by omega) (by decide) d_M_goes_126 ?_
              refine zx_top (b := nI (r.2 3 (r.1 3 + 1))) (congrArg nI (zm_d_at _ _ _ (by omega))) ?_
              refine lv_iconst (v := nI 2) X.1 X.2.1 d_M_goes_127 (by decide) ?_
              refine lv_icmp_ne (tgt := 143) X.1 X.2.1 d_M_goes_128 (by decide) (fun c17 => ?_) (fun c17 => ?_)
              · have c17 := mt (zn_eq (nI_toInt (by omega)) (nI_toInt (by omega))).mpr c17
                refine lv_aload_n X.1 X.2.1 d_M_goes_143 rfl (lv_at hl 0 rfl) ?_
                refine zx_get (v := .ref (ad (12))) X hH fg_M_19 (by omega) hM.1 rfl d_M_goes_144 ?_
                refine lv_iload_n X.1 X.2.1 d_M_goes_147 rfl (lv_at hl 1 rfl) ?_
                refine zx_iald (j := i + 1) X hH (by omega) (show E16 12 = zr_ia g 31 (zm_c (va_up rg i (va_up r.1 3 ((r.1 3) + (1)), va_up r.2 2 (zp_tw (r.2 0) (r.2 1) (r.1 3 + 1) (r.1 8) 0 (r.2 2) ev).2.1)) 3) from hM.2.2.2.2.1) rfl (by omega) (by decide) d_M_goes_148 ?_
                refine zx_top (b := nI ((r.1 3) + (1))) (congrArg nI (zm_c_at _ _ _ _)) ?_
                refine lv_aload_n X.1 X.2.1 d_M_goes_149 rfl (lv_at hl 0 rfl) ?_
                refine zx_get (v := .ref (ad (9))) X hH fg_M_7 (by omega) hM.1 rfl d_M_goes_150 ?_
                refine lv_iload_n X.1 X.2.1 d_M_goes_153 rfl (lv_at hl 1 rfl) ?_
                refine zx_iald (j := i + 1) X hH (by omega) (show E16 9 = zr_ia g 31 (zm_c (va_up rg i (va_up r.1 3 ((r.1 3) + (1)), va_up r.2 2 (zp_tw (r.2 0) (r.2 1) (r.1 3 + 1) (r.1 8) 0 (r.2 2) ev).2.1)) 0) from hM.2.1) rfl (by omega) (by decide) d_M_goes_154 ?_
                refine zx_top (b := nI (r.1 0)) (congrArg nI (zm_c_at _ _ _ _)) ?_
                refine lv_icmp_ne (tgt := 164) X.1 X.2.1 d_M_goes_155 (by decide) (fun c18 => ?_) (fun c18 => ?_)
                · have c18 := mt (zn_eq (nI_toInt (by omega)) (nI_toInt (by omega))).mpr c18
                  refine lv_iconst (v := nI 1) X.1 X.2.1 d_M_goes_164 (by decide) ?_
                  exact zx_iret X hr hlk hH (Nat.le_of_ble_eq_true rfl) (Nat.le_of_ble_eq_true rfl) d_M_goes_165 ⟨rfl, rfl, by rw [zp_turn_step (by omega) (by omega) dw (by omega)]; exact ⟨rfl, (by rw [← zm_step_nn (ar := va_up r.2 2 (zp_tw (r.2 0) (r.2 1) (r.1 3 + 1) (r.1 8) 0 (r.2 2) ev).2.1) (show ¬ r.2 3 (r.1 3 + 1) = 2 by omega) (by omega)]; exact hM), hF⟩⟩
                · have c18 := (zn_eq (nI_toInt (by omega)) (nI_toInt (by omega))).mp c18
                  refine lv_aload_n X.1 X.2.1 d_M_goes_158 rfl (lv_at hl 0 rfl) ?_
                  refine lv_iload_n X.1 X.2.1 d_M_goes_159 rfl (lv_at hl 1 rfl) ?_
                  refine lv_iconst (v := nI 1) X.1 X.2.1 d_M_goes_160 (by decide) ?_
                  refine zx_callv (zx_runV (As := [.int (nI (i + 1)), .int (nI (1))]) (rest := []) X hH mv_M_84 ((c_M_end g l N ad E16 (va_up q 5 (q 5 + 1)) rg (zp_tw (r.2 0) (r.2 1) (r.1 3 + 1) (r.1 8) 0 (r.2 2) ev).2.2 fs (va_up fl (q 5) (1000 * (i + 1) + (r.1 3 + 1))) i (va_up r.1 3 ((r.1 3) + (1)), va_up r.2 2 (zp_tw (r.2 0) (r.2 1) (r.1 3 + 1) (r.1 8) 0 (r.2 2) ev).2.1) hN hi (by show _ ≤ r.1 3 + 1; first | exact Nat.le_refl _ | (show r.1 4 ≤ _; omega)) hM 1 (by decide)) _) (by omega) hM.1 rfl ⟨Nat.le_of_ble_eq_true rfl, Nat.le_of_ble_eq_true rfl⟩ rfl hl rfl (Nat.le_of_ble_eq_true rfl) d_M_goes_161 ⟨Nat.le_of_ble_eq_true rfl, Nat.le_of_ble_eq_true rfl⟩) hH (fun N1 ad1 E9 H locs hq hH => ?_)
                  obtain ⟨rfl, rfl, hM, hF1⟩ := hq
                  have hF := hF.tr hF1
                  refine lv_iconst (v := nI 1) X.1 X.2.1 d_M_goes_164 (by decide) ?_
                  exact zx_iret X hr hlk hH (Nat.le_of_ble_eq_true rfl) (Nat.le_of_ble_eq_true rfl) d_M_goes_165 ⟨rfl, rfl, by rw [zp_turn_step (by omega) (by omega) dw (by omega)]; exact ⟨rfl, (by rw [← zm_step_nd (ar := va_up r.2 2 (zp_tw (r.2 0) (r.2 1) (r.1 3 + 1) (r.1 8) 0 (r.2 2) ev).2.1) (show ¬ r.2 3 (r.1 3 + 1) = 2 by omega) (by omega) (hz5 (by omega))]; exact hM), hF⟩⟩
              · have c17 := (zn_eq (nI_toInt (by omega)) (nI_toInt (by omega))).mp c17
                refine lv_aload_n X.1 X.2.1 d_M_goes_131 rfl (lv_at hl 0 rfl) ?_
                refine zx_get (v := .ref (ad (13))) X hH fg_M_22 (by omega) hM.1 rfl d_M_goes_132 ?_
                refine lv_iload_n X.1 X.2.1 d_M_goes_135 rfl (lv_at hl 1 rfl) ?_
                refine lv_aload_n X.1 X.2.1 d_M_goes_136 rfl (lv_at hl 0 rfl) ?_
                refine zx_get (v := .ref (ad (12))) X hH fg_M_19 (by omega) hM.1 rfl d_M_goes_137 ?_
                refine lv_iload_n X.1 X.2.1 d_M_goes_140 rfl (lv_at hl 1 rfl) ?_
                refine zx_iald (j := i + 1) X hH (by omega) (show E16 12 = zr_ia g 31 (zm_c (va_up rg i (va_up r.1 3 ((r.1 3) + (1)), va_up r.2 2 (zp_tw (r.2 0) (r.2 1) (r.1 3 + 1) (r.1 8) 0 (r.2 2) ev).2.1)) 3) from hM.2.2.2.2.1) rfl (by omega) (by decide) d_M_goes_141 ?_
                refine zx_top (b := nI ((r.1 3) + (1))) (congrArg nI (zm_c_at _ _ _ _)) ?_
                refine zx_iast (j := i + 1) (x := nI ((r.1 3) + (1))) X hH (by omega) (show E16 13 = zr_ia g 31 (zm_c (va_up rg i (va_up r.1 3 ((r.1 3) + (1)), va_up r.2 2 (zp_tw (r.2 0) (r.2 1) (r.1 3 + 1) (r.1 8) 0 (r.2 2) ev).2.1)) 4) from hM.2.2.2.2.2.1) rfl (by omega) (by decide) d_M_goes_142 (fun H locs hH => ?_)
                rw [zr_upd] at hH
                have hH : zw_H g A s.heap s N ad (va_up E16 13 (zr_ia g 31 (va_up (zm_c (va_up rg i (va_up r.1 3 ((r.1 3) + (1)), va_up r.2 2 (zp_tw (r.2 0) (r.2 1) (r.1 3 + 1) (r.1 8) 0 (r.2 2) ev).2.1)) 4) (i + 1) ((r.1 3) + (1))))) H locs := hH
                have hM := hM.s4 ((r.1 3) + (1))
                have hF := hF.up (k := 13) (x := (zr_ia g 31 (va_up (zm_c (va_up rg i (va_up r.1 3 ((r.1 3) + (1)), va_up r.2 2 (zp_tw (r.2 0) (r.2 1) (r.1 3 + 1) (r.1 8) 0 (r.2 2) ev).2.1)) 4) (i + 1) ((r.1 3) + (1))))) (by decide) (by decide)
                generalize va_up E16 13 (zr_ia g 31 (va_up (zm_c (va_up rg i (va_up r.1 3 ((r.1 3) + (1)), va_up r.2 2 (zp_tw (r.2 0) (r.2 1) (r.1 3 + 1) (r.1 8) 0 (r.2 2) ev).2.1)) 4) (i + 1) ((r.1 3) + (1)))) = E19 at hH hM hF
                have hM : zm_at g ad E19 (va_up q 5 (q 5 + 1)) (va_up rg i (va_up (va_up r.1 3 ((r.1 3) + (1))) 4 ((r.1 3) + (1)), va_up r.2 2 (zp_tw (r.2 0) (r.2 1) (r.1 3 + 1) (r.1 8) 0 (r.2 2) ev).2.1)) (zp_tw (r.2 0) (r.2 1) (r.1 3 + 1) (r.1 8) 0 (r.2 2) ev).2.2 fs (va_up fl (q 5) (1000 * (i + 1) + (r.1 3 + 1))) := hM
                refine lv_aload_n X.1 X.2.1 d_M_goes_143 rfl (lv_at hl 0 rfl) ?_
                refine zx_get (v := .ref (ad (12))) X hH fg_M_19 (by omega) hM.1 rfl d_M_goes_144 ?_
                refine lv_iload_n X.1 X.2.1 d_M_goes_147 rfl (lv_at hl 1 rfl) ?_
                refine zx_iald (j := i + 1) X hH (by omega) (show E19 12 = zr_ia g 31 (zm_c (va_up rg i (va_up (va_up r.1 3 ((r.1 3) + (1))) 4 ((r.1 3) + (1)), va_up r.2 2 (zp_tw (r.2 0) (r.2 1) (r.1 3 + 1) (r.1 8) 0 (r.2 2) ev).2.1)) 3) from hM.2.2.2.2.1) rfl (by omega) (by decide) d_M_goes_148 ?_
                refine zx_top (b := nI ((r.1 3) + (1))) (congrArg nI (zm_c_at _ _ _ _)) ?_
                refine lv_aload_n X.1 X.2.1 d_M_goes_149 rfl (lv_at hl 0 rfl) ?_
                refine zx_get (v := .ref (ad (9))) X hH fg_M_7 (by omega) hM.1 rfl d_M_goes_150 ?_
                refine lv_iload_n X.1 X.2.1 d_M_goes_153 rfl (lv_at hl 1 rfl) ?_
                refine zx_iald (j := i + 1) X hH (by omega) (show E19 9 = zr_ia g 31 (zm_c (va_up rg i (va_up (va_up r.1 3 ((r.1 3) + (1))) 4 ((r.1 3) + (1)), va_up r.2 2 (zp_tw (r.2 0) (r.2 1) (r.1 3 + 1) (r.1 8) 0 (r.2 2) ev).2.1)) 0) from hM.2.1) rfl (by omega) (by decide) d_M_goes_154 ?_
                refine zx_top (b := nI (r.1 0)) (congrArg nI (zm_c_at _ _ _ _)) ?_
                refine lv_icmp_ne (tgt := 164) X.1 X.2.1 d_M_goes_155 (by decide) (fun c20 => ?_) (fun c20 => ?_)
                · have c20 := mt (zn_eq (nI_toInt (by omega)) (nI_toInt (by omega))).mpr c20
                  refine lv_iconst (v := nI 1) X.1 X.2.1 d_M_goes_164 (by decide) ?_
                  exact zx_iret X hr hlk hH (Nat.le_of_ble_eq_true rfl) (Nat.le_of_ble_eq_true rfl) d_M_goes_165 ⟨rfl, rfl, by rw [zp_turn_step (by omega) (by omega) dw (by omega)]; exact ⟨rfl, (by rw [← zm_step_dn (ar := va_up r.2 2 (zp_tw (r.2 0) (r.2 1) (r.1 3 + 1) (r.1 8) 0 (r.2 2) ev).2.1) (show r.2 3 (r.1 3 + 1) = 2 by omega) (by omega)]; exact hM), hF⟩⟩
                · have c20 := (zn_eq (nI_toInt (by omega)) (nI_toInt (by omega))).mp c20
                  refine lv_aload_n X.1 X.2.1 d_M_goes_158 rfl (lv_at hl 0 rfl) ?_
                  refine lv_iload_n X.1 X.2.1 d_M_goes_159 rfl (lv_at hl 1 rfl) ?_
                  refine lv_iconst (v := nI 1) X.1 X.2.1 d_M_goes_160 (by decide) ?_
                  refine zx_callv (zx_runV (As := [.int (nI (i + 1)), .int (nI (1))]) (rest := []) X hH mv_M_84 ((c_M_end g l N ad E19 (va_up q 5 (q 5 + 1)) rg (zp_tw (r.2 0) (r.2 1) (r.1 3 + 1) (r.1 8) 0 (r.2 2) ev).2.2 fs (va_up fl (q 5) (1000 * (i + 1) + (r.1 3 + 1))) i (va_up (va_up r.1 3 ((r.1 3) + (1))) 4 ((r.1 3) + (1)), va_up r.2 2 (zp_tw (r.2 0) (r.2 1) (r.1 3 + 1) (r.1 8) 0 (r.2 2) ev).2.1) hN hi (by show _ ≤ r.1 3 + 1; first | exact Nat.le_refl _ | (show r.1 4 ≤ _; omega)) hM 1 (by decide)) _) (by omega) hM.1 rfl ⟨Nat.le_of_ble_eq_true rfl, Nat.le_of_ble_eq_true rfl⟩ rfl hl rfl (Nat.le_of_ble_eq_true rfl) d_M_goes_161 ⟨Nat.le_of_ble_eq_true rfl, Nat.le_of_ble_eq_true rfl⟩) hH (fun N1 ad1 E9 H locs hq hH => ?_)
                  obtain ⟨rfl, rfl, hM, hF1⟩ := hq
                  have hF := hF.tr hF1
                  refine lv_iconst (v := nI 1) X.1 X.2.1 d_M_goes_164 (by decide) ?_
                  exact zx_iret X hr hlk hH (Nat.le_of_ble_eq_true rfl) (Nat.le_of_ble_eq_true rfl) d_M_goes_165 ⟨rfl, rfl, by rw [zp_turn_step (by omega) (by omega) dw (by omega)]; exact ⟨rfl, (by rw [← zm_step_dd (ar := va_up r.2 2 (zp_tw (r.2 0) (r.2 1) (r.1 3 + 1) (r.1 8) 0 (r.2 2) ev).2.1) (show r.2 3 (r.1 3 + 1) = 2 by omega) (by omega) (hz5 (by omega))]; exact hM), hF⟩⟩
            · have c13 := (zn_eq (nI_toInt (by omega)) (nI_toInt (by omega))).mp c13
              refine lv_aload_n X.1 X.2.1 d_M_goes_63 rfl (lv_at hl 0 rfl) ?_
              refine lv_iload_n X.1 X.2.1 d_M_goes_64 rfl (lv_at hl 1 rfl) ?_
              refine lv_iconst (v := nI 2) X.1 X.2.1 d_M_goes_65 (by decide) ?_
              refine zx_callv (zx_runV (As := [.int (nI (i + 1)), .int (nI (2))]) (rest := []) X hH mv_M_84 ((c_M_end g l N ad E8 q rg (zp_tw (r.2 0) (r.2 1) (r.1 3 + 1) (r.1 8) 0 (r.2 2) ev).2.2 fs fl i (r.1, va_up r.2 2 (zp_tw (r.2 0) (r.2 1) (r.1 3 + 1) (r.1 8) 0 (r.2 2) ev).2.1) hN hi r4 hM 2 (by decide)) _) (by omega) hM.1 rfl ⟨Nat.le_of_ble_eq_true rfl, Nat.le_of_ble_eq_true rfl⟩ rfl hl rfl (Nat.le_of_ble_eq_true rfl) d_M_goes_66 ⟨Nat.le_of_ble_eq_true rfl, Nat.le_of_ble_eq_true rfl⟩) hH (fun N1 ad1 E9 H locs hq hH => ?_)
              obtain ⟨rfl, rfl, hM, hF1⟩ := hq
              have hF := hF.tr hF1
              refine lv_iconst (v := nI 2) X.1 X.2.1 d_M_goes_69 (by decide) ?_
              exact zx_iret X hr hlk hH (Nat.le_of_ble_eq_true rfl) (Nat.le_of_ble_eq_true rfl) d_M_goes_70 ⟨rfl, rfl, by rw [zp_turn_fail (by omega) (by omega) dw (by omega)]; exact ⟨rfl, (by rw [← zm_end_back (by decide)]; exact hM), hF⟩⟩
          · refine zx_top (b := nI 0) (by rw [if_neg dw]) ?_
            refine lv_if_ne (tgt := 46) X.1 X.2.1 d_M_goes_41 (by decide) (fun z => absurd (by decide) z) (fun _ => ?_)
            refine lv_iconst (v := nI 0) X.1 X.2.1 d_M_goes_44 (by decide) ?_
            exact zx_iret X hr hlk hH (Nat.le_of_ble_eq_true rfl) (Nat.le_of_ble_eq_true rfl) d_M_goes_45 ⟨rfl, rfl, by rw [zp_turn_wait (by omega) (by omega) dw]; exact ⟨rfl, hM, hF⟩⟩
        · exact absurd z (by decide)
      · refine zx_top (b := nI 0) (by rw [if_neg d12]) ?_
        refine lv_if_ne (tgt := 36) X.1 X.2.1 d_M_goes_25 (by decide) (fun z => ?_) (fun z => ?_)
        · exact absurd z (by decide)
        · clear z
          refine lv_aload_n X.1 X.2.1 d_M_goes_28 rfl (lv_at hl 0 rfl) ?_
          refine lv_iload_n X.1 X.2.1 d_M_goes_29 rfl (lv_at hl 1 rfl) ?_
          refine lv_iconst (v := nI 3) X.1 X.2.1 d_M_goes_30 (by decide) ?_
          refine zx_callv (zx_runV (As := [.int (nI (i + 1)), .int (nI (3))]) (rest := []) X hH mv_M_84 ((c_M_end g l N ad E q rg ev fs fl i r hN hi r4 hM 3 (by decide)) _) (by omega) hM.1 rfl ⟨Nat.le_of_ble_eq_true rfl, Nat.le_of_ble_eq_true rfl⟩ rfl hl rfl (Nat.le_of_ble_eq_true rfl) d_M_goes_31 ⟨Nat.le_of_ble_eq_true rfl, Nat.le_of_ble_eq_true rfl⟩) hH (fun N1 ad1 E9 H locs hq hH => ?_)
          obtain ⟨rfl, rfl, hM, hF1⟩ := hq
          have hF := hF.tr hF1
          refine lv_iconst (v := nI 2) X.1 X.2.1 d_M_goes_34 (by decide) ?_
          exact zx_iret X hr hlk hH (Nat.le_of_ble_eq_true rfl) (Nat.le_of_ble_eq_true rfl) d_M_goes_35 ⟨rfl, rfl, by rw [zp_turn_cancel (by omega) (by omega) (by omega)]; exact ⟨rfl, (by rw [← zm_end_back (by decide)]; exact hM), hF⟩⟩
  · have c2 := mt (zn_eq (nI_toInt (by omega)) zn_0).mpr c2
    refine lv_iconst (v := nI 0) X.1 X.2.1 d_M_goes_9 (by decide) ?_
    exact zx_iret X hr hlk hH (Nat.le_of_ble_eq_true rfl) (Nat.le_of_ble_eq_true rfl) d_M_goes_10 ⟨rfl, rfl, by rw [zp_turn_off (by omega)]; exact ⟨rfl, hM, hF⟩⟩
end
section
/-! What both sides keep beside zt_ok -/
def zs_r (r : (Nat → Nat) × (Nat → Nat → Nat)) : Prop := 1 ≤ r.1 0 ∧ (r.1 2 = 0 → r.1 5 = 0) ∧ r.2 3 0 = 0
def zp_sum (rg : zt_R) : Nat → Nat
  | 0 => 0
  | n + 1 => zp_sum rg n + (rg n).1 3
def zs_inv (q : Nat → Nat) (rg : zt_R) : Prop := (∀ i, i < q 0 → zs_r (rg i)) ∧ (∀ i, q 0 ≤ i → rg i = (fun _ => 0, fun _ _ => 0)) ∧ q 5 ≤ zp_sum rg (q 0)
theorem zp_sum_same {rg rg2 : zt_R} : ∀ n, (∀ j, j < n → (rg2 j).1 3 = (rg j).1 3) → zp_sum rg2 n = zp_sum rg n := by
  intro n
  induction n with
  | zero => intro _; rfl
  | succ n ih =>
    intro h
    show zp_sum rg2 n + _ = zp_sum rg n + _
    rw [ih (fun j hj => h j (by omega)), h n (by omega)]
theorem zp_sum_up {rg : zt_R} {i : Nat} {r : (Nat → Nat) × (Nat → Nat → Nat)} : ∀ n, i < n → zp_sum (va_up rg i r) n + (rg i).1 3 = zp_sum rg n + r.1 3 := by
  intro n
  induction n with
  | zero => intro h; exact absurd h (Nat.not_lt_zero _)
  | succ n ih =>
    intro h
    show zp_sum (va_up rg i r) n + (va_up rg i r n).1 3 + _ = zp_sum rg n + (rg n).1 3 + _
    by_cases e : n = i
    · subst e
      rw [va_up_self, zp_sum_same n (fun j hj => by rw [va_up_ne _ _ (by omega)])]
      omega
    · have := ih (by omega)
      rw [va_up_ne _ _ e]
      omega
theorem zp_sum_le {rg : zt_R} : ∀ n, (∀ j, j < n → (rg j).1 3 ≤ 100) → zp_sum rg n ≤ 100 * n := by
  intro n
  induction n with
  | zero => intro _; exact Nat.le_refl _
  | succ n ih =>
    intro h
    have h1 := ih (fun j hj => h j (by omega))
    have h2 := h n (by omega)
    show zp_sum rg n + _ ≤ _
    omega
theorem zp_sum_lt {rg : zt_R} {i : Nat} : ∀ n, (∀ j, j < n → (rg j).1 3 ≤ 100) → i < n → (rg i).1 3 < 100 → zp_sum rg n < 100 * n := by
  intro n
  induction n with
  | zero => intro _ h; exact absurd h (Nat.not_lt_zero _)
  | succ n ih =>
    intro h hi h3
    show zp_sum rg n + _ < _
    by_cases e : n = i
    · subst e
      have := zp_sum_le n (fun j hj => h j (by omega))
      omega
    · have h1 := ih (fun j hj => h j (by omega)) (by omega) h3
      have h2 := h n (by omega)
      omega
theorem zs_lt {q : Nat → Nat} {rg : zt_R} {ev sf : Nat → Nat} {i : Nat} (h : zt_ok q rg ev sf) (hv : zs_inv q rg) (hi : i < q 0) (h2 : (rg i).1 2 = 0) : q 5 < 3000 := by
  have hb : ∀ j, j < q 0 → (rg j).1 3 ≤ 100 := fun j hj => by
    obtain ⟨k0, k1, k2, k3, -⟩ := (h.2.1 j hj).1
    omega
  obtain ⟨k0, k1, k2, k3, k4, k5, k7, k8, k6⟩ := (h.2.1 i hi).1
  have hlt := zp_sum_lt (i := i) (q 0) hb hi (by have := k6 h2; omega)
  have hq := h.1.1
  have := hv.2.2
  omega
theorem zp_step_3 (sc : Nat → Nat) (ar : Nat → Nat → Nat) (t : Nat) : zp_step sc ar t 3 = t ∧ zp_step sc ar t 0 = sc 0 ∧ zp_step sc ar t 5 = sc 5 := by
  unfold zp_step zp_s2
  split <;> split <;> exact ⟨rfl, rfl, rfl⟩
theorem zp_turn_3 (sc : Nat → Nat) (ar : Nat → Nat → Nat) (ev : Nat → Nat) : ((zp_turn sc ar ev).1 = 1 ∧ sc 2 = 0 ∧ (zp_turn sc ar ev).2.1 3 = sc 3 + 1) ∨ (¬ (zp_turn sc ar ev).1 = 1 ∧ (zp_turn sc ar ev).2.1 3 = sc 3) := by
  by_cases d0 : sc 2 = 0
  · by_cases d1 : sc 7 = 1 ∧ ¬ ar 3 (sc 3) = 1
    · rw [zp_turn_cancel d0 d1.1 d1.2]; exact Or.inr ⟨fun z => absurd (show (2 : Nat) = 1 from z) (by decide), rfl⟩
    · by_cases d2 : (zp_tw (ar 0) (ar 1) (sc 3 + 1) (sc 8) 0 (ar 2) ev).1 = true
      · by_cases d3 : sc 3 + 1 = sc 1
        · rw [zp_turn_fail d0 d1 d2 d3]; exact Or.inr ⟨fun z => absurd (show (2 : Nat) = 1 from z) (by decide), rfl⟩
        · rw [zp_turn_step d0 d1 d2 d3]; exact Or.inl ⟨rfl, d0, (zp_step_3 _ _ _).1⟩
      · rw [zp_turn_wait d0 d1 d2]; exact Or.inr ⟨fun z => absurd (show (0 : Nat) = 1 from z) (by decide), rfl⟩
  · rw [zp_turn_off d0]; exact Or.inr ⟨fun z => absurd (show (0 : Nat) = 1 from z) (by decide), rfl⟩
theorem zs_r.turn {r : (Nat → Nat) × (Nat → Nat → Nat)} (h : zs_r r) (ev : Nat → Nat) : zs_r ((zp_turn r.1 r.2 ev).2.1, (zp_turn r.1 r.2 ev).2.2.1) := by
  obtain ⟨h0, h5, h3⟩ := h
  by_cases d0 : r.1 2 = 0
  · by_cases d1 : r.1 7 = 1 ∧ ¬ r.2 3 (r.1 3) = 1
    · rw [zp_turn_cancel d0 d1.1 d1.2]; exact ⟨h0, fun z => absurd (show (3 : Nat) = 0 from z) (by decide), h3⟩
    · by_cases d2 : (zp_tw (r.2 0) (r.2 1) (r.1 3 + 1) (r.1 8) 0 (r.2 2) ev).1 = true
      · by_cases d3 : r.1 3 + 1 = r.1 1
        · rw [zp_turn_fail d0 d1 d2 d3]; exact ⟨h0, fun z => absurd (show (2 : Nat) = 0 from z) (by decide), h3⟩
        · rw [zp_turn_step d0 d1 d2 d3]
          obtain ⟨-, a, b⟩ := zp_step_3 r.1 (va_up r.2 2 (zp_tw (r.2 0) (r.2 1) (r.1 3 + 1) (r.1 8) 0 (r.2 2) ev).2.1) (r.1 3 + 1)
          exact ⟨by rw [show (zp_step _ _ _, _).1 0 = r.1 0 from a]; exact h0, fun _ => b.trans (h5 d0), h3⟩
      · rw [zp_turn_wait d0 d1 d2]; exact ⟨h0, h5, h3⟩
  · rw [zp_turn_off d0]; exact ⟨h0, h5, h3⟩
theorem zs_inv.up {q : Nat → Nat} {rg : zt_R} {i : Nat} {r : (Nat → Nat) × (Nat → Nat → Nat)} (h : zs_inv q rg) (hi : i < q 0) (hr : zs_r r) (h3 : (rg i).1 3 ≤ r.1 3) : zs_inv q (va_up rg i r) := by
  obtain ⟨a, b, c⟩ := h
  refine ⟨fun j hj => ?_, fun j hj => ?_, ?_⟩
  · by_cases e : j = i
    · subst e; rw [va_up_self]; exact hr
    · rw [va_up_ne _ _ e]; exact a j hj
  · rw [va_up_ne _ _ (by omega)]; exact b j hj
  · have := zp_sum_up (rg := rg) (r := r) (q 0) hi
    omega
theorem zp_log_5 {q lf : Nat → Nat} {v : Nat} (h : q 5 < 3000) : (zp_log q lf v).1 5 = q 5 + 1 := by
  by_cases d : q 6 ≤ q 5
  · rw [zp_log_grow (by omega) d]; rfl
  · rw [zp_log_room (by omega) d]; rfl
theorem zp_log_f {q lf : Nat → Nat} {v : Nat} (h : q 5 < 3000) (h6 : q 5 ≤ q 6) : (zp_log q lf v).2 (q 5) = v ∧ ∀ j, j < q 5 → (zp_log q lf v).2 j = lf j := by
  by_cases d : q 6 ≤ q 5
  · rw [zp_log_grow (by omega) d]
    refine ⟨va_up_self (fun j => if j < q 6 then lf j else 0) (q 5) v, fun j hj => ?_⟩
    show va_up (fun j => if j < q 6 then lf j else 0) (q 5) v j = _
    rw [va_up_ne _ _ (by omega)]
    show (if j < q 6 then lf j else 0) = _
    rw [if_pos (by omega)]
  · rw [zp_log_room (by omega) d]
    exact ⟨va_up_self lf (q 5) v, fun j hj => va_up_ne lf v (show j ≠ q 5 by omega)⟩
theorem zs_inv.q {q q1 : Nat → Nat} {rg : zt_R} (h : zs_inv q rg) (h0 : q1 0 = q 0) (h5 : q1 5 = q 5) : zs_inv q1 rg := by
  obtain ⟨a, b, c⟩ := h
  exact ⟨fun j hj => a j (by omega), fun j hj => b j (by omega), by rw [h0, h5]; exact c⟩
theorem zs_inv.give {q : Nat → Nat} {rg : zt_R} {ev sf lf : Nat → Nat} {i : Nat} (h : zt_ok q rg ev sf) (hv : zs_inv q rg) (hi : i < q 0) : zs_inv (zp_give (q, rg, ev, lf) i).2.1 (zp_give (q, rg, ev, lf) i).2.2.1 := by
  have ht := (hv.1 i hi).turn ev
  rcases zp_turn_3 (rg i).1 (rg i).2 ev with ⟨d, d2, h3⟩ | ⟨d, h3⟩
  · have hlt := zs_lt h hv hi d2
    rw [zp_give_yes rfl d]
    have hu := hv.up hi ht (by show _ ≤ (zp_turn (rg i).1 (rg i).2 ev).2.1 3; omega)
    have hs := zp_sum_up (rg := rg) (r := ((zp_turn (rg i).1 (rg i).2 ev).2.1, (zp_turn (rg i).1 (rg i).2 ev).2.2.1)) (q 0) hi
    have h5 := zp_log_5 (lf := lf) (v := 1000 * (i + 1) + (zp_turn (rg i).1 (rg i).2 ev).2.1 3) hlt
    have h0 := (zp_log_fix q lf (1000 * (i + 1) + (zp_turn (rg i).1 (rg i).2 ev).2.1 3)).1
    have hs : zp_sum (va_up rg i ((zp_turn (rg i).1 (rg i).2 ev).2.1, (zp_turn (rg i).1 (rg i).2 ev).2.2.1)) (q 0) + (rg i).1 3 = zp_sum rg (q 0) + (zp_turn (rg i).1 (rg i).2 ev).2.1 3 := hs
    obtain ⟨a, b, c⟩ := hu
    have c0 := hv.2.2
    exact ⟨fun j hj => a j (by rw [← h0]; exact hj), fun j hj => b j (by rw [← h0]; exact hj), by show (zp_log q lf (1000 * (i + 1) + (zp_turn (rg i).1 (rg i).2 ev).2.1 3)).1 5 ≤ zp_sum (va_up rg i ((zp_turn (rg i).1 (rg i).2 ev).2.1, (zp_turn (rg i).1 (rg i).2 ev).2.2.1)) ((zp_log q lf (1000 * (i + 1) + (zp_turn (rg i).1 (rg i).2 ev).2.1 3)).1 0); rw [h0, h5]; omega⟩
  · rw [zp_give_no rfl d]
    exact hv.up hi ht (by show _ ≤ (zp_turn (rg i).1 (rg i).2 ev).2.1 3; omega)
/-- what goes leaves, said by zp_give -/
theorem zm_give {g : zw_G} {ad : Nat → Nat} {E1 : Nat → va_E} {q : Nat → Nat} {rg : zt_R} {ev sf fs fl lf : Nat → Nat} {i : Nat} (h : zt_ok q rg ev sf) (hv : zs_inv q rg) (hi : i < q 0) (hfl : ∀ j, j < q 5 → fl j = lf j)
    (hM : zm_at g ad E1 (if (zp_turn (rg i).1 (rg i).2 ev).1 = 1 then va_up q 5 (q 5 + 1) else q) (va_up rg i ((zp_turn (rg i).1 (rg i).2 ev).2.1, (zp_turn (rg i).1 (rg i).2 ev).2.2.1)) (zp_turn (rg i).1 (rg i).2 ev).2.2.2 fs (if (zp_turn (rg i).1 (rg i).2 ev).1 = 1 then va_up fl (q 5) (1000 * (i + 1) + ((rg i).1 3 + 1)) else fl)) :
    (zp_give (q, rg, ev, lf) i).1 = (zp_turn (rg i).1 (rg i).2 ev).1 ∧ ∃ fl1, zm_at g ad E1 (zp_give (q, rg, ev, lf) i).2.1 (zp_give (q, rg, ev, lf) i).2.2.1 (zp_give (q, rg, ev, lf) i).2.2.2.1 fs fl1 ∧ ∀ j, j < (zp_give (q, rg, ev, lf) i).2.1 5 → fl1 j = (zp_give (q, rg, ev, lf) i).2.2.2.2 j := by
  rcases zp_turn_3 (rg i).1 (rg i).2 ev with ⟨d, d2, h3⟩ | ⟨d, h3⟩
  · have hlt := zs_lt h hv hi d2
    rw [if_pos d, if_pos d] at hM
    rw [zp_give_yes rfl d]
    obtain ⟨a0, a1, a2, a3, a4, a6⟩ := zp_log_fix q lf (1000 * (i + 1) + (zp_turn (rg i).1 (rg i).2 ev).2.1 3)
    have a5 := zp_log_5 (lf := lf) (v := 1000 * (i + 1) + (zp_turn (rg i).1 (rg i).2 ev).2.1 3) hlt
    obtain ⟨f1, f2⟩ := zp_log_f (lf := lf) (v := 1000 * (i + 1) + (zp_turn (rg i).1 (rg i).2 ev).2.1 3) hlt h.1.2.2.2.2.2.2.2.1
    refine ⟨d.symm, _, hM.q a0 a1 a2 a3 a5, fun j hj => ?_⟩
    have hj : j < (zp_log q lf (1000 * (i + 1) + (zp_turn (rg i).1 (rg i).2 ev).2.1 3)).1 5 := hj
    by_cases e : j = q 5
    · subst e
      rw [va_up_self]
      show _ = (zp_log q lf _).2 (q 5)
      rw [f1, h3]
    · rw [va_up_ne _ _ e]
      show _ = (zp_log q lf _).2 j
      rw [f2 j (by omega)]
      exact hfl j (by omega)
  · rw [if_neg d, if_neg d] at hM
    rw [zp_give_no rfl d]
    exact ⟨rfl, fl, hM, hfl⟩
end
section
set_option maxHeartbeats 4000000 in
set_option maxRecDepth 100000 in
theorem c_M_cleaned (g : zw_G) (l : Launch) (N : Nat) (ad : Nat → Nat) (E : Nat → va_E) (q : Nat → Nat) (rg : zt_R) (ev sf fs fl : Nat → Nat) (hN : 25 ≤ N) (hok : zt_ok q rg ev sf) (hv : zs_inv q rg) (hM : zm_at g ad E q rg ev fs fl) (x : Int32) : zc_i g l y_M_cleaned b_M_cleaned 2 (some .int) { frames := 1, cells := 0, slots := 0, locals := 40 } [.ref (ad (8)), .int (x)] N ad E (fun v N1 ad1 E1 => N = N1 ∧ ad = ad1 ∧ E = E1 ∧ v = if 1 ≤ x.toInt ∧ x.toInt ≤ (q 0 : Int) then nI ((rg (x.toInt.toNat - 1)).1 6) else -2) := by
  refine zc_i.of (by decide) (Nat.le_of_ble_eq_true rfl) ?_
  intro p e s m below meth c ls A X hr hlk hl hH
  have hl : lv_has ls 2 [(0, .ref (ad (8))), (1, .int (x))] := hl
  obtain ⟨k0, k2, k3, k3a, k4, k4a, k5, k5a, k6, k6a⟩ := hok.1
  have hF : zm_fr E E := zm_fr.rf
  refine lv_aload_n X.1 X.2.1 d_M_cleaned_0 rfl (lv_at hl 0 rfl) ?_
  refine lv_iconst (v := nI 0) X.1 X.2.1 d_M_cleaned_1 (by decide) ?_
  refine zx_put X hH fp_M_59 (by omega) hM.1 (Nat.le_of_ble_eq_true rfl) rfl rfl d_M_cleaned_2 (fun H locs hH => ?_)
  have hH : zw_H g A s.heap s N ad (va_up E 8 (zm_o ad q)) H locs := hH
  rw [← hM.1, ← zr_id] at hH
  refine lv_aload_n X.1 X.2.1 d_M_cleaned_5 rfl (lv_at hl 0 rfl) ?_
  refine lv_iload_n X.1 X.2.1 d_M_cleaned_6 rfl (lv_at hl 1 rfl) ?_
  refine zx_calli (zx_runV (As := [.int (x)]) (rest := []) X hH mv_M_70 ((c_M_isRegion g l N ad E q rg ev fs fl hN (by omega) hM x) _) (by omega) hM.1 rfl ⟨Nat.le_of_ble_eq_true rfl, Nat.le_of_ble_eq_true rfl⟩ rfl hl rfl (Nat.le_of_ble_eq_true rfl) d_M_cleaned_7 ⟨Nat.le_of_ble_eq_true rfl, Nat.le_of_ble_eq_true rfl⟩) hH (fun r N1 ad1 E1 H locs hq hH => ?_)
  obtain ⟨rfl, rfl, rfl, rfl⟩ := hq
  by_cases d1 : 1 ≤ x.toInt ∧ x.toInt ≤ (q 0 : Int)
  · refine zx_top (b := nI 1) (by rw [if_pos d1]) ?_
    refine lv_if_eq (tgt := 22) X.1 X.2.1 d_M_cleaned_10 (by decide) (fun z => absurd z (by decide)) (fun _ => ?_)
    obtain ⟨i, hi⟩ : ∃ i, i = x.toInt.toNat - 1 := ⟨_, rfl⟩
    have hi0 : i < q 0 := by omega
    have hx9 : x = nI (i + 1) := zn_of (by omega)
    have hro := hok.2.1 i hi0
    obtain ⟨r0, r1, r2, r3, r4, r5, r7, r8, r6⟩ := hro.1
    obtain ⟨v0, v5, v3⟩ := hv.1 i hi0
    rw [hx9] at hl
    have hM := hM.rg (zr_id rg i)
    refine lv_aload_n X.1 X.2.1 d_M_cleaned_13 rfl (lv_at hl 0 rfl) ?_
    refine zx_get (v := .ref (ad (14))) X hH fg_M_25 (by omega) hM.1 rfl d_M_cleaned_14 ?_
    refine lv_iload_n X.1 X.2.1 d_M_cleaned_17 rfl (lv_at hl 1 rfl) ?_
    refine zx_iald (j := i + 1) X hH (by omega) (show E 14 = zr_ia g 31 (zm_c (va_up rg i (rg i)) 6) from hM.2.2.2.2.2.2.1) rfl (by omega) (by decide) d_M_cleaned_18 ?_
    refine zx_top (b := nI ((rg i).1 6)) (congrArg nI (zm_c_at _ _ _ _)) ?_
    refine lv_goto (tgt := 24) X.1 X.2.1 d_M_cleaned_19 (by decide) ?_
    exact zx_iret X hr hlk hH (Nat.le_of_ble_eq_true rfl) (Nat.le_of_ble_eq_true rfl) d_M_cleaned_24 ⟨rfl, rfl, rfl, (by rw [if_pos d1, hi])⟩
  · refine zx_top (b := nI 0) (by rw [if_neg d1]) ?_
    refine lv_if_eq (tgt := 22) X.1 X.2.1 d_M_cleaned_10 (by decide) (fun _ => ?_) (fun z => absurd rfl z)
    refine lv_bipush (v := (-2)) X.1 X.2.1 d_M_cleaned_22 (by decide) ?_
    exact zx_iret X hr hlk hH (Nat.le_of_ble_eq_true rfl) (Nat.le_of_ble_eq_true rfl) d_M_cleaned_24 ⟨rfl, rfl, rfl, (by rw [if_neg d1])⟩

set_option maxHeartbeats 4000000 in
set_option maxRecDepth 100000 in
theorem c_M_backed (g : zw_G) (l : Launch) (N : Nat) (ad : Nat → Nat) (E : Nat → va_E) (q : Nat → Nat) (rg : zt_R) (ev sf fs fl : Nat → Nat) (hN : 25 ≤ N) (hok : zt_ok q rg ev sf) (hv : zs_inv q rg) (hM : zm_at g ad E q rg ev fs fl) (x : Int32) : zc_i g l y_M_backed b_M_backed 2 (some .int) { frames := 1, cells := 0, slots := 0, locals := 40 } [.ref (ad (8)), .int (x)] N ad E (fun v N1 ad1 E1 => N = N1 ∧ ad = ad1 ∧ E = E1 ∧ v = if 1 ≤ x.toInt ∧ x.toInt ≤ (q 0 : Int) then nI ((rg (x.toInt.toNat - 1)).1 5) else -2) := by
  refine zc_i.of (by decide) (Nat.le_of_ble_eq_true rfl) ?_
  intro p e s m below meth c ls A X hr hlk hl hH
  have hl : lv_has ls 2 [(0, .ref (ad (8))), (1, .int (x))] := hl
  obtain ⟨k0, k2, k3, k3a, k4, k4a, k5, k5a, k6, k6a⟩ := hok.1
  have hF : zm_fr E E := zm_fr.rf
  refine lv_aload_n X.1 X.2.1 d_M_backed_0 rfl (lv_at hl 0 rfl) ?_
  refine lv_iconst (v := nI 0) X.1 X.2.1 d_M_backed_1 (by decide) ?_
  refine zx_put X hH fp_M_59 (by omega) hM.1 (Nat.le_of_ble_eq_true rfl) rfl rfl d_M_backed_2 (fun H locs hH => ?_)
  have hH : zw_H g A s.heap s N ad (va_up E 8 (zm_o ad q)) H locs := hH
  rw [← hM.1, ← zr_id] at hH
  refine lv_aload_n X.1 X.2.1 d_M_backed_5 rfl (lv_at hl 0 rfl) ?_
  refine lv_iload_n X.1 X.2.1 d_M_backed_6 rfl (lv_at hl 1 rfl) ?_
  refine zx_calli (zx_runV (As := [.int (x)]) (rest := []) X hH mv_M_70 ((c_M_isRegion g l N ad E q rg ev fs fl hN (by omega) hM x) _) (by omega) hM.1 rfl ⟨Nat.le_of_ble_eq_true rfl, Nat.le_of_ble_eq_true rfl⟩ rfl hl rfl (Nat.le_of_ble_eq_true rfl) d_M_backed_7 ⟨Nat.le_of_ble_eq_true rfl, Nat.le_of_ble_eq_true rfl⟩) hH (fun r N1 ad1 E1 H locs hq hH => ?_)
  obtain ⟨rfl, rfl, rfl, rfl⟩ := hq
  by_cases d1 : 1 ≤ x.toInt ∧ x.toInt ≤ (q 0 : Int)
  · refine zx_top (b := nI 1) (by rw [if_pos d1]) ?_
    refine lv_if_eq (tgt := 22) X.1 X.2.1 d_M_backed_10 (by decide) (fun z => absurd z (by decide)) (fun _ => ?_)
    obtain ⟨i, hi⟩ : ∃ i, i = x.toInt.toNat - 1 := ⟨_, rfl⟩
    have hi0 : i < q 0 := by omega
    have hx9 : x = nI (i + 1) := zn_of (by omega)
    have hro := hok.2.1 i hi0
    obtain ⟨r0, r1, r2, r3, r4, r5, r7, r8, r6⟩ := hro.1
    obtain ⟨v0, v5, v3⟩ := hv.1 i hi0
    rw [hx9] at hl
    have hM := hM.rg (zr_id rg i)
    refine lv_aload_n X.1 X.2.1 d_M_backed_13 rfl (lv_at hl 0 rfl) ?_
    refine zx_get (v := .ref (ad (15))) X hH fg_M_28 (by omega) hM.1 rfl d_M_backed_14 ?_
    refine lv_iload_n X.1 X.2.1 d_M_backed_17 rfl (lv_at hl 1 rfl) ?_
    refine zx_iald (j := i + 1) X hH (by omega) (show E 15 = zr_ia g 31 (zm_c (va_up rg i (rg i)) 5) from hM.2.2.2.2.2.2.2.1) rfl (by omega) (by decide) d_M_backed_18 ?_
    refine zx_top (b := nI ((rg i).1 5)) (congrArg nI (zm_c_at _ _ _ _)) ?_
    refine lv_goto (tgt := 24) X.1 X.2.1 d_M_backed_19 (by decide) ?_
    exact zx_iret X hr hlk hH (Nat.le_of_ble_eq_true rfl) (Nat.le_of_ble_eq_true rfl) d_M_backed_24 ⟨rfl, rfl, rfl, (by rw [if_pos d1, hi])⟩
  · refine zx_top (b := nI 0) (by rw [if_neg d1]) ?_
    refine lv_if_eq (tgt := 22) X.1 X.2.1 d_M_backed_10 (by decide) (fun _ => ?_) (fun z => absurd rfl z)
    refine lv_bipush (v := (-2)) X.1 X.2.1 d_M_backed_22 (by decide) ?_
    exact zx_iret X hr hlk hH (Nat.le_of_ble_eq_true rfl) (Nat.le_of_ble_eq_true rfl) d_M_backed_24 ⟨rfl, rfl, rfl, (by rw [if_neg d1])⟩

set_option maxHeartbeats 4000000 in
set_option maxRecDepth 100000 in
theorem c_M_finished (g : zw_G) (l : Launch) (N : Nat) (ad : Nat → Nat) (E : Nat → va_E) (q : Nat → Nat) (rg : zt_R) (ev sf fs fl : Nat → Nat) (hN : 25 ≤ N) (hok : zt_ok q rg ev sf) (hv : zs_inv q rg) (hM : zm_at g ad E q rg ev fs fl) (x : Int32) : zc_i g l y_M_finished b_M_finished 2 (some .int) { frames := 1, cells := 0, slots := 0, locals := 40 } [.ref (ad (8)), .int (x)] N ad E (fun v N1 ad1 E1 => N = N1 ∧ ad = ad1 ∧ E = E1 ∧ v = if 1 ≤ x.toInt ∧ x.toInt ≤ (q 0 : Int) then nI ((rg (x.toInt.toNat - 1)).1 2) else -2) := by
  refine zc_i.of (by decide) (Nat.le_of_ble_eq_true rfl) ?_
  intro p e s m below meth c ls A X hr hlk hl hH
  have hl : lv_has ls 2 [(0, .ref (ad (8))), (1, .int (x))] := hl
  obtain ⟨k0, k2, k3, k3a, k4, k4a, k5, k5a, k6, k6a⟩ := hok.1
  have hF : zm_fr E E := zm_fr.rf
  refine lv_aload_n X.1 X.2.1 d_M_finished_0 rfl (lv_at hl 0 rfl) ?_
  refine lv_iconst (v := nI 0) X.1 X.2.1 d_M_finished_1 (by decide) ?_
  refine zx_put X hH fp_M_59 (by omega) hM.1 (Nat.le_of_ble_eq_true rfl) rfl rfl d_M_finished_2 (fun H locs hH => ?_)
  have hH : zw_H g A s.heap s N ad (va_up E 8 (zm_o ad q)) H locs := hH
  rw [← hM.1, ← zr_id] at hH
  refine lv_aload_n X.1 X.2.1 d_M_finished_5 rfl (lv_at hl 0 rfl) ?_
  refine lv_iload_n X.1 X.2.1 d_M_finished_6 rfl (lv_at hl 1 rfl) ?_
  refine zx_calli (zx_runV (As := [.int (x)]) (rest := []) X hH mv_M_70 ((c_M_isRegion g l N ad E q rg ev fs fl hN (by omega) hM x) _) (by omega) hM.1 rfl ⟨Nat.le_of_ble_eq_true rfl, Nat.le_of_ble_eq_true rfl⟩ rfl hl rfl (Nat.le_of_ble_eq_true rfl) d_M_finished_7 ⟨Nat.le_of_ble_eq_true rfl, Nat.le_of_ble_eq_true rfl⟩) hH (fun r N1 ad1 E1 H locs hq hH => ?_)
  obtain ⟨rfl, rfl, rfl, rfl⟩ := hq
  by_cases d1 : 1 ≤ x.toInt ∧ x.toInt ≤ (q 0 : Int)
  · refine zx_top (b := nI 1) (by rw [if_pos d1]) ?_
    refine lv_if_eq (tgt := 22) X.1 X.2.1 d_M_finished_10 (by decide) (fun z => absurd z (by decide)) (fun _ => ?_)
    obtain ⟨i, hi⟩ : ∃ i, i = x.toInt.toNat - 1 := ⟨_, rfl⟩
    have hi0 : i < q 0 := by omega
    have hx9 : x = nI (i + 1) := zn_of (by omega)
    have hro := hok.2.1 i hi0
    obtain ⟨r0, r1, r2, r3, r4, r5, r7, r8, r6⟩ := hro.1
    obtain ⟨v0, v5, v3⟩ := hv.1 i hi0
    rw [hx9] at hl
    have hM := hM.rg (zr_id rg i)
    refine lv_aload_n X.1 X.2.1 d_M_finished_13 rfl (lv_at hl 0 rfl) ?_
    refine zx_get (v := .ref (ad (11))) X hH fg_M_16 (by omega) hM.1 rfl d_M_finished_14 ?_
    refine lv_iload_n X.1 X.2.1 d_M_finished_17 rfl (lv_at hl 1 rfl) ?_
    refine zx_iald (j := i + 1) X hH (by omega) (show E 11 = zr_ia g 31 (zm_c (va_up rg i (rg i)) 2) from hM.2.2.2.1) rfl (by omega) (by decide) d_M_finished_18 ?_
    refine zx_top (b := nI ((rg i).1 2)) (congrArg nI (zm_c_at _ _ _ _)) ?_
    refine lv_goto (tgt := 24) X.1 X.2.1 d_M_finished_19 (by decide) ?_
    exact zx_iret X hr hlk hH (Nat.le_of_ble_eq_true rfl) (Nat.le_of_ble_eq_true rfl) d_M_finished_24 ⟨rfl, rfl, rfl, (by rw [if_pos d1, hi])⟩
  · refine zx_top (b := nI 0) (by rw [if_neg d1]) ?_
    refine lv_if_eq (tgt := 22) X.1 X.2.1 d_M_finished_10 (by decide) (fun _ => ?_) (fun z => absurd rfl z)
    refine lv_bipush (v := (-2)) X.1 X.2.1 d_M_finished_22 (by decide) ?_
    exact zx_iret X hr hlk hH (Nat.le_of_ble_eq_true rfl) (Nat.le_of_ble_eq_true rfl) d_M_finished_24 ⟨rfl, rfl, rfl, (by rw [if_neg d1])⟩

set_option maxHeartbeats 4000000 in
set_option maxRecDepth 100000 in
theorem c_M_done (g : zw_G) (l : Launch) (N : Nat) (ad : Nat → Nat) (E : Nat → va_E) (q : Nat → Nat) (rg : zt_R) (ev sf fs fl : Nat → Nat) (hN : 25 ≤ N) (hok : zt_ok q rg ev sf) (hv : zs_inv q rg) (hM : zm_at g ad E q rg ev fs fl) (x : Int32) : zc_i g l y_M_done b_M_done 2 (some .int) { frames := 1, cells := 0, slots := 0, locals := 40 } [.ref (ad (8)), .int (x)] N ad E (fun v N1 ad1 E1 => N = N1 ∧ ad = ad1 ∧ E = E1 ∧ v = if 1 ≤ x.toInt ∧ x.toInt ≤ (q 0 : Int) then nI ((rg (x.toInt.toNat - 1)).1 3) else -2) := by
  refine zc_i.of (by decide) (Nat.le_of_ble_eq_true rfl) ?_
  intro p e s m below meth c ls A X hr hlk hl hH
  have hl : lv_has ls 2 [(0, .ref (ad (8))), (1, .int (x))] := hl
  obtain ⟨k0, k2, k3, k3a, k4, k4a, k5, k5a, k6, k6a⟩ := hok.1
  have hF : zm_fr E E := zm_fr.rf
  refine lv_aload_n X.1 X.2.1 d_M_done_0 rfl (lv_at hl 0 rfl) ?_
  refine lv_iconst (v := nI 0) X.1 X.2.1 d_M_done_1 (by decide) ?_
  refine zx_put X hH fp_M_59 (by omega) hM.1 (Nat.le_of_ble_eq_true rfl) rfl rfl d_M_done_2 (fun H locs hH => ?_)
  have hH : zw_H g A s.heap s N ad (va_up E 8 (zm_o ad q)) H locs := hH
  rw [← hM.1, ← zr_id] at hH
  refine lv_aload_n X.1 X.2.1 d_M_done_5 rfl (lv_at hl 0 rfl) ?_
  refine lv_iload_n X.1 X.2.1 d_M_done_6 rfl (lv_at hl 1 rfl) ?_
  refine zx_calli (zx_runV (As := [.int (x)]) (rest := []) X hH mv_M_70 ((c_M_isRegion g l N ad E q rg ev fs fl hN (by omega) hM x) _) (by omega) hM.1 rfl ⟨Nat.le_of_ble_eq_true rfl, Nat.le_of_ble_eq_true rfl⟩ rfl hl rfl (Nat.le_of_ble_eq_true rfl) d_M_done_7 ⟨Nat.le_of_ble_eq_true rfl, Nat.le_of_ble_eq_true rfl⟩) hH (fun r N1 ad1 E1 H locs hq hH => ?_)
  obtain ⟨rfl, rfl, rfl, rfl⟩ := hq
  by_cases d1 : 1 ≤ x.toInt ∧ x.toInt ≤ (q 0 : Int)
  · refine zx_top (b := nI 1) (by rw [if_pos d1]) ?_
    refine lv_if_eq (tgt := 22) X.1 X.2.1 d_M_done_10 (by decide) (fun z => absurd z (by decide)) (fun _ => ?_)
    obtain ⟨i, hi⟩ : ∃ i, i = x.toInt.toNat - 1 := ⟨_, rfl⟩
    have hi0 : i < q 0 := by omega
    have hx9 : x = nI (i + 1) := zn_of (by omega)
    have hro := hok.2.1 i hi0
    obtain ⟨r0, r1, r2, r3, r4, r5, r7, r8, r6⟩ := hro.1
    obtain ⟨v0, v5, v3⟩ := hv.1 i hi0
    rw [hx9] at hl
    have hM := hM.rg (zr_id rg i)
    refine lv_aload_n X.1 X.2.1 d_M_done_13 rfl (lv_at hl 0 rfl) ?_
    refine zx_get (v := .ref (ad (12))) X hH fg_M_19 (by omega) hM.1 rfl d_M_done_14 ?_
    refine lv_iload_n X.1 X.2.1 d_M_done_17 rfl (lv_at hl 1 rfl) ?_
    refine zx_iald (j := i + 1) X hH (by omega) (show E 12 = zr_ia g 31 (zm_c (va_up rg i (rg i)) 3) from hM.2.2.2.2.1) rfl (by omega) (by decide) d_M_done_18 ?_
    refine zx_top (b := nI ((rg i).1 3)) (congrArg nI (zm_c_at _ _ _ _)) ?_
    refine lv_goto (tgt := 24) X.1 X.2.1 d_M_done_19 (by decide) ?_
    exact zx_iret X hr hlk hH (Nat.le_of_ble_eq_true rfl) (Nat.le_of_ble_eq_true rfl) d_M_done_24 ⟨rfl, rfl, rfl, (by rw [if_pos d1, hi])⟩
  · refine zx_top (b := nI 0) (by rw [if_neg d1]) ?_
    refine lv_if_eq (tgt := 22) X.1 X.2.1 d_M_done_10 (by decide) (fun _ => ?_) (fun z => absurd rfl z)
    refine lv_bipush (v := (-2)) X.1 X.2.1 d_M_done_22 (by decide) ?_
    exact zx_iret X hr hlk hH (Nat.le_of_ble_eq_true rfl) (Nat.le_of_ble_eq_true rfl) d_M_done_24 ⟨rfl, rfl, rfl, (by rw [if_neg d1])⟩

set_option maxHeartbeats 4000000 in
set_option maxRecDepth 100000 in
theorem c_M_log (g : zw_G) (l : Launch) (N : Nat) (ad : Nat → Nat) (E : Nat → va_E) (q : Nat → Nat) (rg : zt_R) (ev sf fs fl : Nat → Nat) (hN : 25 ≤ N) (hok : zt_ok q rg ev sf) (hv : zs_inv q rg) (hM : zm_at g ad E q rg ev fs fl) (x : Int32) : zc_i g l y_M_log b_M_log 2 (some .int) { frames := 0, cells := 0, slots := 0, locals := 0 } [.ref (ad (8)), .int (x)] N ad E (fun v N1 ad1 E1 => N = N1 ∧ ad = ad1 ∧ E = E1 ∧ v = nI (if 0 ≤ x.toInt ∧ x.toInt < (q 5 : Int) then fl x.toInt.toNat else 0)) := by
  refine zc_i.of (by decide) (Nat.le_of_ble_eq_true rfl) ?_
  intro p e s m below meth c ls A X hr hlk hl hH
  have hl : lv_has ls 2 [(0, .ref (ad (8))), (1, .int (x))] := hl
  obtain ⟨k0, k2, k3, k3a, k4, k4a, k5, k5a, k6, k6a⟩ := hok.1
  have hF : zm_fr E E := zm_fr.rf
  refine lv_aload_n X.1 X.2.1 d_M_log_0 rfl (lv_at hl 0 rfl) ?_
  refine lv_iconst (v := nI 0) X.1 X.2.1 d_M_log_1 (by decide) ?_
  refine zx_put X hH fp_M_59 (by omega) hM.1 (Nat.le_of_ble_eq_true rfl) rfl rfl d_M_log_2 (fun H locs hH => ?_)
  have hH : zw_H g A s.heap s N ad (va_up E 8 (zm_o ad q)) H locs := hH
  rw [← hM.1, ← zr_id] at hH
  refine lv_iload_n X.1 X.2.1 d_M_log_5 rfl (lv_at hl 1 rfl) ?_
  refine lv_if_lt (tgt := 26) X.1 X.2.1 d_M_log_6 (by decide) (fun c2 => ?_) (fun c2 => ?_)
  · have c2 := (zn_lt rfl zn_0).mp c2
    refine lv_iconst (v := nI 0) X.1 X.2.1 d_M_log_26 (by decide) ?_
    exact zx_iret X hr hlk hH (Nat.le_of_ble_eq_true rfl) (Nat.le_of_ble_eq_true rfl) d_M_log_27 ⟨rfl, rfl, rfl, (by first | rfl | (rw [if_pos (by omega)]) | (rw [if_neg (by omega)]))⟩
  · have c2 := mt (zn_lt rfl zn_0).mpr c2
    refine lv_iload_n X.1 X.2.1 d_M_log_9 rfl (lv_at hl 1 rfl) ?_
    refine lv_aload_n X.1 X.2.1 d_M_log_10 rfl (lv_at hl 0 rfl) ?_
    refine zx_get (v := .int (nI (q 5))) X hH fg_M_91 (by omega) hM.1 rfl d_M_log_11 ?_
    refine lv_icmp_ge (tgt := 26) X.1 X.2.1 d_M_log_14 (by decide) (fun c3 => ?_) (fun c3 => ?_)
    · have c3 := (zn_le (nI_toInt (by omega)) rfl).mp c3
      refine lv_iconst (v := nI 0) X.1 X.2.1 d_M_log_26 (by decide) ?_
      exact zx_iret X hr hlk hH (Nat.le_of_ble_eq_true rfl) (Nat.le_of_ble_eq_true rfl) d_M_log_27 ⟨rfl, rfl, rfl, (by first | rfl | (rw [if_pos (by omega)]) | (rw [if_neg (by omega)]))⟩
    · have c3 := mt (zn_le (nI_toInt (by omega)) rfl).mpr c3
      refine lv_aload_n X.1 X.2.1 d_M_log_17 rfl (lv_at hl 0 rfl) ?_
      refine zx_get (v := .ref (ad (24))) X hH fg_M_56 (by omega) hM.1 rfl d_M_log_18 ?_
      refine lv_iload_n X.1 X.2.1 d_M_log_21 rfl (lv_at hl 1 rfl) ?_
      refine zx_iald (j := x.toInt.toNat) X hH (by omega) (show E 24 = zr_ia g 3100 fl from hM.2.2.2.2.2.2.2.2.2.2.2.2.2.2.2.2) (zn_nat (by omega)) (by omega) (by decide) d_M_log_22 ?_
      refine lv_goto (tgt := 27) X.1 X.2.1 d_M_log_23 (by decide) ?_
      exact zx_iret X hr hlk hH (Nat.le_of_ble_eq_true rfl) (Nat.le_of_ble_eq_true rfl) d_M_log_27 ⟨rfl, rfl, rfl, (by first | rfl | (rw [if_pos (by omega)]) | (rw [if_neg (by omega)]))⟩

set_option maxHeartbeats 4000000 in
set_option maxRecDepth 100000 in
theorem c_M_waits (g : zw_G) (l : Launch) (N : Nat) (ad : Nat → Nat) (E : Nat → va_E) (q : Nat → Nat) (rg : zt_R) (ev sf fs fl : Nat → Nat) (hN : 25 ≤ N) (hok : zt_ok q rg ev sf) (hv : zs_inv q rg) (hM : zm_at g ad E q rg ev fs fl) (x y z : Int32) : zc_i g l y_M_waits b_M_waits 4 (some .int) { frames := 1, cells := 0, slots := 0, locals := 40 } [.ref (ad (8)), .int (x), .int (y), .int (z)] N ad E (fun v N1 ad1 E1 => N = N1 ∧ ad = ad1 ∧ v = (zs_waits q rg x y z).1 ∧ zm_at g ad E1 q (zs_waits q rg x y z).2 ev fs fl ∧ zm_fr E E1) := by
  refine zc_i.of (by decide) (Nat.le_of_ble_eq_true rfl) ?_
  intro p e s m below meth c ls A X hr hlk hl hH
  have hl : lv_has ls 4 [(0, .ref (ad (8))), (1, .int (x)), (2, .int (y)), (3, .int (z))] := hl
  obtain ⟨k0, k2, k3, k3a, k4, k4a, k5, k5a, k6, k6a⟩ := hok.1
  have hF : zm_fr E E := zm_fr.rf
  refine lv_aload_n X.1 X.2.1 d_M_waits_0 rfl (lv_at hl 0 rfl) ?_
  refine lv_iconst (v := nI 0) X.1 X.2.1 d_M_waits_1 (by decide) ?_
  refine zx_put X hH fp_M_59 (by omega) hM.1 (Nat.le_of_ble_eq_true rfl) rfl rfl d_M_waits_2 (fun H locs hH => ?_)
  have hH : zw_H g A s.heap s N ad (va_up E 8 (zm_o ad q)) H locs := hH
  rw [← hM.1, ← zr_id] at hH
  refine lv_aload_n X.1 X.2.1 d_M_waits_5 rfl (lv_at hl 0 rfl) ?_
  refine lv_iload_n X.1 X.2.1 d_M_waits_6 rfl (lv_at hl 1 rfl) ?_
  refine zx_calli (zx_runV (As := [.int (x)]) (rest := []) X hH mv_M_70 ((c_M_isRegion g l N ad E q rg ev fs fl hN (by omega) hM x) _) (by omega) hM.1 rfl ⟨Nat.le_of_ble_eq_true rfl, Nat.le_of_ble_eq_true rfl⟩ rfl hl rfl (Nat.le_of_ble_eq_true rfl) d_M_waits_7 ⟨Nat.le_of_ble_eq_true rfl, Nat.le_of_ble_eq_true rfl⟩) hH (fun r N1 ad1 E1 H locs hq hH => ?_)
  obtain ⟨rfl, rfl, rfl, rfl⟩ := hq
  by_cases d1 : 1 ≤ x.toInt ∧ x.toInt ≤ (q 0 : Int)
  · refine zx_top (b := nI 1) (by rw [if_pos d1]) ?_
    refine lv_if_ne (tgt := 16) X.1 X.2.1 d_M_waits_10 (by decide) (fun _ => ?_) (fun z => absurd z (by decide))
    obtain ⟨i, hi⟩ : ∃ i, i = x.toInt.toNat - 1 := ⟨_, rfl⟩
    have hi0 : i < q 0 := by omega
    have hx9 : x = nI (i + 1) := zn_of (by omega)
    have hro := hok.2.1 i hi0
    obtain ⟨r0, r1, r2, r3, r4, r5, r7, r8, r6⟩ := hro.1
    obtain ⟨v0, v5, v3⟩ := hv.1 i hi0
    rw [hx9] at hl
    have hM := hM.rg (zr_id rg i)
    refine lv_iload_n X.1 X.2.1 d_M_waits_16 rfl (lv_at hl 2 rfl) ?_
    refine lv_iconst (v := nI 1) X.1 X.2.1 d_M_waits_17 (by decide) ?_
    refine lv_icmp_lt (tgt := 41) X.1 X.2.1 d_M_waits_18 (by decide) (fun c2 => ?_) (fun c2 => ?_)
    · have c2 := (zn_lt rfl (nI_toInt (by omega))).mp c2
      refine lv_bipush (v := (-4)) X.1 X.2.1 d_M_waits_41 (by decide) ?_
      exact zx_iret X hr hlk hH (Nat.le_of_ble_eq_true rfl) (Nat.le_of_ble_eq_true rfl) d_M_waits_43 ⟨rfl, rfl, by rw [zs_waits_bad d1 hi (by omega)], by rw [zs_waits_bad d1 hi (by omega)]; exact hM.rg (zr_id rg i).symm, hF⟩
    · have c2 := mt (zn_lt rfl (nI_toInt (by omega))).mpr c2
      refine lv_iload_n X.1 X.2.1 d_M_waits_21 rfl (lv_at hl 2 rfl) ?_
      refine lv_aload_n X.1 X.2.1 d_M_waits_22 rfl (lv_at hl 0 rfl) ?_
      refine zx_get (v := .ref (ad (9))) X hH fg_M_7 (by omega) hM.1 rfl d_M_waits_23 ?_
      refine lv_iload_n X.1 X.2.1 d_M_waits_26 rfl (lv_at hl 1 rfl) ?_
      refine zx_iald (j := i + 1) X hH (by omega) (show E 9 = zr_ia g 31 (zm_c (va_up rg i (rg i)) 0) from hM.2.1) rfl (by omega) (by decide) d_M_waits_27 ?_
      refine zx_top (b := nI ((rg i).1 0)) (congrArg nI (zm_c_at _ _ _ _)) ?_
      refine lv_icmp_gt (tgt := 41) X.1 X.2.1 d_M_waits_28 (by decide) (fun c3 => ?_) (fun c3 => ?_)
      · have c3 := (zn_lt (nI_toInt (by omega)) rfl).mp c3
        refine lv_bipush (v := (-4)) X.1 X.2.1 d_M_waits_41 (by decide) ?_
        exact zx_iret X hr hlk hH (Nat.le_of_ble_eq_true rfl) (Nat.le_of_ble_eq_true rfl) d_M_waits_43 ⟨rfl, rfl, by rw [zs_waits_bad d1 hi (by omega)], by rw [zs_waits_bad d1 hi (by omega)]; exact hM.rg (zr_id rg i).symm, hF⟩
      · have c3 := mt (zn_lt (nI_toInt (by omega)) rfl).mpr c3
        refine lv_iload_n X.1 X.2.1 d_M_waits_31 rfl (lv_at hl 3 rfl) ?_
        refine lv_if_lt (tgt := 41) X.1 X.2.1 d_M_waits_32 (by decide) (fun c4 => ?_) (fun c4 => ?_)
        · have c4 := (zn_lt rfl zn_0).mp c4
          refine lv_bipush (v := (-4)) X.1 X.2.1 d_M_waits_41 (by decide) ?_
          exact zx_iret X hr hlk hH (Nat.le_of_ble_eq_true rfl) (Nat.le_of_ble_eq_true rfl) d_M_waits_43 ⟨rfl, rfl, by rw [zs_waits_bad d1 hi (by omega)], by rw [zs_waits_bad d1 hi (by omega)]; exact hM.rg (zr_id rg i).symm, hF⟩
        · have c4 := mt (zn_lt rfl zn_0).mpr c4
          refine lv_iload_n X.1 X.2.1 d_M_waits_35 rfl (lv_at hl 3 rfl) ?_
          refine lv_bipush (v := nI 15) X.1 X.2.1 d_M_waits_36 (by decide) ?_
          refine lv_icmp_le (tgt := 44) X.1 X.2.1 d_M_waits_38 (by decide) (fun c5 => ?_) (fun c5 => ?_)
          · have c5 := (zn_le rfl (nI_toInt (by omega))).mp c5
            refine lv_aload_n X.1 X.2.1 d_M_waits_44 rfl (lv_at hl 0 rfl) ?_
            refine zx_get (v := .ref (ad (12))) X hH fg_M_19 (by omega) hM.1 rfl d_M_waits_45 ?_
            refine lv_iload_n X.1 X.2.1 d_M_waits_48 rfl (lv_at hl 1 rfl) ?_
            refine zx_iald (j := i + 1) X hH (by omega) (show E 12 = zr_ia g 31 (zm_c (va_up rg i (rg i)) 3) from hM.2.2.2.2.1) rfl (by omega) (by decide) d_M_waits_49 ?_
            refine zx_top (b := nI ((rg i).1 3)) (congrArg nI (zm_c_at _ _ _ _)) ?_
            refine lv_iload_n X.1 X.2.1 d_M_waits_50 rfl (lv_at hl 2 rfl) ?_
            refine lv_icmp_ge (tgt := 63) X.1 X.2.1 d_M_waits_51 (by decide) (fun c6 => ?_) (fun c6 => ?_)
            · have c6 := (zn_le rfl (nI_toInt (by omega))).mp c6
              refine lv_bipush (v := (-5)) X.1 X.2.1 d_M_waits_63 (by decide) ?_
              exact zx_iret X hr hlk hH (Nat.le_of_ble_eq_true rfl) (Nat.le_of_ble_eq_true rfl) d_M_waits_65 ⟨rfl, rfl, by rw [zs_waits_late d1 hi ⟨by omega, by omega, by omega, by omega⟩ (by omega)], by rw [zs_waits_late d1 hi ⟨by omega, by omega, by omega, by omega⟩ (by omega)]; exact hM.rg (zr_id rg i).symm, hF⟩
            · have c6 := mt (zn_le rfl (nI_toInt (by omega))).mpr c6
              refine lv_aload_n X.1 X.2.1 d_M_waits_54 rfl (lv_at hl 0 rfl) ?_
              refine zx_get (v := .ref (ad (11))) X hH fg_M_16 (by omega) hM.1 rfl d_M_waits_55 ?_
              refine lv_iload_n X.1 X.2.1 d_M_waits_58 rfl (lv_at hl 1 rfl) ?_
              refine zx_iald (j := i + 1) X hH (by omega) (show E 11 = zr_ia g 31 (zm_c (va_up rg i (rg i)) 2) from hM.2.2.2.1) rfl (by omega) (by decide) d_M_waits_59 ?_
              refine zx_top (b := nI ((rg i).1 2)) (congrArg nI (zm_c_at _ _ _ _)) ?_
              refine lv_if_eq (tgt := 66) X.1 X.2.1 d_M_waits_60 (by decide) (fun c7 => ?_) (fun c7 => ?_)
              · have c7 := (zn_eq (nI_toInt (by omega)) zn_0).mp c7
                refine lv_aload_n X.1 X.2.1 d_M_waits_66 rfl (lv_at hl 0 rfl) ?_
                refine zx_get (v := .ref (ad (16))) X hH fg_M_31 (by omega) hM.1 rfl d_M_waits_67 ?_
                refine lv_iload_n X.1 X.2.1 d_M_waits_70 rfl (lv_at hl 1 rfl) ?_
                refine zx_iald (j := i + 1) X hH (by omega) (show E 16 = zr_ia g 31 (zm_c (va_up rg i (rg i)) 8) from hM.2.2.2.2.2.2.2.2.1) rfl (by omega) (by decide) d_M_waits_71 ?_
                refine zx_top (b := nI ((rg i).1 8)) (congrArg nI (zm_c_at _ _ _ _)) ?_
                refine lv_bipush (v := nI 20) X.1 X.2.1 d_M_waits_72 (by decide) ?_
                refine lv_icmp_ne (tgt := 79) X.1 X.2.1 d_M_waits_74 (by decide) (fun c8 => ?_) (fun c8 => ?_)
                · have c8 := mt (zn_eq (nI_toInt (by omega)) (nI_toInt (by omega))).mpr c8
                  refine lv_aload_n X.1 X.2.1 d_M_waits_79 rfl (lv_at hl 0 rfl) ?_
                  refine zx_get (v := .ref (ad (20))) X hH fg_M_44 (by omega) hM.1 rfl d_M_waits_80 ?_
                  refine lv_bipush (v := nI 20) X.1 X.2.1 d_M_waits_83 (by decide) ?_
                  refine lv_iload_n X.1 X.2.1 d_M_waits_85 rfl (lv_at hl 1 rfl) ?_
                  refine lv_imul X.1 X.2.1 d_M_waits_86 ?_
                  refine zx_top (pk_mul _ _) ?_
                  refine lv_bipush (v := nI 20) X.1 X.2.1 d_M_waits_87 (by decide) ?_
                  refine lv_isub X.1 X.2.1 d_M_waits_89 ?_
                  refine zx_top (pk_sub (by omega)) ?_
                  refine lv_aload_n X.1 X.2.1 d_M_waits_90 rfl (lv_at hl 0 rfl) ?_
                  refine zx_get (v := .ref (ad (16))) X hH fg_M_31 (by omega) hM.1 rfl d_M_waits_91 ?_
                  refine lv_iload_n X.1 X.2.1 d_M_waits_94 rfl (lv_at hl 1 rfl) ?_
                  refine zx_iald (j := i + 1) X hH (by omega) (show E 16 = zr_ia g 31 (zm_c (va_up rg i (rg i)) 8) from hM.2.2.2.2.2.2.2.2.1) rfl (by omega) (by decide) d_M_waits_95 ?_
                  refine zx_top (b := nI ((rg i).1 8)) (congrArg nI (zm_c_at _ _ _ _)) ?_
                  refine lv_iadd X.1 X.2.1 d_M_waits_96 ?_
                  refine zx_top (nI_add _ _) ?_
                  refine lv_iload_n X.1 X.2.1 d_M_waits_97 rfl (lv_at hl 2 rfl) ?_
                  refine zx_top (zn_nat (x := y) (by omega)) ?_
                  refine zx_iast (j := 20 * i + (rg i).1 8) X hH (by omega) (show E 20 = zr_ia g 620 (zm_w (va_up rg i (rg i)) 0) from hM.2.2.2.2.2.2.2.2.2.2.2.2.1) (congrArg nI (by omega)) (by omega) (by decide) d_M_waits_98 (fun H locs hH => ?_)
                  rw [zr_upd] at hH
                  have hH : zw_H g A s.heap s N ad (va_up E 20 (zr_ia g 620 (va_up (zm_w (va_up rg i (rg i)) 0) (20 * i + (rg i).1 8) (y.toInt.toNat)))) H locs := hH
                  have hM := hM.w0 (m := (rg i).1 8) (by omega) (y.toInt.toNat)
                  have hF := hF.up (k := 20) (x := (zr_ia g 620 (va_up (zm_w (va_up rg i (rg i)) 0) (20 * i + (rg i).1 8) (y.toInt.toNat)))) (by decide) (by decide)
                  generalize va_up E 20 (zr_ia g 620 (va_up (zm_w (va_up rg i (rg i)) 0) (20 * i + (rg i).1 8) (y.toInt.toNat))) = E9 at hH hM hF
                  have hM : zm_at g ad E9 q (va_up rg i ((rg i).1, va_up ((rg i).2) 0 (va_up ((rg i).2 0) ((rg i).1 8) (y.toInt.toNat)))) ev fs fl := hM
                  refine lv_aload_n X.1 X.2.1 d_M_waits_99 rfl (lv_at hl 0 rfl) ?_
                  refine zx_get (v := .ref (ad (21))) X hH fg_M_47 (by omega) hM.1 rfl d_M_waits_100 ?_
                  refine lv_bipush (v := nI 20) X.1 X.2.1 d_M_waits_103 (by decide) ?_
                  refine lv_iload_n X.1 X.2.1 d_M_waits_105 rfl (lv_at hl 1 rfl) ?_
                  refine lv_imul X.1 X.2.1 d_M_waits_106 ?_
                  refine zx_top (pk_mul _ _) ?_
                  refine lv_bipush (v := nI 20) X.1 X.2.1 d_M_waits_107 (by decide) ?_
                  refine lv_isub X.1 X.2.1 d_M_waits_109 ?_
                  refine zx_top (pk_sub (by omega)) ?_
                  refine lv_aload_n X.1 X.2.1 d_M_waits_110 rfl (lv_at hl 0 rfl) ?_
                  refine zx_get (v := .ref (ad (16))) X hH fg_M_31 (by omega) hM.1 rfl d_M_waits_111 ?_
                  refine lv_iload_n X.1 X.2.1 d_M_waits_114 rfl (lv_at hl 1 rfl) ?_
                  refine zx_iald (j := i + 1) X hH (by omega) (show E9 16 = zr_ia g 31 (zm_c (va_up rg i ((rg i).1, va_up ((rg i).2) 0 (va_up ((rg i).2 0) ((rg i).1 8) (y.toInt.toNat)))) 8) from hM.2.2.2.2.2.2.2.2.1) rfl (by omega) (by decide) d_M_waits_115 ?_
                  refine zx_top (b := nI ((rg i).1 8)) (congrArg nI (zm_c_at _ _ _ _)) ?_
                  refine lv_iadd X.1 X.2.1 d_M_waits_116 ?_
                  refine zx_top (nI_add _ _) ?_
                  refine lv_iload_n X.1 X.2.1 d_M_waits_117 rfl (lv_at hl 3 rfl) ?_
                  refine zx_top (zn_nat (x := z) (by omega)) ?_
                  refine zx_iast (j := 20 * i + (rg i).1 8) X hH (by omega) (show E9 21 = zr_ia g 620 (zm_w (va_up rg i ((rg i).1, va_up ((rg i).2) 0 (va_up ((rg i).2 0) ((rg i).1 8) (y.toInt.toNat)))) 1) from hM.2.2.2.2.2.2.2.2.2.2.2.2.2.1) (congrArg nI (by omega)) (by omega) (by decide) d_M_waits_118 (fun H locs hH => ?_)
                  rw [zr_upd] at hH
                  have hH : zw_H g A s.heap s N ad (va_up E9 21 (zr_ia g 620 (va_up (zm_w (va_up rg i ((rg i).1, va_up ((rg i).2) 0 (va_up ((rg i).2 0) ((rg i).1 8) (y.toInt.toNat)))) 1) (20 * i + (rg i).1 8) (z.toInt.toNat)))) H locs := hH
                  have hM := hM.w1 (m := (rg i).1 8) (by omega) (z.toInt.toNat)
                  have hF := hF.up (k := 21) (x := (zr_ia g 620 (va_up (zm_w (va_up rg i ((rg i).1, va_up ((rg i).2) 0 (va_up ((rg i).2 0) ((rg i).1 8) (y.toInt.toNat)))) 1) (20 * i + (rg i).1 8) (z.toInt.toNat)))) (by decide) (by decide)
                  generalize va_up E9 21 (zr_ia g 620 (va_up (zm_w (va_up rg i ((rg i).1, va_up ((rg i).2) 0 (va_up ((rg i).2 0) ((rg i).1 8) (y.toInt.toNat)))) 1) (20 * i + (rg i).1 8) (z.toInt.toNat))) = E10 at hH hM hF
                  have hM : zm_at g ad E10 q (va_up rg i ((rg i).1, va_up (va_up ((rg i).2) 0 (va_up ((rg i).2 0) ((rg i).1 8) (y.toInt.toNat))) 1 (va_up ((rg i).2 1) ((rg i).1 8) (z.toInt.toNat)))) ev fs fl := hM
                  refine lv_aload_n X.1 X.2.1 d_M_waits_119 rfl (lv_at hl 0 rfl) ?_
                  refine zx_get (v := .ref (ad (16))) X hH fg_M_31 (by omega) hM.1 rfl d_M_waits_120 ?_
                  refine lv_iload_n X.1 X.2.1 d_M_waits_123 rfl (lv_at hl 1 rfl) ?_
                  refine lv_dup2_11 X.1 X.2.1 d_M_waits_124 rfl rfl ?_
                  refine zx_iald (j := i + 1) X hH (by omega) (show E10 16 = zr_ia g 31 (zm_c (va_up rg i ((rg i).1, va_up (va_up ((rg i).2) 0 (va_up ((rg i).2 0) ((rg i).1 8) (y.toInt.toNat))) 1 (va_up ((rg i).2 1) ((rg i).1 8) (z.toInt.toNat)))) 8) from hM.2.2.2.2.2.2.2.2.1) rfl (by omega) (by decide) d_M_waits_125 ?_
                  refine zx_top (b := nI ((rg i).1 8)) (congrArg nI (zm_c_at _ _ _ _)) ?_
                  refine lv_iconst (v := nI 1) X.1 X.2.1 d_M_waits_126 (by decide) ?_
                  refine lv_iadd X.1 X.2.1 d_M_waits_127 ?_
                  refine zx_top (nI_add _ _) ?_
                  refine zx_iast (j := i + 1) (x := nI (((rg i).1 8) + (1))) X hH (by omega) (show E10 16 = zr_ia g 31 (zm_c (va_up rg i ((rg i).1, va_up (va_up ((rg i).2) 0 (va_up ((rg i).2 0) ((rg i).1 8) (y.toInt.toNat))) 1 (va_up ((rg i).2 1) ((rg i).1 8) (z.toInt.toNat)))) 8) from hM.2.2.2.2.2.2.2.2.1) rfl (by omega) (by decide) d_M_waits_128 (fun H locs hH => ?_)
                  rw [zr_upd] at hH
                  have hH : zw_H g A s.heap s N ad (va_up E10 16 (zr_ia g 31 (va_up (zm_c (va_up rg i ((rg i).1, va_up (va_up ((rg i).2) 0 (va_up ((rg i).2 0) ((rg i).1 8) (y.toInt.toNat))) 1 (va_up ((rg i).2 1) ((rg i).1 8) (z.toInt.toNat)))) 8) (i + 1) (((rg i).1 8) + (1))))) H locs := hH
                  have hM := hM.s8 (((rg i).1 8) + (1))
                  have hF := hF.up (k := 16) (x := (zr_ia g 31 (va_up (zm_c (va_up rg i ((rg i).1, va_up (va_up ((rg i).2) 0 (va_up ((rg i).2 0) ((rg i).1 8) (y.toInt.toNat))) 1 (va_up ((rg i).2 1) ((rg i).1 8) (z.toInt.toNat)))) 8) (i + 1) (((rg i).1 8) + (1))))) (by decide) (by decide)
                  generalize va_up E10 16 (zr_ia g 31 (va_up (zm_c (va_up rg i ((rg i).1, va_up (va_up ((rg i).2) 0 (va_up ((rg i).2 0) ((rg i).1 8) (y.toInt.toNat))) 1 (va_up ((rg i).2 1) ((rg i).1 8) (z.toInt.toNat)))) 8) (i + 1) (((rg i).1 8) + (1)))) = E11 at hH hM hF
                  have hM : zm_at g ad E11 q (va_up rg i (va_up ((rg i).1) 8 (((rg i).1 8) + (1)), va_up (va_up ((rg i).2) 0 (va_up ((rg i).2 0) ((rg i).1 8) (y.toInt.toNat))) 1 (va_up ((rg i).2 1) ((rg i).1 8) (z.toInt.toNat)))) ev fs fl := hM
                  refine lv_aload_n X.1 X.2.1 d_M_waits_129 rfl (lv_at hl 0 rfl) ?_
                  refine zx_get (v := .ref (ad (16))) X hH fg_M_31 (by omega) hM.1 rfl d_M_waits_130 ?_
                  refine lv_iload_n X.1 X.2.1 d_M_waits_133 rfl (lv_at hl 1 rfl) ?_
                  refine zx_iald (j := i + 1) X hH (by omega) (show E11 16 = zr_ia g 31 (zm_c (va_up rg i (va_up ((rg i).1) 8 (((rg i).1 8) + (1)), va_up (va_up ((rg i).2) 0 (va_up ((rg i).2 0) ((rg i).1 8) (y.toInt.toNat))) 1 (va_up ((rg i).2 1) ((rg i).1 8) (z.toInt.toNat)))) 8) from hM.2.2.2.2.2.2.2.2.1) rfl (by omega) (by decide) d_M_waits_134 ?_
                  refine zx_top (b := nI (((rg i).1 8) + (1))) (congrArg nI (zm_c_at _ _ _ _)) ?_
                  exact zx_iret X hr hlk hH (Nat.le_of_ble_eq_true rfl) (Nat.le_of_ble_eq_true rfl) d_M_waits_135 ⟨rfl, rfl, by rw [zs_waits_ok d1 hi ⟨by omega, by omega, by omega, by omega⟩ ⟨by omega, by omega⟩ (by omega)], by rw [zs_waits_ok d1 hi ⟨by omega, by omega, by omega, by omega⟩ ⟨by omega, by omega⟩ (by omega)]; exact hM, hF⟩
                · have c8 := (zn_eq (nI_toInt (by omega)) (nI_toInt (by omega))).mp c8
                  refine lv_iconst (v := (-1)) X.1 X.2.1 d_M_waits_77 (by decide) ?_
                  exact zx_iret X hr hlk hH (Nat.le_of_ble_eq_true rfl) (Nat.le_of_ble_eq_true rfl) d_M_waits_78 ⟨rfl, rfl, by rw [zs_waits_full d1 hi ⟨by omega, by omega, by omega, by omega⟩ ⟨by omega, by omega⟩ (by omega)], by rw [zs_waits_full d1 hi ⟨by omega, by omega, by omega, by omega⟩ ⟨by omega, by omega⟩ (by omega)]; exact hM.rg (zr_id rg i).symm, hF⟩
              · have c7 := mt (zn_eq (nI_toInt (by omega)) zn_0).mpr c7
                refine lv_bipush (v := (-5)) X.1 X.2.1 d_M_waits_63 (by decide) ?_
                exact zx_iret X hr hlk hH (Nat.le_of_ble_eq_true rfl) (Nat.le_of_ble_eq_true rfl) d_M_waits_65 ⟨rfl, rfl, by rw [zs_waits_late d1 hi ⟨by omega, by omega, by omega, by omega⟩ (by omega)], by rw [zs_waits_late d1 hi ⟨by omega, by omega, by omega, by omega⟩ (by omega)]; exact hM.rg (zr_id rg i).symm, hF⟩
          · have c5 := mt (zn_le rfl (nI_toInt (by omega))).mpr c5
            refine lv_bipush (v := (-4)) X.1 X.2.1 d_M_waits_41 (by decide) ?_
            exact zx_iret X hr hlk hH (Nat.le_of_ble_eq_true rfl) (Nat.le_of_ble_eq_true rfl) d_M_waits_43 ⟨rfl, rfl, by rw [zs_waits_bad d1 hi (by omega)], by rw [zs_waits_bad d1 hi (by omega)]; exact hM.rg (zr_id rg i).symm, hF⟩
  · refine zx_top (b := nI 0) (by rw [if_neg d1]) ?_
    refine lv_if_ne (tgt := 16) X.1 X.2.1 d_M_waits_10 (by decide) (fun z => absurd rfl z) (fun _ => ?_)
    refine lv_bipush (v := (-2)) X.1 X.2.1 d_M_waits_13 (by decide) ?_
    exact zx_iret X hr hlk hH (Nat.le_of_ble_eq_true rfl) (Nat.le_of_ble_eq_true rfl) d_M_waits_15 ⟨rfl, rfl, by rw [zs_waits_no d1], by rw [zs_waits_no d1]; exact hM, hF⟩

set_option maxHeartbeats 4000000 in
set_option maxRecDepth 100000 in
theorem c_M_decision (g : zw_G) (l : Launch) (N : Nat) (ad : Nat → Nat) (E : Nat → va_E) (q : Nat → Nat) (rg : zt_R) (ev sf fs fl : Nat → Nat) (hN : 25 ≤ N) (hok : zt_ok q rg ev sf) (hv : zs_inv q rg) (hM : zm_at g ad E q rg ev fs fl) (x y : Int32) : zc_i g l y_M_decision b_M_decision 3 (some .int) { frames := 1, cells := 0, slots := 0, locals := 40 } [.ref (ad (8)), .int (x), .int (y)] N ad E (fun v N1 ad1 E1 => N = N1 ∧ ad = ad1 ∧ v = (zs_dec q rg x y).1 ∧ zm_at g ad E1 q (zs_dec q rg x y).2 ev fs fl ∧ zm_fr E E1) := by
  refine zc_i.of (by decide) (Nat.le_of_ble_eq_true rfl) ?_
  intro p e s m below meth c ls A X hr hlk hl hH
  have hl : lv_has ls 3 [(0, .ref (ad (8))), (1, .int (x)), (2, .int (y))] := hl
  obtain ⟨k0, k2, k3, k3a, k4, k4a, k5, k5a, k6, k6a⟩ := hok.1
  have hF : zm_fr E E := zm_fr.rf
  refine lv_aload_n X.1 X.2.1 d_M_decision_0 rfl (lv_at hl 0 rfl) ?_
  refine lv_iconst (v := nI 0) X.1 X.2.1 d_M_decision_1 (by decide) ?_
  refine zx_put X hH fp_M_59 (by omega) hM.1 (Nat.le_of_ble_eq_true rfl) rfl rfl d_M_decision_2 (fun H locs hH => ?_)
  have hH : zw_H g A s.heap s N ad (va_up E 8 (zm_o ad q)) H locs := hH
  rw [← hM.1, ← zr_id] at hH
  refine lv_aload_n X.1 X.2.1 d_M_decision_5 rfl (lv_at hl 0 rfl) ?_
  refine lv_iload_n X.1 X.2.1 d_M_decision_6 rfl (lv_at hl 1 rfl) ?_
  refine zx_calli (zx_runV (As := [.int (x)]) (rest := []) X hH mv_M_70 ((c_M_isRegion g l N ad E q rg ev fs fl hN (by omega) hM x) _) (by omega) hM.1 rfl ⟨Nat.le_of_ble_eq_true rfl, Nat.le_of_ble_eq_true rfl⟩ rfl hl rfl (Nat.le_of_ble_eq_true rfl) d_M_decision_7 ⟨Nat.le_of_ble_eq_true rfl, Nat.le_of_ble_eq_true rfl⟩) hH (fun r N1 ad1 E1 H locs hq hH => ?_)
  obtain ⟨rfl, rfl, rfl, rfl⟩ := hq
  by_cases d1 : 1 ≤ x.toInt ∧ x.toInt ≤ (q 0 : Int)
  · refine zx_top (b := nI 1) (by rw [if_pos d1]) ?_
    refine lv_if_ne (tgt := 16) X.1 X.2.1 d_M_decision_10 (by decide) (fun _ => ?_) (fun z => absurd z (by decide))
    obtain ⟨i, hi⟩ : ∃ i, i = x.toInt.toNat - 1 := ⟨_, rfl⟩
    have hi0 : i < q 0 := by omega
    have hx9 : x = nI (i + 1) := zn_of (by omega)
    have hro := hok.2.1 i hi0
    obtain ⟨r0, r1, r2, r3, r4, r5, r7, r8, r6⟩ := hro.1
    obtain ⟨v0, v5, v3⟩ := hv.1 i hi0
    rw [hx9] at hl
    have hM := hM.rg (zr_id rg i)
    refine lv_iload_n X.1 X.2.1 d_M_decision_16 rfl (lv_at hl 2 rfl) ?_
    refine lv_iconst (v := nI 1) X.1 X.2.1 d_M_decision_17 (by decide) ?_
    refine lv_icmp_lt (tgt := 31) X.1 X.2.1 d_M_decision_18 (by decide) (fun c2 => ?_) (fun c2 => ?_)
    · have c2 := (zn_lt rfl (nI_toInt (by omega))).mp c2
      refine lv_bipush (v := (-4)) X.1 X.2.1 d_M_decision_31 (by decide) ?_
      exact zx_iret X hr hlk hH (Nat.le_of_ble_eq_true rfl) (Nat.le_of_ble_eq_true rfl) d_M_decision_33 ⟨rfl, rfl, by rw [zs_dec_bad d1 hi (by omega)], by rw [zs_dec_bad d1 hi (by omega)]; exact hM.rg (zr_id rg i).symm, hF⟩
    · have c2 := mt (zn_lt rfl (nI_toInt (by omega))).mpr c2
      refine lv_iload_n X.1 X.2.1 d_M_decision_21 rfl (lv_at hl 2 rfl) ?_
      refine lv_aload_n X.1 X.2.1 d_M_decision_22 rfl (lv_at hl 0 rfl) ?_
      refine zx_get (v := .ref (ad (9))) X hH fg_M_7 (by omega) hM.1 rfl d_M_decision_23 ?_
      refine lv_iload_n X.1 X.2.1 d_M_decision_26 rfl (lv_at hl 1 rfl) ?_
      refine zx_iald (j := i + 1) X hH (by omega) (show E 9 = zr_ia g 31 (zm_c (va_up rg i (rg i)) 0) from hM.2.1) rfl (by omega) (by decide) d_M_decision_27 ?_
      refine zx_top (b := nI ((rg i).1 0)) (congrArg nI (zm_c_at _ _ _ _)) ?_
      refine lv_icmp_lt (tgt := 34) X.1 X.2.1 d_M_decision_28 (by decide) (fun c3 => ?_) (fun c3 => ?_)
      · have c3 := (zn_lt rfl (nI_toInt (by omega))).mp c3
        refine lv_aload_n X.1 X.2.1 d_M_decision_34 rfl (lv_at hl 0 rfl) ?_
        refine zx_get (v := .ref (ad (12))) X hH fg_M_19 (by omega) hM.1 rfl d_M_decision_35 ?_
        refine lv_iload_n X.1 X.2.1 d_M_decision_38 rfl (lv_at hl 1 rfl) ?_
        refine zx_iald (j := i + 1) X hH (by omega) (show E 12 = zr_ia g 31 (zm_c (va_up rg i (rg i)) 3) from hM.2.2.2.2.1) rfl (by omega) (by decide) d_M_decision_39 ?_
        refine zx_top (b := nI ((rg i).1 3)) (congrArg nI (zm_c_at _ _ _ _)) ?_
        refine lv_iload_n X.1 X.2.1 d_M_decision_40 rfl (lv_at hl 2 rfl) ?_
        refine lv_icmp_ge (tgt := 53) X.1 X.2.1 d_M_decision_41 (by decide) (fun c4 => ?_) (fun c4 => ?_)
        · have c4 := (zn_le rfl (nI_toInt (by omega))).mp c4
          refine lv_bipush (v := (-5)) X.1 X.2.1 d_M_decision_53 (by decide) ?_
          exact zx_iret X hr hlk hH (Nat.le_of_ble_eq_true rfl) (Nat.le_of_ble_eq_true rfl) d_M_decision_55 ⟨rfl, rfl, by rw [zs_dec_late d1 hi ⟨by omega, by omega⟩ (by omega)], by rw [zs_dec_late d1 hi ⟨by omega, by omega⟩ (by omega)]; exact hM.rg (zr_id rg i).symm, hF⟩
        · have c4 := mt (zn_le rfl (nI_toInt (by omega))).mpr c4
          refine lv_aload_n X.1 X.2.1 d_M_decision_44 rfl (lv_at hl 0 rfl) ?_
          refine zx_get (v := .ref (ad (11))) X hH fg_M_16 (by omega) hM.1 rfl d_M_decision_45 ?_
          refine lv_iload_n X.1 X.2.1 d_M_decision_48 rfl (lv_at hl 1 rfl) ?_
          refine zx_iald (j := i + 1) X hH (by omega) (show E 11 = zr_ia g 31 (zm_c (va_up rg i (rg i)) 2) from hM.2.2.2.1) rfl (by omega) (by decide) d_M_decision_49 ?_
          refine zx_top (b := nI ((rg i).1 2)) (congrArg nI (zm_c_at _ _ _ _)) ?_
          refine lv_if_eq (tgt := 56) X.1 X.2.1 d_M_decision_50 (by decide) (fun c5 => ?_) (fun c5 => ?_)
          · have c5 := (zn_eq (nI_toInt (by omega)) zn_0).mp c5
            refine lv_aload_n X.1 X.2.1 d_M_decision_56 rfl (lv_at hl 0 rfl) ?_
            refine zx_get (v := .ref (ad (19))) X hH fg_M_41 (by omega) hM.1 rfl d_M_decision_57 ?_
            refine lv_iload_n X.1 X.2.1 d_M_decision_60 rfl (lv_at hl 1 rfl) ?_
            have k9 := hro.2.2.2.2 y.toInt.toNat
            have k10 := hro.2.2.2.2 (y.toInt.toNat + 1)
            refine lv_iload_n X.1 X.2.1 d_M_decision_61 rfl (lv_at hl 2 rfl) ?_
            refine zx_top (zn_nat (x := y) (by omega)) ?_
            refine zx_calli (zx_runS (As := [.int (nI (i + 1)), .int (nI (y.toInt.toNat))]) (rest := [.ref (ad (19))]) X hH ms_M_77 ((c_M_of g l N ad E (i + 1) (y.toInt.toNat)) _) ⟨Nat.le_of_ble_eq_true rfl, Nat.le_of_ble_eq_true rfl⟩ rfl hl rfl (Nat.le_of_ble_eq_true rfl) d_M_decision_62 ⟨Nat.le_of_ble_eq_true rfl, Nat.le_of_ble_eq_true rfl⟩) hH (fun r N1 ad1 E1 H locs hq hH => ?_)
            obtain ⟨rfl, rfl, rfl, rfl⟩ := hq
            refine zx_iald (j := 101 * (i + 1) + (y.toInt.toNat)) X hH (by omega) (show E 19 = zr_ia g 3131 (zm_d (va_up rg i (rg i))) from hM.2.2.2.2.2.2.2.2.2.2.2.1) rfl (by omega) (by decide) d_M_decision_65 ?_
            refine zx_top (b := nI ((rg i).2 3 (y.toInt.toNat))) (congrArg nI (zm_d_at _ _ _ (by omega))) ?_
            refine lv_aload_n X.1 X.2.1 d_M_decision_66 rfl (lv_at hl 0 rfl) ?_
            refine zx_get (v := .ref (ad (19))) X hH fg_M_41 (by omega) hM.1 rfl d_M_decision_67 ?_
            refine lv_iload_n X.1 X.2.1 d_M_decision_70 rfl (lv_at hl 1 rfl) ?_
            refine lv_iload_n X.1 X.2.1 d_M_decision_71 rfl (lv_at hl 2 rfl) ?_
            refine zx_top (zn_nat (x := y) (by omega)) ?_
            refine lv_iconst (v := nI 1) X.1 X.2.1 d_M_decision_72 (by decide) ?_
            refine lv_iadd X.1 X.2.1 d_M_decision_73 ?_
            refine zx_top (nI_add _ _) ?_
            refine zx_calli (zx_runS (As := [.int (nI (i + 1)), .int (nI ((y.toInt.toNat) + (1)))]) (rest := [.ref (ad (19)), .int (nI ((rg i).2 3 (y.toInt.toNat)))]) X hH ms_M_77 ((c_M_of g l N ad E (i + 1) ((y.toInt.toNat) + (1))) _) ⟨Nat.le_of_ble_eq_true rfl, Nat.le_of_ble_eq_true rfl⟩ rfl hl rfl (Nat.le_of_ble_eq_true rfl) d_M_decision_74 ⟨Nat.le_of_ble_eq_true rfl, Nat.le_of_ble_eq_true rfl⟩) hH (fun r N1 ad1 E1 H locs hq hH => ?_)
            obtain ⟨rfl, rfl, rfl, rfl⟩ := hq
            refine zx_iald (j := 101 * (i + 1) + (y.toInt.toNat + 1)) X hH (by omega) (show E 19 = zr_ia g 3131 (zm_d (va_up rg i (rg i))) from hM.2.2.2.2.2.2.2.2.2.2.2.1) rfl (by omega) (by decide) d_M_decision_77 ?_
            refine zx_top (b := nI ((rg i).2 3 (y.toInt.toNat + 1))) (congrArg nI (zm_d_at _ _ _ (by omega))) ?_
            refine lv_iadd X.1 X.2.1 d_M_decision_78 ?_
            refine zx_top (nI_add _ _) ?_
            refine lv_if_le (tgt := 84) X.1 X.2.1 d_M_decision_79 (by decide) (fun c6 => ?_) (fun c6 => ?_)
            · have c6 := (zn_le (nI_toInt (by omega)) zn_0).mp c6
              refine lv_aload_n X.1 X.2.1 d_M_decision_84 rfl (lv_at hl 0 rfl) ?_
              refine zx_get (v := .ref (ad (19))) X hH fg_M_41 (by omega) hM.1 rfl d_M_decision_85 ?_
              refine lv_iload_n X.1 X.2.1 d_M_decision_88 rfl (lv_at hl 1 rfl) ?_
              refine lv_iload_n X.1 X.2.1 d_M_decision_89 rfl (lv_at hl 2 rfl) ?_
              refine zx_top (zn_nat (x := y) (by omega)) ?_
              refine zx_calli (zx_runS (As := [.int (nI (i + 1)), .int (nI (y.toInt.toNat))]) (rest := [.ref (ad (19))]) X hH ms_M_77 ((c_M_of g l N ad E (i + 1) (y.toInt.toNat)) _) ⟨Nat.le_of_ble_eq_true rfl, Nat.le_of_ble_eq_true rfl⟩ rfl hl rfl (Nat.le_of_ble_eq_true rfl) d_M_decision_90 ⟨Nat.le_of_ble_eq_true rfl, Nat.le_of_ble_eq_true rfl⟩) hH (fun r N1 ad1 E1 H locs hq hH => ?_)
              obtain ⟨rfl, rfl, rfl, rfl⟩ := hq
              refine lv_iconst (v := nI 1) X.1 X.2.1 d_M_decision_93 (by decide) ?_
              refine zx_iast (j := 101 * (i + 1) + (y.toInt.toNat)) X hH (by omega) (show E 19 = zr_ia g 3131 (zm_d (va_up rg i (rg i))) from hM.2.2.2.2.2.2.2.2.2.2.2.1) rfl (by omega) (by decide) d_M_decision_94 (fun H locs hH => ?_)
              rw [zr_upd] at hH
              have hH : zw_H g A s.heap s N ad (va_up E 19 (zr_ia g 3131 (va_up (zm_d (va_up rg i (rg i))) (101 * (i + 1) + (y.toInt.toNat)) (1)))) H locs := hH
              have hM := hM.d (m := y.toInt.toNat) (by omega) (1)
              have hF := hF.up (k := 19) (x := (zr_ia g 3131 (va_up (zm_d (va_up rg i (rg i))) (101 * (i + 1) + (y.toInt.toNat)) (1)))) (by decide) (by decide)
              generalize va_up E 19 (zr_ia g 3131 (va_up (zm_d (va_up rg i (rg i))) (101 * (i + 1) + (y.toInt.toNat)) (1))) = E7 at hH hM hF
              have hM : zm_at g ad E7 q (va_up rg i ((rg i).1, va_up ((rg i).2) 3 (va_up ((rg i).2 3) (y.toInt.toNat) (1)))) ev fs fl := hM
              refine lv_aload_n X.1 X.2.1 d_M_decision_95 rfl (lv_at hl 0 rfl) ?_
              refine zx_get (v := .ref (ad (19))) X hH fg_M_41 (by omega) hM.1 rfl d_M_decision_96 ?_
              refine lv_iload_n X.1 X.2.1 d_M_decision_99 rfl (lv_at hl 1 rfl) ?_
              refine lv_iload_n X.1 X.2.1 d_M_decision_100 rfl (lv_at hl 2 rfl) ?_
              refine zx_top (zn_nat (x := y) (by omega)) ?_
              refine lv_iconst (v := nI 1) X.1 X.2.1 d_M_decision_101 (by decide) ?_
              refine lv_iadd X.1 X.2.1 d_M_decision_102 ?_
              refine zx_top (nI_add _ _) ?_
              refine zx_calli (zx_runS (As := [.int (nI (i + 1)), .int (nI ((y.toInt.toNat) + (1)))]) (rest := [.ref (ad (19))]) X hH ms_M_77 ((c_M_of g l N ad E7 (i + 1) ((y.toInt.toNat) + (1))) _) ⟨Nat.le_of_ble_eq_true rfl, Nat.le_of_ble_eq_true rfl⟩ rfl hl rfl (Nat.le_of_ble_eq_true rfl) d_M_decision_103 ⟨Nat.le_of_ble_eq_true rfl, Nat.le_of_ble_eq_true rfl⟩) hH (fun r N1 ad1 E1 H locs hq hH => ?_)
              obtain ⟨rfl, rfl, rfl, rfl⟩ := hq
              refine lv_iconst (v := nI 2) X.1 X.2.1 d_M_decision_106 (by decide) ?_
              refine zx_iast (j := 101 * (i + 1) + (y.toInt.toNat + 1)) X hH (by omega) (show E7 19 = zr_ia g 3131 (zm_d (va_up rg i ((rg i).1, va_up ((rg i).2) 3 (va_up ((rg i).2 3) (y.toInt.toNat) (1))))) from hM.2.2.2.2.2.2.2.2.2.2.2.1) rfl (by omega) (by decide) d_M_decision_107 (fun H locs hH => ?_)
              rw [zr_upd] at hH
              have hH : zw_H g A s.heap s N ad (va_up E7 19 (zr_ia g 3131 (va_up (zm_d (va_up rg i ((rg i).1, va_up ((rg i).2) 3 (va_up ((rg i).2 3) (y.toInt.toNat) (1))))) (101 * (i + 1) + (y.toInt.toNat + 1)) (2)))) H locs := hH
              have hM := hM.d (m := y.toInt.toNat + 1) (by omega) (2)
              have hF := hF.up (k := 19) (x := (zr_ia g 3131 (va_up (zm_d (va_up rg i ((rg i).1, va_up ((rg i).2) 3 (va_up ((rg i).2 3) (y.toInt.toNat) (1))))) (101 * (i + 1) + (y.toInt.toNat + 1)) (2)))) (by decide) (by decide)
              generalize va_up E7 19 (zr_ia g 3131 (va_up (zm_d (va_up rg i ((rg i).1, va_up ((rg i).2) 3 (va_up ((rg i).2 3) (y.toInt.toNat) (1))))) (101 * (i + 1) + (y.toInt.toNat + 1)) (2))) = E8 at hH hM hF
              have hM : zm_at g ad E8 q (va_up rg i ((rg i).1, va_up (va_up ((rg i).2) 3 (va_up ((rg i).2 3) (y.toInt.toNat) (1))) 3 (va_up (va_up ((rg i).2 3) (y.toInt.toNat) (1)) (y.toInt.toNat + 1) (2)))) ev fs fl := hM
              refine lv_iconst (v := nI 1) X.1 X.2.1 d_M_decision_108 (by decide) ?_
              exact zx_iret X hr hlk hH (Nat.le_of_ble_eq_true rfl) (Nat.le_of_ble_eq_true rfl) d_M_decision_109 ⟨rfl, rfl, by rw [zs_dec_ok d1 hi ⟨by omega, by omega⟩ ⟨by omega, by omega⟩ ⟨by omega, by omega⟩], by rw [zs_dec_ok d1 hi ⟨by omega, by omega⟩ ⟨by omega, by omega⟩ ⟨by omega, by omega⟩]; exact hM.rg (congrArg (fun z => va_up rg i ((rg i).1, z)) (bx_uu _ _ _ _)), hF⟩
            · have c6 := mt (zn_le (nI_toInt (by omega)) zn_0).mpr c6
              refine lv_iconst (v := nI 0) X.1 X.2.1 d_M_decision_82 (by decide) ?_
              exact zx_iret X hr hlk hH (Nat.le_of_ble_eq_true rfl) (Nat.le_of_ble_eq_true rfl) d_M_decision_83 ⟨rfl, rfl, by rw [zs_dec_was d1 hi ⟨by omega, by omega⟩ ⟨by omega, by omega⟩ (by omega)], by rw [zs_dec_was d1 hi ⟨by omega, by omega⟩ ⟨by omega, by omega⟩ (by omega)]; exact hM.rg (zr_id rg i).symm, hF⟩
          · have c5 := mt (zn_eq (nI_toInt (by omega)) zn_0).mpr c5
            refine lv_bipush (v := (-5)) X.1 X.2.1 d_M_decision_53 (by decide) ?_
            exact zx_iret X hr hlk hH (Nat.le_of_ble_eq_true rfl) (Nat.le_of_ble_eq_true rfl) d_M_decision_55 ⟨rfl, rfl, by rw [zs_dec_late d1 hi ⟨by omega, by omega⟩ (by omega)], by rw [zs_dec_late d1 hi ⟨by omega, by omega⟩ (by omega)]; exact hM.rg (zr_id rg i).symm, hF⟩
      · have c3 := mt (zn_lt rfl (nI_toInt (by omega))).mpr c3
        refine lv_bipush (v := (-4)) X.1 X.2.1 d_M_decision_31 (by decide) ?_
        exact zx_iret X hr hlk hH (Nat.le_of_ble_eq_true rfl) (Nat.le_of_ble_eq_true rfl) d_M_decision_33 ⟨rfl, rfl, by rw [zs_dec_bad d1 hi (by omega)], by rw [zs_dec_bad d1 hi (by omega)]; exact hM.rg (zr_id rg i).symm, hF⟩
  · refine zx_top (b := nI 0) (by rw [if_neg d1]) ?_
    refine lv_if_ne (tgt := 16) X.1 X.2.1 d_M_decision_10 (by decide) (fun z => absurd rfl z) (fun _ => ?_)
    refine lv_bipush (v := (-2)) X.1 X.2.1 d_M_decision_13 (by decide) ?_
    exact zx_iret X hr hlk hH (Nat.le_of_ble_eq_true rfl) (Nat.le_of_ble_eq_true rfl) d_M_decision_15 ⟨rfl, rfl, by rw [zs_dec_no d1], by rw [zs_dec_no d1]; exact hM, hF⟩

set_option maxHeartbeats 4000000 in
set_option maxRecDepth 100000 in
theorem c_M_cancel (g : zw_G) (l : Launch) (N : Nat) (ad : Nat → Nat) (E : Nat → va_E) (q : Nat → Nat) (rg : zt_R) (ev sf fs fl : Nat → Nat) (hN : 25 ≤ N) (hok : zt_ok q rg ev sf) (hv : zs_inv q rg) (hM : zm_at g ad E q rg ev fs fl) (x : Int32) : zc_i g l y_M_cancel b_M_cancel 2 (some .boolean) { frames := 1, cells := 0, slots := 0, locals := 40 } [.ref (ad (8)), .int (x)] N ad E (fun v N1 ad1 E1 => N = N1 ∧ ad = ad1 ∧ v = (zs_can q rg x).1 ∧ zm_at g ad E1 q (zs_can q rg x).2 ev fs fl ∧ zm_fr E E1) := by
  refine zc_i.of (by decide) (Nat.le_of_ble_eq_true rfl) ?_
  intro p e s m below meth c ls A X hr hlk hl hH
  have hl : lv_has ls 2 [(0, .ref (ad (8))), (1, .int (x))] := hl
  obtain ⟨k0, k2, k3, k3a, k4, k4a, k5, k5a, k6, k6a⟩ := hok.1
  have hF : zm_fr E E := zm_fr.rf
  refine lv_aload_n X.1 X.2.1 d_M_cancel_0 rfl (lv_at hl 0 rfl) ?_
  refine lv_iconst (v := nI 0) X.1 X.2.1 d_M_cancel_1 (by decide) ?_
  refine zx_put X hH fp_M_59 (by omega) hM.1 (Nat.le_of_ble_eq_true rfl) rfl rfl d_M_cancel_2 (fun H locs hH => ?_)
  have hH : zw_H g A s.heap s N ad (va_up E 8 (zm_o ad q)) H locs := hH
  rw [← hM.1, ← zr_id] at hH
  refine lv_aload_n X.1 X.2.1 d_M_cancel_5 rfl (lv_at hl 0 rfl) ?_
  refine zx_get (v := .int (nI (q 2))) X hH fg_M_66 (by omega) hM.1 rfl d_M_cancel_6 ?_
  refine lv_if_ne (tgt := 38) X.1 X.2.1 d_M_cancel_9 (by decide) (fun c2 => ?_) (fun c2 => ?_)
  · have c2 := mt (zn_eq (nI_toInt (by omega)) zn_0).mpr c2
    refine lv_iconst (v := nI 0) X.1 X.2.1 d_M_cancel_38 (by decide) ?_
    exact zx_zret X hr hlk hH (Nat.le_of_ble_eq_true rfl) (Nat.le_of_ble_eq_true rfl) d_M_cancel_39 rfl ⟨rfl, rfl, by rw [zs_can_a (by omega)], by rw [zs_can_a (by omega)]; exact hM, hF⟩
  · have c2 := (zn_eq (nI_toInt (by omega)) zn_0).mp c2
    refine lv_aload_n X.1 X.2.1 d_M_cancel_12 rfl (lv_at hl 0 rfl) ?_
    refine lv_iload_n X.1 X.2.1 d_M_cancel_13 rfl (lv_at hl 1 rfl) ?_
    refine zx_calli (zx_runV (As := [.int (x)]) (rest := []) X hH mv_M_70 ((c_M_isRegion g l N ad E q rg ev fs fl hN (by omega) hM x) _) (by omega) hM.1 rfl ⟨Nat.le_of_ble_eq_true rfl, Nat.le_of_ble_eq_true rfl⟩ rfl hl rfl (Nat.le_of_ble_eq_true rfl) d_M_cancel_14 ⟨Nat.le_of_ble_eq_true rfl, Nat.le_of_ble_eq_true rfl⟩) hH (fun r N1 ad1 E1 H locs hq hH => ?_)
    obtain ⟨rfl, rfl, rfl, rfl⟩ := hq
    by_cases d1 : 1 ≤ x.toInt ∧ x.toInt ≤ (q 0 : Int)
    · refine zx_top (b := nI 1) (by rw [if_pos d1]) ?_
      refine lv_if_eq (tgt := 38) X.1 X.2.1 d_M_cancel_17 (by decide) (fun z => absurd z (by decide)) (fun _ => ?_)
      obtain ⟨i, hi⟩ : ∃ i, i = x.toInt.toNat - 1 := ⟨_, rfl⟩
      have hi0 : i < q 0 := by omega
      have hx9 : x = nI (i + 1) := zn_of (by omega)
      have hro := hok.2.1 i hi0
      obtain ⟨r0, r1, r2, r3, r4, r5, r7, r8, r6⟩ := hro.1
      obtain ⟨v0, v5, v3⟩ := hv.1 i hi0
      rw [hx9] at hl
      have hM := hM.rg (zr_id rg i)
      refine lv_aload_n X.1 X.2.1 d_M_cancel_20 rfl (lv_at hl 0 rfl) ?_
      refine zx_get (v := .ref (ad (11))) X hH fg_M_16 (by omega) hM.1 rfl d_M_cancel_21 ?_
      refine lv_iload_n X.1 X.2.1 d_M_cancel_24 rfl (lv_at hl 1 rfl) ?_
      refine zx_iald (j := i + 1) X hH (by omega) (show E 11 = zr_ia g 31 (zm_c (va_up rg i (rg i)) 2) from hM.2.2.2.1) rfl (by omega) (by decide) d_M_cancel_25 ?_
      refine zx_top (b := nI ((rg i).1 2)) (congrArg nI (zm_c_at _ _ _ _)) ?_
      refine lv_if_ne (tgt := 38) X.1 X.2.1 d_M_cancel_26 (by decide) (fun c3 => ?_) (fun c3 => ?_)
      · have c3 := mt (zn_eq (nI_toInt (by omega)) zn_0).mpr c3
        refine lv_iconst (v := nI 0) X.1 X.2.1 d_M_cancel_38 (by decide) ?_
        exact zx_zret X hr hlk hH (Nat.le_of_ble_eq_true rfl) (Nat.le_of_ble_eq_true rfl) d_M_cancel_39 rfl ⟨rfl, rfl, by rw [zs_can_b hi (by omega)], by rw [zs_can_b hi (by omega)]; exact hM.rg (zr_id rg i).symm, hF⟩
      · have c3 := (zn_eq (nI_toInt (by omega)) zn_0).mp c3
        refine lv_aload_n X.1 X.2.1 d_M_cancel_29 rfl (lv_at hl 0 rfl) ?_
        refine zx_get (v := .ref (ad (17))) X hH fg_M_34 (by omega) hM.1 rfl d_M_cancel_30 ?_
        refine lv_iload_n X.1 X.2.1 d_M_cancel_33 rfl (lv_at hl 1 rfl) ?_
        refine zx_zald (j := i + 1) X hH (by omega) (show E 17 = zr_za g 31 (zm_c (va_up rg i (rg i)) 7) from hM.2.2.2.2.2.2.2.2.2.1) rfl (by omega) (by decide) d_M_cancel_34 ?_
        refine zx_top (b := nI ((rg i).1 7)) (congrArg nI (zm_c_at _ _ _ _)) ?_
        refine lv_if_eq (tgt := 40) X.1 X.2.1 d_M_cancel_35 (by decide) (fun c4 => ?_) (fun c4 => ?_)
        · have c4 := (zn_eq (nI_toInt (by omega)) zn_0).mp c4
          refine lv_aload_n X.1 X.2.1 d_M_cancel_40 rfl (lv_at hl 0 rfl) ?_
          refine zx_get (v := .ref (ad (17))) X hH fg_M_34 (by omega) hM.1 rfl d_M_cancel_41 ?_
          refine lv_iload_n X.1 X.2.1 d_M_cancel_44 rfl (lv_at hl 1 rfl) ?_
          refine lv_iconst (v := nI 1) X.1 X.2.1 d_M_cancel_45 (by decide) ?_
          refine zx_zast (j := i + 1) (x := nI (1)) X hH (by omega) (show E 17 = zr_za g 31 (zm_c (va_up rg i (rg i)) 7) from hM.2.2.2.2.2.2.2.2.2.1) rfl (by omega) (by decide) (by decide) d_M_cancel_46 (fun H locs hH => ?_)
          rw [zr_upd] at hH
          have hH : zw_H g A s.heap s N ad (va_up E 17 (zr_za g 31 (va_up (zm_c (va_up rg i (rg i)) 7) (i + 1) (1)))) H locs := hH
          have hM := hM.s7 (1)
          have hF := hF.up (k := 17) (x := (zr_za g 31 (va_up (zm_c (va_up rg i (rg i)) 7) (i + 1) (1)))) (by decide) (by decide)
          generalize va_up E 17 (zr_za g 31 (va_up (zm_c (va_up rg i (rg i)) 7) (i + 1) (1))) = E5 at hH hM hF
          have hM : zm_at g ad E5 q (va_up rg i (va_up ((rg i).1) 7 (1), (rg i).2)) ev fs fl := hM
          refine lv_iconst (v := nI 1) X.1 X.2.1 d_M_cancel_47 (by decide) ?_
          exact zx_zret X hr hlk hH (Nat.le_of_ble_eq_true rfl) (Nat.le_of_ble_eq_true rfl) d_M_cancel_48 rfl ⟨rfl, rfl, by rw [zs_can_ok hi ⟨by omega, by omega, by omega⟩ ⟨by omega, by omega⟩], by rw [zs_can_ok hi ⟨by omega, by omega, by omega⟩ ⟨by omega, by omega⟩]; exact hM, hF⟩
        · have c4 := mt (zn_eq (nI_toInt (by omega)) zn_0).mpr c4
          refine lv_iconst (v := nI 0) X.1 X.2.1 d_M_cancel_38 (by decide) ?_
          exact zx_zret X hr hlk hH (Nat.le_of_ble_eq_true rfl) (Nat.le_of_ble_eq_true rfl) d_M_cancel_39 rfl ⟨rfl, rfl, by rw [zs_can_b hi (by omega)], by rw [zs_can_b hi (by omega)]; exact hM.rg (zr_id rg i).symm, hF⟩
    · refine zx_top (b := nI 0) (by rw [if_neg d1]) ?_
      refine lv_if_eq (tgt := 38) X.1 X.2.1 d_M_cancel_17 (by decide) (fun _ => ?_) (fun z => absurd rfl z)
      refine lv_iconst (v := nI 0) X.1 X.2.1 d_M_cancel_38 (by decide) ?_
      exact zx_zret X hr hlk hH (Nat.le_of_ble_eq_true rfl) (Nat.le_of_ble_eq_true rfl) d_M_cancel_39 rfl ⟨rfl, rfl, by rw [zs_can_a (by omega)], by rw [zs_can_a (by omega)]; exact hM, hF⟩

set_option maxHeartbeats 4000000 in
set_option maxRecDepth 100000 in
theorem c_M_post (g : zw_G) (l : Launch) (N : Nat) (ad : Nat → Nat) (E : Nat → va_E) (q : Nat → Nat) (rg : zt_R) (ev sf fs fl : Nat → Nat) (hN : 25 ≤ N) (hok : zt_ok q rg ev sf) (hv : zs_inv q rg) (hM : zm_at g ad E q rg ev fs fl) (x : Int32) : zc_i g l y_M_post b_M_post 2 (some .int) { frames := 0, cells := 0, slots := 0, locals := 0 } [.ref (ad (8)), .int (x)] N ad E (fun v N1 ad1 E1 => N = N1 ∧ ad = ad1 ∧ v = (zs_post q ev x).1 ∧ zm_at g ad E1 q rg (zs_post q ev x).2 fs fl ∧ zm_fr E E1) := by
  refine zc_i.of (by decide) (Nat.le_of_ble_eq_true rfl) ?_
  intro p e s m below meth c ls A X hr hlk hl hH
  have hl : lv_has ls 2 [(0, .ref (ad (8))), (1, .int (x))] := hl
  obtain ⟨k0, k2, k3, k3a, k4, k4a, k5, k5a, k6, k6a⟩ := hok.1
  have hF : zm_fr E E := zm_fr.rf
  refine lv_aload_n X.1 X.2.1 d_M_post_0 rfl (lv_at hl 0 rfl) ?_
  refine lv_iconst (v := nI 0) X.1 X.2.1 d_M_post_1 (by decide) ?_
  refine zx_put X hH fp_M_59 (by omega) hM.1 (Nat.le_of_ble_eq_true rfl) rfl rfl d_M_post_2 (fun H locs hH => ?_)
  have hH : zw_H g A s.heap s N ad (va_up E 8 (zm_o ad q)) H locs := hH
  rw [← hM.1, ← zr_id] at hH
  refine lv_iload_n X.1 X.2.1 d_M_post_5 rfl (lv_at hl 1 rfl) ?_
  refine lv_if_lt (tgt := 15) X.1 X.2.1 d_M_post_6 (by decide) (fun c2 => ?_) (fun c2 => ?_)
  · have c2 := (zn_lt rfl zn_0).mp c2
    refine lv_bipush (v := (-4)) X.1 X.2.1 d_M_post_15 (by decide) ?_
    exact zx_iret X hr hlk hH (Nat.le_of_ble_eq_true rfl) (Nat.le_of_ble_eq_true rfl) d_M_post_17 ⟨rfl, rfl, by rw [zs_post_bad (by omega)], by rw [zs_post_bad (by omega)]; exact hM, hF⟩
  · have c2 := mt (zn_lt rfl zn_0).mpr c2
    refine lv_iload_n X.1 X.2.1 d_M_post_9 rfl (lv_at hl 1 rfl) ?_
    refine lv_bipush (v := nI 15) X.1 X.2.1 d_M_post_10 (by decide) ?_
    refine lv_icmp_le (tgt := 18) X.1 X.2.1 d_M_post_12 (by decide) (fun c3 => ?_) (fun c3 => ?_)
    · have c3 := (zn_le rfl (nI_toInt (by omega))).mp c3
      refine lv_aload_n X.1 X.2.1 d_M_post_18 rfl (lv_at hl 0 rfl) ?_
      refine zx_get (v := .int (nI (q 2))) X hH fg_M_66 (by omega) hM.1 rfl d_M_post_19 ?_
      refine lv_if_eq (tgt := 28) X.1 X.2.1 d_M_post_22 (by decide) (fun c4 => ?_) (fun c4 => ?_)
      · have c4 := (zn_eq (nI_toInt (by omega)) zn_0).mp c4
        refine lv_aload_n X.1 X.2.1 d_M_post_28 rfl (lv_at hl 0 rfl) ?_
        refine zx_get (v := .ref (ad (23))) X hH fg_M_53 (by omega) hM.1 rfl d_M_post_29 ?_
        refine lv_iload_n X.1 X.2.1 d_M_post_32 rfl (lv_at hl 1 rfl) ?_
        refine zx_top (zn_nat (x := x) (by omega)) ?_
        refine lv_dup2_11 X.1 X.2.1 d_M_post_33 rfl rfl ?_
        refine zx_iald (j := x.toInt.toNat) X hH (by omega) (show E 23 = zr_ia g 16 ev from hM.2.2.2.2.2.2.2.2.2.2.2.2.2.2.2.1) rfl (by omega) (by decide) d_M_post_34 ?_
        refine lv_iconst (v := nI 1) X.1 X.2.1 d_M_post_35 (by decide) ?_
        refine lv_iadd X.1 X.2.1 d_M_post_36 ?_
        refine zx_top (nI_add _ _) ?_
        refine zx_iast (j := x.toInt.toNat) (x := nI (ev x.toInt.toNat + 1)) X hH (by omega) (show E 23 = zr_ia g 16 ev from hM.2.2.2.2.2.2.2.2.2.2.2.2.2.2.2.1) rfl (by omega) (by decide) d_M_post_37 (fun H locs hH => ?_)
        rw [zr_upd] at hH
        have hH : zw_H g A s.heap s N ad (va_up E 23 (zr_ia g 16 (va_up ev x.toInt.toNat (ev x.toInt.toNat + 1)))) H locs := hH
        have hM := hM.ev (va_up ev x.toInt.toNat (ev x.toInt.toNat + 1))
        have hF := hF.up (k := 23) (x := (zr_ia g 16 (va_up ev x.toInt.toNat (ev x.toInt.toNat + 1)))) (by decide) (by decide)
        generalize va_up E 23 (zr_ia g 16 (va_up ev x.toInt.toNat (ev x.toInt.toNat + 1))) = E5 at hH hM hF
        refine lv_aload_n X.1 X.2.1 d_M_post_38 rfl (lv_at hl 0 rfl) ?_
        refine zx_get (v := .ref (ad (23))) X hH fg_M_53 (by omega) hM.1 rfl d_M_post_39 ?_
        refine lv_iload_n X.1 X.2.1 d_M_post_42 rfl (lv_at hl 1 rfl) ?_
        refine zx_top (zn_nat (x := x) (by omega)) ?_
        refine zx_iald (j := x.toInt.toNat) X hH (by omega) (show E5 23 = zr_ia g 16 (va_up ev x.toInt.toNat (ev x.toInt.toNat + 1)) from hM.2.2.2.2.2.2.2.2.2.2.2.2.2.2.2.1) rfl (by omega) (by decide) d_M_post_43 ?_
        exact zx_iret X hr hlk hH (Nat.le_of_ble_eq_true rfl) (Nat.le_of_ble_eq_true rfl) d_M_post_44 ⟨rfl, rfl, by rw [zs_post_ok ⟨by omega, by omega⟩ (by omega), va_up_self], by rw [zs_post_ok ⟨by omega, by omega⟩ (by omega)]; exact hM, hF⟩
      · have c4 := mt (zn_eq (nI_toInt (by omega)) zn_0).mpr c4
        refine lv_bipush (v := (-5)) X.1 X.2.1 d_M_post_25 (by decide) ?_
        exact zx_iret X hr hlk hH (Nat.le_of_ble_eq_true rfl) (Nat.le_of_ble_eq_true rfl) d_M_post_27 ⟨rfl, rfl, by rw [zs_post_off ⟨by omega, by omega⟩ (by omega)], by rw [zs_post_off ⟨by omega, by omega⟩ (by omega)]; exact hM, hF⟩
    · have c3 := mt (zn_le rfl (nI_toInt (by omega))).mpr c3
      refine lv_bipush (v := (-4)) X.1 X.2.1 d_M_post_15 (by decide) ?_
      exact zx_iret X hr hlk hH (Nat.le_of_ble_eq_true rfl) (Nat.le_of_ble_eq_true rfl) d_M_post_17 ⟨rfl, rfl, by rw [zs_post_bad (by omega)], by rw [zs_post_bad (by omega)]; exact hM, hF⟩
end
section
theorem zp_new_eq (a b : Nat) : va_up (va_up (fun _ => 0) 0 a) 1 b = zp_new a b := by
  funext j
  unfold va_up zp_new
  by_cases h1 : j = 1
  · subst h1; rw [if_pos rfl, if_neg (by decide), if_pos rfl]
  · rw [if_neg h1]
    by_cases h0 : j = 0
    · rw [if_pos h0, if_pos h0]
    · rw [if_neg h0, if_neg h0, if_neg h1]
theorem zp_sch_fix {q sf : Nat → Nat} {v : Nat} (h : q 3 < 600) (h4 : q 3 ≤ q 4) : ((zp_sch q sf v).1 0 = q 0 ∧ (zp_sch q sf v).1 1 = q 1 ∧ (zp_sch q sf v).1 2 = q 2 ∧ (zp_sch q sf v).1 3 = q 3 + 1 ∧ (zp_sch q sf v).1 5 = q 5 ∧ (zp_sch q sf v).1 6 = q 6) ∧ (zp_sch q sf v).2 (q 3) = v ∧ ∀ j, j < q 3 → (zp_sch q sf v).2 j = sf j := by
  by_cases d : q 4 ≤ q 3
  · rw [zp_sch_grow (by omega) d]
    refine ⟨⟨rfl, rfl, rfl, rfl, rfl, rfl⟩, va_up_self (fun j => if j < q 4 then sf j else 0) (q 3) v, fun j hj => ?_⟩
    show va_up (fun j => if j < q 4 then sf j else 0) (q 3) v j = _
    rw [va_up_ne _ _ (by omega)]
    show (if j < q 4 then sf j else 0) = _
    rw [if_pos (by omega)]
  · rw [zp_sch_room (by omega) d]
    exact ⟨⟨rfl, rfl, rfl, rfl, rfl, rfl⟩, va_up_self sf (q 3) v, fun j hj => va_up_ne sf v (show j ≠ q 3 by omega)⟩
/-- what turn leaves of the schedule -/
theorem zm_turn {g : zw_G} {ad : Nat → Nat} {E1 : Nat → va_E} {q : Nat → Nat} {rg : zt_R} {ev sf fs fl : Nat → Nat} {v : Nat} (h3 : q 3 < 600) (h4 : q 3 ≤ q 4) (hfs : ∀ j, j < q 3 → fs j = sf j) (hM : zm_at g ad E1 (va_up q 3 (q 3 + 1)) rg ev (va_up fs (q 3) v) fl) : ∃ fs1, zm_at g ad E1 (zp_sch q sf v).1 rg ev fs1 fl ∧ ∀ j, j < (zp_sch q sf v).1 3 → fs1 j = (zp_sch q sf v).2 j := by
  obtain ⟨⟨a0, a1, a2, a3, a5, a6⟩, f1, f2⟩ := zp_sch_fix (sf := sf) (v := v) h3 h4
  refine ⟨_, hM.q a0 a1 a2 a3 a5, fun j hj => ?_⟩
  by_cases e : j = q 3
  · subst e; rw [va_up_self, f1]
  · rw [va_up_ne _ _ e, f2 j (by omega)]; exact hfs j (by omega)
theorem zm_left_same {r : (Nat → Nat) × (Nat → Nat → Nat)} : (va_up r.1 2 (r.1 2), r.2) = r := by rw [← zr_id]
set_option maxHeartbeats 4000000 in
set_option maxRecDepth 100000 in
theorem c_M_region (g : zw_G) (l : Launch) (N : Nat) (ad : Nat → Nat) (E : Nat → va_E) (q : Nat → Nat) (rg : zt_R) (ev sf fs fl : Nat → Nat) (hN : 25 ≤ N) (hok : zt_ok q rg ev sf) (hv : zs_inv q rg) (hM : zm_at g ad E q rg ev fs fl) (x y : Int32) : zc_i g l y_M_region b_M_region 3 (some .int) { frames := 0, cells := 0, slots := 0, locals := 0 } [.ref (ad (8)), .int (x), .int (y)] N ad E (fun v N1 ad1 E1 => N = N1 ∧ ad = ad1 ∧ v = (zs_reg q rg x y).1 ∧ zm_at g ad E1 (zs_reg q rg x y).2.1 (zs_reg q rg x y).2.2 ev fs fl ∧ zm_fr E E1) := by
  refine zc_i.of (by decide) (Nat.le_of_ble_eq_true rfl) ?_
  intro p e s m below meth c ls A X hr hlk hl hH
  have hl : lv_has ls 3 [(0, .ref (ad (8))), (1, .int (x)), (2, .int (y))] := hl
  obtain ⟨k0, k2, k3, k3a, k4, k4a, k5, k5a, k6, k6a⟩ := hok.1
  have hF : zm_fr E E := zm_fr.rf
  refine lv_aload_n X.1 X.2.1 d_M_region_0 rfl (lv_at hl 0 rfl) ?_
  refine lv_iconst (v := nI 0) X.1 X.2.1 d_M_region_1 (by decide) ?_
  refine zx_put X hH fp_M_59 (by omega) hM.1 (Nat.le_of_ble_eq_true rfl) rfl rfl d_M_region_2 (fun H locs hH => ?_)
  have hH : zw_H g A s.heap s N ad (va_up E 8 (zm_o ad q)) H locs := hH
  rw [← hM.1, ← zr_id] at hH
  refine lv_iload_n X.1 X.2.1 d_M_region_5 rfl (lv_at hl 1 rfl) ?_
  refine lv_iconst (v := nI 1) X.1 X.2.1 d_M_region_6 (by decide) ?_
  refine lv_icmp_lt (tgt := 26) X.1 X.2.1 d_M_region_7 (by decide) (fun c2 => ?_) (fun c2 => ?_)
  · have c2 := (zn_lt rfl (nI_toInt (by omega))).mp c2
    refine lv_bipush (v := (-4)) X.1 X.2.1 d_M_region_26 (by decide) ?_
    exact zx_iret X hr hlk hH (Nat.le_of_ble_eq_true rfl) (Nat.le_of_ble_eq_true rfl) d_M_region_28 ⟨rfl, rfl, by rw [zs_reg_bad (by omega)], by rw [zs_reg_bad (by omega)]; exact hM, hF⟩
  · have c2 := mt (zn_lt rfl (nI_toInt (by omega))).mpr c2
    refine lv_iload_n X.1 X.2.1 d_M_region_10 rfl (lv_at hl 1 rfl) ?_
    refine lv_bipush (v := nI 100) X.1 X.2.1 d_M_region_11 (by decide) ?_
    refine lv_icmp_gt (tgt := 26) X.1 X.2.1 d_M_region_13 (by decide) (fun c3 => ?_) (fun c3 => ?_)
    · have c3 := (zn_lt (nI_toInt (by omega)) rfl).mp c3
      refine lv_bipush (v := (-4)) X.1 X.2.1 d_M_region_26 (by decide) ?_
      exact zx_iret X hr hlk hH (Nat.le_of_ble_eq_true rfl) (Nat.le_of_ble_eq_true rfl) d_M_region_28 ⟨rfl, rfl, by rw [zs_reg_bad (by omega)], by rw [zs_reg_bad (by omega)]; exact hM, hF⟩
    · have c3 := mt (zn_lt (nI_toInt (by omega)) rfl).mpr c3
      refine lv_iload_n X.1 X.2.1 d_M_region_16 rfl (lv_at hl 2 rfl) ?_
      refine lv_if_lt (tgt := 26) X.1 X.2.1 d_M_region_17 (by decide) (fun c4 => ?_) (fun c4 => ?_)
      · have c4 := (zn_lt rfl zn_0).mp c4
        refine lv_bipush (v := (-4)) X.1 X.2.1 d_M_region_26 (by decide) ?_
        exact zx_iret X hr hlk hH (Nat.le_of_ble_eq_true rfl) (Nat.le_of_ble_eq_true rfl) d_M_region_28 ⟨rfl, rfl, by rw [zs_reg_bad (by omega)], by rw [zs_reg_bad (by omega)]; exact hM, hF⟩
      · have c4 := mt (zn_lt rfl zn_0).mpr c4
        refine lv_iload_n X.1 X.2.1 d_M_region_20 rfl (lv_at hl 2 rfl) ?_
        refine lv_bipush (v := nI 100) X.1 X.2.1 d_M_region_21 (by decide) ?_
        refine lv_icmp_le (tgt := 29) X.1 X.2.1 d_M_region_23 (by decide) (fun c5 => ?_) (fun c5 => ?_)
        · have c5 := (zn_le rfl (nI_toInt (by omega))).mp c5
          refine lv_aload_n X.1 X.2.1 d_M_region_29 rfl (lv_at hl 0 rfl) ?_
          refine zx_get (v := .int (nI (q 2))) X hH fg_M_66 (by omega) hM.1 rfl d_M_region_30 ?_
          refine lv_if_eq (tgt := 39) X.1 X.2.1 d_M_region_33 (by decide) (fun c6 => ?_) (fun c6 => ?_)
          · have c6 := (zn_eq (nI_toInt (by omega)) zn_0).mp c6
            refine lv_aload_n X.1 X.2.1 d_M_region_39 rfl (lv_at hl 0 rfl) ?_
            refine zx_get (v := .int (nI (q 0))) X hH fg_M_63 (by omega) hM.1 rfl d_M_region_40 ?_
            refine lv_bipush (v := nI 30) X.1 X.2.1 d_M_region_43 (by decide) ?_
            refine lv_icmp_ne (tgt := 50) X.1 X.2.1 d_M_region_45 (by decide) (fun c7 => ?_) (fun c7 => ?_)
            · have c7 := mt (zn_eq (nI_toInt (by omega)) (nI_toInt (by omega))).mpr c7
              refine lv_aload_n X.1 X.2.1 d_M_region_50 rfl (lv_at hl 0 rfl) ?_
              refine lv_dup X.1 X.2.1 d_M_region_51 rfl ?_
              refine zx_get (v := .int (nI (q 0))) X hH fg_M_63 (by omega) hM.1 rfl d_M_region_52 ?_
              refine lv_iconst (v := nI 1) X.1 X.2.1 d_M_region_55 (by decide) ?_
              refine lv_iadd X.1 X.2.1 d_M_region_56 ?_
              refine zx_top (nI_add _ _) ?_
              refine zx_put X hH fp_M_63 (by omega) hM.1 (Nat.le_of_ble_eq_true rfl) rfl rfl d_M_region_57 (fun H locs hH => ?_)
              have hH : zw_H g A s.heap s N ad (va_up E 8 (zm_o ad (va_up q 0 (q 0 + 1)))) H locs := hH
              have hM := hM.o (va_up q 0 (q 0 + 1))
              have hF := hF.up (k := 8) (x := (zm_o ad (va_up q 0 (q 0 + 1)))) (by decide) (by decide)
              generalize va_up E 8 (zm_o ad (va_up q 0 (q 0 + 1))) = E8 at hH hM hF
              obtain ⟨i, hi⟩ : ∃ i, i = q 0 := ⟨_, rfl⟩
              have hrz := hv.2.1 i (by omega)
              have hM := hM.rg (zr_id rg i)
              refine lv_aload_n X.1 X.2.1 d_M_region_60 rfl (lv_at hl 0 rfl) ?_
              refine zx_get (v := .ref (ad (9))) X hH fg_M_7 (by omega) hM.1 rfl d_M_region_61 ?_
              refine lv_aload_n X.1 X.2.1 d_M_region_64 rfl (lv_at hl 0 rfl) ?_
              refine zx_get (v := .int (nI (q 0 + 1))) X hH fg_M_63 (by omega) hM.1 rfl d_M_region_65 ?_
              refine lv_iload_n X.1 X.2.1 d_M_region_68 rfl (lv_at hl 1 rfl) ?_
              refine zx_top (zn_nat (x := x) (by omega)) ?_
              refine zx_iast (j := i + 1) (x := nI (x.toInt.toNat)) X hH (by omega) (show E8 9 = zr_ia g 31 (zm_c (va_up rg i (rg i)) 0) from hM.2.1) (by rw [hi]) (by omega) (by decide) d_M_region_69 (fun H locs hH => ?_)
              rw [zr_upd] at hH
              have hH : zw_H g A s.heap s N ad (va_up E8 9 (zr_ia g 31 (va_up (zm_c (va_up rg i (rg i)) 0) (i + 1) (x.toInt.toNat)))) H locs := hH
              have hM := hM.s0 (x.toInt.toNat)
              have hF := hF.up (k := 9) (x := (zr_ia g 31 (va_up (zm_c (va_up rg i (rg i)) 0) (i + 1) (x.toInt.toNat)))) (by decide) (by decide)
              generalize va_up E8 9 (zr_ia g 31 (va_up (zm_c (va_up rg i (rg i)) 0) (i + 1) (x.toInt.toNat))) = E9 at hH hM hF
              have hM : zm_at g ad E9 (va_up q 0 (q 0 + 1)) (va_up rg i (va_up ((rg i).1) 0 (x.toInt.toNat), (rg i).2)) ev fs fl := hM
              refine lv_aload_n X.1 X.2.1 d_M_region_70 rfl (lv_at hl 0 rfl) ?_
              refine zx_get (v := .ref (ad (10))) X hH fg_M_13 (by omega) hM.1 rfl d_M_region_71 ?_
              refine lv_aload_n X.1 X.2.1 d_M_region_74 rfl (lv_at hl 0 rfl) ?_
              refine zx_get (v := .int (nI (q 0 + 1))) X hH fg_M_63 (by omega) hM.1 rfl d_M_region_75 ?_
              refine lv_iload_n X.1 X.2.1 d_M_region_78 rfl (lv_at hl 2 rfl) ?_
              refine zx_top (zn_nat (x := y) (by omega)) ?_
              refine zx_iast (j := i + 1) (x := nI (y.toInt.toNat)) X hH (by omega) (show E9 10 = zr_ia g 31 (zm_c (va_up rg i (va_up ((rg i).1) 0 (x.toInt.toNat), (rg i).2)) 1) from hM.2.2.1) (by rw [hi]) (by omega) (by decide) d_M_region_79 (fun H locs hH => ?_)
              rw [zr_upd] at hH
              have hH : zw_H g A s.heap s N ad (va_up E9 10 (zr_ia g 31 (va_up (zm_c (va_up rg i (va_up ((rg i).1) 0 (x.toInt.toNat), (rg i).2)) 1) (i + 1) (y.toInt.toNat)))) H locs := hH
              have hM := hM.s1 (y.toInt.toNat)
              have hF := hF.up (k := 10) (x := (zr_ia g 31 (va_up (zm_c (va_up rg i (va_up ((rg i).1) 0 (x.toInt.toNat), (rg i).2)) 1) (i + 1) (y.toInt.toNat)))) (by decide) (by decide)
              generalize va_up E9 10 (zr_ia g 31 (va_up (zm_c (va_up rg i (va_up ((rg i).1) 0 (x.toInt.toNat), (rg i).2)) 1) (i + 1) (y.toInt.toNat))) = E10 at hH hM hF
              have hM : zm_at g ad E10 (va_up q 0 (q 0 + 1)) (va_up rg i (va_up (va_up ((rg i).1) 0 (x.toInt.toNat)) 1 (y.toInt.toNat), (rg i).2)) ev fs fl := hM
              refine lv_aload_n X.1 X.2.1 d_M_region_80 rfl (lv_at hl 0 rfl) ?_
              refine zx_get (v := .int (nI (q 0 + 1))) X hH fg_M_63 (by omega) hM.1 rfl d_M_region_81 ?_
              exact zx_iret X hr hlk hH (Nat.le_of_ble_eq_true rfl) (Nat.le_of_ble_eq_true rfl) d_M_region_84 ⟨rfl, rfl, by rw [zs_reg_ok ⟨⟨by omega, by omega⟩, by omega, by omega⟩ (by omega) (by omega)], by rw [zs_reg_ok ⟨⟨by omega, by omega⟩, by omega, by omega⟩ (by omega) (by omega)]; exact hM.rg (by rw [hrz, hi]; exact congrArg (fun z => va_up rg (q 0) (z, fun _ _ => 0)) (zp_new_eq _ _)), hF⟩
            · have c7 := (zn_eq (nI_toInt (by omega)) (nI_toInt (by omega))).mp c7
              refine lv_iconst (v := (-1)) X.1 X.2.1 d_M_region_48 (by decide) ?_
              exact zx_iret X hr hlk hH (Nat.le_of_ble_eq_true rfl) (Nat.le_of_ble_eq_true rfl) d_M_region_49 ⟨rfl, rfl, by rw [zs_reg_full ⟨⟨by omega, by omega⟩, by omega, by omega⟩ (by omega) (by omega)], by rw [zs_reg_full ⟨⟨by omega, by omega⟩, by omega, by omega⟩ (by omega) (by omega)]; exact hM, hF⟩
          · have c6 := mt (zn_eq (nI_toInt (by omega)) zn_0).mpr c6
            refine lv_bipush (v := (-5)) X.1 X.2.1 d_M_region_36 (by decide) ?_
            exact zx_iret X hr hlk hH (Nat.le_of_ble_eq_true rfl) (Nat.le_of_ble_eq_true rfl) d_M_region_38 ⟨rfl, rfl, by rw [zs_reg_off ⟨⟨by omega, by omega⟩, by omega, by omega⟩ (by omega)], by rw [zs_reg_off ⟨⟨by omega, by omega⟩, by omega, by omega⟩ (by omega)]; exact hM, hF⟩
        · have c5 := mt (zn_le rfl (nI_toInt (by omega))).mpr c5
          refine lv_bipush (v := (-4)) X.1 X.2.1 d_M_region_26 (by decide) ?_
          exact zx_iret X hr hlk hH (Nat.le_of_ble_eq_true rfl) (Nat.le_of_ble_eq_true rfl) d_M_region_28 ⟨rfl, rfl, by rw [zs_reg_bad (by omega)], by rw [zs_reg_bad (by omega)]; exact hM, hF⟩

set_option maxHeartbeats 4000000 in
set_option maxRecDepth 100000 in
theorem c_M_turn (g : zw_G) (l : Launch) (N : Nat) (ad : Nat → Nat) (E : Nat → va_E) (q : Nat → Nat) (rg : zt_R) (ev sf fs fl : Nat → Nat) (hN : 25 ≤ N) (hok : zt_ok q rg ev sf) (hv : zs_inv q rg) (hM : zm_at g ad E q rg ev fs fl) (hfs : ∀ j, j < q 3 → fs j = sf j) (x : Int32) : zc_v g l y_M_turn b_M_turn 2 { frames := 1, cells := 0, slots := 0, locals := 40 } [.ref (ad (8)), .int (x)] N ad E (fun N1 ad1 E1 => N = N1 ∧ ad = ad1 ∧ (∃ fs1, zm_at g ad E1 (zs_turn q sf x).1 rg ev fs1 fl ∧ ∀ j, j < (zs_turn q sf x).1 3 → fs1 j = (zs_turn q sf x).2 j) ∧ zm_fr E E1) := by
  refine zc_v.of (by decide) (Nat.le_of_ble_eq_true rfl) ?_
  intro p e s m below meth c ls A X hr hlk hnm hl hH
  have hl : lv_has ls 2 [(0, .ref (ad (8))), (1, .int (x))] := hl
  obtain ⟨k0, k2, k3, k3a, k4, k4a, k5, k5a, k6, k6a⟩ := hok.1
  have hF : zm_fr E E := zm_fr.rf
  refine lv_aload_n X.1 X.2.1 d_M_turn_0 rfl (lv_at hl 0 rfl) ?_
  refine lv_iconst (v := nI 0) X.1 X.2.1 d_M_turn_1 (by decide) ?_
  refine zx_put X hH fp_M_59 (by omega) hM.1 (Nat.le_of_ble_eq_true rfl) rfl rfl d_M_turn_2 (fun H locs hH => ?_)
  have hH : zw_H g A s.heap s N ad (va_up E 8 (zm_o ad q)) H locs := hH
  rw [← hM.1, ← zr_id] at hH
  refine lv_aload_n X.1 X.2.1 d_M_turn_5 rfl (lv_at hl 0 rfl) ?_
  refine zx_get (v := .int (nI (q 2))) X hH fg_M_66 (by omega) hM.1 rfl d_M_turn_6 ?_
  refine lv_if_ne (tgt := 30) X.1 X.2.1 d_M_turn_9 (by decide) (fun c2 => ?_) (fun c2 => ?_)
  · have c2 := mt (zn_eq (nI_toInt (by omega)) zn_0).mpr c2
    have hz9 := zs_turn_no (q := q) (sf := sf) (x := x) (by omega)
    exact zx_vret X hr hlk hH (Nat.le_of_ble_eq_true rfl) (Nat.le_of_ble_eq_true rfl) d_M_turn_30 ⟨rfl, rfl, by rw [hz9]; exact ⟨fs, hM, hfs⟩, hF⟩
  · have c2 := (zn_eq (nI_toInt (by omega)) zn_0).mp c2
    refine lv_aload_n X.1 X.2.1 d_M_turn_12 rfl (lv_at hl 0 rfl) ?_
    refine lv_iload_n X.1 X.2.1 d_M_turn_13 rfl (lv_at hl 1 rfl) ?_
    refine zx_calli (zx_runV (As := [.int (x)]) (rest := []) X hH mv_M_70 ((c_M_isRegion g l N ad E q rg ev fs fl hN (by omega) hM x) _) (by omega) hM.1 rfl ⟨Nat.le_of_ble_eq_true rfl, Nat.le_of_ble_eq_true rfl⟩ rfl hl rfl (Nat.le_of_ble_eq_true rfl) d_M_turn_14 ⟨Nat.le_of_ble_eq_true rfl, Nat.le_of_ble_eq_true rfl⟩) hH (fun r N1 ad1 E1 H locs hq hH => ?_)
    obtain ⟨rfl, rfl, rfl, rfl⟩ := hq
    by_cases d1 : 1 ≤ x.toInt ∧ x.toInt ≤ (q 0 : Int)
    · refine zx_top (b := nI 1) (by rw [if_pos d1]) ?_
      refine lv_if_eq (tgt := 30) X.1 X.2.1 d_M_turn_17 (by decide) (fun z => absurd z (by decide)) (fun _ => ?_)
      obtain ⟨i, hi⟩ : ∃ i, i = x.toInt.toNat - 1 := ⟨_, rfl⟩
      have hi0 : i < q 0 := by omega
      have hx9 : x = nI (i + 1) := zn_of (by omega)
      have hro := hok.2.1 i hi0
      obtain ⟨r0, r1, r2, r3, r4, r5, r7, r8, r6⟩ := hro.1
      obtain ⟨v0, v5, v3⟩ := hv.1 i hi0
      rw [hx9] at hl
      have hM := hM.rg (zr_id rg i)
      refine lv_aload_n X.1 X.2.1 d_M_turn_20 rfl (lv_at hl 0 rfl) ?_
      refine zx_get (v := .int (nI (q 3))) X hH fg_M_74 (by omega) hM.1 rfl d_M_turn_21 ?_
      refine lv_sipush (v := nI 600) X.1 X.2.1 d_M_turn_24 (by decide) ?_
      refine lv_icmp_ne (tgt := 31) X.1 X.2.1 d_M_turn_27 (by decide) (fun c3 => ?_) (fun c3 => ?_)
      · have c3 := mt (zn_eq (nI_toInt (by omega)) (nI_toInt (by omega))).mpr c3
        refine lv_aload_n X.1 X.2.1 d_M_turn_31 rfl (lv_at hl 0 rfl) ?_
        refine zx_get (v := .ref (ad (22))) X hH fg_M_50 (by omega) hM.1 rfl d_M_turn_32 ?_
        refine lv_aload_n X.1 X.2.1 d_M_turn_35 rfl (lv_at hl 0 rfl) ?_
        refine zx_get (v := .int (nI (q 3))) X hH fg_M_74 (by omega) hM.1 rfl d_M_turn_36 ?_
        refine lv_iload_n X.1 X.2.1 d_M_turn_39 rfl (lv_at hl 1 rfl) ?_
        refine zx_iast (j := q 3) (x := nI (i + 1)) X hH (by omega) (show E 22 = zr_ia g 600 fs from hM.2.2.2.2.2.2.2.2.2.2.2.2.2.2.1) rfl (by omega) (by decide) d_M_turn_40 (fun H locs hH => ?_)
        rw [zr_upd] at hH
        have hH : zw_H g A s.heap s N ad (va_up E 22 (zr_ia g 600 (va_up fs (q 3) (i + 1)))) H locs := hH
        have hM := hM.fs (va_up fs (q 3) (i + 1))
        have hF := hF.up (k := 22) (x := (zr_ia g 600 (va_up fs (q 3) (i + 1)))) (by decide) (by decide)
        generalize va_up E 22 (zr_ia g 600 (va_up fs (q 3) (i + 1))) = E4 at hH hM hF
        refine lv_aload_n X.1 X.2.1 d_M_turn_41 rfl (lv_at hl 0 rfl) ?_
        refine lv_dup X.1 X.2.1 d_M_turn_42 rfl ?_
        refine zx_get (v := .int (nI (q 3))) X hH fg_M_74 (by omega) hM.1 rfl d_M_turn_43 ?_
        refine lv_iconst (v := nI 1) X.1 X.2.1 d_M_turn_46 (by decide) ?_
        refine lv_iadd X.1 X.2.1 d_M_turn_47 ?_
        refine zx_top (nI_add _ _) ?_
        refine zx_put X hH fp_M_74 (by omega) hM.1 (Nat.le_of_ble_eq_true rfl) rfl rfl d_M_turn_48 (fun H locs hH => ?_)
        have hH : zw_H g A s.heap s N ad (va_up E4 8 (zm_o ad (va_up q 3 (q 3 + 1)))) H locs := hH
        have hM := hM.o (va_up q 3 (q 3 + 1))
        have hF := hF.up (k := 8) (x := (zm_o ad (va_up q 3 (q 3 + 1)))) (by decide) (by decide)
        generalize va_up E4 8 (zm_o ad (va_up q 3 (q 3 + 1))) = E5 at hH hM hF
        have hz9 := zs_turn_yes (q := q) (sf := sf) (x := x) ⟨by omega, by omega, by omega⟩
        rw [show x.toInt.toNat = i + 1 by omega] at hz9
        have hM := zm_turn (by omega) k3a hfs (hM.rg (zr_id rg i).symm)
        exact zx_vret X hr hlk hH (Nat.le_of_ble_eq_true rfl) (Nat.le_of_ble_eq_true rfl) d_M_turn_51 ⟨rfl, rfl, by rw [hz9]; exact hM, hF⟩
      · have c3 := (zn_eq (nI_toInt (by omega)) (nI_toInt (by omega))).mp c3
        have hz9 : zs_turn q sf x = (q, sf) := by rw [zs_turn_yes ⟨by omega, by omega, by omega⟩, zp_sch_full (by omega)]
        exact zx_vret X hr hlk hH (Nat.le_of_ble_eq_true rfl) (Nat.le_of_ble_eq_true rfl) d_M_turn_30 ⟨rfl, rfl, by rw [hz9]; exact ⟨fs, hM.rg (zr_id rg i).symm, hfs⟩, hF⟩
    · refine zx_top (b := nI 0) (by rw [if_neg d1]) ?_
      refine lv_if_eq (tgt := 30) X.1 X.2.1 d_M_turn_17 (by decide) (fun _ => ?_) (fun z => absurd rfl z)
      have hz9 := zs_turn_no (q := q) (sf := sf) (x := x) (by omega)
      exact zx_vret X hr hlk hH (Nat.le_of_ble_eq_true rfl) (Nat.le_of_ble_eq_true rfl) d_M_turn_30 ⟨rfl, rfl, by rw [hz9]; exact ⟨fs, hM, hfs⟩, hF⟩

set_option maxHeartbeats 4000000 in
set_option maxRecDepth 100000 in
theorem c_M_count (g : zw_G) (l : Launch) (N : Nat) (ad : Nat → Nat) (E : Nat → va_E) (q : Nat → Nat) (rg : zt_R) (ev sf fs fl : Nat → Nat) (hN : 25 ≤ N) (hok : zt_ok q rg ev sf) (hv : zs_inv q rg) (hM : zm_at g ad E q rg ev fs fl) (x : Int32) : zc_i g l y_M_count b_M_count 4 (some .int) { frames := 0, cells := 0, slots := 0, locals := 0 } [.ref (ad (8)), .int (x)] N ad E (fun v N1 ad1 E1 => N = N1 ∧ ad = ad1 ∧ E = E1 ∧ v = zs_cnt q rg ev x) := by
  refine zc_i.of (by decide) (Nat.le_of_ble_eq_true rfl) ?_
  intro p e s m below meth c ls A X hr hlk hl hH
  have hl : lv_has ls 4 [(0, .ref (ad (8))), (1, .int (x))] := hl
  obtain ⟨k0, k2, k3, k3a, k4, k4a, k5, k5a, k6, k6a⟩ := hok.1
  have hF : zm_fr E E := zm_fr.rf
  refine lv_aload_n X.1 X.2.1 d_M_count_0 rfl (lv_at hl 0 rfl) ?_
  refine lv_iconst (v := nI 0) X.1 X.2.1 d_M_count_1 (by decide) ?_
  refine zx_put X hH fp_M_59 (by omega) hM.1 (Nat.le_of_ble_eq_true rfl) rfl rfl d_M_count_2 (fun H locs hH => ?_)
  have hH : zw_H g A s.heap s N ad (va_up E 8 (zm_o ad q)) H locs := hH
  rw [← hM.1, ← zr_id] at hH
  refine lv_iconst (v := nI 0) X.1 X.2.1 d_M_count_5 (by decide) ?_
  refine lv_istore_n (lv' := [(2, .int (nI (0))), (0, .ref (ad (8))), (1, .int (x))]) X.1 X.2.1 d_M_count_6 rfl hl (by decide) rfl (fun ls hl => ?_)
  refine lv_iconst (v := nI 1) X.1 X.2.1 d_M_count_7 (by decide) ?_
  refine lv_istore_n (lv' := [(3, .int (nI (1))), (2, .int (nI (0))), (0, .ref (ad (8))), (1, .int (x))]) X.1 X.2.1 d_M_count_8 rfl hl (by decide) rfl (fun ls hl => ?_)
  refine zx_loop (σ := Nat) (fun i H locs ls => i ≤ q 0 ∧ zw_H g A s.heap s N ad E H locs ∧ lv_has ls 4 [(3, .int (nI (i + 1))), (2, .int (nI (zp_cnt (fun i => decide ((rg i).1 2 = 0)) i))), (0, .ref (ad 8)), (1, .int x)]) (fun i => q 0 - i) (fun _ => 0) (fun _ => 0) ?_ 0 _ _ _ ⟨Nat.zero_le _, hH, hl⟩
  intro i H locs ls ⟨hi, hH, hl⟩ ih
  have hle := zp_cnt_le (fun i => decide ((rg i).1 2 = 0)) i
  have hrs : i < q 0 → (rg i).1 2 ≤ 4 := fun h => (hok.2.1 i h).1.2.2.1
  refine lv_iload_n X.1 X.2.1 d_M_count_9 rfl (lv_at hl 0 rfl) ?_
  refine lv_aload_n X.1 X.2.1 d_M_count_10 rfl (lv_at hl 2 rfl) ?_
  refine zx_get (v := .int (nI (q 0))) X hH fg_M_63 (by omega) hM.1 rfl d_M_count_11 ?_
  refine lv_icmp_gt (tgt := 40) X.1 X.2.1 d_M_count_14 (by decide) (fun c2 => ?_) (fun c2 => ?_)
  · have c2 := (zn_lt (nI_toInt (by omega)) (nI_toInt (by omega))).mp c2
    refine lv_iload_n X.1 X.2.1 d_M_count_40 rfl (lv_at hl 3 rfl) ?_
    have hiq : i = q 0 := by omega
    rw [hiq] at hl
    by_cases t0 : x.toInt = 0
    · refine lv_tableIn (off := 39) (tgt := 80) X.1 X.2.1 d_M_count_41 (by omega) (by omega) (by rw [t0]; rfl) (by decide) ?_
      refine lv_aload_n X.1 X.2.1 d_M_count_80 rfl (lv_at hl 2 rfl) ?_
      refine zx_get (v := .int (nI (q 0))) X hH fg_M_63 (by omega) hM.1 rfl d_M_count_81 ?_
      exact zx_iret X hr hlk hH (Nat.le_of_ble_eq_true rfl) (Nat.le_of_ble_eq_true rfl) d_M_count_84 ⟨rfl, rfl, rfl, by unfold zs_cnt; rw [if_pos t0]⟩
    · skip
      by_cases t1 : x.toInt = 1
      · refine lv_tableIn (off := 44) (tgt := 85) X.1 X.2.1 d_M_count_41 (by omega) (by omega) (by rw [t1]; rfl) (by decide) ?_
        refine lv_aload_n X.1 X.2.1 d_M_count_85 rfl (lv_at hl 2 rfl) ?_
        refine zx_get (v := .int (nI (q 3))) X hH fg_M_74 (by omega) hM.1 rfl d_M_count_86 ?_
        exact zx_iret X hr hlk hH (Nat.le_of_ble_eq_true rfl) (Nat.le_of_ble_eq_true rfl) d_M_count_89 ⟨rfl, rfl, rfl, by unfold zs_cnt; rw [if_neg t0, if_pos t1]⟩
      · skip
        by_cases t2 : x.toInt = 2
        · refine lv_tableIn (off := 49) (tgt := 90) X.1 X.2.1 d_M_count_41 (by omega) (by omega) (by rw [t2]; rfl) (by decide) ?_
          refine lv_aload_n X.1 X.2.1 d_M_count_90 rfl (lv_at hl 2 rfl) ?_
          refine zx_get (v := .int (nI (q 5))) X hH fg_M_91 (by omega) hM.1 rfl d_M_count_91 ?_
          exact zx_iret X hr hlk hH (Nat.le_of_ble_eq_true rfl) (Nat.le_of_ble_eq_true rfl) d_M_count_94 ⟨rfl, rfl, rfl, by unfold zs_cnt; rw [if_neg t0, if_neg t1, if_pos t2]⟩
        · skip
          by_cases t3 : x.toInt = 3
          · refine lv_tableIn (off := 54) (tgt := 95) X.1 X.2.1 d_M_count_41 (by omega) (by omega) (by rw [t3]; rfl) (by decide) ?_
            refine lv_iload_n X.1 X.2.1 d_M_count_95 rfl (lv_at hl 1 rfl) ?_
            exact zx_iret X hr hlk hH (Nat.le_of_ble_eq_true rfl) (Nat.le_of_ble_eq_true rfl) d_M_count_96 ⟨rfl, rfl, rfl, by unfold zs_cnt; rw [if_neg t0, if_neg t1, if_neg t2, if_pos t3]⟩
          · skip
            by_cases t4 : x.toInt = 4
            · refine lv_tableIn (off := 56) (tgt := 97) X.1 X.2.1 d_M_count_41 (by omega) (by omega) (by rw [t4]; rfl) (by decide) ?_
              refine lv_aload_n X.1 X.2.1 d_M_count_97 rfl (lv_at hl 2 rfl) ?_
              refine zx_get (v := .int (nI (q 1))) X hH fg_M_98 (by omega) hM.1 rfl d_M_count_98 ?_
              exact zx_iret X hr hlk hH (Nat.le_of_ble_eq_true rfl) (Nat.le_of_ble_eq_true rfl) d_M_count_101 ⟨rfl, rfl, rfl, by unfold zs_cnt; rw [if_neg t0, if_neg t1, if_neg t2, if_neg t3, if_pos t4]⟩
            · skip
              by_cases t5 : x.toInt = 5
              · refine lv_tableIn (off := 61) (tgt := 102) X.1 X.2.1 d_M_count_41 (by omega) (by omega) (by rw [t5]; rfl) (by decide) ?_
                refine lv_aload_n X.1 X.2.1 d_M_count_102 rfl (lv_at hl 2 rfl) ?_
                refine zx_get (v := .int (nI (q 2))) X hH fg_M_66 (by omega) hM.1 rfl d_M_count_103 ?_
                refine lv_if_eq (tgt := 113) X.1 X.2.1 d_M_count_106 (by decide) (fun c3 => ?_) (fun c3 => ?_)
                · have c3 := (zn_eq (nI_toInt (by omega)) zn_0).mp c3
                  refine lv_iconst (v := nI 0) X.1 X.2.1 d_M_count_113 (by decide) ?_
                  exact zx_iret X hr hlk hH (Nat.le_of_ble_eq_true rfl) (Nat.le_of_ble_eq_true rfl) d_M_count_114 ⟨rfl, rfl, rfl, by unfold zs_cnt; rw [if_neg t0, if_neg t1, if_neg t2, if_neg t3, if_neg t4, if_pos t5, show q 2 = 0 by omega]⟩
                · have c3 := mt (zn_eq (nI_toInt (by omega)) zn_0).mpr c3
                  refine lv_iconst (v := nI 1) X.1 X.2.1 d_M_count_109 (by decide) ?_
                  refine lv_goto (tgt := 114) X.1 X.2.1 d_M_count_110 (by decide) ?_
                  exact zx_iret X hr hlk hH (Nat.le_of_ble_eq_true rfl) (Nat.le_of_ble_eq_true rfl) d_M_count_114 ⟨rfl, rfl, rfl, by unfold zs_cnt; rw [if_neg t0, if_neg t1, if_neg t2, if_neg t3, if_neg t4, if_pos t5, show q 2 = 1 by omega]⟩
              · skip
                refine lv_tableOut (tgt := 115) X.1 X.2.1 d_M_count_41 (by omega) (by decide) ?_
                refine lv_iload_n X.1 X.2.1 d_M_count_115 rfl (lv_at hl 3 rfl) ?_
                refine lv_bipush (v := nI 9) X.1 X.2.1 d_M_count_116 (by decide) ?_
                refine lv_icmp_le (tgt := 139) X.1 X.2.1 d_M_count_118 (by decide) (fun c4 => ?_) (fun c4 => ?_)
                · have c4 := (zn_le rfl (nI_toInt (by omega))).mp c4
                  refine lv_iconst (v := (-1)) X.1 X.2.1 d_M_count_139 (by decide) ?_
                  exact zx_iret X hr hlk hH (Nat.le_of_ble_eq_true rfl) (Nat.le_of_ble_eq_true rfl) d_M_count_140 ⟨rfl, rfl, rfl, by unfold zs_cnt; rw [if_neg t0, if_neg t1, if_neg t2, if_neg t3, if_neg t4, if_neg t5, if_neg (by omega)]⟩
                · have c4 := mt (zn_le rfl (nI_toInt (by omega))).mpr c4
                  refine lv_iload_n X.1 X.2.1 d_M_count_121 rfl (lv_at hl 3 rfl) ?_
                  refine lv_bipush (v := nI 26) X.1 X.2.1 d_M_count_122 (by decide) ?_
                  refine lv_icmp_ge (tgt := 139) X.1 X.2.1 d_M_count_124 (by decide) (fun c5 => ?_) (fun c5 => ?_)
                  · have c5 := (zn_le (nI_toInt (by omega)) rfl).mp c5
                    refine lv_iconst (v := (-1)) X.1 X.2.1 d_M_count_139 (by decide) ?_
                    exact zx_iret X hr hlk hH (Nat.le_of_ble_eq_true rfl) (Nat.le_of_ble_eq_true rfl) d_M_count_140 ⟨rfl, rfl, rfl, by unfold zs_cnt; rw [if_neg t0, if_neg t1, if_neg t2, if_neg t3, if_neg t4, if_neg t5, if_neg (by omega)]⟩
                  · have c5 := mt (zn_le (nI_toInt (by omega)) rfl).mpr c5
                    refine lv_aload_n X.1 X.2.1 d_M_count_127 rfl (lv_at hl 2 rfl) ?_
                    refine zx_get (v := .ref (ad (23))) X hH fg_M_53 (by omega) hM.1 rfl d_M_count_128 ?_
                    refine lv_iload_n X.1 X.2.1 d_M_count_131 rfl (lv_at hl 3 rfl) ?_
                    refine lv_bipush (v := nI 10) X.1 X.2.1 d_M_count_132 (by decide) ?_
                    refine lv_isub X.1 X.2.1 d_M_count_134 ?_
                    refine zx_top (zn_sub10e (by omega)) ?_
                    refine zx_iald (j := x.toInt.toNat - 10) X hH (by omega) (show E 23 = zr_ia g 16 ev from hM.2.2.2.2.2.2.2.2.2.2.2.2.2.2.2.1) rfl (by omega) (by decide) d_M_count_135 ?_
                    refine lv_goto (tgt := 140) X.1 X.2.1 d_M_count_136 (by decide) ?_
                    exact zx_iret X hr hlk hH (Nat.le_of_ble_eq_true rfl) (Nat.le_of_ble_eq_true rfl) d_M_count_140 ⟨rfl, rfl, rfl, by unfold zs_cnt; rw [if_neg t0, if_neg t1, if_neg t2, if_neg t3, if_neg t4, if_neg t5, if_pos ⟨by omega, by omega⟩]⟩
  · have c2 := mt (zn_lt (nI_toInt (by omega)) (nI_toInt (by omega))).mpr c2
    refine lv_iload_n X.1 X.2.1 d_M_count_17 rfl (lv_at hl 1 rfl) ?_
    refine lv_aload_n X.1 X.2.1 d_M_count_18 rfl (lv_at hl 2 rfl) ?_
    refine zx_get (v := .ref (ad (11))) X hH fg_M_16 (by omega) hM.1 rfl d_M_count_19 ?_
    refine lv_iload_n X.1 X.2.1 d_M_count_22 rfl (lv_at hl 0 rfl) ?_
    refine zx_iald (j := i + 1) X hH (by omega) (show E 11 = zr_ia g 31 (zm_c rg 2) from hM.2.2.2.1) rfl (by omega) (by decide) d_M_count_23 ?_
    refine zx_top (b := nI ((rg i).1 2)) (congrArg nI (zm_c_a _ _ _)) ?_
    refine lv_if_ne (tgt := 31) X.1 X.2.1 d_M_count_24 (by decide) (fun c6 => ?_) (fun c6 => ?_)
    · have c6 := mt (zn_eq (nI_toInt (by omega)) zn_0).mpr c6
      refine lv_iconst (v := nI 0) X.1 X.2.1 d_M_count_31 (by decide) ?_
      refine lv_iadd X.1 X.2.1 d_M_count_32 ?_
      refine zx_top (nI_add _ _) ?_
      refine lv_istore_n (lv' := [(2, .int (nI ((zp_cnt (fun i => decide ((rg i).1 2 = 0)) i) + (0)))), (3, .int (nI (i + 1))), (0, .ref (ad (8))), (1, .int (x))]) X.1 X.2.1 d_M_count_33 rfl hl (by decide) rfl (fun ls hl => ?_)
      refine lv_iinc (v := nI (i + 1 + 1)) (lv' := [(3, .int (nI (i + 1 + 1))), (2, .int (nI ((zp_cnt (fun i => decide ((rg i).1 2 = 0)) i) + (0)))), (0, .ref (ad (8))), (1, .int (x))]) X.1 X.2.1 d_M_count_34 hl (k := 1) rfl (nI_add _ _) (by decide) rfl (fun ls hl => ?_)
      refine lv_goto (tgt := 9) X.1 X.2.1 d_M_count_37 (by decide) ?_
      have hz : zp_cnt (fun i => decide ((rg i).1 2 = 0)) (i + 1) = zp_cnt (fun i => decide ((rg i).1 2 = 0)) i := zp_cnt_n (fun h => by have h2 := of_decide_eq_true h; omega)
      exact ih (i + 1) _ _ _ ⟨by omega, hH, by rw [hz]; exact lv_sub hl [0, 1, 2, 3] rfl⟩ (by omega)
    · have c6 := (zn_eq (nI_toInt (by omega)) zn_0).mp c6
      refine lv_iconst (v := nI 1) X.1 X.2.1 d_M_count_27 (by decide) ?_
      refine lv_goto (tgt := 32) X.1 X.2.1 d_M_count_28 (by decide) ?_
      refine lv_iadd X.1 X.2.1 d_M_count_32 ?_
      refine zx_top (nI_add _ _) ?_
      refine lv_istore_n (lv' := [(2, .int (nI ((zp_cnt (fun i => decide ((rg i).1 2 = 0)) i) + (1)))), (3, .int (nI (i + 1))), (0, .ref (ad (8))), (1, .int (x))]) X.1 X.2.1 d_M_count_33 rfl hl (by decide) rfl (fun ls hl => ?_)
      refine lv_iinc (v := nI (i + 1 + 1)) (lv' := [(3, .int (nI (i + 1 + 1))), (2, .int (nI ((zp_cnt (fun i => decide ((rg i).1 2 = 0)) i) + (1)))), (0, .ref (ad (8))), (1, .int (x))]) X.1 X.2.1 d_M_count_34 hl (k := 1) rfl (nI_add _ _) (by decide) rfl (fun ls hl => ?_)
      refine lv_goto (tgt := 9) X.1 X.2.1 d_M_count_37 (by decide) ?_
      have hz : zp_cnt (fun i => decide ((rg i).1 2 = 0)) (i + 1) = zp_cnt (fun i => decide ((rg i).1 2 = 0)) i + 1 := zp_cnt_y (decide_eq_true (by omega))
      exact ih (i + 1) _ _ _ ⟨by omega, hH, by rw [hz]; exact lv_sub hl [0, 1, 2, 3] rfl⟩ (by omega)

set_option maxHeartbeats 4000000 in
set_option maxRecDepth 100000 in
theorem c_M_run_off (g : zw_G) (l : Launch) (N : Nat) (ad : Nat → Nat) (E : Nat → va_E) (q : Nat → Nat) (rg : zt_R) (ev sf fs fl : Nat → Nat) (hN : 25 ≤ N) (hok : zt_ok q rg ev sf) (hv : zs_inv q rg) (hM : zm_at g ad E q rg ev fs fl) (hcl : ¬ q 2 = 0) : zc_i g l y_M_run b_M_run 4 (some .int) { frames := 0, cells := 0, slots := 0, locals := 0 } [.ref (ad (8))] N ad E (fun v N1 ad1 E1 => N = N1 ∧ ad = ad1 ∧ E = E1 ∧ v = -5) := by
  refine zc_i.of (by decide) (Nat.le_of_ble_eq_true rfl) ?_
  intro p e s m below meth c ls A X hr hlk hl hH
  have hl : lv_has ls 4 [(0, .ref (ad (8)))] := hl
  obtain ⟨k0, k2, k3, k3a, k4, k4a, k5, k5a, k6, k6a⟩ := hok.1
  have hF : zm_fr E E := zm_fr.rf
  refine lv_aload_n X.1 X.2.1 d_M_run_0 rfl (lv_at hl 0 rfl) ?_
  refine lv_iconst (v := nI 0) X.1 X.2.1 d_M_run_1 (by decide) ?_
  refine zx_put X hH fp_M_59 (by omega) hM.1 (Nat.le_of_ble_eq_true rfl) rfl rfl d_M_run_2 (fun H locs hH => ?_)
  have hH : zw_H g A s.heap s N ad (va_up E 8 (zm_o ad q)) H locs := hH
  rw [← hM.1, ← zr_id] at hH
  refine lv_aload_n X.1 X.2.1 d_M_run_5 rfl (lv_at hl 0 rfl) ?_
  refine zx_get (v := .int (nI (q 2))) X hH fg_M_66 (by omega) hM.1 rfl d_M_run_6 ?_
  refine lv_if_eq (tgt := 15) X.1 X.2.1 d_M_run_9 (by decide) (fun c2 => ?_) (fun c2 => ?_)
  · have c2 := (zn_eq (nI_toInt (by omega)) zn_0).mp c2
    exfalso; omega
  · have c2 := mt (zn_eq (nI_toInt (by omega)) zn_0).mpr c2
    refine lv_bipush (v := (-5)) X.1 X.2.1 d_M_run_12 (by decide) ?_
    exact zx_iret X hr hlk hH (Nat.le_of_ble_eq_true rfl) (Nat.le_of_ble_eq_true rfl) d_M_run_14 ⟨rfl, rfl, rfl, rfl⟩

set_option maxHeartbeats 4000000 in
set_option maxRecDepth 100000 in
theorem c_M_close_off (g : zw_G) (l : Launch) (N : Nat) (ad : Nat → Nat) (E : Nat → va_E) (q : Nat → Nat) (rg : zt_R) (ev sf fs fl : Nat → Nat) (hN : 25 ≤ N) (hok : zt_ok q rg ev sf) (hv : zs_inv q rg) (hM : zm_at g ad E q rg ev fs fl) (hcl : ¬ q 2 = 0) : zc_i g l y_M_close b_M_close 3 (some .int) { frames := 0, cells := 0, slots := 0, locals := 0 } [.ref (ad (8))] N ad E (fun v N1 ad1 E1 => N = N1 ∧ ad = ad1 ∧ E = E1 ∧ v = -5) := by
  refine zc_i.of (by decide) (Nat.le_of_ble_eq_true rfl) ?_
  intro p e s m below meth c ls A X hr hlk hl hH
  have hl : lv_has ls 3 [(0, .ref (ad (8)))] := hl
  obtain ⟨k0, k2, k3, k3a, k4, k4a, k5, k5a, k6, k6a⟩ := hok.1
  have hF : zm_fr E E := zm_fr.rf
  refine lv_aload_n X.1 X.2.1 d_M_close_0 rfl (lv_at hl 0 rfl) ?_
  refine lv_iconst (v := nI 0) X.1 X.2.1 d_M_close_1 (by decide) ?_
  refine zx_put X hH fp_M_59 (by omega) hM.1 (Nat.le_of_ble_eq_true rfl) rfl rfl d_M_close_2 (fun H locs hH => ?_)
  have hH : zw_H g A s.heap s N ad (va_up E 8 (zm_o ad q)) H locs := hH
  rw [← hM.1, ← zr_id] at hH
  refine lv_aload_n X.1 X.2.1 d_M_close_5 rfl (lv_at hl 0 rfl) ?_
  refine zx_get (v := .int (nI (q 2))) X hH fg_M_66 (by omega) hM.1 rfl d_M_close_6 ?_
  refine lv_if_eq (tgt := 15) X.1 X.2.1 d_M_close_9 (by decide) (fun c2 => ?_) (fun c2 => ?_)
  · have c2 := (zn_eq (nI_toInt (by omega)) zn_0).mp c2
    exfalso; omega
  · have c2 := mt (zn_eq (nI_toInt (by omega)) zn_0).mpr c2
    refine lv_bipush (v := (-5)) X.1 X.2.1 d_M_close_12 (by decide) ?_
    exact zx_iret X hr hlk hH (Nat.le_of_ble_eq_true rfl) (Nat.le_of_ble_eq_true rfl) d_M_close_14 ⟨rfl, rfl, rfl, rfl⟩

set_option maxHeartbeats 4000000 in
set_option maxRecDepth 100000 in
theorem c_M_shutdown_off (g : zw_G) (l : Launch) (N : Nat) (ad : Nat → Nat) (E : Nat → va_E) (q : Nat → Nat) (rg : zt_R) (ev sf fs fl : Nat → Nat) (hN : 25 ≤ N) (hok : zt_ok q rg ev sf) (hv : zs_inv q rg) (hM : zm_at g ad E q rg ev fs fl) (hcl : ¬ q 2 = 0) (bq : Nat) : zc_i g l y_M_shutdown b_M_shutdown 5 (some .int) { frames := 0, cells := 0, slots := 0, locals := 0 } [.ref (ad (8)), .int (nI (bq))] N ad E (fun v N1 ad1 E1 => N = N1 ∧ ad = ad1 ∧ E = E1 ∧ v = -5) := by
  refine zc_i.of (by decide) (Nat.le_of_ble_eq_true rfl) ?_
  intro p e s m below meth c ls A X hr hlk hl hH
  have hl : lv_has ls 5 [(0, .ref (ad (8))), (1, .int (nI (bq)))] := hl
  obtain ⟨k0, k2, k3, k3a, k4, k4a, k5, k5a, k6, k6a⟩ := hok.1
  have hF : zm_fr E E := zm_fr.rf
  refine lv_aload_n X.1 X.2.1 d_M_shutdown_0 rfl (lv_at hl 0 rfl) ?_
  refine lv_iconst (v := nI 0) X.1 X.2.1 d_M_shutdown_1 (by decide) ?_
  refine zx_put X hH fp_M_59 (by omega) hM.1 (Nat.le_of_ble_eq_true rfl) rfl rfl d_M_shutdown_2 (fun H locs hH => ?_)
  have hH : zw_H g A s.heap s N ad (va_up E 8 (zm_o ad q)) H locs := hH
  rw [← hM.1, ← zr_id] at hH
  refine lv_aload_n X.1 X.2.1 d_M_shutdown_5 rfl (lv_at hl 0 rfl) ?_
  refine zx_get (v := .int (nI (q 2))) X hH fg_M_66 (by omega) hM.1 rfl d_M_shutdown_6 ?_
  refine lv_if_eq (tgt := 15) X.1 X.2.1 d_M_shutdown_9 (by decide) (fun c2 => ?_) (fun c2 => ?_)
  · have c2 := (zn_eq (nI_toInt (by omega)) zn_0).mp c2
    exfalso; omega
  · have c2 := mt (zn_eq (nI_toInt (by omega)) zn_0).mpr c2
    refine lv_bipush (v := (-5)) X.1 X.2.1 d_M_shutdown_12 (by decide) ?_
    exact zx_iret X hr hlk hH (Nat.le_of_ble_eq_true rfl) (Nat.le_of_ble_eq_true rfl) d_M_shutdown_14 ⟨rfl, rfl, rfl, rfl⟩

set_option maxHeartbeats 4000000 in
set_option maxRecDepth 100000 in
theorem c_M_close (g : zw_G) (l : Launch) (N : Nat) (ad : Nat → Nat) (E : Nat → va_E) (q : Nat → Nat) (rg : zt_R) (ev sf fs fl : Nat → Nat) (hN : 25 ≤ N) (hok : zt_ok q rg ev sf) (hv : zs_inv q rg) (hM : zm_at g ad E q rg ev fs fl) (hop : q 2 = 0) : zc_i g l y_M_close b_M_close 3 (some .int) { frames := 0, cells := 0, slots := 0, locals := 0 } [.ref (ad (8))] N ad E (fun v N1 ad1 E1 => N = N1 ∧ ad = ad1 ∧ v = nI (zp_cnt (fun i => decide ((rg i).1 2 = 0)) (q 0)) ∧ zm_at g ad E1 (va_up (va_up q 2 1) 3 0) (zp_map zp_left rg (q 0)) ev fs fl ∧ zm_fr E E1) := by
  refine zc_i.of (by decide) (Nat.le_of_ble_eq_true rfl) ?_
  intro p e s m below meth c ls A X hr hlk hl hH
  have hl : lv_has ls 3 [(0, .ref (ad (8)))] := hl
  obtain ⟨k0, k2, k3, k3a, k4, k4a, k5, k5a, k6, k6a⟩ := hok.1
  have hF : zm_fr E E := zm_fr.rf
  refine lv_aload_n X.1 X.2.1 d_M_close_0 rfl (lv_at hl 0 rfl) ?_
  refine lv_iconst (v := nI 0) X.1 X.2.1 d_M_close_1 (by decide) ?_
  refine zx_put X hH fp_M_59 (by omega) hM.1 (Nat.le_of_ble_eq_true rfl) rfl rfl d_M_close_2 (fun H locs hH => ?_)
  have hH : zw_H g A s.heap s N ad (va_up E 8 (zm_o ad q)) H locs := hH
  rw [← hM.1, ← zr_id] at hH
  refine lv_aload_n X.1 X.2.1 d_M_close_5 rfl (lv_at hl 0 rfl) ?_
  refine zx_get (v := .int (nI (q 2))) X hH fg_M_66 (by omega) hM.1 rfl d_M_close_6 ?_
  refine lv_if_eq (tgt := 15) X.1 X.2.1 d_M_close_9 (by decide) (fun c2 => ?_) (fun c2 => ?_)
  · have c2 := (zn_eq (nI_toInt (by omega)) zn_0).mp c2
    refine lv_aload_n X.1 X.2.1 d_M_close_15 rfl (lv_at hl 0 rfl) ?_
    refine lv_iconst (v := nI 1) X.1 X.2.1 d_M_close_16 (by decide) ?_
    refine zx_put X hH fp_M_66 (by omega) hM.1 (Nat.le_of_ble_eq_true rfl) rfl rfl d_M_close_17 (fun H locs hH => ?_)
    have hH : zw_H g A s.heap s N ad (va_up E 8 (zm_o ad (va_up q 2 (1)))) H locs := hH
    have hM := hM.o (va_up q 2 (1))
    have hF := hF.up (k := 8) (x := (zm_o ad (va_up q 2 (1)))) (by decide) (by decide)
    generalize va_up E 8 (zm_o ad (va_up q 2 (1))) = E3 at hH hM hF
    refine lv_aload_n X.1 X.2.1 d_M_close_20 rfl (lv_at hl 0 rfl) ?_
    refine lv_iconst (v := nI 0) X.1 X.2.1 d_M_close_21 (by decide) ?_
    refine zx_put X hH fp_M_74 (by omega) hM.1 (Nat.le_of_ble_eq_true rfl) rfl rfl d_M_close_22 (fun H locs hH => ?_)
    have hH : zw_H g A s.heap s N ad (va_up E3 8 (zm_o ad (va_up (va_up q 2 (1)) 3 (0)))) H locs := hH
    have hM := hM.o (va_up (va_up q 2 (1)) 3 (0))
    have hF := hF.up (k := 8) (x := (zm_o ad (va_up (va_up q 2 (1)) 3 (0)))) (by decide) (by decide)
    generalize va_up E3 8 (zm_o ad (va_up (va_up q 2 (1)) 3 (0))) = E4 at hH hM hF
    refine lv_iconst (v := nI 0) X.1 X.2.1 d_M_close_25 (by decide) ?_
    refine lv_istore_n (lv' := [(1, .int (nI (0))), (0, .ref (ad (8)))]) X.1 X.2.1 d_M_close_26 rfl hl (by decide) rfl (fun ls hl => ?_)
    refine lv_iconst (v := nI 1) X.1 X.2.1 d_M_close_27 (by decide) ?_
    refine lv_istore_n (lv' := [(2, .int (nI (1))), (1, .int (nI (0))), (0, .ref (ad (8)))]) X.1 X.2.1 d_M_close_28 rfl hl (by decide) rfl (fun ls hl => ?_)
    refine zx_loop (σ := Nat × (Nat → va_E)) (fun x H locs ls => x.1 ≤ q 0 ∧ zm_at g ad x.2 (va_up (va_up q 2 1) 3 0) (zp_map zp_left rg x.1) ev fs fl ∧ zm_fr E x.2 ∧ zw_H g A s.heap s N ad x.2 H locs ∧ lv_has ls 3 [(2, .int (nI (x.1 + 1))), (1, .int (nI (zp_cnt (fun i => decide ((rg i).1 2 = 0)) x.1))), (0, .ref (ad 8))]) (fun x => q 0 - x.1) (fun _ => 0) (fun _ => 0) ?_ (0, E4) _ _ _ ⟨Nat.zero_le _, by rw [zp_map_0]; exact hM, hF, hH, hl⟩
    rintro ⟨i, E9⟩ H locs ls ⟨hi, hM, hF, hH, hl⟩ ih
    dsimp only at hi hM hF hH hl ih
    have hle := zp_cnt_le (fun i => decide ((rg i).1 2 = 0)) i
    have hrs : i < q 0 → (rg i).1 2 ≤ 4 := fun h => (hok.2.1 i h).1.2.2.1
    have hM := hM.rg (zr_id (zp_map zp_left rg i) i)
    rw [zp_map_at] at hM
    refine lv_iload_n X.1 X.2.1 d_M_close_29 rfl (lv_at hl 0 rfl) ?_
    refine lv_aload_n X.1 X.2.1 d_M_close_30 rfl (lv_at hl 2 rfl) ?_
    refine zx_get (v := .int (nI (q 0))) X hH fg_M_63 (by omega) hM.1 rfl d_M_close_31 ?_
    refine lv_icmp_gt (tgt := 85) X.1 X.2.1 d_M_close_34 (by decide) (fun c21 => ?_) (fun c21 => ?_)
    · have c21 := (zn_lt (nI_toInt (by omega)) (nI_toInt (by omega))).mp c21
      refine lv_iload_n X.1 X.2.1 d_M_close_85 rfl (lv_at hl 1 rfl) ?_
      have hM := hM.rg (show va_up (zp_map zp_left rg i) i (rg i) = zp_map zp_left rg i by rw [← zp_map_at zp_left rg i]; exact (zr_id _ _).symm)
      exact zx_iret X hr hlk hH (Nat.le_of_ble_eq_true rfl) (Nat.le_of_ble_eq_true rfl) d_M_close_86 ⟨rfl, rfl, by rw [show i = q 0 by omega], by rw [show q 0 = i by omega]; exact hM, hF⟩
    · have c21 := mt (zn_lt (nI_toInt (by omega)) (nI_toInt (by omega))).mpr c21
      refine lv_iload_n X.1 X.2.1 d_M_close_37 rfl (lv_at hl 1 rfl) ?_
      refine lv_aload_n X.1 X.2.1 d_M_close_38 rfl (lv_at hl 2 rfl) ?_
      refine zx_get (v := .ref (ad (11))) X hH fg_M_16 (by omega) hM.1 rfl d_M_close_39 ?_
      refine lv_iload_n X.1 X.2.1 d_M_close_42 rfl (lv_at hl 0 rfl) ?_
      refine zx_iald (j := i + 1) X hH (by omega) (show E9 11 = zr_ia g 31 (zm_c (va_up (zp_map zp_left rg i) i (rg i)) 2) from hM.2.2.2.1) rfl (by omega) (by decide) d_M_close_43 ?_
      refine zx_top (b := nI ((rg i).1 2)) (congrArg nI (zm_c_at _ _ _ _)) ?_
      refine lv_if_ne (tgt := 51) X.1 X.2.1 d_M_close_44 (by decide) (fun c22 => ?_) (fun c22 => ?_)
      · have c22 := mt (zn_eq (nI_toInt (by omega)) zn_0).mpr c22
        refine lv_iconst (v := nI 0) X.1 X.2.1 d_M_close_51 (by decide) ?_
        refine lv_iadd X.1 X.2.1 d_M_close_52 ?_
        refine zx_top (nI_add _ _) ?_
        refine lv_istore_n (lv' := [(1, .int (nI ((zp_cnt (fun i => decide ((rg i).1 2 = 0)) i) + (0)))), (2, .int (nI (i + 1))), (0, .ref (ad (8)))]) X.1 X.2.1 d_M_close_53 rfl hl (by decide) rfl (fun ls hl => ?_)
        refine lv_aload_n X.1 X.2.1 d_M_close_54 rfl (lv_at hl 2 rfl) ?_
        refine zx_get (v := .ref (ad (11))) X hH fg_M_16 (by omega) hM.1 rfl d_M_close_55 ?_
        refine lv_iload_n X.1 X.2.1 d_M_close_58 rfl (lv_at hl 1 rfl) ?_
        refine lv_aload_n X.1 X.2.1 d_M_close_59 rfl (lv_at hl 2 rfl) ?_
        refine zx_get (v := .ref (ad (11))) X hH fg_M_16 (by omega) hM.1 rfl d_M_close_60 ?_
        refine lv_iload_n X.1 X.2.1 d_M_close_63 rfl (lv_at hl 1 rfl) ?_
        refine zx_iald (j := i + 1) X hH (by omega) (show E9 11 = zr_ia g 31 (zm_c (va_up (zp_map zp_left rg i) i (rg i)) 2) from hM.2.2.2.1) rfl (by omega) (by decide) d_M_close_64 ?_
        refine zx_top (b := nI ((rg i).1 2)) (congrArg nI (zm_c_at _ _ _ _)) ?_
        refine lv_if_ne (tgt := 72) X.1 X.2.1 d_M_close_65 (by decide) (fun c23 => ?_) (fun c23 => ?_)
        · have c23 := mt (zn_eq (nI_toInt (by omega)) zn_0).mpr c23
          refine lv_aload_n X.1 X.2.1 d_M_close_72 rfl (lv_at hl 2 rfl) ?_
          refine zx_get (v := .ref (ad (11))) X hH fg_M_16 (by omega) hM.1 rfl d_M_close_73 ?_
          refine lv_iload_n X.1 X.2.1 d_M_close_76 rfl (lv_at hl 1 rfl) ?_
          refine zx_iald (j := i + 1) X hH (by omega) (show E9 11 = zr_ia g 31 (zm_c (va_up (zp_map zp_left rg i) i (rg i)) 2) from hM.2.2.2.1) rfl (by omega) (by decide) d_M_close_77 ?_
          refine zx_top (b := nI ((rg i).1 2)) (congrArg nI (zm_c_at _ _ _ _)) ?_
          refine zx_iast (j := i + 1) (x := nI ((rg i).1 2)) X hH (by omega) (show E9 11 = zr_ia g 31 (zm_c (va_up (zp_map zp_left rg i) i (rg i)) 2) from hM.2.2.2.1) rfl (by omega) (by decide) d_M_close_78 (fun H locs hH => ?_)
          rw [zr_upd] at hH
          have hH : zw_H g A s.heap s N ad (va_up E9 11 (zr_ia g 31 (va_up (zm_c (va_up (zp_map zp_left rg i) i (rg i)) 2) (i + 1) ((rg i).1 2)))) H locs := hH
          have hM := hM.s2 ((rg i).1 2)
          have hF := hF.up (k := 11) (x := (zr_ia g 31 (va_up (zm_c (va_up (zp_map zp_left rg i) i (rg i)) 2) (i + 1) ((rg i).1 2)))) (by decide) (by decide)
          generalize va_up E9 11 (zr_ia g 31 (va_up (zm_c (va_up (zp_map zp_left rg i) i (rg i)) 2) (i + 1) ((rg i).1 2))) = E24 at hH hM hF
          have hM : zm_at g ad E24 (va_up (va_up q 2 1) 3 0) (va_up (zp_map zp_left rg i) i (va_up ((rg i).1) 2 ((rg i).1 2), (rg i).2)) ev fs fl := hM
          refine lv_iinc (v := nI (i + 1 + 1)) (lv' := [(2, .int (nI (i + 1 + 1))), (1, .int (nI ((zp_cnt (fun i => decide ((rg i).1 2 = 0)) i) + (0)))), (0, .ref (ad (8)))]) X.1 X.2.1 d_M_close_79 hl (k := 1) rfl (nI_add _ _) (by decide) rfl (fun ls hl => ?_)
          refine lv_goto (tgt := 29) X.1 X.2.1 d_M_close_82 (by decide) ?_
          have hz : zp_left (rg i) = rg i := if_neg (by omega)
          have hc : zp_cnt (fun i => decide ((rg i).1 2 = 0)) (i + 1) = zp_cnt (fun i => decide ((rg i).1 2 = 0)) i := zp_cnt_n (fun h => by have h2 := of_decide_eq_true h; omega)
          rw [zm_left_same, show va_up (zp_map zp_left rg i) i (rg i) = zp_map zp_left rg (i + 1) by rw [zp_map_s, hz]] at hM
          exact ih (i + 1, E24) _ _ _ ⟨by omega, hM, hF, hH, by rw [hc]; exact lv_sub hl [0, 1, 2] rfl⟩ (by show q 0 - (i + 1) < q 0 - i; omega)
        · have c23 := (zn_eq (nI_toInt (by omega)) zn_0).mp c23
          refine lv_iconst (v := nI 4) X.1 X.2.1 d_M_close_68 (by decide) ?_
          refine lv_goto (tgt := 78) X.1 X.2.1 d_M_close_69 (by decide) ?_
          refine zx_iast (j := i + 1) (x := nI (4)) X hH (by omega) (show E9 11 = zr_ia g 31 (zm_c (va_up (zp_map zp_left rg i) i (rg i)) 2) from hM.2.2.2.1) rfl (by omega) (by decide) d_M_close_78 (fun H locs hH => ?_)
          rw [zr_upd] at hH
          have hH : zw_H g A s.heap s N ad (va_up E9 11 (zr_ia g 31 (va_up (zm_c (va_up (zp_map zp_left rg i) i (rg i)) 2) (i + 1) (4)))) H locs := hH
          have hM := hM.s2 (4)
          have hF := hF.up (k := 11) (x := (zr_ia g 31 (va_up (zm_c (va_up (zp_map zp_left rg i) i (rg i)) 2) (i + 1) (4)))) (by decide) (by decide)
          generalize va_up E9 11 (zr_ia g 31 (va_up (zm_c (va_up (zp_map zp_left rg i) i (rg i)) 2) (i + 1) (4))) = E25 at hH hM hF
          have hM : zm_at g ad E25 (va_up (va_up q 2 1) 3 0) (va_up (zp_map zp_left rg i) i (va_up ((rg i).1) 2 (4), (rg i).2)) ev fs fl := hM
          refine lv_iinc (v := nI (i + 1 + 1)) (lv' := [(2, .int (nI (i + 1 + 1))), (1, .int (nI ((zp_cnt (fun i => decide ((rg i).1 2 = 0)) i) + (0)))), (0, .ref (ad (8)))]) X.1 X.2.1 d_M_close_79 hl (k := 1) rfl (nI_add _ _) (by decide) rfl (fun ls hl => ?_)
          refine lv_goto (tgt := 29) X.1 X.2.1 d_M_close_82 (by decide) ?_
          exfalso; omega
      · have c22 := (zn_eq (nI_toInt (by omega)) zn_0).mp c22
        refine lv_iconst (v := nI 1) X.1 X.2.1 d_M_close_47 (by decide) ?_
        refine lv_goto (tgt := 52) X.1 X.2.1 d_M_close_48 (by decide) ?_
        refine lv_iadd X.1 X.2.1 d_M_close_52 ?_
        refine zx_top (nI_add _ _) ?_
        refine lv_istore_n (lv' := [(1, .int (nI ((zp_cnt (fun i => decide ((rg i).1 2 = 0)) i) + (1)))), (2, .int (nI (i + 1))), (0, .ref (ad (8)))]) X.1 X.2.1 d_M_close_53 rfl hl (by decide) rfl (fun ls hl => ?_)
        refine lv_aload_n X.1 X.2.1 d_M_close_54 rfl (lv_at hl 2 rfl) ?_
        refine zx_get (v := .ref (ad (11))) X hH fg_M_16 (by omega) hM.1 rfl d_M_close_55 ?_
        refine lv_iload_n X.1 X.2.1 d_M_close_58 rfl (lv_at hl 1 rfl) ?_
        refine lv_aload_n X.1 X.2.1 d_M_close_59 rfl (lv_at hl 2 rfl) ?_
        refine zx_get (v := .ref (ad (11))) X hH fg_M_16 (by omega) hM.1 rfl d_M_close_60 ?_
        refine lv_iload_n X.1 X.2.1 d_M_close_63 rfl (lv_at hl 1 rfl) ?_
        refine zx_iald (j := i + 1) X hH (by omega) (show E9 11 = zr_ia g 31 (zm_c (va_up (zp_map zp_left rg i) i (rg i)) 2) from hM.2.2.2.1) rfl (by omega) (by decide) d_M_close_64 ?_
        refine zx_top (b := nI ((rg i).1 2)) (congrArg nI (zm_c_at _ _ _ _)) ?_
        refine lv_if_ne (tgt := 72) X.1 X.2.1 d_M_close_65 (by decide) (fun c26 => ?_) (fun c26 => ?_)
        · have c26 := mt (zn_eq (nI_toInt (by omega)) zn_0).mpr c26
          refine lv_aload_n X.1 X.2.1 d_M_close_72 rfl (lv_at hl 2 rfl) ?_
          refine zx_get (v := .ref (ad (11))) X hH fg_M_16 (by omega) hM.1 rfl d_M_close_73 ?_
          refine lv_iload_n X.1 X.2.1 d_M_close_76 rfl (lv_at hl 1 rfl) ?_
          refine zx_iald (j := i + 1) X hH (by omega) (show E9 11 = zr_ia g 31 (zm_c (va_up (zp_map zp_left rg i) i (rg i)) 2) from hM.2.2.2.1) rfl (by omega) (by decide) d_M_close_77 ?_
          refine zx_top (b := nI ((rg i).1 2)) (congrArg nI (zm_c_at _ _ _ _)) ?_
          refine zx_iast (j := i + 1) (x := nI ((rg i).1 2)) X hH (by omega) (show E9 11 = zr_ia g 31 (zm_c (va_up (zp_map zp_left rg i) i (rg i)) 2) from hM.2.2.2.1) rfl (by omega) (by decide) d_M_close_78 (fun H locs hH => ?_)
          rw [zr_upd] at hH
          have hH : zw_H g A s.heap s N ad (va_up E9 11 (zr_ia g 31 (va_up (zm_c (va_up (zp_map zp_left rg i) i (rg i)) 2) (i + 1) ((rg i).1 2)))) H locs := hH
          have hM := hM.s2 ((rg i).1 2)
          have hF := hF.up (k := 11) (x := (zr_ia g 31 (va_up (zm_c (va_up (zp_map zp_left rg i) i (rg i)) 2) (i + 1) ((rg i).1 2)))) (by decide) (by decide)
          generalize va_up E9 11 (zr_ia g 31 (va_up (zm_c (va_up (zp_map zp_left rg i) i (rg i)) 2) (i + 1) ((rg i).1 2))) = E27 at hH hM hF
          have hM : zm_at g ad E27 (va_up (va_up q 2 1) 3 0) (va_up (zp_map zp_left rg i) i (va_up ((rg i).1) 2 ((rg i).1 2), (rg i).2)) ev fs fl := hM
          refine lv_iinc (v := nI (i + 1 + 1)) (lv' := [(2, .int (nI (i + 1 + 1))), (1, .int (nI ((zp_cnt (fun i => decide ((rg i).1 2 = 0)) i) + (1)))), (0, .ref (ad (8)))]) X.1 X.2.1 d_M_close_79 hl (k := 1) rfl (nI_add _ _) (by decide) rfl (fun ls hl => ?_)
          refine lv_goto (tgt := 29) X.1 X.2.1 d_M_close_82 (by decide) ?_
          exfalso; omega
        · have c26 := (zn_eq (nI_toInt (by omega)) zn_0).mp c26
          refine lv_iconst (v := nI 4) X.1 X.2.1 d_M_close_68 (by decide) ?_
          refine lv_goto (tgt := 78) X.1 X.2.1 d_M_close_69 (by decide) ?_
          refine zx_iast (j := i + 1) (x := nI (4)) X hH (by omega) (show E9 11 = zr_ia g 31 (zm_c (va_up (zp_map zp_left rg i) i (rg i)) 2) from hM.2.2.2.1) rfl (by omega) (by decide) d_M_close_78 (fun H locs hH => ?_)
          rw [zr_upd] at hH
          have hH : zw_H g A s.heap s N ad (va_up E9 11 (zr_ia g 31 (va_up (zm_c (va_up (zp_map zp_left rg i) i (rg i)) 2) (i + 1) (4)))) H locs := hH
          have hM := hM.s2 (4)
          have hF := hF.up (k := 11) (x := (zr_ia g 31 (va_up (zm_c (va_up (zp_map zp_left rg i) i (rg i)) 2) (i + 1) (4)))) (by decide) (by decide)
          generalize va_up E9 11 (zr_ia g 31 (va_up (zm_c (va_up (zp_map zp_left rg i) i (rg i)) 2) (i + 1) (4))) = E28 at hH hM hF
          have hM : zm_at g ad E28 (va_up (va_up q 2 1) 3 0) (va_up (zp_map zp_left rg i) i (va_up ((rg i).1) 2 (4), (rg i).2)) ev fs fl := hM
          refine lv_iinc (v := nI (i + 1 + 1)) (lv' := [(2, .int (nI (i + 1 + 1))), (1, .int (nI ((zp_cnt (fun i => decide ((rg i).1 2 = 0)) i) + (1)))), (0, .ref (ad (8)))]) X.1 X.2.1 d_M_close_79 hl (k := 1) rfl (nI_add _ _) (by decide) rfl (fun ls hl => ?_)
          refine lv_goto (tgt := 29) X.1 X.2.1 d_M_close_82 (by decide) ?_
          have hz : zp_left (rg i) = (va_up (rg i).1 2 4, (rg i).2) := if_pos (by omega)
          have hc : zp_cnt (fun i => decide ((rg i).1 2 = 0)) (i + 1) = zp_cnt (fun i => decide ((rg i).1 2 = 0)) i + 1 := zp_cnt_y (decide_eq_true (by omega))
          rw [← hz, ← zp_map_s] at hM
          exact ih (i + 1, E28) _ _ _ ⟨by omega, hM, hF, hH, by rw [hc]; exact lv_sub hl [0, 1, 2] rfl⟩ (by show q 0 - (i + 1) < q 0 - i; omega)
  · have c2 := mt (zn_eq (nI_toInt (by omega)) zn_0).mpr c2
    refine lv_bipush (v := (-5)) X.1 X.2.1 d_M_close_12 (by decide) ?_
    exfalso; omega
end
section
/-! rounds come to an end: what is left to do in the regions falls with each round that does something -/
def zp_mr (r : (Nat → Nat) × (Nat → Nat → Nat)) : Nat := if r.1 2 = 0 then 101 - r.1 3 else 0
def zp_mu (rg : zt_R) : Nat → Nat
  | 0 => 0
  | n + 1 => zp_mu rg n + zp_mr (rg n)
theorem zp_mu_same {rg rg2 : zt_R} : ∀ n, (∀ j, j < n → zp_mr (rg2 j) = zp_mr (rg j)) → zp_mu rg2 n = zp_mu rg n := by
  intro n
  induction n with
  | zero => intro _; rfl
  | succ n ih =>
    intro h
    show zp_mu rg2 n + _ = zp_mu rg n + _
    rw [ih (fun j hj => h j (by omega)), h n (by omega)]
theorem zp_mu_up {rg : zt_R} {i : Nat} {r : (Nat → Nat) × (Nat → Nat → Nat)} : ∀ n, i < n → zp_mu (va_up rg i r) n + zp_mr (rg i) = zp_mu rg n + zp_mr r := by
  intro n
  induction n with
  | zero => intro h; exact absurd h (Nat.not_lt_zero _)
  | succ n ih =>
    intro h
    show zp_mu (va_up rg i r) n + zp_mr (va_up rg i r n) + _ = zp_mu rg n + zp_mr (rg n) + _
    by_cases e : n = i
    · subst e
      rw [va_up_self, zp_mu_same n (fun j hj => by rw [va_up_ne _ _ (by omega)])]
      omega
    · have := ih (by omega)
      rw [va_up_ne _ _ e]
      omega
theorem zp_mu_le {rg : zt_R} : ∀ n, zp_mu rg n ≤ 101 * n := by
  intro n
  induction n with
  | zero => exact Nat.le_refl _
  | succ n ih =>
    show zp_mu rg n + zp_mr (rg n) ≤ _
    have : zp_mr (rg n) ≤ 101 := by unfold zp_mr; split <;> omega
    omega
theorem zp_mr_turn {r : (Nat → Nat) × (Nat → Nat → Nat)} (h : zr_ok r.1 r.2) (ev : Nat → Nat) : zp_mr ((zp_turn r.1 r.2 ev).2.1, (zp_turn r.1 r.2 ev).2.2.1) ≤ zp_mr r ∧ (¬ (zp_turn r.1 r.2 ev).1 = 0 → zp_mr ((zp_turn r.1 r.2 ev).2.1, (zp_turn r.1 r.2 ev).2.2.1) < zp_mr r) := by
  obtain ⟨k0, k1, k2, k3, k4, k5, k7, k8, k6⟩ := h.1
  by_cases d0 : r.1 2 = 0
  · have hm : zp_mr r = 101 - r.1 3 := by unfold zp_mr; rw [if_pos d0]
    have k6 := k6 d0
    by_cases d1 : r.1 7 = 1 ∧ ¬ r.2 3 (r.1 3) = 1
    · rw [zp_turn_cancel d0 d1.1 d1.2]
      have : zp_mr (zp_back r.1 3, r.2) = 0 := if_neg (fun z => absurd (show (3 : Nat) = 0 from z) (by decide))
      exact ⟨by show zp_mr (zp_back r.1 3, r.2) ≤ _; omega, fun _ => by show zp_mr (zp_back r.1 3, r.2) < _; omega⟩
    · by_cases d2 : (zp_tw (r.2 0) (r.2 1) (r.1 3 + 1) (r.1 8) 0 (r.2 2) ev).1 = true
      · by_cases d3 : r.1 3 + 1 = r.1 1
        · rw [zp_turn_fail d0 d1 d2 d3]
          have : ∀ a, zp_mr (zp_back r.1 2, a) = 0 := fun a => if_neg (fun z => absurd (show (2 : Nat) = 0 from z) (by decide))
          exact ⟨by show zp_mr (zp_back r.1 2, _) ≤ _; rw [this]; omega, fun _ => by show zp_mr (zp_back r.1 2, _) < _; rw [this]; omega⟩
        · rw [zp_turn_step d0 d1 d2 d3]
          obtain ⟨s3, -, -⟩ := zp_step_3 r.1 (va_up r.2 2 (zp_tw (r.2 0) (r.2 1) (r.1 3 + 1) (r.1 8) 0 (r.2 2) ev).2.1) (r.1 3 + 1)
          have : ∀ a, zp_mr (zp_step r.1 (va_up r.2 2 (zp_tw (r.2 0) (r.2 1) (r.1 3 + 1) (r.1 8) 0 (r.2 2) ev).2.1) (r.1 3 + 1), a) ≤ 100 - r.1 3 := fun a => by
            unfold zp_mr
            split
            · show 101 - zp_step _ _ _ 3 ≤ _
              rw [s3]; omega
            · omega
          have t := this (va_up r.2 2 (zp_tw (r.2 0) (r.2 1) (r.1 3 + 1) (r.1 8) 0 (r.2 2) ev).2.1)
          exact ⟨Nat.le_trans t (by omega), fun _ => Nat.lt_of_le_of_lt t (by omega)⟩
      · rw [zp_turn_wait d0 d1 d2]
        exact ⟨Nat.le_refl _, fun z => absurd rfl z⟩
  · rw [zp_turn_off d0]
    exact ⟨Nat.le_refl _, fun z => absurd rfl z⟩
theorem zp_mu_give {q : Nat → Nat} {rg : zt_R} {ev sf lf : Nat → Nat} {i n : Nat} (h : zt_ok q rg ev sf) (hi : i < q 0) (hn : i < n) : zp_mu (zp_give (q, rg, ev, lf) i).2.2.1 n ≤ zp_mu rg n ∧ (¬ (zp_give (q, rg, ev, lf) i).1 = 0 → zp_mu (zp_give (q, rg, ev, lf) i).2.2.1 n < zp_mu rg n) := by
  obtain ⟨a, b⟩ := zp_mr_turn (h.2.1 i hi) ev
  have e := zp_mu_up (rg := rg) (r := ((zp_turn (rg i).1 (rg i).2 ev).2.1, (zp_turn (rg i).1 (rg i).2 ev).2.2.1)) n hn
  by_cases d : (zp_turn (rg i).1 (rg i).2 ev).1 = 1
  · rw [zp_give_yes rfl d]
    have b := b (by omega)
    exact ⟨by show zp_mu (va_up rg i _) n ≤ _; omega, fun _ => by show zp_mu (va_up rg i _) n < _; omega⟩
  · rw [zp_give_no rfl d]
    exact ⟨by show zp_mu (va_up rg i _) n ≤ _; omega, fun z => by have b := b z; show zp_mu (va_up rg i _) n < _; omega⟩
theorem zp_mu_rnd {sf : Nat → Nat} (m : Nat) : ∀ (n i : Nat) (T : zp_T) (b : Nat), i + n ≤ m → m ≤ T.1 0 → zt_ok T.1 T.2.1 T.2.2.1 sf → zp_mu (zp_rnd n i T b).1.2.1 m ≤ zp_mu T.2.1 m ∧ (b = 0 → ¬ (zp_rnd n i T b).2 = 0 → zp_mu (zp_rnd n i T b).1.2.1 m < zp_mu T.2.1 m) := by
  intro n
  induction n with
  | zero => intro i T b _ _ _; exact ⟨Nat.le_refl _, fun h1 h2 => absurd h1 h2⟩
  | succ n ih =>
    intro i T b h1 h2 h
    have hg := zp_mu_give (lf := T.2.2.2) (n := m) h (show i < T.1 0 by omega) (by omega)
    have a0 := (zp_give_fix T i).1
    have hi := ih (i + 1) (zp_give T i).2 (if (zp_give T i).1 = 0 then b else 1) (by omega) (by omega) (zt_ok.give (lf := T.2.2.2) h (by omega))
    refine ⟨Nat.le_trans hi.1 hg.1, fun hb hm => ?_⟩
    by_cases d : (zp_give T i).1 = 0
    · refine Nat.lt_of_lt_of_le (hi.2 (by rw [if_pos d]; exact hb) hm) hg.1
    · exact Nat.lt_of_le_of_lt hi.1 (hg.2 d)
theorem zs_inv.rnd {sf : Nat → Nat} : ∀ (n i : Nat) (T : zp_T) (b : Nat), i + n ≤ T.1 0 → zt_ok T.1 T.2.1 T.2.2.1 sf → zs_inv T.1 T.2.1 → zs_inv (zp_rnd n i T b).1.1 (zp_rnd n i T b).1.2.1 := by
  intro n
  induction n with
  | zero => intro i T b _ _ h; exact h
  | succ n ih =>
    intro i T b hi h hv
    have a0 := (zp_give_fix T i).1
    exact ih (i + 1) (zp_give T i).2 _ (by omega) (zt_ok.give (lf := T.2.2.2) h (by omega)) (zs_inv.give (lf := T.2.2.2) h hv (by omega))
theorem zs_inv.rnds {sf : Nat → Nat} (m : Nat) : ∀ (n : Nat) (T : zp_T), m ≤ T.1 0 → zt_ok T.1 T.2.1 T.2.2.1 sf → zs_inv T.1 T.2.1 → zs_inv (zp_rnds m n T).1 (zp_rnds m n T).2.1 := by
  intro n
  induction n with
  | zero => intro T _ _ h; exact h
  | succ n ih =>
    intro T hm h hv
    have a := zt_ok.rnd m 0 T 0 (by omega) h
    have a2 := zs_inv.rnd (sf := sf) m 0 T 0 (by omega) h hv
    have a0 := (zp_rnd_fix m 0 T 0).1
    rw [zp_rnds]
    split
    · exact a2
    · exact ih (zp_rnd m 0 T 0).1 (by omega) a a2
theorem zs_inv.runs {sf : Nat → Nat} : ∀ (n k : Nat) (T : zp_T) (c : Nat), k + n ≤ T.1 3 → zt_ok T.1 T.2.1 T.2.2.1 sf → zs_inv T.1 T.2.1 → zs_inv (zp_runs sf n k T c).1.1 (zp_runs sf n k T c).1.2.1 := by
  intro n
  induction n with
  | zero => intro k T c _ _ h; exact h
  | succ n ih =>
    intro k T c hk h hv
    obtain ⟨a0, a1, a2, a3, a4, a6⟩ := zp_give_fix T (sf k - 1)
    have hs := h.2.2.2 k (by omega)
    have hg := zt_ok.give (lf := T.2.2.2) h (show sf k - 1 < T.1 0 by omega)
    have hw := zs_inv.give (lf := T.2.2.2) h hv (show sf k - 1 < T.1 0 by omega)
    by_cases h1 : (zp_give T (sf k - 1)).1 = 1
    · rw [zp_runs_1 h1]; exact ih (k + 1) (zp_give T (sf k - 1)).2 (c + 1) (by omega) hg hw
    · by_cases h0 : (zp_give T (sf k - 1)).1 = 0
      · rw [zp_runs_0 h0]; exact ih (k + 1) (va_up (zp_give T (sf k - 1)).2.1 1 ((zp_give T (sf k - 1)).2.1 1 + 1), (zp_give T (sf k - 1)).2.2) c (by show k + 1 + n ≤ (zp_give T (sf k - 1)).2.1 3; omega) (hg.num _) (hw.q rfl rfl)
      · rw [zp_runs_2 h1 h0]; exact ih (k + 1) (zp_give T (sf k - 1)).2 c (by omega) hg hw
/-- the reference's end of a slow shutdown, region by region -/
def zm_fin (r : (Nat → Nat) × (Nat → Nat → Nat)) : (Nat → Nat) × (Nat → Nat → Nat) := if r.1 2 = 0 then (if r.2 3 (r.1 3) = 1 then (va_up r.1 2 4, r.2) else (zp_back r.1 3, r.2)) else r
theorem zm_fin_eq (r : (Nat → Nat) × (Nat → Nat → Nat)) : zp_left (zp_canc r) = zm_fin r := by
  unfold zp_canc zm_fin
  by_cases h : r.1 2 = 0
  · by_cases h2 : r.2 3 (r.1 3) = 1
    · rw [if_neg (fun z => z.2 h2), if_pos h, if_pos h2]; exact if_pos h
    · rw [if_pos ⟨h, h2⟩, if_pos h, if_neg h2]; exact if_neg (fun z => absurd (show (3 : Nat) = 0 from z) (by decide))
  · rw [if_neg (fun z => h z.1), if_neg h]; exact if_neg h
theorem zm_map_fin (rg : zt_R) (n : Nat) : zp_map zp_left (zp_map zp_canc rg n) n = zp_map zm_fin rg n := by
  funext j
  unfold zp_map
  by_cases h : j < n
  · rw [if_pos h, if_pos h, if_pos h]; exact zm_fin_eq _
  · rw [if_neg h, if_neg h, if_neg h]
theorem zp_cnt_eq {p p2 : Nat → Bool} : ∀ n, (∀ j, j < n → p j = p2 j) → zp_cnt p n = zp_cnt p2 n := by
  intro n
  induction n with
  | zero => intro _; rfl
  | succ n ih =>
    intro h
    show zp_cnt p n + _ = zp_cnt p2 n + _
    rw [ih (fun j hj => h j (by omega)), h n (by omega)]
theorem zm_cnt_fin (rg : zt_R) (n : Nat) : zp_cnt (fun i => decide ((zp_map zp_canc rg n i).1 2 = 0 ∧ 0 < (zp_map zp_canc rg n i).1 3 - (zp_map zp_canc rg n i).1 4)) n = zp_cnt (fun i => decide ((rg i).1 2 = 0 ∧ (rg i).2 3 ((rg i).1 3) = 1 ∧ 0 < (rg i).1 3 - (rg i).1 4)) n := by
  refine zp_cnt_eq n (fun j hj => ?_)
  have e : zp_map zp_canc rg n j = zp_canc (rg j) := if_pos hj
  rw [e]
  unfold zp_canc
  by_cases h : (rg j).1 2 = 0
  · by_cases h2 : (rg j).2 3 ((rg j).1 3) = 1
    · rw [if_neg (fun z => z.2 h2)]
      exact decide_eq_decide.mpr ⟨fun z => ⟨z.1, h2, z.2⟩, fun z => ⟨z.1, z.2.2⟩⟩
    · rw [if_pos ⟨h, h2⟩]
      exact decide_eq_decide.mpr ⟨fun z => absurd (show (3 : Nat) = 0 from z.1) (by decide), fun z => absurd z.2.1 h2⟩
  · rw [if_neg (fun z => h z.1)]
    exact decide_eq_decide.mpr ⟨fun z => absurd z.1 h, fun z => absurd z.1 h⟩
end
section
set_option maxHeartbeats 4000000 in
set_option maxRecDepth 100000 in
theorem c_M_run (g : zw_G) (l : Launch) (N : Nat) (ad : Nat → Nat) (E : Nat → va_E) (q : Nat → Nat) (rg : zt_R) (ev sf fs fl : Nat → Nat) (hN : 25 ≤ N) (hok : zt_ok q rg ev sf) (hv : zs_inv q rg) (hM : zm_at g ad E q rg ev fs fl) (lf : Nat → Nat) (hfs : ∀ j, j < q 3 → fs j = sf j) (hfl : ∀ j, j < q 5 → fl j = lf j) (hop : q 2 = 0) : zc_i g l y_M_run b_M_run 4 (some .int) { frames := 3, cells := 0, slots := 0, locals := 120 } [.ref (ad (8))] N ad E (fun v N1 ad1 E1 => N = N1 ∧ ad = ad1 ∧ v = nI (zp_runs sf (q 3) 0 (q, rg, ev, lf) 0).2 ∧ (∃ fl1, zm_at g ad E1 (va_up (zp_runs sf (q 3) 0 (q, rg, ev, lf) 0).1.1 3 0) (zp_runs sf (q 3) 0 (q, rg, ev, lf) 0).1.2.1 (zp_runs sf (q 3) 0 (q, rg, ev, lf) 0).1.2.2.1 fs fl1 ∧ ∀ j, j < (zp_runs sf (q 3) 0 (q, rg, ev, lf) 0).1.1 5 → fl1 j = (zp_runs sf (q 3) 0 (q, rg, ev, lf) 0).1.2.2.2 j) ∧ zm_fr E E1) := by
  refine zc_i.of (by decide) (Nat.le_of_ble_eq_true rfl) ?_
  intro p e s m below meth c ls A X hr hlk hl hH
  have hl : lv_has ls 4 [(0, .ref (ad (8)))] := hl
  obtain ⟨k0, k2, k3, k3a, k4, k4a, k5, k5a, k6, k6a⟩ := hok.1
  have hF : zm_fr E E := zm_fr.rf
  refine lv_aload_n X.1 X.2.1 d_M_run_0 rfl (lv_at hl 0 rfl) ?_
  refine lv_iconst (v := nI 0) X.1 X.2.1 d_M_run_1 (by decide) ?_
  refine zx_put X hH fp_M_59 (by omega) hM.1 (Nat.le_of_ble_eq_true rfl) rfl rfl d_M_run_2 (fun H locs hH => ?_)
  have hH : zw_H g A s.heap s N ad (va_up E 8 (zm_o ad q)) H locs := hH
  rw [← hM.1, ← zr_id] at hH
  refine lv_aload_n X.1 X.2.1 d_M_run_5 rfl (lv_at hl 0 rfl) ?_
  refine zx_get (v := .int (nI (q 2))) X hH fg_M_66 (by omega) hM.1 rfl d_M_run_6 ?_
  refine lv_if_eq (tgt := 15) X.1 X.2.1 d_M_run_9 (by decide) (fun c2 => ?_) (fun c2 => ?_)
  · have c2 := (zn_eq (nI_toInt (by omega)) zn_0).mp c2
    refine lv_iconst (v := nI 0) X.1 X.2.1 d_M_run_15 (by decide) ?_
    refine lv_istore_n (lv' := [(1, .int (nI (0))), (0, .ref (ad (8)))]) X.1 X.2.1 d_M_run_16 rfl hl (by decide) rfl (fun ls hl => ?_)
    refine lv_iconst (v := nI 0) X.1 X.2.1 d_M_run_17 (by decide) ?_
    refine lv_istore_n (lv' := [(2, .int (nI (0))), (1, .int (nI (0))), (0, .ref (ad (8)))]) X.1 X.2.1 d_M_run_18 rfl hl (by decide) rfl (fun ls hl => ?_)
    refine zx_loop (σ := Nat × zp_T × Nat × (Nat → va_E) × (Nat → Nat)) (fun x H locs ls => x.1 ≤ q 3 ∧ x.2.1.1 0 = q 0 ∧ x.2.1.1 3 = q 3 ∧ zm_at g ad x.2.2.2.1 x.2.1.1 x.2.1.2.1 x.2.1.2.2.1 fs x.2.2.2.2 ∧ zt_ok x.2.1.1 x.2.1.2.1 x.2.1.2.2.1 sf ∧ zs_inv x.2.1.1 x.2.1.2.1 ∧ (∀ j, j < x.2.1.1 5 → x.2.2.2.2 j = x.2.1.2.2.2 j) ∧ zm_fr E x.2.2.2.1 ∧ zp_runs sf (q 3) 0 (q, rg, ev, lf) 0 = zp_runs sf (q 3 - x.1) x.1 x.2.1 x.2.2.1 ∧ zw_H g A s.heap s N ad x.2.2.2.1 H locs ∧ lv_has ls 4 [(2, .int (nI x.1)), (1, .int (nI x.2.2.1)), (0, .ref (ad 8))]) (fun x => q 3 - x.1) (fun _ => 0) (fun _ => 0) ?_ (0, (q, rg, ev, lf), 0, E, fl) _ _ _ ⟨Nat.zero_le _, rfl, rfl, hM, hok, hv, hfl, hF, rfl, hH, hl⟩
    rintro ⟨k, ⟨q1, rg1, ev1, lf1⟩, cn, E1, fl1⟩ H locs ls ⟨hi, hq0, hq3, hM, hok1, hv1, hfl1, hF, hT9, hH, hl⟩ ih
    dsimp only at hi hq0 hq3 hM hok1 hv1 hfl1 hF hT9 hH hl ih ⊢
    obtain ⟨j0, j2, j3, j3a, j4, j4a, j5, j5a, j6, j6a⟩ := hok1.1
    refine lv_iload_n X.1 X.2.1 d_M_run_19 rfl (lv_at hl 0 rfl) ?_
    refine lv_aload_n X.1 X.2.1 d_M_run_20 rfl (lv_at hl 2 rfl) ?_
    refine zx_get (v := .int (nI (q1 3))) X hH fg_M_74 (by omega) hM.1 rfl d_M_run_21 ?_
    refine lv_icmp_ge (tgt := 75) X.1 X.2.1 d_M_run_24 (by decide) (fun c21 => ?_) (fun c21 => ?_)
    · have c21 := (zn_le (nI_toInt (by omega)) (nI_toInt (by omega))).mp c21
      refine lv_aload_n X.1 X.2.1 d_M_run_75 rfl (lv_at hl 2 rfl) ?_
      refine lv_iconst (v := nI 0) X.1 X.2.1 d_M_run_76 (by decide) ?_
      have hz : zp_runs sf (q 3) 0 (q, rg, ev, lf) 0 = ((q1, rg1, ev1, lf1), cn) := by rw [hT9, show q 3 - k = 0 by omega]; rfl
      refine zx_put X hH fp_M_74 (by omega) hM.1 (Nat.le_of_ble_eq_true rfl) rfl rfl d_M_run_77 (fun H locs hH => ?_)
      have hH : zw_H g A s.heap s N ad (va_up E1 8 (zm_o ad (va_up q1 3 (0)))) H locs := hH
      have hM := hM.o (va_up q1 3 (0))
      have hF := hF.up (k := 8) (x := (zm_o ad (va_up q1 3 (0)))) (by decide) (by decide)
      generalize va_up E1 8 (zm_o ad (va_up q1 3 (0))) = E22 at hH hM hF
      refine lv_iload_n X.1 X.2.1 d_M_run_80 rfl (lv_at hl 1 rfl) ?_
      exact zx_iret X hr hlk hH (Nat.le_of_ble_eq_true rfl) (Nat.le_of_ble_eq_true rfl) d_M_run_81 ⟨rfl, rfl, by rw [hz], by rw [hz]; exact ⟨fl1, hM, hfl1⟩, hF⟩
    · have c21 := mt (zn_le (nI_toInt (by omega)) (nI_toInt (by omega))).mpr c21
      refine lv_aload_n X.1 X.2.1 d_M_run_27 rfl (lv_at hl 2 rfl) ?_
      refine lv_aload_n X.1 X.2.1 d_M_run_28 rfl (lv_at hl 2 rfl) ?_
      refine zx_get (v := .ref (ad (22))) X hH fg_M_50 (by omega) hM.1 rfl d_M_run_29 ?_
      refine lv_iload_n X.1 X.2.1 d_M_run_32 rfl (lv_at hl 0 rfl) ?_
      have hsk := hok1.2.2.2 k (by omega)
      have hfk := hfs k (by omega)
      refine zx_iald (j := k) X hH (by omega) (show E1 22 = zr_ia g 600 fs from hM.2.2.2.2.2.2.2.2.2.2.2.2.2.2.1) rfl (by omega) (by decide) d_M_run_33 ?_
      refine zx_top (b := nI (sf k - 1 + 1)) (congrArg nI (by omega)) ?_
      obtain ⟨G, hG⟩ : ∃ G, zp_give (q1, rg1, ev1, lf1) (sf k - 1) = G := ⟨_, rfl⟩
      obtain ⟨g0, g1, g2, g3, g4, g6⟩ := zp_give_fix (q1, rg1, ev1, lf1) (sf k - 1)
      have gl := zp_give_le (q1, rg1, ev1, lf1) (sf k - 1)
      have gi : sf k - 1 < q1 0 := by omega
      have gok := zt_ok.give (lf := lf1) hok1 gi
      have gv := zs_inv.give (lf := lf1) hok1 hv1 gi
      rw [hG] at g0 g1 g2 g3 g4 g6 gl gok gv
      dsimp only at g0 g1 g2 g3 g4 g6
      have hro := hok1.2.1 (sf k - 1) gi
      obtain ⟨u0, u5, u3⟩ := hv1.1 (sf k - 1) gi
      have kq := hok1.1
      refine zx_calli (zx_runV (As := [.int (nI (sf k - 1 + 1))]) (rest := []) X hH mv_M_94 ((c_M_goes g l N ad E1 q1 rg1 ev1 fs fl1 (sf k - 1) (rg1 (sf k - 1)) hN (by omega) hro (hM.rg (zr_id rg1 (sf k - 1))) hok1.2.2.1 u3 u5 (by omega)) _) (by omega) hM.1 rfl ⟨Nat.le_of_ble_eq_true rfl, Nat.le_of_ble_eq_true rfl⟩ rfl hl rfl (Nat.le_of_ble_eq_true rfl) d_M_run_34 ⟨Nat.le_of_ble_eq_true rfl, Nat.le_of_ble_eq_true rfl⟩) hH (fun r N2 ad2 E9 H locs hq hH => ?_)
      obtain ⟨rfl, rfl, rfl, hM, hF2⟩ := hq
      obtain ⟨gt, fl2, hM, hfl2⟩ := zm_give (lf := lf1) hok1 hv1 gi hfl1 hM
      rw [hG] at gt hM hfl2
      refine zx_top (b := nI G.1) (by rw [gt]) ?_
      have hF := hF.tr hF2
      refine lv_istore_n (lv' := [(3, .int (nI (G.1))), (2, .int (nI (k))), (1, .int (nI (cn))), (0, .ref (ad (8)))]) X.1 X.2.1 d_M_run_37 rfl hl (by decide) rfl (fun ls hl => ?_)
      refine lv_iload_n X.1 X.2.1 d_M_run_38 rfl (lv_at hl 2 rfl) ?_
      refine lv_iload_n X.1 X.2.1 d_M_run_39 rfl (lv_at hl 0 rfl) ?_
      refine lv_iconst (v := nI 1) X.1 X.2.1 d_M_run_40 (by decide) ?_
      refine lv_icmp_ne (tgt := 48) X.1 X.2.1 d_M_run_41 (by decide) (fun c23 => ?_) (fun c23 => ?_)
      · have c23 := mt (zn_eq (nI_toInt (by omega)) (nI_toInt (by omega))).mpr c23
        refine lv_iconst (v := nI 0) X.1 X.2.1 d_M_run_48 (by decide) ?_
        refine lv_iadd X.1 X.2.1 d_M_run_49 ?_
        refine zx_top (nI_add _ _) ?_
        refine lv_istore_n (lv' := [(1, .int (nI ((cn) + (0)))), (3, .int (nI (G.1))), (2, .int (nI (k))), (0, .ref (ad (8)))]) X.1 X.2.1 d_M_run_50 rfl hl (by decide) rfl (fun ls hl => ?_)
        refine lv_aload_n X.1 X.2.1 d_M_run_51 rfl (lv_at hl 3 rfl) ?_
        refine lv_dup X.1 X.2.1 d_M_run_52 rfl ?_
        refine zx_get (v := .int (nI (G.2.1 1))) X hH fg_M_98 (by omega) hM.1 rfl d_M_run_53 ?_
        refine lv_iload_n X.1 X.2.1 d_M_run_56 rfl (lv_at hl 1 rfl) ?_
        refine lv_if_ne (tgt := 64) X.1 X.2.1 d_M_run_57 (by decide) (fun c24 => ?_) (fun c24 => ?_)
        · have c24 := mt (zn_eq (nI_toInt (by omega)) zn_0).mpr c24
          refine lv_iconst (v := nI 0) X.1 X.2.1 d_M_run_64 (by decide) ?_
          refine lv_iadd X.1 X.2.1 d_M_run_65 ?_
          refine zx_top (nI_add _ _) ?_
          refine zx_put X hH fp_M_98 (by omega) hM.1 (Nat.le_of_ble_eq_true rfl) rfl rfl d_M_run_66 (fun H locs hH => ?_)
          have hH : zw_H g A s.heap s N ad (va_up E9 8 (zm_o ad (va_up G.2.1 1 ((G.2.1 1) + (0))))) H locs := hH
          have hM := hM.o (va_up G.2.1 1 ((G.2.1 1) + (0)))
          have hF := hF.up (k := 8) (x := (zm_o ad (va_up G.2.1 1 ((G.2.1 1) + (0))))) (by decide) (by decide)
          generalize va_up E9 8 (zm_o ad (va_up G.2.1 1 ((G.2.1 1) + (0)))) = E25 at hH hM hF
          refine lv_iinc (v := nI (k + 1)) (lv' := [(2, .int (nI (k + 1))), (1, .int (nI ((cn) + (0)))), (3, .int (nI (G.1))), (0, .ref (ad (8)))]) X.1 X.2.1 d_M_run_69 hl (k := 2) rfl (nI_add _ _) (by decide) rfl (fun ls hl => ?_)
          refine lv_goto (tgt := 19) X.1 X.2.1 d_M_run_72 (by decide) ?_
          have hz : zp_runs sf (q 3) 0 (q, rg, ev, lf) 0 = zp_runs sf (q 3 - (k + 1)) (k + 1) G.2 (cn) := by rw [hT9, show q 3 - k = (q 3 - (k + 1)) + 1 by omega, zp_runs_2 (by rw [hG]; omega) (by rw [hG]; omega), hG]
          exact ih (k + 1, G.2, cn, E25, fl2) _ _ _ ⟨by omega, by show G.2.1 0 = q 0; omega, by show G.2.1 3 = q 3; omega, hM.q rfl rfl rfl rfl rfl, gok, gv, hfl2, hF, hz, hH, lv_sub hl [0, 1, 3] rfl⟩ (by show q 3 - (k + 1) < q 3 - k; omega)
        · have c24 := (zn_eq (nI_toInt (by omega)) zn_0).mp c24
          refine lv_iconst (v := nI 1) X.1 X.2.1 d_M_run_60 (by decide) ?_
          refine lv_goto (tgt := 65) X.1 X.2.1 d_M_run_61 (by decide) ?_
          refine lv_iadd X.1 X.2.1 d_M_run_65 ?_
          refine zx_top (nI_add _ _) ?_
          refine zx_put X hH fp_M_98 (by omega) hM.1 (Nat.le_of_ble_eq_true rfl) rfl rfl d_M_run_66 (fun H locs hH => ?_)
          have hH : zw_H g A s.heap s N ad (va_up E9 8 (zm_o ad (va_up G.2.1 1 ((G.2.1 1) + (1))))) H locs := hH
          have hM := hM.o (va_up G.2.1 1 ((G.2.1 1) + (1)))
          have hF := hF.up (k := 8) (x := (zm_o ad (va_up G.2.1 1 ((G.2.1 1) + (1))))) (by decide) (by decide)
          generalize va_up E9 8 (zm_o ad (va_up G.2.1 1 ((G.2.1 1) + (1)))) = E26 at hH hM hF
          refine lv_iinc (v := nI (k + 1)) (lv' := [(2, .int (nI (k + 1))), (1, .int (nI ((cn) + (0)))), (3, .int (nI (G.1))), (0, .ref (ad (8)))]) X.1 X.2.1 d_M_run_69 hl (k := 2) rfl (nI_add _ _) (by decide) rfl (fun ls hl => ?_)
          refine lv_goto (tgt := 19) X.1 X.2.1 d_M_run_72 (by decide) ?_
          have hz : zp_runs sf (q 3) 0 (q, rg, ev, lf) 0 = zp_runs sf (q 3 - (k + 1)) (k + 1) (va_up G.2.1 1 (G.2.1 1 + 1), G.2.2) (cn) := by rw [hT9, show q 3 - k = (q 3 - (k + 1)) + 1 by omega, zp_runs_0 (by rw [hG]; omega), hG]
          exact ih (k + 1, (va_up G.2.1 1 (G.2.1 1 + 1), G.2.2), cn, E26, fl2) _ _ _ ⟨by omega, by show G.2.1 0 = q 0; omega, by show G.2.1 3 = q 3; omega, hM, gok.num _, gv.q rfl rfl, hfl2, hF, hz, hH, lv_sub hl [0, 1, 3] rfl⟩ (by show q 3 - (k + 1) < q 3 - k; omega)
      · have c23 := (zn_eq (nI_toInt (by omega)) (nI_toInt (by omega))).mp c23
        refine lv_iconst (v := nI 1) X.1 X.2.1 d_M_run_44 (by decide) ?_
        refine lv_goto (tgt := 49) X.1 X.2.1 d_M_run_45 (by decide) ?_
        refine lv_iadd X.1 X.2.1 d_M_run_49 ?_
        refine zx_top (nI_add _ _) ?_
        refine lv_istore_n (lv' := [(1, .int (nI ((cn) + (1)))), (3, .int (nI (G.1))), (2, .int (nI (k))), (0, .ref (ad (8)))]) X.1 X.2.1 d_M_run_50 rfl hl (by decide) rfl (fun ls hl => ?_)
        refine lv_aload_n X.1 X.2.1 d_M_run_51 rfl (lv_at hl 3 rfl) ?_
        refine lv_dup X.1 X.2.1 d_M_run_52 rfl ?_
        refine zx_get (v := .int (nI (G.2.1 1))) X hH fg_M_98 (by omega) hM.1 rfl d_M_run_53 ?_
        refine lv_iload_n X.1 X.2.1 d_M_run_56 rfl (lv_at hl 1 rfl) ?_
        refine lv_if_ne (tgt := 64) X.1 X.2.1 d_M_run_57 (by decide) (fun c27 => ?_) (fun c27 => ?_)
        · have c27 := mt (zn_eq (nI_toInt (by omega)) zn_0).mpr c27
          refine lv_iconst (v := nI 0) X.1 X.2.1 d_M_run_64 (by decide) ?_
          refine lv_iadd X.1 X.2.1 d_M_run_65 ?_
          refine zx_top (nI_add _ _) ?_
          refine zx_put X hH fp_M_98 (by omega) hM.1 (Nat.le_of_ble_eq_true rfl) rfl rfl d_M_run_66 (fun H locs hH => ?_)
          have hH : zw_H g A s.heap s N ad (va_up E9 8 (zm_o ad (va_up G.2.1 1 ((G.2.1 1) + (0))))) H locs := hH
          have hM := hM.o (va_up G.2.1 1 ((G.2.1 1) + (0)))
          have hF := hF.up (k := 8) (x := (zm_o ad (va_up G.2.1 1 ((G.2.1 1) + (0))))) (by decide) (by decide)
          generalize va_up E9 8 (zm_o ad (va_up G.2.1 1 ((G.2.1 1) + (0)))) = E28 at hH hM hF
          refine lv_iinc (v := nI (k + 1)) (lv' := [(2, .int (nI (k + 1))), (1, .int (nI ((cn) + (1)))), (3, .int (nI (G.1))), (0, .ref (ad (8)))]) X.1 X.2.1 d_M_run_69 hl (k := 2) rfl (nI_add _ _) (by decide) rfl (fun ls hl => ?_)
          refine lv_goto (tgt := 19) X.1 X.2.1 d_M_run_72 (by decide) ?_
          have hz : zp_runs sf (q 3) 0 (q, rg, ev, lf) 0 = zp_runs sf (q 3 - (k + 1)) (k + 1) G.2 (cn + 1) := by rw [hT9, show q 3 - k = (q 3 - (k + 1)) + 1 by omega, zp_runs_1 (by rw [hG]; omega), hG]
          exact ih (k + 1, G.2, cn + 1, E28, fl2) _ _ _ ⟨by omega, by show G.2.1 0 = q 0; omega, by show G.2.1 3 = q 3; omega, hM.q rfl rfl rfl rfl rfl, gok, gv, hfl2, hF, hz, hH, lv_sub hl [0, 1, 3] rfl⟩ (by show q 3 - (k + 1) < q 3 - k; omega)
        · have c27 := (zn_eq (nI_toInt (by omega)) zn_0).mp c27
          refine lv_iconst (v := nI 1) X.1 X.2.1 d_M_run_60 (by decide) ?_
          refine lv_goto (tgt := 65) X.1 X.2.1 d_M_run_61 (by decide) ?_
          refine lv_iadd X.1 X.2.1 d_M_run_65 ?_
          refine zx_top (nI_add _ _) ?_
          refine zx_put X hH fp_M_98 (by omega) hM.1 (Nat.le_of_ble_eq_true rfl) rfl rfl d_M_run_66 (fun H locs hH => ?_)
          have hH : zw_H g A s.heap s N ad (va_up E9 8 (zm_o ad (va_up G.2.1 1 ((G.2.1 1) + (1))))) H locs := hH
          have hM := hM.o (va_up G.2.1 1 ((G.2.1 1) + (1)))
          have hF := hF.up (k := 8) (x := (zm_o ad (va_up G.2.1 1 ((G.2.1 1) + (1))))) (by decide) (by decide)
          generalize va_up E9 8 (zm_o ad (va_up G.2.1 1 ((G.2.1 1) + (1)))) = E29 at hH hM hF
          refine lv_iinc (v := nI (k + 1)) (lv' := [(2, .int (nI (k + 1))), (1, .int (nI ((cn) + (1)))), (3, .int (nI (G.1))), (0, .ref (ad (8)))]) X.1 X.2.1 d_M_run_69 hl (k := 2) rfl (nI_add _ _) (by decide) rfl (fun ls hl => ?_)
          refine lv_goto (tgt := 19) X.1 X.2.1 d_M_run_72 (by decide) ?_
          exfalso; omega
  · have c2 := mt (zn_eq (nI_toInt (by omega)) zn_0).mpr c2
    refine lv_bipush (v := (-5)) X.1 X.2.1 d_M_run_12 (by decide) ?_
    exfalso; omega
end
section
set_option maxHeartbeats 4000000 in
set_option maxRecDepth 100000 in
theorem c_M_quick (g : zw_G) (l : Launch) (N : Nat) (ad : Nat → Nat) (E : Nat → va_E) (q : Nat → Nat) (rg : zt_R) (ev sf fs fl : Nat → Nat) (hN : 25 ≤ N) (hok : zt_ok q rg ev sf) (hv : zs_inv q rg) (hM : zm_at g ad E q rg ev fs fl) (hop : q 2 = 0) : zc_i g l y_M_shutdown b_M_shutdown 5 (some .int) { frames := 2, cells := 0, slots := 0, locals := 80 } [.ref (ad (8)), .int (nI (1))] N ad E (fun v N1 ad1 E1 => N = N1 ∧ ad = ad1 ∧ v = nI (zp_cnt (fun i => decide ((rg i).1 2 = 0 ∧ 0 < (rg i).1 3 - (rg i).1 4)) (q 0)) ∧ zm_at g ad E1 (va_up q 3 0) (zp_map zp_left rg (q 0)) ev fs fl ∧ zm_fr E E1) := by
  refine zc_i.of (by decide) (Nat.le_of_ble_eq_true rfl) ?_
  intro p e s m below meth c ls A X hr hlk hl hH
  have hl : lv_has ls 5 [(0, .ref (ad (8))), (1, .int (nI (1)))] := hl
  obtain ⟨k0, k2, k3, k3a, k4, k4a, k5, k5a, k6, k6a⟩ := hok.1
  have hF : zm_fr E E := zm_fr.rf
  refine lv_aload_n X.1 X.2.1 d_M_shutdown_0 rfl (lv_at hl 0 rfl) ?_
  refine lv_iconst (v := nI 0) X.1 X.2.1 d_M_shutdown_1 (by decide) ?_
  refine zx_put X hH fp_M_59 (by omega) hM.1 (Nat.le_of_ble_eq_true rfl) rfl rfl d_M_shutdown_2 (fun H locs hH => ?_)
  have hH : zw_H g A s.heap s N ad (va_up E 8 (zm_o ad q)) H locs := hH
  rw [← hM.1, ← zr_id] at hH
  refine lv_aload_n X.1 X.2.1 d_M_shutdown_5 rfl (lv_at hl 0 rfl) ?_
  refine zx_get (v := .int (nI (q 2))) X hH fg_M_66 (by omega) hM.1 rfl d_M_shutdown_6 ?_
  refine lv_if_eq (tgt := 15) X.1 X.2.1 d_M_shutdown_9 (by decide) (fun c2 => ?_) (fun c2 => ?_)
  · have c2 := (zn_eq (nI_toInt (by omega)) zn_0).mp c2
    refine lv_aload_n X.1 X.2.1 d_M_shutdown_15 rfl (lv_at hl 0 rfl) ?_
    refine lv_iconst (v := nI 0) X.1 X.2.1 d_M_shutdown_16 (by decide) ?_
    refine zx_put X hH fp_M_74 (by omega) hM.1 (Nat.le_of_ble_eq_true rfl) rfl rfl d_M_shutdown_17 (fun H locs hH => ?_)
    have hH : zw_H g A s.heap s N ad (va_up E 8 (zm_o ad (va_up q 3 (0)))) H locs := hH
    have hM := hM.o (va_up q 3 (0))
    have hF := hF.up (k := 8) (x := (zm_o ad (va_up q 3 (0)))) (by decide) (by decide)
    generalize va_up E 8 (zm_o ad (va_up q 3 (0))) = E3 at hH hM hF
    refine lv_iload_n X.1 X.2.1 d_M_shutdown_20 rfl (lv_at hl 1 rfl) ?_
    refine lv_if_ne (tgt := 28) X.1 X.2.1 d_M_shutdown_21 (by decide) (fun c4 => ?_) (fun c4 => ?_)
    · have c4 := mt (zn_eq (nI_toInt (by omega)) zn_0).mpr c4
      refine lv_iconst (v := nI 0) X.1 X.2.1 d_M_shutdown_28 (by decide) ?_
      refine lv_istore_n (lv' := [(2, .int (nI (0))), (0, .ref (ad (8))), (1, .int (nI (1)))]) X.1 X.2.1 d_M_shutdown_29 rfl hl (by decide) rfl (fun ls hl => ?_)
      have hl : lv_has ls 5 [(2, .int (nI 0)), (0, .ref (ad 8)), (1, .int (nI 1))] := hl
      obtain ⟨mv, hmv⟩ : ∃ x, x = 0 := ⟨0, rfl⟩
      have hl : lv_has ls 5 [(2, .int (nI mv)), (0, .ref (ad 8)), (1, .int (nI 1))] := by rw [hmv]; exact hl
      refine lv_iload_n X.1 X.2.1 d_M_shutdown_30 rfl (lv_at hl 0 rfl) ?_
      refine lv_if_eq (tgt := 85) X.1 X.2.1 d_M_shutdown_31 (by decide) (fun _ => ?_) (fun z => absurd (by rw [hmv]; rfl) z)
      have hok9 := hok
      have hv9 := hv
      refine lv_iconst (v := nI 0) X.1 X.2.1 d_M_shutdown_85 (by decide) ?_
      refine lv_istore_n (lv' := [(3, .int (nI 0)), (2, .int (nI mv)), (0, .ref (ad 8)), (1, .int (nI 1))]) X.1 X.2.1 d_M_shutdown_86 rfl hl (by decide) rfl (fun ls hl => ?_)
      refine lv_iconst (v := nI 1) X.1 X.2.1 d_M_shutdown_87 (by decide) ?_
      refine lv_istore (lv' := [(4, .int (nI 1)), (3, .int (nI 0)), (2, .int (nI mv)), (0, .ref (ad 8)), (1, .int (nI 1))]) X.1 X.2.1 d_M_shutdown_88 hl (by decide) rfl (fun ls hl => ?_)
      refine zx_loop (σ := Nat × (Nat → va_E)) (fun x H locs ls => x.1 ≤ q 0 ∧ zm_at g ad x.2 (va_up q 3 0) (zp_map zp_left rg x.1) ev fs fl ∧ zm_fr E x.2 ∧ zw_H g A s.heap s N ad x.2 H locs ∧ lv_has ls 5 [(4, .int (nI (x.1 + 1))), (3, .int (nI (zp_cnt (fun i => decide ((rg i).1 2 = 0 ∧ 0 < (rg i).1 3 - (rg i).1 4)) x.1))), (0, .ref (ad 8)), (1, .int (nI 1))]) (fun x => q 0 - x.1) (fun _ => 0) (fun _ => 0) ?_ (0, E3) _ _ _ ⟨Nat.zero_le _, by rw [zp_map_0]; exact hM, hF, hH, lv_sub hl [0, 1, 3, 4] rfl⟩
      rintro ⟨i, E7⟩ H locs ls ⟨hi, hM, hF, hH, hl⟩ ihC
      dsimp only at hi hM hF hH hl ihC
      have hle := zp_cnt_le (fun i => decide ((rg i).1 2 = 0 ∧ 0 < (rg i).1 3 - (rg i).1 4)) i
      have hM := hM.rg (zr_id (zp_map zp_left rg i) i)
      rw [zp_map_at] at hM
      refine lv_iload X.1 X.2.1 d_M_shutdown_90 (lv_at hl 0 rfl) ?_
      refine lv_aload_n X.1 X.2.1 d_M_shutdown_92 rfl (lv_at hl 2 rfl) ?_
      refine zx_get (v := .int (nI (q 0))) X hH fg_M_63 (by omega) hM.1 rfl d_M_shutdown_93 ?_
      refine lv_icmp_gt (tgt := 150) X.1 X.2.1 d_M_shutdown_96 (by decide) (fun c21 => ?_) (fun c21 => ?_)
      · have c21 := (zn_lt (nI_toInt (by omega)) (nI_toInt (by omega))).mp c21
        refine lv_iload_n X.1 X.2.1 d_M_shutdown_150 rfl (lv_at hl 1 rfl) ?_
        have hM := hM.rg (show va_up (zp_map zp_left rg i) i (rg i) = zp_map zp_left rg i by rw [← zp_map_at zp_left rg i]; exact (zr_id _ _).symm)
        have hiq : i = q 0 := by omega
        rw [hiq] at hM
        refine zx_top (b := nI (zp_cnt (fun i => decide ((rg i).1 2 = 0 ∧ 0 < (rg i).1 3 - (rg i).1 4)) (q 0))) (by rw [hiq]) ?_
        exact zx_iret X hr hlk hH (Nat.le_of_ble_eq_true rfl) (Nat.le_of_ble_eq_true rfl) d_M_shutdown_151 ⟨rfl, rfl, rfl, hM, hF⟩
      · have c21 := mt (zn_lt (nI_toInt (by omega)) (nI_toInt (by omega))).mpr c21
        have hi0 : i < q 0 := by omega
        have hro := hok9.2.1 i (by omega)
        obtain ⟨r0, r1, r2, r3, r4, r5, r7, r8, r6⟩ := hro.1
        obtain ⟨u0, u5, u3⟩ := hv9.1 i (by omega)
        refine lv_aload_n X.1 X.2.1 d_M_shutdown_99 rfl (lv_at hl 2 rfl) ?_
        refine zx_get (v := .ref (ad (11))) X hH fg_M_16 (by omega) hM.1 rfl d_M_shutdown_100 ?_
        refine lv_iload X.1 X.2.1 d_M_shutdown_103 (lv_at hl 0 rfl) ?_
        refine zx_iald (j := i + 1) X hH (by omega) (show E7 11 = zr_ia g 31 (zm_c (va_up (zp_map zp_left rg i) i (rg i)) 2) from hM.2.2.2.1) rfl (by omega) (by decide) d_M_shutdown_105 ?_
        refine zx_top (b := nI ((rg i).1 2)) (congrArg nI (zm_c_at _ _ _ _)) ?_
        refine lv_if_eq (tgt := 112) X.1 X.2.1 d_M_shutdown_106 (by decide) (fun c22 => ?_) (fun c22 => ?_)
        · have c22 := (zn_eq (nI_toInt (by omega)) zn_0).mp c22
          refine lv_iload_n X.1 X.2.1 d_M_shutdown_112 rfl (lv_at hl 3 rfl) ?_
          refine lv_if_ne (tgt := 125) X.1 X.2.1 d_M_shutdown_113 (by decide) (fun c23 => ?_) (fun c23 => ?_)
          · have c23 := mt (zn_eq (nI_toInt (by omega)) zn_0).mpr c23
            refine lv_iload_n X.1 X.2.1 d_M_shutdown_125 rfl (lv_at hl 1 rfl) ?_
            refine lv_aload_n X.1 X.2.1 d_M_shutdown_126 rfl (lv_at hl 2 rfl) ?_
            refine lv_iload X.1 X.2.1 d_M_shutdown_127 (lv_at hl 0 rfl) ?_
            refine zx_calli (zx_runV (As := [.int (nI (i + 1))]) (rest := [.int (nI (zp_cnt (fun i => decide ((rg i).1 2 = 0 ∧ 0 < (rg i).1 3 - (rg i).1 4)) i))]) X hH mv_M_101 ((c_M_leave g l N ad E7 (va_up q 3 0) (zp_map zp_left rg i) ev fs fl i (rg i) hN (by omega) hro hM) _) (by omega) hM.1 rfl ⟨Nat.le_of_ble_eq_true rfl, Nat.le_of_ble_eq_true rfl⟩ rfl hl rfl (Nat.le_of_ble_eq_true rfl) d_M_shutdown_129 ⟨Nat.le_of_ble_eq_true rfl, Nat.le_of_ble_eq_true rfl⟩) hH (fun r N1 ad1 E6 H locs hq hH => ?_)
            obtain ⟨rfl, rfl, rfl, hM, hF1⟩ := hq
            have hF := hF.tr hF1
            by_cases dl : 0 < (rg i).1 3 - (rg i).1 4
            · refine zx_top (b := nI 1) (by rw [if_pos dl]) ?_
              refine lv_iadd X.1 X.2.1 d_M_shutdown_132 ?_
              refine zx_top (nI_add _ _) ?_
              refine lv_istore_n (lv' := [(3, .int (nI ((zp_cnt (fun i => decide ((rg i).1 2 = 0 ∧ 0 < (rg i).1 3 - (rg i).1 4)) i) + (1)))), (4, .int (nI (i + 1))), (0, .ref (ad (8))), (1, .int (nI (1)))]) X.1 X.2.1 d_M_shutdown_133 rfl hl (by decide) rfl (fun ls hl => ?_)
              refine lv_goto (tgt := 144) X.1 X.2.1 d_M_shutdown_134 (by decide) ?_
              refine lv_iinc (v := nI (i + 1 + 1)) (lv' := [(4, .int (nI (i + 1 + 1))), (3, .int (nI ((zp_cnt (fun i => decide ((rg i).1 2 = 0 ∧ 0 < (rg i).1 3 - (rg i).1 4)) i) + (1)))), (0, .ref (ad (8))), (1, .int (nI (1)))]) X.1 X.2.1 d_M_shutdown_144 hl (k := 1) rfl (nI_add _ _) (by decide) rfl (fun ls hl => ?_)
              refine lv_goto (tgt := 90) X.1 X.2.1 d_M_shutdown_147 (by decide) ?_
              have hz : zp_left (rg i) = (va_up (rg i).1 2 4, (rg i).2) := if_pos (by omega)
              rw [← hz, ← zp_map_s] at hM
              have hc : zp_cnt (fun i => decide ((rg i).1 2 = 0 ∧ 0 < (rg i).1 3 - (rg i).1 4)) (i + 1) = zp_cnt (fun i => decide ((rg i).1 2 = 0 ∧ 0 < (rg i).1 3 - (rg i).1 4)) i + 1 := zp_cnt_y (decide_eq_true (by omega))
              exact ihC (i + 1, E6) _ _ _ ⟨by omega, hM, hF, hH, by rw [hc]; exact lv_sub hl [0, 1, 2, 3] rfl⟩ (by show q 0 - (i + 1) < q 0 - i; omega)
            · refine zx_top (b := nI 0) (by rw [if_neg dl]) ?_
              refine lv_iadd X.1 X.2.1 d_M_shutdown_132 ?_
              refine zx_top (nI_add _ _) ?_
              refine lv_istore_n (lv' := [(3, .int (nI ((zp_cnt (fun i => decide ((rg i).1 2 = 0 ∧ 0 < (rg i).1 3 - (rg i).1 4)) i) + (0)))), (4, .int (nI (i + 1))), (0, .ref (ad (8))), (1, .int (nI (1)))]) X.1 X.2.1 d_M_shutdown_133 rfl hl (by decide) rfl (fun ls hl => ?_)
              refine lv_goto (tgt := 144) X.1 X.2.1 d_M_shutdown_134 (by decide) ?_
              refine lv_iinc (v := nI (i + 1 + 1)) (lv' := [(4, .int (nI (i + 1 + 1))), (3, .int (nI ((zp_cnt (fun i => decide ((rg i).1 2 = 0 ∧ 0 < (rg i).1 3 - (rg i).1 4)) i) + (0)))), (0, .ref (ad (8))), (1, .int (nI (1)))]) X.1 X.2.1 d_M_shutdown_144 hl (k := 1) rfl (nI_add _ _) (by decide) rfl (fun ls hl => ?_)
              refine lv_goto (tgt := 90) X.1 X.2.1 d_M_shutdown_147 (by decide) ?_
              have hz : zp_left (rg i) = (va_up (rg i).1 2 4, (rg i).2) := if_pos (by omega)
              rw [← hz, ← zp_map_s] at hM
              have hc : zp_cnt (fun i => decide ((rg i).1 2 = 0 ∧ 0 < (rg i).1 3 - (rg i).1 4)) (i + 1) = zp_cnt (fun i => decide ((rg i).1 2 = 0 ∧ 0 < (rg i).1 3 - (rg i).1 4)) i := zp_cnt_n (fun h => by have h2 := of_decide_eq_true h; omega)
              exact ihC (i + 1, E6) _ _ _ ⟨by omega, hM, hF, hH, by rw [hc]; exact lv_sub hl [0, 1, 2, 3] rfl⟩ (by show q 0 - (i + 1) < q 0 - i; omega)
          · have c23 := (zn_eq (nI_toInt (by omega)) zn_0).mp c23
            exfalso; omega
        · have c22 := mt (zn_eq (nI_toInt (by omega)) zn_0).mpr c22
          refine lv_goto (tgt := 144) X.1 X.2.1 d_M_shutdown_109 (by decide) ?_
          refine lv_iinc (v := nI (i + 1 + 1)) (lv' := [(4, .int (nI (i + 1 + 1))), (3, .int (nI (zp_cnt (fun i => decide ((rg i).1 2 = 0 ∧ 0 < (rg i).1 3 - (rg i).1 4)) i))), (0, .ref (ad (8))), (1, .int (nI (1)))]) X.1 X.2.1 d_M_shutdown_144 hl (k := 0) rfl (nI_add _ _) (by decide) rfl (fun ls hl => ?_)
          refine lv_goto (tgt := 90) X.1 X.2.1 d_M_shutdown_147 (by decide) ?_
          have hz : zp_left (rg i) = (rg i) := if_neg (by omega)
          rw [show va_up (zp_map zp_left rg i) i (rg i) = zp_map zp_left rg (i + 1) by rw [zp_map_s, hz]] at hM
          have hc : zp_cnt (fun i => decide ((rg i).1 2 = 0 ∧ 0 < (rg i).1 3 - (rg i).1 4)) (i + 1) = zp_cnt (fun i => decide ((rg i).1 2 = 0 ∧ 0 < (rg i).1 3 - (rg i).1 4)) i := zp_cnt_n (fun h => by have h2 := of_decide_eq_true h; omega)
          exact ihC (i + 1, E7) _ _ _ ⟨by omega, hM, hF, hH, by rw [hc]; exact lv_sub hl [0, 1, 2, 3] rfl⟩ (by show q 0 - (i + 1) < q 0 - i; omega)
    · have c4 := (zn_eq (nI_toInt (by omega)) zn_0).mp c4
      exfalso; omega
  · have c2 := mt (zn_eq (nI_toInt (by omega)) zn_0).mpr c2
    refine lv_bipush (v := (-5)) X.1 X.2.1 d_M_shutdown_12 (by decide) ?_
    exfalso; omega

set_option maxHeartbeats 4000000 in
set_option maxRecDepth 100000 in
theorem c_M_slow (g : zw_G) (l : Launch) (N : Nat) (ad : Nat → Nat) (E : Nat → va_E) (q : Nat → Nat) (rg : zt_R) (ev sf fs fl : Nat → Nat) (hN : 25 ≤ N) (hok : zt_ok q rg ev sf) (hv : zs_inv q rg) (hM : zm_at g ad E q rg ev fs fl) (lf : Nat → Nat) (hfs : ∀ j, j < q 3 → fs j = sf j) (hfl : ∀ j, j < q 5 → fl j = lf j) (hop : q 2 = 0) : zc_i g l y_M_shutdown b_M_shutdown 5 (some .int) { frames := 3, cells := 0, slots := 0, locals := 120 } [.ref (ad (8)), .int (nI (0))] N ad E (fun v N1 ad1 E1 => N = N1 ∧ ad = ad1 ∧ v = nI (zp_cnt (fun i => decide (((zp_map zp_canc (zp_rnds (q 0) 3031 ((va_up q 3 0), rg, ev, lf)).2.1 (q 0)) i).1 2 = 0 ∧ 0 < ((zp_map zp_canc (zp_rnds (q 0) 3031 ((va_up q 3 0), rg, ev, lf)).2.1 (q 0)) i).1 3 - ((zp_map zp_canc (zp_rnds (q 0) 3031 ((va_up q 3 0), rg, ev, lf)).2.1 (q 0)) i).1 4)) (q 0)) ∧ (∃ fl1, zm_at g ad E1 (zp_rnds (q 0) 3031 ((va_up q 3 0), rg, ev, lf)).1 (zp_map zp_left (zp_map zp_canc (zp_rnds (q 0) 3031 ((va_up q 3 0), rg, ev, lf)).2.1 (q 0)) (q 0)) (zp_rnds (q 0) 3031 ((va_up q 3 0), rg, ev, lf)).2.2.1 fs fl1 ∧ ∀ j, j < (zp_rnds (q 0) 3031 ((va_up q 3 0), rg, ev, lf)).1 5 → fl1 j = (zp_rnds (q 0) 3031 ((va_up q 3 0), rg, ev, lf)).2.2.2 j) ∧ zm_fr E E1) := by
  refine zc_i.of (by decide) (Nat.le_of_ble_eq_true rfl) ?_
  intro p e s m below meth c ls A X hr hlk hl hH
  have hl : lv_has ls 5 [(0, .ref (ad (8))), (1, .int (nI (0)))] := hl
  obtain ⟨k0, k2, k3, k3a, k4, k4a, k5, k5a, k6, k6a⟩ := hok.1
  have hF : zm_fr E E := zm_fr.rf
  refine lv_aload_n X.1 X.2.1 d_M_shutdown_0 rfl (lv_at hl 0 rfl) ?_
  refine lv_iconst (v := nI 0) X.1 X.2.1 d_M_shutdown_1 (by decide) ?_
  refine zx_put X hH fp_M_59 (by omega) hM.1 (Nat.le_of_ble_eq_true rfl) rfl rfl d_M_shutdown_2 (fun H locs hH => ?_)
  have hH : zw_H g A s.heap s N ad (va_up E 8 (zm_o ad q)) H locs := hH
  rw [← hM.1, ← zr_id] at hH
  refine lv_aload_n X.1 X.2.1 d_M_shutdown_5 rfl (lv_at hl 0 rfl) ?_
  refine zx_get (v := .int (nI (q 2))) X hH fg_M_66 (by omega) hM.1 rfl d_M_shutdown_6 ?_
  refine lv_if_eq (tgt := 15) X.1 X.2.1 d_M_shutdown_9 (by decide) (fun c2 => ?_) (fun c2 => ?_)
  · have c2 := (zn_eq (nI_toInt (by omega)) zn_0).mp c2
    refine lv_aload_n X.1 X.2.1 d_M_shutdown_15 rfl (lv_at hl 0 rfl) ?_
    refine lv_iconst (v := nI 0) X.1 X.2.1 d_M_shutdown_16 (by decide) ?_
    refine zx_put X hH fp_M_74 (by omega) hM.1 (Nat.le_of_ble_eq_true rfl) rfl rfl d_M_shutdown_17 (fun H locs hH => ?_)
    have hH : zw_H g A s.heap s N ad (va_up E 8 (zm_o ad (va_up q 3 (0)))) H locs := hH
    have hM := hM.o (va_up q 3 (0))
    have hF := hF.up (k := 8) (x := (zm_o ad (va_up q 3 (0)))) (by decide) (by decide)
    generalize va_up E 8 (zm_o ad (va_up q 3 (0))) = E3 at hH hM hF
    refine lv_iload_n X.1 X.2.1 d_M_shutdown_20 rfl (lv_at hl 1 rfl) ?_
    refine lv_if_ne (tgt := 28) X.1 X.2.1 d_M_shutdown_21 (by decide) (fun c4 => ?_) (fun c4 => ?_)
    · have c4 := mt (zn_eq (nI_toInt (by omega)) zn_0).mpr c4
      exfalso; omega
    · have c4 := (zn_eq (nI_toInt (by omega)) zn_0).mp c4
      refine lv_iconst (v := nI 1) X.1 X.2.1 d_M_shutdown_24 (by decide) ?_
      refine lv_goto (tgt := 29) X.1 X.2.1 d_M_shutdown_25 (by decide) ?_
      refine lv_istore_n (lv' := [(2, .int (nI (1))), (0, .ref (ad (8))), (1, .int (nI (0)))]) X.1 X.2.1 d_M_shutdown_29 rfl hl (by decide) rfl (fun ls hl => ?_)
      have hmu : zp_mu rg (q 0) < 3031 := by have := zp_mu_le (rg := rg) (q 0); omega
      refine zx_loop (σ := zp_T × Nat × Nat × (Nat → va_E) × (Nat → Nat)) (fun x H locs ls => x.1.1 0 = q 0 ∧ zm_at g ad x.2.2.2.1 x.1.1 x.1.2.1 x.1.2.2.1 fs x.2.2.2.2 ∧ zt_ok x.1.1 x.1.2.1 x.1.2.2.1 sf ∧ zs_inv x.1.1 x.1.2.1 ∧ (∀ j, j < x.1.1 5 → x.2.2.2.2 j = x.1.2.2.2 j) ∧ zm_fr E x.2.2.2.1 ∧ x.2.1 ≤ 1 ∧ zp_mu x.1.2.1 (q 0) < x.2.2.1 ∧ (zp_rnds (q 0) 3031 ((va_up q 3 0), rg, ev, lf)) = (if x.2.1 = 0 then x.1 else zp_rnds (q 0) x.2.2.1 x.1) ∧ zw_H g A s.heap s N ad x.2.2.2.1 H locs ∧ lv_has ls 5 [(2, .int (nI x.2.1)), (0, .ref (ad 8)), (1, .int (nI 0))]) (fun x => if x.2.1 = 0 then 0 else zp_mu x.1.2.1 (q 0) + 1) (fun _ => 0) (fun _ => 0) ?_ (((va_up q 3 0), rg, ev, lf), 1, 3031, E3, fl) _ _ _ ⟨rfl, hM, hok.clr, hv.q rfl rfl, hfl, hF, Nat.le_refl _, hmu, (if_neg (by decide : ¬ (1 : Nat) = 0)).symm, hH, hl⟩
      rintro ⟨⟨q1, rg1, ev1, lf1⟩, mv, f, E1, fl1⟩ H locs ls ⟨hq0, hM, hok1, hv1, hfl1, hF, hmv, hmu, hT9, hH, hl⟩ ihA
      dsimp only at hq0 hM hok1 hv1 hfl1 hF hmv hmu hT9 hH hl ihA ⊢
      refine lv_iload_n X.1 X.2.1 d_M_shutdown_30 rfl (lv_at hl 0 rfl) ?_
      refine lv_if_eq (tgt := 85) X.1 X.2.1 d_M_shutdown_31 (by decide) (fun c1 => ?_) (fun c1 => ?_)
      · have hmz : mv = 0 := by have c1 := (zn_eq (nI_toInt (by omega)) zn_0).mp c1; omega
        have hok9 := hok1
        have hv9 := hv1
        refine lv_iconst (v := nI 0) X.1 X.2.1 d_M_shutdown_85 (by decide) ?_
        refine lv_istore_n (lv' := [(3, .int (nI 0)), (2, .int (nI mv)), (0, .ref (ad 8)), (1, .int (nI 0))]) X.1 X.2.1 d_M_shutdown_86 rfl hl (by decide) rfl (fun ls hl => ?_)
        refine lv_iconst (v := nI 1) X.1 X.2.1 d_M_shutdown_87 (by decide) ?_
        refine lv_istore (lv' := [(4, .int (nI 1)), (3, .int (nI 0)), (2, .int (nI mv)), (0, .ref (ad 8)), (1, .int (nI 0))]) X.1 X.2.1 d_M_shutdown_88 hl (by decide) rfl (fun ls hl => ?_)
        refine zx_loop (σ := Nat × (Nat → va_E)) (fun x H locs ls => x.1 ≤ q 0 ∧ zm_at g ad x.2 q1 (zp_map zm_fin rg1 x.1) ev1 fs fl1 ∧ zm_fr E x.2 ∧ zw_H g A s.heap s N ad x.2 H locs ∧ lv_has ls 5 [(4, .int (nI (x.1 + 1))), (3, .int (nI (zp_cnt (fun i => decide ((rg1 i).1 2 = 0 ∧ (rg1 i).2 3 ((rg1 i).1 3) = 1 ∧ 0 < (rg1 i).1 3 - (rg1 i).1 4)) x.1))), (0, .ref (ad 8)), (1, .int (nI 0))]) (fun x => q 0 - x.1) (fun _ => 0) (fun _ => 0) ?_ (0, E1) _ _ _ ⟨Nat.zero_le _, by rw [zp_map_0]; exact hM, hF, hH, lv_sub hl [0, 1, 3, 4] rfl⟩
        rintro ⟨i, E7⟩ H locs ls ⟨hi, hM, hF, hH, hl⟩ ihC
        dsimp only at hi hM hF hH hl ihC
        have hle := zp_cnt_le (fun i => decide ((rg1 i).1 2 = 0 ∧ (rg1 i).2 3 ((rg1 i).1 3) = 1 ∧ 0 < (rg1 i).1 3 - (rg1 i).1 4)) i
        have hM := hM.rg (zr_id (zp_map zm_fin rg1 i) i)
        rw [zp_map_at] at hM
        refine lv_iload X.1 X.2.1 d_M_shutdown_90 (lv_at hl 0 rfl) ?_
        refine lv_aload_n X.1 X.2.1 d_M_shutdown_92 rfl (lv_at hl 2 rfl) ?_
        refine zx_get (v := .int (nI (q1 0))) X hH fg_M_63 (by omega) hM.1 rfl d_M_shutdown_93 ?_
        refine lv_icmp_gt (tgt := 150) X.1 X.2.1 d_M_shutdown_96 (by decide) (fun c21 => ?_) (fun c21 => ?_)
        · have c21 := (zn_lt (nI_toInt (by omega)) (nI_toInt (by omega))).mp c21
          refine lv_iload_n X.1 X.2.1 d_M_shutdown_150 rfl (lv_at hl 1 rfl) ?_
          have hM := hM.rg (show va_up (zp_map zm_fin rg1 i) i (rg1 i) = zp_map zm_fin rg1 i by rw [← zp_map_at zm_fin rg1 i]; exact (zr_id _ _).symm)
          have hiq : i = q 0 := by omega
          rw [hiq] at hM
          refine zx_top (b := nI (zp_cnt (fun i => decide ((rg1 i).1 2 = 0 ∧ (rg1 i).2 3 ((rg1 i).1 3) = 1 ∧ 0 < (rg1 i).1 3 - (rg1 i).1 4)) (q 0))) (by rw [hiq]) ?_
          have hz9 : (zp_rnds (q 0) 3031 ((va_up q 3 0), rg, ev, lf)) = (q1, rg1, ev1, lf1) := by rw [hT9, if_pos hmz]
          exact zx_iret X hr hlk hH (Nat.le_of_ble_eq_true rfl) (Nat.le_of_ble_eq_true rfl) d_M_shutdown_151 ⟨rfl, rfl, by rw [hz9, zm_cnt_fin], by rw [hz9, zm_map_fin]; exact ⟨fl1, hM, hfl1⟩, hF⟩
        · have c21 := mt (zn_lt (nI_toInt (by omega)) (nI_toInt (by omega))).mpr c21
          have hi0 : i < q 0 := by omega
          have hro := hok9.2.1 i (by omega)
          obtain ⟨r0, r1, r2, r3, r4, r5, r7, r8, r6⟩ := hro.1
          obtain ⟨u0, u5, u3⟩ := hv9.1 i (by omega)
          refine lv_aload_n X.1 X.2.1 d_M_shutdown_99 rfl (lv_at hl 2 rfl) ?_
          refine zx_get (v := .ref (ad (11))) X hH fg_M_16 (by omega) hM.1 rfl d_M_shutdown_100 ?_
          refine lv_iload X.1 X.2.1 d_M_shutdown_103 (lv_at hl 0 rfl) ?_
          refine zx_iald (j := i + 1) X hH (by omega) (show E7 11 = zr_ia g 31 (zm_c (va_up (zp_map zm_fin rg1 i) i (rg1 i)) 2) from hM.2.2.2.1) rfl (by omega) (by decide) d_M_shutdown_105 ?_
          refine zx_top (b := nI ((rg1 i).1 2)) (congrArg nI (zm_c_at _ _ _ _)) ?_
          refine lv_if_eq (tgt := 112) X.1 X.2.1 d_M_shutdown_106 (by decide) (fun c22 => ?_) (fun c22 => ?_)
          · have c22 := (zn_eq (nI_toInt (by omega)) zn_0).mp c22
            refine lv_iload_n X.1 X.2.1 d_M_shutdown_112 rfl (lv_at hl 3 rfl) ?_
            refine lv_if_ne (tgt := 125) X.1 X.2.1 d_M_shutdown_113 (by decide) (fun c23 => ?_) (fun c23 => ?_)
            · have c23 := mt (zn_eq (nI_toInt (by omega)) zn_0).mpr c23
              exfalso; omega
            · have c23 := (zn_eq (nI_toInt (by omega)) zn_0).mp c23
              refine lv_aload_n X.1 X.2.1 d_M_shutdown_116 rfl (lv_at hl 2 rfl) ?_
              refine lv_iload X.1 X.2.1 d_M_shutdown_117 (lv_at hl 0 rfl) ?_
              refine zx_calli (zx_runV (As := [.int (nI (i + 1))]) (rest := []) X hH mv_M_81 ((c_M_isBetween g l N ad E7 q1 (zp_map zm_fin rg1 i) ev1 fs fl1 i (rg1 i) hN (by omega) hro hM u3) _) (by omega) hM.1 rfl ⟨Nat.le_of_ble_eq_true rfl, Nat.le_of_ble_eq_true rfl⟩ rfl hl rfl (Nat.le_of_ble_eq_true rfl) d_M_shutdown_119 ⟨Nat.le_of_ble_eq_true rfl, Nat.le_of_ble_eq_true rfl⟩) hH (fun r N1 ad1 E1 H locs hq hH => ?_)
              obtain ⟨rfl, rfl, rfl, rfl⟩ := hq
              by_cases d24 : (rg1 i).2 3 ((rg1 i).1 3) = 1
              · refine zx_top (b := nI 1) (by rw [if_pos d24]) ?_
                refine lv_if_eq (tgt := 137) X.1 X.2.1 d_M_shutdown_122 (by decide) (fun z => ?_) (fun z => ?_)
                · exact absurd z (by decide)
                · clear z
                  refine lv_iload_n X.1 X.2.1 d_M_shutdown_125 rfl (lv_at hl 1 rfl) ?_
                  refine lv_aload_n X.1 X.2.1 d_M_shutdown_126 rfl (lv_at hl 2 rfl) ?_
                  refine lv_iload X.1 X.2.1 d_M_shutdown_127 (lv_at hl 0 rfl) ?_
                  refine zx_calli (zx_runV (As := [.int (nI (i + 1))]) (rest := [.int (nI (zp_cnt (fun i => decide ((rg1 i).1 2 = 0 ∧ (rg1 i).2 3 ((rg1 i).1 3) = 1 ∧ 0 < (rg1 i).1 3 - (rg1 i).1 4)) i))]) X hH mv_M_101 ((c_M_leave g l N ad E7 q1 (zp_map zm_fin rg1 i) ev1 fs fl1 i (rg1 i) hN (by omega) hro hM) _) (by omega) hM.1 rfl ⟨Nat.le_of_ble_eq_true rfl, Nat.le_of_ble_eq_true rfl⟩ rfl hl rfl (Nat.le_of_ble_eq_true rfl) d_M_shutdown_129 ⟨Nat.le_of_ble_eq_true rfl, Nat.le_of_ble_eq_true rfl⟩) hH (fun r N1 ad1 E6 H locs hq hH => ?_)
                  obtain ⟨rfl, rfl, rfl, hM, hF1⟩ := hq
                  have hF := hF.tr hF1
                  by_cases dl : 0 < (rg1 i).1 3 - (rg1 i).1 4
                  · refine zx_top (b := nI 1) (by rw [if_pos dl]) ?_
                    refine lv_iadd X.1 X.2.1 d_M_shutdown_132 ?_
                    refine zx_top (nI_add _ _) ?_
                    refine lv_istore_n (lv' := [(3, .int (nI ((zp_cnt (fun i => decide ((rg1 i).1 2 = 0 ∧ (rg1 i).2 3 ((rg1 i).1 3) = 1 ∧ 0 < (rg1 i).1 3 - (rg1 i).1 4)) i) + (1)))), (4, .int (nI (i + 1))), (0, .ref (ad (8))), (1, .int (nI (0)))]) X.1 X.2.1 d_M_shutdown_133 rfl hl (by decide) rfl (fun ls hl => ?_)
                    refine lv_goto (tgt := 144) X.1 X.2.1 d_M_shutdown_134 (by decide) ?_
                    refine lv_iinc (v := nI (i + 1 + 1)) (lv' := [(4, .int (nI (i + 1 + 1))), (3, .int (nI ((zp_cnt (fun i => decide ((rg1 i).1 2 = 0 ∧ (rg1 i).2 3 ((rg1 i).1 3) = 1 ∧ 0 < (rg1 i).1 3 - (rg1 i).1 4)) i) + (1)))), (0, .ref (ad (8))), (1, .int (nI (0)))]) X.1 X.2.1 d_M_shutdown_144 hl (k := 1) rfl (nI_add _ _) (by decide) rfl (fun ls hl => ?_)
                    refine lv_goto (tgt := 90) X.1 X.2.1 d_M_shutdown_147 (by decide) ?_
                    have hz : zm_fin (rg1 i) = (va_up (rg1 i).1 2 4, (rg1 i).2) := by unfold zm_fin; rw [if_pos (by omega), if_pos (by omega)]
                    rw [← hz, ← zp_map_s] at hM
                    have hc : zp_cnt (fun i => decide ((rg1 i).1 2 = 0 ∧ (rg1 i).2 3 ((rg1 i).1 3) = 1 ∧ 0 < (rg1 i).1 3 - (rg1 i).1 4)) (i + 1) = zp_cnt (fun i => decide ((rg1 i).1 2 = 0 ∧ (rg1 i).2 3 ((rg1 i).1 3) = 1 ∧ 0 < (rg1 i).1 3 - (rg1 i).1 4)) i + 1 := zp_cnt_y (decide_eq_true (by omega))
                    exact ihC (i + 1, E6) _ _ _ ⟨by omega, hM, hF, hH, by rw [hc]; exact lv_sub hl [0, 1, 2, 3] rfl⟩ (by show q 0 - (i + 1) < q 0 - i; omega)
                  · refine zx_top (b := nI 0) (by rw [if_neg dl]) ?_
                    refine lv_iadd X.1 X.2.1 d_M_shutdown_132 ?_
                    refine zx_top (nI_add _ _) ?_
                    refine lv_istore_n (lv' := [(3, .int (nI ((zp_cnt (fun i => decide ((rg1 i).1 2 = 0 ∧ (rg1 i).2 3 ((rg1 i).1 3) = 1 ∧ 0 < (rg1 i).1 3 - (rg1 i).1 4)) i) + (0)))), (4, .int (nI (i + 1))), (0, .ref (ad (8))), (1, .int (nI (0)))]) X.1 X.2.1 d_M_shutdown_133 rfl hl (by decide) rfl (fun ls hl => ?_)
                    refine lv_goto (tgt := 144) X.1 X.2.1 d_M_shutdown_134 (by decide) ?_
                    refine lv_iinc (v := nI (i + 1 + 1)) (lv' := [(4, .int (nI (i + 1 + 1))), (3, .int (nI ((zp_cnt (fun i => decide ((rg1 i).1 2 = 0 ∧ (rg1 i).2 3 ((rg1 i).1 3) = 1 ∧ 0 < (rg1 i).1 3 - (rg1 i).1 4)) i) + (0)))), (0, .ref (ad (8))), (1, .int (nI (0)))]) X.1 X.2.1 d_M_shutdown_144 hl (k := 1) rfl (nI_add _ _) (by decide) rfl (fun ls hl => ?_)
                    refine lv_goto (tgt := 90) X.1 X.2.1 d_M_shutdown_147 (by decide) ?_
                    have hz : zm_fin (rg1 i) = (va_up (rg1 i).1 2 4, (rg1 i).2) := by unfold zm_fin; rw [if_pos (by omega), if_pos (by omega)]
                    rw [← hz, ← zp_map_s] at hM
                    have hc : zp_cnt (fun i => decide ((rg1 i).1 2 = 0 ∧ (rg1 i).2 3 ((rg1 i).1 3) = 1 ∧ 0 < (rg1 i).1 3 - (rg1 i).1 4)) (i + 1) = zp_cnt (fun i => decide ((rg1 i).1 2 = 0 ∧ (rg1 i).2 3 ((rg1 i).1 3) = 1 ∧ 0 < (rg1 i).1 3 - (rg1 i).1 4)) i := zp_cnt_n (fun h => by have h2 := of_decide_eq_true h; omega)
                    exact ihC (i + 1, E6) _ _ _ ⟨by omega, hM, hF, hH, by rw [hc]; exact lv_sub hl [0, 1, 2, 3] rfl⟩ (by show q 0 - (i + 1) < q 0 - i; omega)
              · refine zx_top (b := nI 0) (by rw [if_neg d24]) ?_
                refine lv_if_eq (tgt := 137) X.1 X.2.1 d_M_shutdown_122 (by decide) (fun z => ?_) (fun z => ?_)
                · clear z
                  refine lv_aload_n X.1 X.2.1 d_M_shutdown_137 rfl (lv_at hl 2 rfl) ?_
                  refine lv_iload X.1 X.2.1 d_M_shutdown_138 (lv_at hl 0 rfl) ?_
                  refine lv_iconst (v := nI 3) X.1 X.2.1 d_M_shutdown_140 (by decide) ?_
                  refine zx_callv (zx_runV (As := [.int (nI (i + 1)), .int (nI (3))]) (rest := []) X hH mv_M_84 ((c_M_end g l N ad E7 q1 (zp_map zm_fin rg1 i) ev1 fs fl1 i (rg1 i) hN (by omega) r4 hM 3 (by decide)) _) (by omega) hM.1 rfl ⟨Nat.le_of_ble_eq_true rfl, Nat.le_of_ble_eq_true rfl⟩ rfl hl rfl (Nat.le_of_ble_eq_true rfl) d_M_shutdown_141 ⟨Nat.le_of_ble_eq_true rfl, Nat.le_of_ble_eq_true rfl⟩) hH (fun N1 ad1 E6 H locs hq hH => ?_)
                  obtain ⟨rfl, rfl, hM, hF1⟩ := hq
                  have hF := hF.tr hF1
                  rw [zm_end_back (by decide)] at hM
                  refine lv_iinc (v := nI (i + 1 + 1)) (lv' := [(4, .int (nI (i + 1 + 1))), (3, .int (nI (zp_cnt (fun i => decide ((rg1 i).1 2 = 0 ∧ (rg1 i).2 3 ((rg1 i).1 3) = 1 ∧ 0 < (rg1 i).1 3 - (rg1 i).1 4)) i))), (0, .ref (ad (8))), (1, .int (nI (0)))]) X.1 X.2.1 d_M_shutdown_144 hl (k := 0) rfl (nI_add _ _) (by decide) rfl (fun ls hl => ?_)
                  refine lv_goto (tgt := 90) X.1 X.2.1 d_M_shutdown_147 (by decide) ?_
                  have hz : zm_fin (rg1 i) = (zp_back (rg1 i).1 3, (rg1 i).2) := by unfold zm_fin; rw [if_pos (by omega), if_neg (by omega)]
                  rw [← hz, ← zp_map_s] at hM
                  have hc : zp_cnt (fun i => decide ((rg1 i).1 2 = 0 ∧ (rg1 i).2 3 ((rg1 i).1 3) = 1 ∧ 0 < (rg1 i).1 3 - (rg1 i).1 4)) (i + 1) = zp_cnt (fun i => decide ((rg1 i).1 2 = 0 ∧ (rg1 i).2 3 ((rg1 i).1 3) = 1 ∧ 0 < (rg1 i).1 3 - (rg1 i).1 4)) i := zp_cnt_n (fun h => by have h2 := of_decide_eq_true h; omega)
                  exact ihC (i + 1, E6) _ _ _ ⟨by omega, hM, hF, hH, by rw [hc]; exact lv_sub hl [0, 1, 2, 3] rfl⟩ (by show q 0 - (i + 1) < q 0 - i; omega)
                · exact absurd z (by decide)
          · have c22 := mt (zn_eq (nI_toInt (by omega)) zn_0).mpr c22
            refine lv_goto (tgt := 144) X.1 X.2.1 d_M_shutdown_109 (by decide) ?_
            refine lv_iinc (v := nI (i + 1 + 1)) (lv' := [(4, .int (nI (i + 1 + 1))), (3, .int (nI (zp_cnt (fun i => decide ((rg1 i).1 2 = 0 ∧ (rg1 i).2 3 ((rg1 i).1 3) = 1 ∧ 0 < (rg1 i).1 3 - (rg1 i).1 4)) i))), (0, .ref (ad (8))), (1, .int (nI (0)))]) X.1 X.2.1 d_M_shutdown_144 hl (k := 0) rfl (nI_add _ _) (by decide) rfl (fun ls hl => ?_)
            refine lv_goto (tgt := 90) X.1 X.2.1 d_M_shutdown_147 (by decide) ?_
            have hz : zm_fin (rg1 i) = (rg1 i) := if_neg (by omega)
            rw [show va_up (zp_map zm_fin rg1 i) i (rg1 i) = zp_map zm_fin rg1 (i + 1) by rw [zp_map_s, hz]] at hM
            have hc : zp_cnt (fun i => decide ((rg1 i).1 2 = 0 ∧ (rg1 i).2 3 ((rg1 i).1 3) = 1 ∧ 0 < (rg1 i).1 3 - (rg1 i).1 4)) (i + 1) = zp_cnt (fun i => decide ((rg1 i).1 2 = 0 ∧ (rg1 i).2 3 ((rg1 i).1 3) = 1 ∧ 0 < (rg1 i).1 3 - (rg1 i).1 4)) i := zp_cnt_n (fun h => by have h2 := of_decide_eq_true h; omega)
            exact ihC (i + 1, E7) _ _ _ ⟨by omega, hM, hF, hH, by rw [hc]; exact lv_sub hl [0, 1, 2, 3] rfl⟩ (by show q 0 - (i + 1) < q 0 - i; omega)
      · have hmz : ¬ mv = 0 := by have c1 := mt (zn_eq (nI_toInt (by omega)) zn_0).mpr c1; omega
        rw [if_neg hmz] at hT9
        refine lv_iconst (v := nI 0) X.1 X.2.1 d_M_shutdown_34 (by decide) ?_
        refine lv_istore_n (lv' := [(2, .int (nI 0)), (0, .ref (ad 8)), (1, .int (nI 0))]) X.1 X.2.1 d_M_shutdown_35 rfl hl (by decide) rfl (fun ls hl => ?_)
        refine lv_iconst (v := nI 1) X.1 X.2.1 d_M_shutdown_36 (by decide) ?_
        refine lv_istore_n (lv' := [(3, .int (nI 1)), (2, .int (nI 0)), (0, .ref (ad 8)), (1, .int (nI 0))]) X.1 X.2.1 d_M_shutdown_37 rfl hl (by decide) rfl (fun ls hl => ?_)
        obtain ⟨R9, hR9⟩ : ∃ R, zp_rnd (q 0) 0 (q1, rg1, ev1, lf1) 0 = R := ⟨_, rfl⟩
        have hmr := zp_mu_rnd (sf := sf) (q 0) (q 0) 0 (q1, rg1, ev1, lf1) 0 (by omega) (by dsimp only; omega) hok1
        rw [hR9] at hmr
        dsimp only at hmr
        have hrs : (zp_rnds (q 0) 3031 ((va_up q 3 0), rg, ev, lf)) = if R9.2 = 0 then R9.1 else zp_rnds (q 0) (f - 1) R9.1 := by rw [hT9, show f = (f - 1) + 1 by omega, zp_rnds, hR9]; rfl
        have hmu0 := hmu
        refine zx_loop (σ := Nat × zp_T × Nat × (Nat → va_E) × (Nat → Nat)) (fun x H locs ls => x.1 ≤ q 0 ∧ x.2.1.1 0 = q 0 ∧ zm_at g ad x.2.2.2.1 x.2.1.1 x.2.1.2.1 x.2.1.2.2.1 fs x.2.2.2.2 ∧ zt_ok x.2.1.1 x.2.1.2.1 x.2.1.2.2.1 sf ∧ zs_inv x.2.1.1 x.2.1.2.1 ∧ (∀ j, j < x.2.1.1 5 → x.2.2.2.2 j = x.2.1.2.2.2 j) ∧ zm_fr E x.2.2.2.1 ∧ x.2.2.1 ≤ 1 ∧ R9 = zp_rnd (q 0 - x.1) x.1 x.2.1 x.2.2.1 ∧ zw_H g A s.heap s N ad x.2.2.2.1 H locs ∧ lv_has ls 5 [(3, .int (nI (x.1 + 1))), (2, .int (nI x.2.2.1)), (0, .ref (ad 8)), (1, .int (nI 0))]) (fun x => q 0 - x.1) (fun _ => 0) (fun _ => 0) ?_ (0, (q1, rg1, ev1, lf1), 0, E1, fl1) _ _ _ ⟨Nat.zero_le _, hq0, hM, hok1, hv1, hfl1, hF, Nat.zero_le _, hR9.symm, hH, hl⟩
        clear hM hok1 hv1 hfl1 hF hH hl hq0 hT9 hR9
        obtain ⟨m0, hm0⟩ : ∃ x, x = zp_mu rg1 (q 0) := ⟨_, rfl⟩
        rw [← hm0] at hmr hmu0 ihA
        clear hmu hm0
        rintro ⟨i, ⟨q1, rg1, ev1, lf1⟩, mb, E1, fl1⟩ H locs ls ⟨hi, hq0, hM, hok1, hv1, hfl1, hF, hmb, hT9, hH, hl⟩ ihB
        dsimp only at hi hq0 hM hok1 hv1 hfl1 hF hmb hT9 hH hl ihB ⊢
        refine lv_iload_n X.1 X.2.1 d_M_shutdown_38 rfl (lv_at hl 0 rfl) ?_
        refine lv_aload_n X.1 X.2.1 d_M_shutdown_39 rfl (lv_at hl 2 rfl) ?_
        refine zx_get (v := .int (nI (q1 0))) X hH fg_M_63 (by omega) hM.1 rfl d_M_shutdown_40 ?_
        refine lv_icmp_gt (tgt := 82) X.1 X.2.1 d_M_shutdown_43 (by decide) (fun c41 => ?_) (fun c41 => ?_)
        · have c41 := (zn_lt (nI_toInt (by omega)) (nI_toInt (by omega))).mp c41
          refine lv_goto (tgt := 30) X.1 X.2.1 d_M_shutdown_82 (by decide) ?_
          have hR : R9 = ((q1, rg1, ev1, lf1), mb) := by rw [hT9, show q 0 - i = 0 by omega]; rfl
          rw [hR] at hmr hrs
          dsimp only at hmr hrs
          by_cases db : mb = 0
          · exact ihA ((q1, rg1, ev1, lf1), mb, zp_mu rg1 (q 0) + 1, E1, fl1) _ _ _ ⟨hq0, hM, hok1, hv1, hfl1, hF, hmb, Nat.lt_succ_self _, (by rw [if_pos db] at hrs; rw [if_pos db]; exact hrs), hH, lv_sub hl [1, 2, 3] rfl⟩ (by show (if mb = 0 then 0 else _) < (if mv = 0 then 0 else _); rw [if_pos db, if_neg hmz]; exact Nat.succ_pos _)
          · have hlt := hmr.2 rfl db
            exact ihA ((q1, rg1, ev1, lf1), mb, f - 1, E1, fl1) _ _ _ ⟨hq0, hM, hok1, hv1, hfl1, hF, hmb, (by show zp_mu rg1 (q 0) < f - 1; omega), hrs, hH, lv_sub hl [1, 2, 3] rfl⟩ (by show (if mb = 0 then 0 else zp_mu rg1 (q 0) + 1) < (if mv = 0 then 0 else m0 + 1); rw [if_neg db, if_neg hmz]; omega)
        · have c41 := mt (zn_lt (nI_toInt (by omega)) (nI_toInt (by omega))).mpr c41
          refine lv_aload_n X.1 X.2.1 d_M_shutdown_46 rfl (lv_at hl 2 rfl) ?_
          refine lv_iload_n X.1 X.2.1 d_M_shutdown_47 rfl (lv_at hl 0 rfl) ?_
          have kq0 := hok1.1.1
          have kq5 := hok1.1.2.2.2.2.2.2.1
          obtain ⟨G, hG⟩ : ∃ G, zp_give (q1, rg1, ev1, lf1) (i) = G := ⟨_, rfl⟩
          obtain ⟨g0, g1, g2, g3, g4, g6⟩ := zp_give_fix (q1, rg1, ev1, lf1) (i)
          have gl := zp_give_le (q1, rg1, ev1, lf1) (i)
          have gi : i < q1 0 := by omega
          have gok := zt_ok.give (lf := lf1) hok1 gi
          have gv := zs_inv.give (lf := lf1) hok1 hv1 gi
          rw [hG] at g0 g1 g2 g3 g4 g6 gl gok gv
          dsimp only at g0 g1 g2 g3 g4 g6
          have hro := hok1.2.1 (i) gi
          obtain ⟨u0, u5, u3⟩ := hv1.1 (i) gi
          have kq := hok1.1
          refine zx_calli (zx_runV (As := [.int (nI (i + 1))]) (rest := []) X hH mv_M_94 ((c_M_goes g l N ad E1 q1 rg1 ev1 fs fl1 (i) (rg1 (i)) hN (by omega) hro (hM.rg (zr_id rg1 (i))) hok1.2.2.1 u3 u5 (by omega)) _) (by omega) hM.1 rfl ⟨Nat.le_of_ble_eq_true rfl, Nat.le_of_ble_eq_true rfl⟩ rfl hl rfl (Nat.le_of_ble_eq_true rfl) d_M_shutdown_48 ⟨Nat.le_of_ble_eq_true rfl, Nat.le_of_ble_eq_true rfl⟩) hH (fun r N2 ad2 E9 H locs hq hH => ?_)
          obtain ⟨rfl, rfl, rfl, hM, hF2⟩ := hq
          obtain ⟨gt, fl2, hM, hfl2⟩ := zm_give (lf := lf1) hok1 hv1 gi hfl1 hM
          rw [hG] at gt hM hfl2
          refine zx_top (b := nI G.1) (by rw [gt]) ?_
          have hF := hF.tr hF2
          have hz : R9 = zp_rnd (q 0 - (i + 1)) (i + 1) G.2 (if G.1 = 0 then mb else 1) := by rw [hT9, show q 0 - i = (q 0 - (i + 1)) + 1 by omega, zp_rnd, hG]
          refine lv_if_le (tgt := 58) X.1 X.2.1 d_M_shutdown_51 (by decide) (fun c42 => ?_) (fun c42 => ?_)
          · have c42 := (zn_le (nI_toInt (by omega)) zn_0).mp c42
            refine lv_iconst (v := nI 0) X.1 X.2.1 d_M_shutdown_58 (by decide) ?_
            refine lv_istore (lv' := [(4, .int (nI (0))), (3, .int (nI (i + 1))), (2, .int (nI (mb))), (0, .ref (ad (8))), (1, .int (nI (0)))]) X.1 X.2.1 d_M_shutdown_59 hl (by decide) rfl (fun ls hl => ?_)
            refine lv_iload_n X.1 X.2.1 d_M_shutdown_61 rfl (lv_at hl 2 rfl) ?_
            refine lv_if_ne (tgt := 70) X.1 X.2.1 d_M_shutdown_62 (by decide) (fun c43 => ?_) (fun c43 => ?_)
            · have c43 := mt (zn_eq (nI_toInt (by omega)) zn_0).mpr c43
              refine lv_iconst (v := nI 1) X.1 X.2.1 d_M_shutdown_70 (by decide) ?_
              refine lv_goto (tgt := 75) X.1 X.2.1 d_M_shutdown_71 (by decide) ?_
              refine lv_istore_n (lv' := [(2, .int (nI (1))), (4, .int (nI (0))), (3, .int (nI (i + 1))), (0, .ref (ad (8))), (1, .int (nI (0)))]) X.1 X.2.1 d_M_shutdown_75 rfl hl (by decide) rfl (fun ls hl => ?_)
              refine lv_iinc (v := nI (i + 1 + 1)) (lv' := [(3, .int (nI (i + 1 + 1))), (2, .int (nI (1))), (4, .int (nI (0))), (0, .ref (ad (8))), (1, .int (nI (0)))]) X.1 X.2.1 d_M_shutdown_76 hl (k := 2) rfl (nI_add _ _) (by decide) rfl (fun ls hl => ?_)
              refine lv_goto (tgt := 38) X.1 X.2.1 d_M_shutdown_79 (by decide) ?_
              have hb2 : (if G.1 = 0 then mb else 1) = 1 := by split <;> omega
              rw [hb2] at hz
              exact ihB (i + 1, G.2, 1, E9, fl2) _ _ _ ⟨by omega, by show G.2.1 0 = q 0; omega, hM, gok, gv, hfl2, hF, by show 1 ≤ 1; omega, hz, hH, lv_sub hl [0, 1, 3, 4] rfl⟩ (by show q 0 - (i + 1) < q 0 - i; omega)
            · have c43 := (zn_eq (nI_toInt (by omega)) zn_0).mp c43
              refine lv_iload X.1 X.2.1 d_M_shutdown_65 (lv_at hl 0 rfl) ?_
              refine lv_if_eq (tgt := 74) X.1 X.2.1 d_M_shutdown_67 (by decide) (fun c44 => ?_) (fun c44 => ?_)
              · have c44 := (zn_eq (nI_toInt (by omega)) zn_0).mp c44
                refine lv_iconst (v := nI 0) X.1 X.2.1 d_M_shutdown_74 (by decide) ?_
                refine lv_istore_n (lv' := [(2, .int (nI (0))), (4, .int (nI (0))), (3, .int (nI (i + 1))), (0, .ref (ad (8))), (1, .int (nI (0)))]) X.1 X.2.1 d_M_shutdown_75 rfl hl (by decide) rfl (fun ls hl => ?_)
                refine lv_iinc (v := nI (i + 1 + 1)) (lv' := [(3, .int (nI (i + 1 + 1))), (2, .int (nI (0))), (4, .int (nI (0))), (0, .ref (ad (8))), (1, .int (nI (0)))]) X.1 X.2.1 d_M_shutdown_76 hl (k := 2) rfl (nI_add _ _) (by decide) rfl (fun ls hl => ?_)
                refine lv_goto (tgt := 38) X.1 X.2.1 d_M_shutdown_79 (by decide) ?_
                have hb2 : (if G.1 = 0 then mb else 1) = 0 := by split <;> omega
                rw [hb2] at hz
                exact ihB (i + 1, G.2, 0, E9, fl2) _ _ _ ⟨by omega, by show G.2.1 0 = q 0; omega, hM, gok, gv, hfl2, hF, by show 0 ≤ 1; omega, hz, hH, lv_sub hl [0, 1, 3, 4] rfl⟩ (by show q 0 - (i + 1) < q 0 - i; omega)
              · have c44 := mt (zn_eq (nI_toInt (by omega)) zn_0).mpr c44
                refine lv_iconst (v := nI 1) X.1 X.2.1 d_M_shutdown_70 (by decide) ?_
                refine lv_goto (tgt := 75) X.1 X.2.1 d_M_shutdown_71 (by decide) ?_
                refine lv_istore_n (lv' := [(2, .int (nI (1))), (4, .int (nI (0))), (3, .int (nI (i + 1))), (0, .ref (ad (8))), (1, .int (nI (0)))]) X.1 X.2.1 d_M_shutdown_75 rfl hl (by decide) rfl (fun ls hl => ?_)
                refine lv_iinc (v := nI (i + 1 + 1)) (lv' := [(3, .int (nI (i + 1 + 1))), (2, .int (nI (1))), (4, .int (nI (0))), (0, .ref (ad (8))), (1, .int (nI (0)))]) X.1 X.2.1 d_M_shutdown_76 hl (k := 2) rfl (nI_add _ _) (by decide) rfl (fun ls hl => ?_)
                refine lv_goto (tgt := 38) X.1 X.2.1 d_M_shutdown_79 (by decide) ?_
                have hb2 : (if G.1 = 0 then mb else 1) = 1 := by split <;> omega
                rw [hb2] at hz
                exact ihB (i + 1, G.2, 1, E9, fl2) _ _ _ ⟨by omega, by show G.2.1 0 = q 0; omega, hM, gok, gv, hfl2, hF, by show 1 ≤ 1; omega, hz, hH, lv_sub hl [0, 1, 3, 4] rfl⟩ (by show q 0 - (i + 1) < q 0 - i; omega)
          · have c42 := mt (zn_le (nI_toInt (by omega)) zn_0).mpr c42
            refine lv_iconst (v := nI 1) X.1 X.2.1 d_M_shutdown_54 (by decide) ?_
            refine lv_goto (tgt := 59) X.1 X.2.1 d_M_shutdown_55 (by decide) ?_
            refine lv_istore (lv' := [(4, .int (nI (1))), (3, .int (nI (i + 1))), (2, .int (nI (mb))), (0, .ref (ad (8))), (1, .int (nI (0)))]) X.1 X.2.1 d_M_shutdown_59 hl (by decide) rfl (fun ls hl => ?_)
            refine lv_iload_n X.1 X.2.1 d_M_shutdown_61 rfl (lv_at hl 2 rfl) ?_
            refine lv_if_ne (tgt := 70) X.1 X.2.1 d_M_shutdown_62 (by decide) (fun c45 => ?_) (fun c45 => ?_)
            · have c45 := mt (zn_eq (nI_toInt (by omega)) zn_0).mpr c45
              refine lv_iconst (v := nI 1) X.1 X.2.1 d_M_shutdown_70 (by decide) ?_
              refine lv_goto (tgt := 75) X.1 X.2.1 d_M_shutdown_71 (by decide) ?_
              refine lv_istore_n (lv' := [(2, .int (nI (1))), (4, .int (nI (1))), (3, .int (nI (i + 1))), (0, .ref (ad (8))), (1, .int (nI (0)))]) X.1 X.2.1 d_M_shutdown_75 rfl hl (by decide) rfl (fun ls hl => ?_)
              refine lv_iinc (v := nI (i + 1 + 1)) (lv' := [(3, .int (nI (i + 1 + 1))), (2, .int (nI (1))), (4, .int (nI (1))), (0, .ref (ad (8))), (1, .int (nI (0)))]) X.1 X.2.1 d_M_shutdown_76 hl (k := 2) rfl (nI_add _ _) (by decide) rfl (fun ls hl => ?_)
              refine lv_goto (tgt := 38) X.1 X.2.1 d_M_shutdown_79 (by decide) ?_
              have hb2 : (if G.1 = 0 then mb else 1) = 1 := by split <;> omega
              rw [hb2] at hz
              exact ihB (i + 1, G.2, 1, E9, fl2) _ _ _ ⟨by omega, by show G.2.1 0 = q 0; omega, hM, gok, gv, hfl2, hF, by show 1 ≤ 1; omega, hz, hH, lv_sub hl [0, 1, 3, 4] rfl⟩ (by show q 0 - (i + 1) < q 0 - i; omega)
            · have c45 := (zn_eq (nI_toInt (by omega)) zn_0).mp c45
              refine lv_iload X.1 X.2.1 d_M_shutdown_65 (lv_at hl 0 rfl) ?_
              refine lv_if_eq (tgt := 74) X.1 X.2.1 d_M_shutdown_67 (by decide) (fun c46 => ?_) (fun c46 => ?_)
              · have c46 := (zn_eq (nI_toInt (by omega)) zn_0).mp c46
                refine lv_iconst (v := nI 0) X.1 X.2.1 d_M_shutdown_74 (by decide) ?_
                refine lv_istore_n (lv' := [(2, .int (nI (0))), (4, .int (nI (1))), (3, .int (nI (i + 1))), (0, .ref (ad (8))), (1, .int (nI (0)))]) X.1 X.2.1 d_M_shutdown_75 rfl hl (by decide) rfl (fun ls hl => ?_)
                refine lv_iinc (v := nI (i + 1 + 1)) (lv' := [(3, .int (nI (i + 1 + 1))), (2, .int (nI (0))), (4, .int (nI (1))), (0, .ref (ad (8))), (1, .int (nI (0)))]) X.1 X.2.1 d_M_shutdown_76 hl (k := 2) rfl (nI_add _ _) (by decide) rfl (fun ls hl => ?_)
                refine lv_goto (tgt := 38) X.1 X.2.1 d_M_shutdown_79 (by decide) ?_
                have hb2 : (if G.1 = 0 then mb else 1) = 0 := by split <;> omega
                rw [hb2] at hz
                exact ihB (i + 1, G.2, 0, E9, fl2) _ _ _ ⟨by omega, by show G.2.1 0 = q 0; omega, hM, gok, gv, hfl2, hF, by show 0 ≤ 1; omega, hz, hH, lv_sub hl [0, 1, 3, 4] rfl⟩ (by show q 0 - (i + 1) < q 0 - i; omega)
              · have c46 := mt (zn_eq (nI_toInt (by omega)) zn_0).mpr c46
                refine lv_iconst (v := nI 1) X.1 X.2.1 d_M_shutdown_70 (by decide) ?_
                refine lv_goto (tgt := 75) X.1 X.2.1 d_M_shutdown_71 (by decide) ?_
                refine lv_istore_n (lv' := [(2, .int (nI (1))), (4, .int (nI (1))), (3, .int (nI (i + 1))), (0, .ref (ad (8))), (1, .int (nI (0)))]) X.1 X.2.1 d_M_shutdown_75 rfl hl (by decide) rfl (fun ls hl => ?_)
                refine lv_iinc (v := nI (i + 1 + 1)) (lv' := [(3, .int (nI (i + 1 + 1))), (2, .int (nI (1))), (4, .int (nI (1))), (0, .ref (ad (8))), (1, .int (nI (0)))]) X.1 X.2.1 d_M_shutdown_76 hl (k := 2) rfl (nI_add _ _) (by decide) rfl (fun ls hl => ?_)
                refine lv_goto (tgt := 38) X.1 X.2.1 d_M_shutdown_79 (by decide) ?_
                have hb2 : (if G.1 = 0 then mb else 1) = 1 := by split <;> omega
                rw [hb2] at hz
                exact ihB (i + 1, G.2, 1, E9, fl2) _ _ _ ⟨by omega, by show G.2.1 0 = q 0; omega, hM, gok, gv, hfl2, hF, by show 1 ≤ 1; omega, hz, hH, lv_sub hl [0, 1, 3, 4] rfl⟩ (by show q 0 - (i + 1) < q 0 - i; omega)
  · have c2 := mt (zn_eq (nI_toInt (by omega)) zn_0).mpr c2
    refine lv_bipush (v := (-5)) X.1 X.2.1 d_M_shutdown_12 (by decide) ?_
    exfalso; omega
end
section
theorem zm_c_0 (j : Nat) : zm_c (fun _ => (fun _ => 0, fun _ _ => 0)) j = fun _ => 0 := by funext k; unfold zm_c; split <;> rfl
theorem zm_w_0 (a : Nat) : zm_w (fun _ => (fun _ => 0, fun _ _ => 0)) a = fun _ => 0 := rfl
theorem zm_d_0 : zm_d (fun _ => (fun _ => 0, fun _ _ => 0)) = fun _ => 0 := by funext k; unfold zm_d; split <;> rfl
set_option maxHeartbeats 4000000 in
set_option maxRecDepth 100000 in
theorem c_M_init (g : zw_G) (l : Launch) (ad : Nat → Nat) (E : Nat → va_E) (c_8 : E 8 = .inr (4, [.int (nI 0), .int (nI 0), .int (nI 0), .int (nI 0), .int (nI 0), .int (nI 0), .null, .null, .null, .null, .null, .null, .null, .null, .null, .null, .null, .null, .null, .null, .null, .null])) : zc_v g l y_M_init b_M_init 1 { frames := 1, cells := 16, slots := 8986, locals := 40 } [.ref (ad 8)] 9 ad E (fun N1 ad1 E1 => 25 = N1 ∧ (∀ k, k < 9 → ad1 k = ad k) ∧ zm_at g ad1 E1 zp_q0 (fun _ => (fun _ => 0, fun _ _ => 0)) (fun _ => 0) (fun _ => 0) (fun _ => 0) ∧ ∀ k, k < 8 → E1 k = E k) := by
  refine zc_v.of (by decide) (Nat.le_of_ble_eq_true rfl) ?_
  intro p e s m below meth c ls A X hr hlk hnm hl hH
  have hl : lv_has ls 1 [(0, .ref (ad 8))] := hl
  refine lv_aload_n X.1 X.2.1 d_M_init_0 rfl (lv_at hl 0 rfl) ?_
  refine zx_obj X hl zj_M (Nat.le_of_ble_eq_true rfl) (Nat.le_of_ble_eq_true rfl) d_M_init_1 ?_
  refine lv_aload_n X.1 X.2.1 d_M_init_4 rfl (lv_at hl 0 rfl) ?_
  refine lv_bipush (v := nI 31) X.1 X.2.1 d_M_init_5 (by decide) ?_
  refine zx_newi (j := 31) X hH zw_arrI rfl (by decide) (by dsimp only; omega) (by dsimp only; omega) d_M_init_7 (fun q0 H hH => ?_)
  have hH : zw_H g A s.heap s (9 + 1) (va_up ad (9) q0) (va_up E (9) (zr_ia g 31 (fun _ => 0))) H _ := hH
  obtain ⟨ad1, had1⟩ : ∃ x, x = va_up ad (9) q0 := ⟨_, rfl⟩
  obtain ⟨E1, hE1⟩ : ∃ x, x = va_up E (9) (zr_ia g 31 (fun _ => 0)) := ⟨_, rfl⟩
  rw [← had1, ← hE1] at hH
  have a_1 : ∀ k, k < 9 → ad1 k = ad k := fun k hk => by rw [had1]; exact va_up_ne _ _ (by omega)
  have e_1 : ∀ k, k ≠ 9 → E1 k = E k := fun k hk => by rw [hE1]; exact va_up_ne _ _ hk
  have n_1 : E1 (9) = (zr_ia g 31 (fun _ => 0)) := by rw [hE1]; exact va_up_self _ _ _
  refine W.eq (g2 := F0 m 9 ls [.ref (ad1 (9)), .ref (ad1 (8))]) (by rw [had1, va_up_ne _ _ (show 8 ≠ 9 by omega)]) ?_
  rw [← a_1 (8) (by omega)] at hl
  have c_8 := (e_1 (8) (by omega)).trans c_8
  have c_9 := n_1
  refine zx_putF X hH fp_M_7 hnm rfl (by omega) c_8 (Nat.le_of_ble_eq_true rfl) rfl rfl d_M_init_9 (fun H locs hH => ?_)
  have hH : zw_H g A s.heap s (10) ad1 (va_up E1 (8) (.inr (4, [.int (nI 0), .int (nI 0), .int (nI 0), .int (nI 0), .int (nI 0), .int (nI 0), .ref (ad1 9), .null, .null, .null, .null, .null, .null, .null, .null, .null, .null, .null, .null, .null, .null, .null]))) H locs := hH
  obtain ⟨E2, hE2⟩ : ∃ x, x = va_up E1 (8) (.inr (4, [.int (nI 0), .int (nI 0), .int (nI 0), .int (nI 0), .int (nI 0), .int (nI 0), .ref (ad1 9), .null, .null, .null, .null, .null, .null, .null, .null, .null, .null, .null, .null, .null, .null, .null])) := ⟨_, rfl⟩
  rw [← hE2] at hH
  have e_2 : ∀ k, k ≠ 8 → E2 k = E1 k := fun k hk => by rw [hE2]; exact va_up_ne _ _ hk
  have c_8 : E2 (8) = (.inr (4, [.int (nI 0), .int (nI 0), .int (nI 0), .int (nI 0), .int (nI 0), .int (nI 0), .ref (ad1 9), .null, .null, .null, .null, .null, .null, .null, .null, .null, .null, .null, .null, .null, .null, .null])) := by rw [hE2]; exact va_up_self _ _ _
  have c_9 := (e_2 (9) (by omega)).trans c_9
  refine lv_aload_n X.1 X.2.1 d_M_init_12 rfl (lv_at hl 0 rfl) ?_
  refine lv_bipush (v := nI 31) X.1 X.2.1 d_M_init_13 (by decide) ?_
  refine zx_newi (j := 31) X hH zw_arrI rfl (by decide) (by dsimp only; omega) (by dsimp only; omega) d_M_init_15 (fun q0 H hH => ?_)
  have hH : zw_H g A s.heap s (10 + 1) (va_up ad1 (10) q0) (va_up E2 (10) (zr_ia g 31 (fun _ => 0))) H _ := hH
  obtain ⟨ad3, had3⟩ : ∃ x, x = va_up ad1 (10) q0 := ⟨_, rfl⟩
  obtain ⟨E3, hE3⟩ : ∃ x, x = va_up E2 (10) (zr_ia g 31 (fun _ => 0)) := ⟨_, rfl⟩
  rw [← had3, ← hE3] at hH
  have a_3 : ∀ k, k < 10 → ad3 k = ad1 k := fun k hk => by rw [had3]; exact va_up_ne _ _ (by omega)
  have e_3 : ∀ k, k ≠ 10 → E3 k = E2 k := fun k hk => by rw [hE3]; exact va_up_ne _ _ hk
  have n_3 : E3 (10) = (zr_ia g 31 (fun _ => 0)) := by rw [hE3]; exact va_up_self _ _ _
  refine W.eq (g2 := F0 m 17 ls [.ref (ad3 (10)), .ref (ad3 (8))]) (by rw [had3, va_up_ne _ _ (show 8 ≠ 10 by omega)]) ?_
  rw [← a_3 (8) (by omega)] at hl
  have c_8 := (e_3 (8) (by omega)).trans c_8
  have c_9 := (e_3 (9) (by omega)).trans c_9
  have c_10 := n_3
  have c_8 : E3 8 = (.inr (4, [.int (nI 0), .int (nI 0), .int (nI 0), .int (nI 0), .int (nI 0), .int (nI 0), .ref (ad3 9), .null, .null, .null, .null, .null, .null, .null, .null, .null, .null, .null, .null, .null, .null, .null])) := by rw [a_3 9 (by omega)]; exact c_8
  refine zx_putF X hH fp_M_13 hnm rfl (by omega) c_8 (Nat.le_of_ble_eq_true rfl) rfl rfl d_M_init_17 (fun H locs hH => ?_)
  have hH : zw_H g A s.heap s (11) ad3 (va_up E3 (8) (.inr (4, [.int (nI 0), .int (nI 0), .int (nI 0), .int (nI 0), .int (nI 0), .int (nI 0), .ref (ad3 9), .ref (ad3 10), .null, .null, .null, .null, .null, .null, .null, .null, .null, .null, .null, .null, .null, .null]))) H locs := hH
  obtain ⟨E4, hE4⟩ : ∃ x, x = va_up E3 (8) (.inr (4, [.int (nI 0), .int (nI 0), .int (nI 0), .int (nI 0), .int (nI 0), .int (nI 0), .ref (ad3 9), .ref (ad3 10), .null, .null, .null, .null, .null, .null, .null, .null, .null, .null, .null, .null, .null, .null])) := ⟨_, rfl⟩
  rw [← hE4] at hH
  have e_4 : ∀ k, k ≠ 8 → E4 k = E3 k := fun k hk => by rw [hE4]; exact va_up_ne _ _ hk
  have c_8 : E4 (8) = (.inr (4, [.int (nI 0), .int (nI 0), .int (nI 0), .int (nI 0), .int (nI 0), .int (nI 0), .ref (ad3 9), .ref (ad3 10), .null, .null, .null, .null, .null, .null, .null, .null, .null, .null, .null, .null, .null, .null])) := by rw [hE4]; exact va_up_self _ _ _
  have c_9 := (e_4 (9) (by omega)).trans c_9
  have c_10 := (e_4 (10) (by omega)).trans c_10
  refine lv_aload_n X.1 X.2.1 d_M_init_20 rfl (lv_at hl 0 rfl) ?_
  refine lv_bipush (v := nI 31) X.1 X.2.1 d_M_init_21 (by decide) ?_
  refine zx_newi (j := 31) X hH zw_arrI rfl (by decide) (by dsimp only; omega) (by dsimp only; omega) d_M_init_23 (fun q0 H hH => ?_)
  have hH : zw_H g A s.heap s (11 + 1) (va_up ad3 (11) q0) (va_up E4 (11) (zr_ia g 31 (fun _ => 0))) H _ := hH
  obtain ⟨ad5, had5⟩ : ∃ x, x = va_up ad3 (11) q0 := ⟨_, rfl⟩
  obtain ⟨E5, hE5⟩ : ∃ x, x = va_up E4 (11) (zr_ia g 31 (fun _ => 0)) := ⟨_, rfl⟩
  rw [← had5, ← hE5] at hH
  have a_5 : ∀ k, k < 11 → ad5 k = ad3 k := fun k hk => by rw [had5]; exact va_up_ne _ _ (by omega)
  have e_5 : ∀ k, k ≠ 11 → E5 k = E4 k := fun k hk => by rw [hE5]; exact va_up_ne _ _ hk
  have n_5 : E5 (11) = (zr_ia g 31 (fun _ => 0)) := by rw [hE5]; exact va_up_self _ _ _
  refine W.eq (g2 := F0 m 25 ls [.ref (ad5 (11)), .ref (ad5 (8))]) (by rw [had5, va_up_ne _ _ (show 8 ≠ 11 by omega)]) ?_
  rw [← a_5 (8) (by omega)] at hl
  have c_8 := (e_5 (8) (by omega)).trans c_8
  have c_9 := (e_5 (9) (by omega)).trans c_9
  have c_10 := (e_5 (10) (by omega)).trans c_10
  have c_11 := n_5
  have c_8 : E5 8 = (.inr (4, [.int (nI 0), .int (nI 0), .int (nI 0), .int (nI 0), .int (nI 0), .int (nI 0), .ref (ad5 9), .ref (ad5 10), .null, .null, .null, .null, .null, .null, .null, .null, .null, .null, .null, .null, .null, .null])) := by rw [a_5 9 (by omega), a_5 10 (by omega)]; exact c_8
  refine zx_putF X hH fp_M_16 hnm rfl (by omega) c_8 (Nat.le_of_ble_eq_true rfl) rfl rfl d_M_init_25 (fun H locs hH => ?_)
  have hH : zw_H g A s.heap s (12) ad5 (va_up E5 (8) (.inr (4, [.int (nI 0), .int (nI 0), .int (nI 0), .int (nI 0), .int (nI 0), .int (nI 0), .ref (ad5 9), .ref (ad5 10), .ref (ad5 11), .null, .null, .null, .null, .null, .null, .null, .null, .null, .null, .null, .null, .null]))) H locs := hH
  obtain ⟨E6, hE6⟩ : ∃ x, x = va_up E5 (8) (.inr (4, [.int (nI 0), .int (nI 0), .int (nI 0), .int (nI 0), .int (nI 0), .int (nI 0), .ref (ad5 9), .ref (ad5 10), .ref (ad5 11), .null, .null, .null, .null, .null, .null, .null, .null, .null, .null, .null, .null, .null])) := ⟨_, rfl⟩
  rw [← hE6] at hH
  have e_6 : ∀ k, k ≠ 8 → E6 k = E5 k := fun k hk => by rw [hE6]; exact va_up_ne _ _ hk
  have c_8 : E6 (8) = (.inr (4, [.int (nI 0), .int (nI 0), .int (nI 0), .int (nI 0), .int (nI 0), .int (nI 0), .ref (ad5 9), .ref (ad5 10), .ref (ad5 11), .null, .null, .null, .null, .null, .null, .null, .null, .null, .null, .null, .null, .null])) := by rw [hE6]; exact va_up_self _ _ _
  have c_9 := (e_6 (9) (by omega)).trans c_9
  have c_10 := (e_6 (10) (by omega)).trans c_10
  have c_11 := (e_6 (11) (by omega)).trans c_11
  refine lv_aload_n X.1 X.2.1 d_M_init_28 rfl (lv_at hl 0 rfl) ?_
  refine lv_bipush (v := nI 31) X.1 X.2.1 d_M_init_29 (by decide) ?_
  refine zx_newi (j := 31) X hH zw_arrI rfl (by decide) (by dsimp only; omega) (by dsimp only; omega) d_M_init_31 (fun q0 H hH => ?_)
  have hH : zw_H g A s.heap s (12 + 1) (va_up ad5 (12) q0) (va_up E6 (12) (zr_ia g 31 (fun _ => 0))) H _ := hH
  obtain ⟨ad7, had7⟩ : ∃ x, x = va_up ad5 (12) q0 := ⟨_, rfl⟩
  obtain ⟨E7, hE7⟩ : ∃ x, x = va_up E6 (12) (zr_ia g 31 (fun _ => 0)) := ⟨_, rfl⟩
  rw [← had7, ← hE7] at hH
  have a_7 : ∀ k, k < 12 → ad7 k = ad5 k := fun k hk => by rw [had7]; exact va_up_ne _ _ (by omega)
  have e_7 : ∀ k, k ≠ 12 → E7 k = E6 k := fun k hk => by rw [hE7]; exact va_up_ne _ _ hk
  have n_7 : E7 (12) = (zr_ia g 31 (fun _ => 0)) := by rw [hE7]; exact va_up_self _ _ _
  refine W.eq (g2 := F0 m 33 ls [.ref (ad7 (12)), .ref (ad7 (8))]) (by rw [had7, va_up_ne _ _ (show 8 ≠ 12 by omega)]) ?_
  rw [← a_7 (8) (by omega)] at hl
  have c_8 := (e_7 (8) (by omega)).trans c_8
  have c_9 := (e_7 (9) (by omega)).trans c_9
  have c_10 := (e_7 (10) (by omega)).trans c_10
  have c_11 := (e_7 (11) (by omega)).trans c_11
  have c_12 := n_7
  have c_8 : E7 8 = (.inr (4, [.int (nI 0), .int (nI 0), .int (nI 0), .int (nI 0), .int (nI 0), .int (nI 0), .ref (ad7 9), .ref (ad7 10), .ref (ad7 11), .null, .null, .null, .null, .null, .null, .null, .null, .null, .null, .null, .null, .null])) := by rw [a_7 9 (by omega), a_7 10 (by omega), a_7 11 (by omega)]; exact c_8
  refine zx_putF X hH fp_M_19 hnm rfl (by omega) c_8 (Nat.le_of_ble_eq_true rfl) rfl rfl d_M_init_33 (fun H locs hH => ?_)
  have hH : zw_H g A s.heap s (13) ad7 (va_up E7 (8) (.inr (4, [.int (nI 0), .int (nI 0), .int (nI 0), .int (nI 0), .int (nI 0), .int (nI 0), .ref (ad7 9), .ref (ad7 10), .ref (ad7 11), .ref (ad7 12), .null, .null, .null, .null, .null, .null, .null, .null, .null, .null, .null, .null]))) H locs := hH
  obtain ⟨E8, hE8⟩ : ∃ x, x = va_up E7 (8) (.inr (4, [.int (nI 0), .int (nI 0), .int (nI 0), .int (nI 0), .int (nI 0), .int (nI 0), .ref (ad7 9), .ref (ad7 10), .ref (ad7 11), .ref (ad7 12), .null, .null, .null, .null, .null, .null, .null, .null, .null, .null, .null, .null])) := ⟨_, rfl⟩
  rw [← hE8] at hH
  have e_8 : ∀ k, k ≠ 8 → E8 k = E7 k := fun k hk => by rw [hE8]; exact va_up_ne _ _ hk
  have c_8 : E8 (8) = (.inr (4, [.int (nI 0), .int (nI 0), .int (nI 0), .int (nI 0), .int (nI 0), .int (nI 0), .ref (ad7 9), .ref (ad7 10), .ref (ad7 11), .ref (ad7 12), .null, .null, .null, .null, .null, .null, .null, .null, .null, .null, .null, .null])) := by rw [hE8]; exact va_up_self _ _ _
  have c_9 := (e_8 (9) (by omega)).trans c_9
  have c_10 := (e_8 (10) (by omega)).trans c_10
  have c_11 := (e_8 (11) (by omega)).trans c_11
  have c_12 := (e_8 (12) (by omega)).trans c_12
  refine lv_aload_n X.1 X.2.1 d_M_init_36 rfl (lv_at hl 0 rfl) ?_
  refine lv_bipush (v := nI 31) X.1 X.2.1 d_M_init_37 (by decide) ?_
  refine zx_newi (j := 31) X hH zw_arrI rfl (by decide) (by dsimp only; omega) (by dsimp only; omega) d_M_init_39 (fun q0 H hH => ?_)
  have hH : zw_H g A s.heap s (13 + 1) (va_up ad7 (13) q0) (va_up E8 (13) (zr_ia g 31 (fun _ => 0))) H _ := hH
  obtain ⟨ad9, had9⟩ : ∃ x, x = va_up ad7 (13) q0 := ⟨_, rfl⟩
  obtain ⟨E9, hE9⟩ : ∃ x, x = va_up E8 (13) (zr_ia g 31 (fun _ => 0)) := ⟨_, rfl⟩
  rw [← had9, ← hE9] at hH
  have a_9 : ∀ k, k < 13 → ad9 k = ad7 k := fun k hk => by rw [had9]; exact va_up_ne _ _ (by omega)
  have e_9 : ∀ k, k ≠ 13 → E9 k = E8 k := fun k hk => by rw [hE9]; exact va_up_ne _ _ hk
  have n_9 : E9 (13) = (zr_ia g 31 (fun _ => 0)) := by rw [hE9]; exact va_up_self _ _ _
  refine W.eq (g2 := F0 m 41 ls [.ref (ad9 (13)), .ref (ad9 (8))]) (by rw [had9, va_up_ne _ _ (show 8 ≠ 13 by omega)]) ?_
  rw [← a_9 (8) (by omega)] at hl
  have c_8 := (e_9 (8) (by omega)).trans c_8
  have c_9 := (e_9 (9) (by omega)).trans c_9
  have c_10 := (e_9 (10) (by omega)).trans c_10
  have c_11 := (e_9 (11) (by omega)).trans c_11
  have c_12 := (e_9 (12) (by omega)).trans c_12
  have c_13 := n_9
  have c_8 : E9 8 = (.inr (4, [.int (nI 0), .int (nI 0), .int (nI 0), .int (nI 0), .int (nI 0), .int (nI 0), .ref (ad9 9), .ref (ad9 10), .ref (ad9 11), .ref (ad9 12), .null, .null, .null, .null, .null, .null, .null, .null, .null, .null, .null, .null])) := by rw [a_9 9 (by omega), a_9 10 (by omega), a_9 11 (by omega), a_9 12 (by omega)]; exact c_8
  refine zx_putF X hH fp_M_22 hnm rfl (by omega) c_8 (Nat.le_of_ble_eq_true rfl) rfl rfl d_M_init_41 (fun H locs hH => ?_)
  have hH : zw_H g A s.heap s (14) ad9 (va_up E9 (8) (.inr (4, [.int (nI 0), .int (nI 0), .int (nI 0), .int (nI 0), .int (nI 0), .int (nI 0), .ref (ad9 9), .ref (ad9 10), .ref (ad9 11), .ref (ad9 12), .ref (ad9 13), .null, .null, .null, .null, .null, .null, .null, .null, .null, .null, .null]))) H locs := hH
  obtain ⟨E10, hE10⟩ : ∃ x, x = va_up E9 (8) (.inr (4, [.int (nI 0), .int (nI 0), .int (nI 0), .int (nI 0), .int (nI 0), .int (nI 0), .ref (ad9 9), .ref (ad9 10), .ref (ad9 11), .ref (ad9 12), .ref (ad9 13), .null, .null, .null, .null, .null, .null, .null, .null, .null, .null, .null])) := ⟨_, rfl⟩
  rw [← hE10] at hH
  have e_10 : ∀ k, k ≠ 8 → E10 k = E9 k := fun k hk => by rw [hE10]; exact va_up_ne _ _ hk
  have c_8 : E10 (8) = (.inr (4, [.int (nI 0), .int (nI 0), .int (nI 0), .int (nI 0), .int (nI 0), .int (nI 0), .ref (ad9 9), .ref (ad9 10), .ref (ad9 11), .ref (ad9 12), .ref (ad9 13), .null, .null, .null, .null, .null, .null, .null, .null, .null, .null, .null])) := by rw [hE10]; exact va_up_self _ _ _
  have c_9 := (e_10 (9) (by omega)).trans c_9
  have c_10 := (e_10 (10) (by omega)).trans c_10
  have c_11 := (e_10 (11) (by omega)).trans c_11
  have c_12 := (e_10 (12) (by omega)).trans c_12
  have c_13 := (e_10 (13) (by omega)).trans c_13
  refine lv_aload_n X.1 X.2.1 d_M_init_44 rfl (lv_at hl 0 rfl) ?_
  refine lv_bipush (v := nI 31) X.1 X.2.1 d_M_init_45 (by decide) ?_
  refine zx_newi (j := 31) X hH zw_arrI rfl (by decide) (by dsimp only; omega) (by dsimp only; omega) d_M_init_47 (fun q0 H hH => ?_)
  have hH : zw_H g A s.heap s (14 + 1) (va_up ad9 (14) q0) (va_up E10 (14) (zr_ia g 31 (fun _ => 0))) H _ := hH
  obtain ⟨ad11, had11⟩ : ∃ x, x = va_up ad9 (14) q0 := ⟨_, rfl⟩
  obtain ⟨E11, hE11⟩ : ∃ x, x = va_up E10 (14) (zr_ia g 31 (fun _ => 0)) := ⟨_, rfl⟩
  rw [← had11, ← hE11] at hH
  have a_11 : ∀ k, k < 14 → ad11 k = ad9 k := fun k hk => by rw [had11]; exact va_up_ne _ _ (by omega)
  have e_11 : ∀ k, k ≠ 14 → E11 k = E10 k := fun k hk => by rw [hE11]; exact va_up_ne _ _ hk
  have n_11 : E11 (14) = (zr_ia g 31 (fun _ => 0)) := by rw [hE11]; exact va_up_self _ _ _
  refine W.eq (g2 := F0 m 49 ls [.ref (ad11 (14)), .ref (ad11 (8))]) (by rw [had11, va_up_ne _ _ (show 8 ≠ 14 by omega)]) ?_
  rw [← a_11 (8) (by omega)] at hl
  have c_8 := (e_11 (8) (by omega)).trans c_8
  have c_9 := (e_11 (9) (by omega)).trans c_9
  have c_10 := (e_11 (10) (by omega)).trans c_10
  have c_11 := (e_11 (11) (by omega)).trans c_11
  have c_12 := (e_11 (12) (by omega)).trans c_12
  have c_13 := (e_11 (13) (by omega)).trans c_13
  have c_14 := n_11
  have c_8 : E11 8 = (.inr (4, [.int (nI 0), .int (nI 0), .int (nI 0), .int (nI 0), .int (nI 0), .int (nI 0), .ref (ad11 9), .ref (ad11 10), .ref (ad11 11), .ref (ad11 12), .ref (ad11 13), .null, .null, .null, .null, .null, .null, .null, .null, .null, .null, .null])) := by rw [a_11 9 (by omega), a_11 10 (by omega), a_11 11 (by omega), a_11 12 (by omega), a_11 13 (by omega)]; exact c_8
  refine zx_putF X hH fp_M_25 hnm rfl (by omega) c_8 (Nat.le_of_ble_eq_true rfl) rfl rfl d_M_init_49 (fun H locs hH => ?_)
  have hH : zw_H g A s.heap s (15) ad11 (va_up E11 (8) (.inr (4, [.int (nI 0), .int (nI 0), .int (nI 0), .int (nI 0), .int (nI 0), .int (nI 0), .ref (ad11 9), .ref (ad11 10), .ref (ad11 11), .ref (ad11 12), .ref (ad11 13), .ref (ad11 14), .null, .null, .null, .null, .null, .null, .null, .null, .null, .null]))) H locs := hH
  obtain ⟨E12, hE12⟩ : ∃ x, x = va_up E11 (8) (.inr (4, [.int (nI 0), .int (nI 0), .int (nI 0), .int (nI 0), .int (nI 0), .int (nI 0), .ref (ad11 9), .ref (ad11 10), .ref (ad11 11), .ref (ad11 12), .ref (ad11 13), .ref (ad11 14), .null, .null, .null, .null, .null, .null, .null, .null, .null, .null])) := ⟨_, rfl⟩
  rw [← hE12] at hH
  have e_12 : ∀ k, k ≠ 8 → E12 k = E11 k := fun k hk => by rw [hE12]; exact va_up_ne _ _ hk
  have c_8 : E12 (8) = (.inr (4, [.int (nI 0), .int (nI 0), .int (nI 0), .int (nI 0), .int (nI 0), .int (nI 0), .ref (ad11 9), .ref (ad11 10), .ref (ad11 11), .ref (ad11 12), .ref (ad11 13), .ref (ad11 14), .null, .null, .null, .null, .null, .null, .null, .null, .null, .null])) := by rw [hE12]; exact va_up_self _ _ _
  have c_9 := (e_12 (9) (by omega)).trans c_9
  have c_10 := (e_12 (10) (by omega)).trans c_10
  have c_11 := (e_12 (11) (by omega)).trans c_11
  have c_12 := (e_12 (12) (by omega)).trans c_12
  have c_13 := (e_12 (13) (by omega)).trans c_13
  have c_14 := (e_12 (14) (by omega)).trans c_14
  refine lv_aload_n X.1 X.2.1 d_M_init_52 rfl (lv_at hl 0 rfl) ?_
  refine lv_bipush (v := nI 31) X.1 X.2.1 d_M_init_53 (by decide) ?_
  refine zx_newi (j := 31) X hH zw_arrI rfl (by decide) (by dsimp only; omega) (by dsimp only; omega) d_M_init_55 (fun q0 H hH => ?_)
  have hH : zw_H g A s.heap s (15 + 1) (va_up ad11 (15) q0) (va_up E12 (15) (zr_ia g 31 (fun _ => 0))) H _ := hH
  obtain ⟨ad13, had13⟩ : ∃ x, x = va_up ad11 (15) q0 := ⟨_, rfl⟩
  obtain ⟨E13, hE13⟩ : ∃ x, x = va_up E12 (15) (zr_ia g 31 (fun _ => 0)) := ⟨_, rfl⟩
  rw [← had13, ← hE13] at hH
  have a_13 : ∀ k, k < 15 → ad13 k = ad11 k := fun k hk => by rw [had13]; exact va_up_ne _ _ (by omega)
  have e_13 : ∀ k, k ≠ 15 → E13 k = E12 k := fun k hk => by rw [hE13]; exact va_up_ne _ _ hk
  have n_13 : E13 (15) = (zr_ia g 31 (fun _ => 0)) := by rw [hE13]; exact va_up_self _ _ _
  refine W.eq (g2 := F0 m 57 ls [.ref (ad13 (15)), .ref (ad13 (8))]) (by rw [had13, va_up_ne _ _ (show 8 ≠ 15 by omega)]) ?_
  rw [← a_13 (8) (by omega)] at hl
  have c_8 := (e_13 (8) (by omega)).trans c_8
  have c_9 := (e_13 (9) (by omega)).trans c_9
  have c_10 := (e_13 (10) (by omega)).trans c_10
  have c_11 := (e_13 (11) (by omega)).trans c_11
  have c_12 := (e_13 (12) (by omega)).trans c_12
  have c_13 := (e_13 (13) (by omega)).trans c_13
  have c_14 := (e_13 (14) (by omega)).trans c_14
  have c_15 := n_13
  have c_8 : E13 8 = (.inr (4, [.int (nI 0), .int (nI 0), .int (nI 0), .int (nI 0), .int (nI 0), .int (nI 0), .ref (ad13 9), .ref (ad13 10), .ref (ad13 11), .ref (ad13 12), .ref (ad13 13), .ref (ad13 14), .null, .null, .null, .null, .null, .null, .null, .null, .null, .null])) := by rw [a_13 9 (by omega), a_13 10 (by omega), a_13 11 (by omega), a_13 12 (by omega), a_13 13 (by omega), a_13 14 (by omega)]; exact c_8
  refine zx_putF X hH fp_M_28 hnm rfl (by omega) c_8 (Nat.le_of_ble_eq_true rfl) rfl rfl d_M_init_57 (fun H locs hH => ?_)
  have hH : zw_H g A s.heap s (16) ad13 (va_up E13 (8) (.inr (4, [.int (nI 0), .int (nI 0), .int (nI 0), .int (nI 0), .int (nI 0), .int (nI 0), .ref (ad13 9), .ref (ad13 10), .ref (ad13 11), .ref (ad13 12), .ref (ad13 13), .ref (ad13 14), .ref (ad13 15), .null, .null, .null, .null, .null, .null, .null, .null, .null]))) H locs := hH
  obtain ⟨E14, hE14⟩ : ∃ x, x = va_up E13 (8) (.inr (4, [.int (nI 0), .int (nI 0), .int (nI 0), .int (nI 0), .int (nI 0), .int (nI 0), .ref (ad13 9), .ref (ad13 10), .ref (ad13 11), .ref (ad13 12), .ref (ad13 13), .ref (ad13 14), .ref (ad13 15), .null, .null, .null, .null, .null, .null, .null, .null, .null])) := ⟨_, rfl⟩
  rw [← hE14] at hH
  have e_14 : ∀ k, k ≠ 8 → E14 k = E13 k := fun k hk => by rw [hE14]; exact va_up_ne _ _ hk
  have c_8 : E14 (8) = (.inr (4, [.int (nI 0), .int (nI 0), .int (nI 0), .int (nI 0), .int (nI 0), .int (nI 0), .ref (ad13 9), .ref (ad13 10), .ref (ad13 11), .ref (ad13 12), .ref (ad13 13), .ref (ad13 14), .ref (ad13 15), .null, .null, .null, .null, .null, .null, .null, .null, .null])) := by rw [hE14]; exact va_up_self _ _ _
  have c_9 := (e_14 (9) (by omega)).trans c_9
  have c_10 := (e_14 (10) (by omega)).trans c_10
  have c_11 := (e_14 (11) (by omega)).trans c_11
  have c_12 := (e_14 (12) (by omega)).trans c_12
  have c_13 := (e_14 (13) (by omega)).trans c_13
  have c_14 := (e_14 (14) (by omega)).trans c_14
  have c_15 := (e_14 (15) (by omega)).trans c_15
  refine lv_aload_n X.1 X.2.1 d_M_init_60 rfl (lv_at hl 0 rfl) ?_
  refine lv_bipush (v := nI 31) X.1 X.2.1 d_M_init_61 (by decide) ?_
  refine zx_newi (j := 31) X hH zw_arrI rfl (by decide) (by dsimp only; omega) (by dsimp only; omega) d_M_init_63 (fun q0 H hH => ?_)
  have hH : zw_H g A s.heap s (16 + 1) (va_up ad13 (16) q0) (va_up E14 (16) (zr_ia g 31 (fun _ => 0))) H _ := hH
  obtain ⟨ad15, had15⟩ : ∃ x, x = va_up ad13 (16) q0 := ⟨_, rfl⟩
  obtain ⟨E15, hE15⟩ : ∃ x, x = va_up E14 (16) (zr_ia g 31 (fun _ => 0)) := ⟨_, rfl⟩
  rw [← had15, ← hE15] at hH
  have a_15 : ∀ k, k < 16 → ad15 k = ad13 k := fun k hk => by rw [had15]; exact va_up_ne _ _ (by omega)
  have e_15 : ∀ k, k ≠ 16 → E15 k = E14 k := fun k hk => by rw [hE15]; exact va_up_ne _ _ hk
  have n_15 : E15 (16) = (zr_ia g 31 (fun _ => 0)) := by rw [hE15]; exact va_up_self _ _ _
  refine W.eq (g2 := F0 m 65 ls [.ref (ad15 (16)), .ref (ad15 (8))]) (by rw [had15, va_up_ne _ _ (show 8 ≠ 16 by omega)]) ?_
  rw [← a_15 (8) (by omega)] at hl
  have c_8 := (e_15 (8) (by omega)).trans c_8
  have c_9 := (e_15 (9) (by omega)).trans c_9
  have c_10 := (e_15 (10) (by omega)).trans c_10
  have c_11 := (e_15 (11) (by omega)).trans c_11
  have c_12 := (e_15 (12) (by omega)).trans c_12
  have c_13 := (e_15 (13) (by omega)).trans c_13
  have c_14 := (e_15 (14) (by omega)).trans c_14
  have c_15 := (e_15 (15) (by omega)).trans c_15
  have c_16 := n_15
  have c_8 : E15 8 = (.inr (4, [.int (nI 0), .int (nI 0), .int (nI 0), .int (nI 0), .int (nI 0), .int (nI 0), .ref (ad15 9), .ref (ad15 10), .ref (ad15 11), .ref (ad15 12), .ref (ad15 13), .ref (ad15 14), .ref (ad15 15), .null, .null, .null, .null, .null, .null, .null, .null, .null])) := by rw [a_15 9 (by omega), a_15 10 (by omega), a_15 11 (by omega), a_15 12 (by omega), a_15 13 (by omega), a_15 14 (by omega), a_15 15 (by omega)]; exact c_8
  refine zx_putF X hH fp_M_31 hnm rfl (by omega) c_8 (Nat.le_of_ble_eq_true rfl) rfl rfl d_M_init_65 (fun H locs hH => ?_)
  have hH : zw_H g A s.heap s (17) ad15 (va_up E15 (8) (.inr (4, [.int (nI 0), .int (nI 0), .int (nI 0), .int (nI 0), .int (nI 0), .int (nI 0), .ref (ad15 9), .ref (ad15 10), .ref (ad15 11), .ref (ad15 12), .ref (ad15 13), .ref (ad15 14), .ref (ad15 15), .ref (ad15 16), .null, .null, .null, .null, .null, .null, .null, .null]))) H locs := hH
  obtain ⟨E16, hE16⟩ : ∃ x, x = va_up E15 (8) (.inr (4, [.int (nI 0), .int (nI 0), .int (nI 0), .int (nI 0), .int (nI 0), .int (nI 0), .ref (ad15 9), .ref (ad15 10), .ref (ad15 11), .ref (ad15 12), .ref (ad15 13), .ref (ad15 14), .ref (ad15 15), .ref (ad15 16), .null, .null, .null, .null, .null, .null, .null, .null])) := ⟨_, rfl⟩
  rw [← hE16] at hH
  have e_16 : ∀ k, k ≠ 8 → E16 k = E15 k := fun k hk => by rw [hE16]; exact va_up_ne _ _ hk
  have c_8 : E16 (8) = (.inr (4, [.int (nI 0), .int (nI 0), .int (nI 0), .int (nI 0), .int (nI 0), .int (nI 0), .ref (ad15 9), .ref (ad15 10), .ref (ad15 11), .ref (ad15 12), .ref (ad15 13), .ref (ad15 14), .ref (ad15 15), .ref (ad15 16), .null, .null, .null, .null, .null, .null, .null, .null])) := by rw [hE16]; exact va_up_self _ _ _
  have c_9 := (e_16 (9) (by omega)).trans c_9
  have c_10 := (e_16 (10) (by omega)).trans c_10
  have c_11 := (e_16 (11) (by omega)).trans c_11
  have c_12 := (e_16 (12) (by omega)).trans c_12
  have c_13 := (e_16 (13) (by omega)).trans c_13
  have c_14 := (e_16 (14) (by omega)).trans c_14
  have c_15 := (e_16 (15) (by omega)).trans c_15
  have c_16 := (e_16 (16) (by omega)).trans c_16
  refine lv_aload_n X.1 X.2.1 d_M_init_68 rfl (lv_at hl 0 rfl) ?_
  refine lv_bipush (v := nI 31) X.1 X.2.1 d_M_init_69 (by decide) ?_
  refine zx_newz (j := 31) X hH zw_arrZ rfl (by decide) (by dsimp only; omega) (by dsimp only; omega) d_M_init_71 (fun q0 H hH => ?_)
  have hH : zw_H g A s.heap s (17 + 1) (va_up ad15 (17) q0) (va_up E16 (17) (zr_za g 31 (fun _ => 0))) H _ := hH
  obtain ⟨ad17, had17⟩ : ∃ x, x = va_up ad15 (17) q0 := ⟨_, rfl⟩
  obtain ⟨E17, hE17⟩ : ∃ x, x = va_up E16 (17) (zr_za g 31 (fun _ => 0)) := ⟨_, rfl⟩
  rw [← had17, ← hE17] at hH
  have a_17 : ∀ k, k < 17 → ad17 k = ad15 k := fun k hk => by rw [had17]; exact va_up_ne _ _ (by omega)
  have e_17 : ∀ k, k ≠ 17 → E17 k = E16 k := fun k hk => by rw [hE17]; exact va_up_ne _ _ hk
  have n_17 : E17 (17) = (zr_za g 31 (fun _ => 0)) := by rw [hE17]; exact va_up_self _ _ _
  refine W.eq (g2 := F0 m 73 ls [.ref (ad17 (17)), .ref (ad17 (8))]) (by rw [had17, va_up_ne _ _ (show 8 ≠ 17 by omega)]) ?_
  rw [← a_17 (8) (by omega)] at hl
  have c_8 := (e_17 (8) (by omega)).trans c_8
  have c_9 := (e_17 (9) (by omega)).trans c_9
  have c_10 := (e_17 (10) (by omega)).trans c_10
  have c_11 := (e_17 (11) (by omega)).trans c_11
  have c_12 := (e_17 (12) (by omega)).trans c_12
  have c_13 := (e_17 (13) (by omega)).trans c_13
  have c_14 := (e_17 (14) (by omega)).trans c_14
  have c_15 := (e_17 (15) (by omega)).trans c_15
  have c_16 := (e_17 (16) (by omega)).trans c_16
  have c_17 := n_17
  have c_8 : E17 8 = (.inr (4, [.int (nI 0), .int (nI 0), .int (nI 0), .int (nI 0), .int (nI 0), .int (nI 0), .ref (ad17 9), .ref (ad17 10), .ref (ad17 11), .ref (ad17 12), .ref (ad17 13), .ref (ad17 14), .ref (ad17 15), .ref (ad17 16), .null, .null, .null, .null, .null, .null, .null, .null])) := by rw [a_17 9 (by omega), a_17 10 (by omega), a_17 11 (by omega), a_17 12 (by omega), a_17 13 (by omega), a_17 14 (by omega), a_17 15 (by omega), a_17 16 (by omega)]; exact c_8
  refine zx_putF X hH fp_M_34 hnm rfl (by omega) c_8 (Nat.le_of_ble_eq_true rfl) rfl rfl d_M_init_73 (fun H locs hH => ?_)
  have hH : zw_H g A s.heap s (18) ad17 (va_up E17 (8) (.inr (4, [.int (nI 0), .int (nI 0), .int (nI 0), .int (nI 0), .int (nI 0), .int (nI 0), .ref (ad17 9), .ref (ad17 10), .ref (ad17 11), .ref (ad17 12), .ref (ad17 13), .ref (ad17 14), .ref (ad17 15), .ref (ad17 16), .ref (ad17 17), .null, .null, .null, .null, .null, .null, .null]))) H locs := hH
  obtain ⟨E18, hE18⟩ : ∃ x, x = va_up E17 (8) (.inr (4, [.int (nI 0), .int (nI 0), .int (nI 0), .int (nI 0), .int (nI 0), .int (nI 0), .ref (ad17 9), .ref (ad17 10), .ref (ad17 11), .ref (ad17 12), .ref (ad17 13), .ref (ad17 14), .ref (ad17 15), .ref (ad17 16), .ref (ad17 17), .null, .null, .null, .null, .null, .null, .null])) := ⟨_, rfl⟩
  rw [← hE18] at hH
  have e_18 : ∀ k, k ≠ 8 → E18 k = E17 k := fun k hk => by rw [hE18]; exact va_up_ne _ _ hk
  have c_8 : E18 (8) = (.inr (4, [.int (nI 0), .int (nI 0), .int (nI 0), .int (nI 0), .int (nI 0), .int (nI 0), .ref (ad17 9), .ref (ad17 10), .ref (ad17 11), .ref (ad17 12), .ref (ad17 13), .ref (ad17 14), .ref (ad17 15), .ref (ad17 16), .ref (ad17 17), .null, .null, .null, .null, .null, .null, .null])) := by rw [hE18]; exact va_up_self _ _ _
  have c_9 := (e_18 (9) (by omega)).trans c_9
  have c_10 := (e_18 (10) (by omega)).trans c_10
  have c_11 := (e_18 (11) (by omega)).trans c_11
  have c_12 := (e_18 (12) (by omega)).trans c_12
  have c_13 := (e_18 (13) (by omega)).trans c_13
  have c_14 := (e_18 (14) (by omega)).trans c_14
  have c_15 := (e_18 (15) (by omega)).trans c_15
  have c_16 := (e_18 (16) (by omega)).trans c_16
  have c_17 := (e_18 (17) (by omega)).trans c_17
  refine lv_aload_n X.1 X.2.1 d_M_init_76 rfl (lv_at hl 0 rfl) ?_
  refine lv_sipush (v := nI 620) X.1 X.2.1 d_M_init_77 (by decide) ?_
  refine zx_newz (j := 620) X hH zw_arrZ rfl (by decide) (by dsimp only; omega) (by dsimp only; omega) d_M_init_80 (fun q0 H hH => ?_)
  have hH : zw_H g A s.heap s (18 + 1) (va_up ad17 (18) q0) (va_up E18 (18) (zr_za g 620 (fun _ => 0))) H _ := hH
  obtain ⟨ad19, had19⟩ : ∃ x, x = va_up ad17 (18) q0 := ⟨_, rfl⟩
  obtain ⟨E19, hE19⟩ : ∃ x, x = va_up E18 (18) (zr_za g 620 (fun _ => 0)) := ⟨_, rfl⟩
  rw [← had19, ← hE19] at hH
  have a_19 : ∀ k, k < 18 → ad19 k = ad17 k := fun k hk => by rw [had19]; exact va_up_ne _ _ (by omega)
  have e_19 : ∀ k, k ≠ 18 → E19 k = E18 k := fun k hk => by rw [hE19]; exact va_up_ne _ _ hk
  have n_19 : E19 (18) = (zr_za g 620 (fun _ => 0)) := by rw [hE19]; exact va_up_self _ _ _
  refine W.eq (g2 := F0 m 82 ls [.ref (ad19 (18)), .ref (ad19 (8))]) (by rw [had19, va_up_ne _ _ (show 8 ≠ 18 by omega)]) ?_
  rw [← a_19 (8) (by omega)] at hl
  have c_8 := (e_19 (8) (by omega)).trans c_8
  have c_9 := (e_19 (9) (by omega)).trans c_9
  have c_10 := (e_19 (10) (by omega)).trans c_10
  have c_11 := (e_19 (11) (by omega)).trans c_11
  have c_12 := (e_19 (12) (by omega)).trans c_12
  have c_13 := (e_19 (13) (by omega)).trans c_13
  have c_14 := (e_19 (14) (by omega)).trans c_14
  have c_15 := (e_19 (15) (by omega)).trans c_15
  have c_16 := (e_19 (16) (by omega)).trans c_16
  have c_17 := (e_19 (17) (by omega)).trans c_17
  have c_18 := n_19
  have c_8 : E19 8 = (.inr (4, [.int (nI 0), .int (nI 0), .int (nI 0), .int (nI 0), .int (nI 0), .int (nI 0), .ref (ad19 9), .ref (ad19 10), .ref (ad19 11), .ref (ad19 12), .ref (ad19 13), .ref (ad19 14), .ref (ad19 15), .ref (ad19 16), .ref (ad19 17), .null, .null, .null, .null, .null, .null, .null])) := by rw [a_19 9 (by omega), a_19 10 (by omega), a_19 11 (by omega), a_19 12 (by omega), a_19 13 (by omega), a_19 14 (by omega), a_19 15 (by omega), a_19 16 (by omega), a_19 17 (by omega)]; exact c_8
  refine zx_putF X hH fp_M_38 hnm rfl (by omega) c_8 (Nat.le_of_ble_eq_true rfl) rfl rfl d_M_init_82 (fun H locs hH => ?_)
  have hH : zw_H g A s.heap s (19) ad19 (va_up E19 (8) (.inr (4, [.int (nI 0), .int (nI 0), .int (nI 0), .int (nI 0), .int (nI 0), .int (nI 0), .ref (ad19 9), .ref (ad19 10), .ref (ad19 11), .ref (ad19 12), .ref (ad19 13), .ref (ad19 14), .ref (ad19 15), .ref (ad19 16), .ref (ad19 17), .ref (ad19 18), .null, .null, .null, .null, .null, .null]))) H locs := hH
  obtain ⟨E20, hE20⟩ : ∃ x, x = va_up E19 (8) (.inr (4, [.int (nI 0), .int (nI 0), .int (nI 0), .int (nI 0), .int (nI 0), .int (nI 0), .ref (ad19 9), .ref (ad19 10), .ref (ad19 11), .ref (ad19 12), .ref (ad19 13), .ref (ad19 14), .ref (ad19 15), .ref (ad19 16), .ref (ad19 17), .ref (ad19 18), .null, .null, .null, .null, .null, .null])) := ⟨_, rfl⟩
  rw [← hE20] at hH
  have e_20 : ∀ k, k ≠ 8 → E20 k = E19 k := fun k hk => by rw [hE20]; exact va_up_ne _ _ hk
  have c_8 : E20 (8) = (.inr (4, [.int (nI 0), .int (nI 0), .int (nI 0), .int (nI 0), .int (nI 0), .int (nI 0), .ref (ad19 9), .ref (ad19 10), .ref (ad19 11), .ref (ad19 12), .ref (ad19 13), .ref (ad19 14), .ref (ad19 15), .ref (ad19 16), .ref (ad19 17), .ref (ad19 18), .null, .null, .null, .null, .null, .null])) := by rw [hE20]; exact va_up_self _ _ _
  have c_9 := (e_20 (9) (by omega)).trans c_9
  have c_10 := (e_20 (10) (by omega)).trans c_10
  have c_11 := (e_20 (11) (by omega)).trans c_11
  have c_12 := (e_20 (12) (by omega)).trans c_12
  have c_13 := (e_20 (13) (by omega)).trans c_13
  have c_14 := (e_20 (14) (by omega)).trans c_14
  have c_15 := (e_20 (15) (by omega)).trans c_15
  have c_16 := (e_20 (16) (by omega)).trans c_16
  have c_17 := (e_20 (17) (by omega)).trans c_17
  have c_18 := (e_20 (18) (by omega)).trans c_18
  refine lv_aload_n X.1 X.2.1 d_M_init_85 rfl (lv_at hl 0 rfl) ?_
  refine lv_sipush (v := nI 3131) X.1 X.2.1 d_M_init_86 (by decide) ?_
  refine zx_newi (j := 3131) X hH zw_arrI rfl (by decide) (by dsimp only; omega) (by dsimp only; omega) d_M_init_89 (fun q0 H hH => ?_)
  have hH : zw_H g A s.heap s (19 + 1) (va_up ad19 (19) q0) (va_up E20 (19) (zr_ia g 3131 (fun _ => 0))) H _ := hH
  obtain ⟨ad21, had21⟩ : ∃ x, x = va_up ad19 (19) q0 := ⟨_, rfl⟩
  obtain ⟨E21, hE21⟩ : ∃ x, x = va_up E20 (19) (zr_ia g 3131 (fun _ => 0)) := ⟨_, rfl⟩
  rw [← had21, ← hE21] at hH
  have a_21 : ∀ k, k < 19 → ad21 k = ad19 k := fun k hk => by rw [had21]; exact va_up_ne _ _ (by omega)
  have e_21 : ∀ k, k ≠ 19 → E21 k = E20 k := fun k hk => by rw [hE21]; exact va_up_ne _ _ hk
  have n_21 : E21 (19) = (zr_ia g 3131 (fun _ => 0)) := by rw [hE21]; exact va_up_self _ _ _
  refine W.eq (g2 := F0 m 91 ls [.ref (ad21 (19)), .ref (ad21 (8))]) (by rw [had21, va_up_ne _ _ (show 8 ≠ 19 by omega)]) ?_
  rw [← a_21 (8) (by omega)] at hl
  have c_8 := (e_21 (8) (by omega)).trans c_8
  have c_9 := (e_21 (9) (by omega)).trans c_9
  have c_10 := (e_21 (10) (by omega)).trans c_10
  have c_11 := (e_21 (11) (by omega)).trans c_11
  have c_12 := (e_21 (12) (by omega)).trans c_12
  have c_13 := (e_21 (13) (by omega)).trans c_13
  have c_14 := (e_21 (14) (by omega)).trans c_14
  have c_15 := (e_21 (15) (by omega)).trans c_15
  have c_16 := (e_21 (16) (by omega)).trans c_16
  have c_17 := (e_21 (17) (by omega)).trans c_17
  have c_18 := (e_21 (18) (by omega)).trans c_18
  have c_19 := n_21
  have c_8 : E21 8 = (.inr (4, [.int (nI 0), .int (nI 0), .int (nI 0), .int (nI 0), .int (nI 0), .int (nI 0), .ref (ad21 9), .ref (ad21 10), .ref (ad21 11), .ref (ad21 12), .ref (ad21 13), .ref (ad21 14), .ref (ad21 15), .ref (ad21 16), .ref (ad21 17), .ref (ad21 18), .null, .null, .null, .null, .null, .null])) := by rw [a_21 9 (by omega), a_21 10 (by omega), a_21 11 (by omega), a_21 12 (by omega), a_21 13 (by omega), a_21 14 (by omega), a_21 15 (by omega), a_21 16 (by omega), a_21 17 (by omega), a_21 18 (by omega)]; exact c_8
  refine zx_putF X hH fp_M_41 hnm rfl (by omega) c_8 (Nat.le_of_ble_eq_true rfl) rfl rfl d_M_init_91 (fun H locs hH => ?_)
  have hH : zw_H g A s.heap s (20) ad21 (va_up E21 (8) (.inr (4, [.int (nI 0), .int (nI 0), .int (nI 0), .int (nI 0), .int (nI 0), .int (nI 0), .ref (ad21 9), .ref (ad21 10), .ref (ad21 11), .ref (ad21 12), .ref (ad21 13), .ref (ad21 14), .ref (ad21 15), .ref (ad21 16), .ref (ad21 17), .ref (ad21 18), .ref (ad21 19), .null, .null, .null, .null, .null]))) H locs := hH
  obtain ⟨E22, hE22⟩ : ∃ x, x = va_up E21 (8) (.inr (4, [.int (nI 0), .int (nI 0), .int (nI 0), .int (nI 0), .int (nI 0), .int (nI 0), .ref (ad21 9), .ref (ad21 10), .ref (ad21 11), .ref (ad21 12), .ref (ad21 13), .ref (ad21 14), .ref (ad21 15), .ref (ad21 16), .ref (ad21 17), .ref (ad21 18), .ref (ad21 19), .null, .null, .null, .null, .null])) := ⟨_, rfl⟩
  rw [← hE22] at hH
  have e_22 : ∀ k, k ≠ 8 → E22 k = E21 k := fun k hk => by rw [hE22]; exact va_up_ne _ _ hk
  have c_8 : E22 (8) = (.inr (4, [.int (nI 0), .int (nI 0), .int (nI 0), .int (nI 0), .int (nI 0), .int (nI 0), .ref (ad21 9), .ref (ad21 10), .ref (ad21 11), .ref (ad21 12), .ref (ad21 13), .ref (ad21 14), .ref (ad21 15), .ref (ad21 16), .ref (ad21 17), .ref (ad21 18), .ref (ad21 19), .null, .null, .null, .null, .null])) := by rw [hE22]; exact va_up_self _ _ _
  have c_9 := (e_22 (9) (by omega)).trans c_9
  have c_10 := (e_22 (10) (by omega)).trans c_10
  have c_11 := (e_22 (11) (by omega)).trans c_11
  have c_12 := (e_22 (12) (by omega)).trans c_12
  have c_13 := (e_22 (13) (by omega)).trans c_13
  have c_14 := (e_22 (14) (by omega)).trans c_14
  have c_15 := (e_22 (15) (by omega)).trans c_15
  have c_16 := (e_22 (16) (by omega)).trans c_16
  have c_17 := (e_22 (17) (by omega)).trans c_17
  have c_18 := (e_22 (18) (by omega)).trans c_18
  have c_19 := (e_22 (19) (by omega)).trans c_19
  refine lv_aload_n X.1 X.2.1 d_M_init_94 rfl (lv_at hl 0 rfl) ?_
  refine lv_sipush (v := nI 620) X.1 X.2.1 d_M_init_95 (by decide) ?_
  refine zx_newi (j := 620) X hH zw_arrI rfl (by decide) (by dsimp only; omega) (by dsimp only; omega) d_M_init_98 (fun q0 H hH => ?_)
  have hH : zw_H g A s.heap s (20 + 1) (va_up ad21 (20) q0) (va_up E22 (20) (zr_ia g 620 (fun _ => 0))) H _ := hH
  obtain ⟨ad23, had23⟩ : ∃ x, x = va_up ad21 (20) q0 := ⟨_, rfl⟩
  obtain ⟨E23, hE23⟩ : ∃ x, x = va_up E22 (20) (zr_ia g 620 (fun _ => 0)) := ⟨_, rfl⟩
  rw [← had23, ← hE23] at hH
  have a_23 : ∀ k, k < 20 → ad23 k = ad21 k := fun k hk => by rw [had23]; exact va_up_ne _ _ (by omega)
  have e_23 : ∀ k, k ≠ 20 → E23 k = E22 k := fun k hk => by rw [hE23]; exact va_up_ne _ _ hk
  have n_23 : E23 (20) = (zr_ia g 620 (fun _ => 0)) := by rw [hE23]; exact va_up_self _ _ _
  refine W.eq (g2 := F0 m 100 ls [.ref (ad23 (20)), .ref (ad23 (8))]) (by rw [had23, va_up_ne _ _ (show 8 ≠ 20 by omega)]) ?_
  rw [← a_23 (8) (by omega)] at hl
  have c_8 := (e_23 (8) (by omega)).trans c_8
  have c_9 := (e_23 (9) (by omega)).trans c_9
  have c_10 := (e_23 (10) (by omega)).trans c_10
  have c_11 := (e_23 (11) (by omega)).trans c_11
  have c_12 := (e_23 (12) (by omega)).trans c_12
  have c_13 := (e_23 (13) (by omega)).trans c_13
  have c_14 := (e_23 (14) (by omega)).trans c_14
  have c_15 := (e_23 (15) (by omega)).trans c_15
  have c_16 := (e_23 (16) (by omega)).trans c_16
  have c_17 := (e_23 (17) (by omega)).trans c_17
  have c_18 := (e_23 (18) (by omega)).trans c_18
  have c_19 := (e_23 (19) (by omega)).trans c_19
  have c_20 := n_23
  have c_8 : E23 8 = (.inr (4, [.int (nI 0), .int (nI 0), .int (nI 0), .int (nI 0), .int (nI 0), .int (nI 0), .ref (ad23 9), .ref (ad23 10), .ref (ad23 11), .ref (ad23 12), .ref (ad23 13), .ref (ad23 14), .ref (ad23 15), .ref (ad23 16), .ref (ad23 17), .ref (ad23 18), .ref (ad23 19), .null, .null, .null, .null, .null])) := by rw [a_23 9 (by omega), a_23 10 (by omega), a_23 11 (by omega), a_23 12 (by omega), a_23 13 (by omega), a_23 14 (by omega), a_23 15 (by omega), a_23 16 (by omega), a_23 17 (by omega), a_23 18 (by omega), a_23 19 (by omega)]; exact c_8
  refine zx_putF X hH fp_M_44 hnm rfl (by omega) c_8 (Nat.le_of_ble_eq_true rfl) rfl rfl d_M_init_100 (fun H locs hH => ?_)
  have hH : zw_H g A s.heap s (21) ad23 (va_up E23 (8) (.inr (4, [.int (nI 0), .int (nI 0), .int (nI 0), .int (nI 0), .int (nI 0), .int (nI 0), .ref (ad23 9), .ref (ad23 10), .ref (ad23 11), .ref (ad23 12), .ref (ad23 13), .ref (ad23 14), .ref (ad23 15), .ref (ad23 16), .ref (ad23 17), .ref (ad23 18), .ref (ad23 19), .ref (ad23 20), .null, .null, .null, .null]))) H locs := hH
  obtain ⟨E24, hE24⟩ : ∃ x, x = va_up E23 (8) (.inr (4, [.int (nI 0), .int (nI 0), .int (nI 0), .int (nI 0), .int (nI 0), .int (nI 0), .ref (ad23 9), .ref (ad23 10), .ref (ad23 11), .ref (ad23 12), .ref (ad23 13), .ref (ad23 14), .ref (ad23 15), .ref (ad23 16), .ref (ad23 17), .ref (ad23 18), .ref (ad23 19), .ref (ad23 20), .null, .null, .null, .null])) := ⟨_, rfl⟩
  rw [← hE24] at hH
  have e_24 : ∀ k, k ≠ 8 → E24 k = E23 k := fun k hk => by rw [hE24]; exact va_up_ne _ _ hk
  have c_8 : E24 (8) = (.inr (4, [.int (nI 0), .int (nI 0), .int (nI 0), .int (nI 0), .int (nI 0), .int (nI 0), .ref (ad23 9), .ref (ad23 10), .ref (ad23 11), .ref (ad23 12), .ref (ad23 13), .ref (ad23 14), .ref (ad23 15), .ref (ad23 16), .ref (ad23 17), .ref (ad23 18), .ref (ad23 19), .ref (ad23 20), .null, .null, .null, .null])) := by rw [hE24]; exact va_up_self _ _ _
  have c_9 := (e_24 (9) (by omega)).trans c_9
  have c_10 := (e_24 (10) (by omega)).trans c_10
  have c_11 := (e_24 (11) (by omega)).trans c_11
  have c_12 := (e_24 (12) (by omega)).trans c_12
  have c_13 := (e_24 (13) (by omega)).trans c_13
  have c_14 := (e_24 (14) (by omega)).trans c_14
  have c_15 := (e_24 (15) (by omega)).trans c_15
  have c_16 := (e_24 (16) (by omega)).trans c_16
  have c_17 := (e_24 (17) (by omega)).trans c_17
  have c_18 := (e_24 (18) (by omega)).trans c_18
  have c_19 := (e_24 (19) (by omega)).trans c_19
  have c_20 := (e_24 (20) (by omega)).trans c_20
  refine lv_aload_n X.1 X.2.1 d_M_init_103 rfl (lv_at hl 0 rfl) ?_
  refine lv_sipush (v := nI 620) X.1 X.2.1 d_M_init_104 (by decide) ?_
  refine zx_newi (j := 620) X hH zw_arrI rfl (by decide) (by dsimp only; omega) (by dsimp only; omega) d_M_init_107 (fun q0 H hH => ?_)
  have hH : zw_H g A s.heap s (21 + 1) (va_up ad23 (21) q0) (va_up E24 (21) (zr_ia g 620 (fun _ => 0))) H _ := hH
  obtain ⟨ad25, had25⟩ : ∃ x, x = va_up ad23 (21) q0 := ⟨_, rfl⟩
  obtain ⟨E25, hE25⟩ : ∃ x, x = va_up E24 (21) (zr_ia g 620 (fun _ => 0)) := ⟨_, rfl⟩
  rw [← had25, ← hE25] at hH
  have a_25 : ∀ k, k < 21 → ad25 k = ad23 k := fun k hk => by rw [had25]; exact va_up_ne _ _ (by omega)
  have e_25 : ∀ k, k ≠ 21 → E25 k = E24 k := fun k hk => by rw [hE25]; exact va_up_ne _ _ hk
  have n_25 : E25 (21) = (zr_ia g 620 (fun _ => 0)) := by rw [hE25]; exact va_up_self _ _ _
  refine W.eq (g2 := F0 m 109 ls [.ref (ad25 (21)), .ref (ad25 (8))]) (by rw [had25, va_up_ne _ _ (show 8 ≠ 21 by omega)]) ?_
  rw [← a_25 (8) (by omega)] at hl
  have c_8 := (e_25 (8) (by omega)).trans c_8
  have c_9 := (e_25 (9) (by omega)).trans c_9
  have c_10 := (e_25 (10) (by omega)).trans c_10
  have c_11 := (e_25 (11) (by omega)).trans c_11
  have c_12 := (e_25 (12) (by omega)).trans c_12
  have c_13 := (e_25 (13) (by omega)).trans c_13
  have c_14 := (e_25 (14) (by omega)).trans c_14
  have c_15 := (e_25 (15) (by omega)).trans c_15
  have c_16 := (e_25 (16) (by omega)).trans c_16
  have c_17 := (e_25 (17) (by omega)).trans c_17
  have c_18 := (e_25 (18) (by omega)).trans c_18
  have c_19 := (e_25 (19) (by omega)).trans c_19
  have c_20 := (e_25 (20) (by omega)).trans c_20
  have c_21 := n_25
  have c_8 : E25 8 = (.inr (4, [.int (nI 0), .int (nI 0), .int (nI 0), .int (nI 0), .int (nI 0), .int (nI 0), .ref (ad25 9), .ref (ad25 10), .ref (ad25 11), .ref (ad25 12), .ref (ad25 13), .ref (ad25 14), .ref (ad25 15), .ref (ad25 16), .ref (ad25 17), .ref (ad25 18), .ref (ad25 19), .ref (ad25 20), .null, .null, .null, .null])) := by rw [a_25 9 (by omega), a_25 10 (by omega), a_25 11 (by omega), a_25 12 (by omega), a_25 13 (by omega), a_25 14 (by omega), a_25 15 (by omega), a_25 16 (by omega), a_25 17 (by omega), a_25 18 (by omega), a_25 19 (by omega), a_25 20 (by omega)]; exact c_8
  refine zx_putF X hH fp_M_47 hnm rfl (by omega) c_8 (Nat.le_of_ble_eq_true rfl) rfl rfl d_M_init_109 (fun H locs hH => ?_)
  have hH : zw_H g A s.heap s (22) ad25 (va_up E25 (8) (.inr (4, [.int (nI 0), .int (nI 0), .int (nI 0), .int (nI 0), .int (nI 0), .int (nI 0), .ref (ad25 9), .ref (ad25 10), .ref (ad25 11), .ref (ad25 12), .ref (ad25 13), .ref (ad25 14), .ref (ad25 15), .ref (ad25 16), .ref (ad25 17), .ref (ad25 18), .ref (ad25 19), .ref (ad25 20), .ref (ad25 21), .null, .null, .null]))) H locs := hH
  obtain ⟨E26, hE26⟩ : ∃ x, x = va_up E25 (8) (.inr (4, [.int (nI 0), .int (nI 0), .int (nI 0), .int (nI 0), .int (nI 0), .int (nI 0), .ref (ad25 9), .ref (ad25 10), .ref (ad25 11), .ref (ad25 12), .ref (ad25 13), .ref (ad25 14), .ref (ad25 15), .ref (ad25 16), .ref (ad25 17), .ref (ad25 18), .ref (ad25 19), .ref (ad25 20), .ref (ad25 21), .null, .null, .null])) := ⟨_, rfl⟩
  rw [← hE26] at hH
  have e_26 : ∀ k, k ≠ 8 → E26 k = E25 k := fun k hk => by rw [hE26]; exact va_up_ne _ _ hk
  have c_8 : E26 (8) = (.inr (4, [.int (nI 0), .int (nI 0), .int (nI 0), .int (nI 0), .int (nI 0), .int (nI 0), .ref (ad25 9), .ref (ad25 10), .ref (ad25 11), .ref (ad25 12), .ref (ad25 13), .ref (ad25 14), .ref (ad25 15), .ref (ad25 16), .ref (ad25 17), .ref (ad25 18), .ref (ad25 19), .ref (ad25 20), .ref (ad25 21), .null, .null, .null])) := by rw [hE26]; exact va_up_self _ _ _
  have c_9 := (e_26 (9) (by omega)).trans c_9
  have c_10 := (e_26 (10) (by omega)).trans c_10
  have c_11 := (e_26 (11) (by omega)).trans c_11
  have c_12 := (e_26 (12) (by omega)).trans c_12
  have c_13 := (e_26 (13) (by omega)).trans c_13
  have c_14 := (e_26 (14) (by omega)).trans c_14
  have c_15 := (e_26 (15) (by omega)).trans c_15
  have c_16 := (e_26 (16) (by omega)).trans c_16
  have c_17 := (e_26 (17) (by omega)).trans c_17
  have c_18 := (e_26 (18) (by omega)).trans c_18
  have c_19 := (e_26 (19) (by omega)).trans c_19
  have c_20 := (e_26 (20) (by omega)).trans c_20
  have c_21 := (e_26 (21) (by omega)).trans c_21
  refine lv_aload_n X.1 X.2.1 d_M_init_112 rfl (lv_at hl 0 rfl) ?_
  refine lv_sipush (v := nI 600) X.1 X.2.1 d_M_init_113 (by decide) ?_
  refine zx_newi (j := 600) X hH zw_arrI rfl (by decide) (by dsimp only; omega) (by dsimp only; omega) d_M_init_116 (fun q0 H hH => ?_)
  have hH : zw_H g A s.heap s (22 + 1) (va_up ad25 (22) q0) (va_up E26 (22) (zr_ia g 600 (fun _ => 0))) H _ := hH
  obtain ⟨ad27, had27⟩ : ∃ x, x = va_up ad25 (22) q0 := ⟨_, rfl⟩
  obtain ⟨E27, hE27⟩ : ∃ x, x = va_up E26 (22) (zr_ia g 600 (fun _ => 0)) := ⟨_, rfl⟩
  rw [← had27, ← hE27] at hH
  have a_27 : ∀ k, k < 22 → ad27 k = ad25 k := fun k hk => by rw [had27]; exact va_up_ne _ _ (by omega)
  have e_27 : ∀ k, k ≠ 22 → E27 k = E26 k := fun k hk => by rw [hE27]; exact va_up_ne _ _ hk
  have n_27 : E27 (22) = (zr_ia g 600 (fun _ => 0)) := by rw [hE27]; exact va_up_self _ _ _
  refine W.eq (g2 := F0 m 118 ls [.ref (ad27 (22)), .ref (ad27 (8))]) (by rw [had27, va_up_ne _ _ (show 8 ≠ 22 by omega)]) ?_
  rw [← a_27 (8) (by omega)] at hl
  have c_8 := (e_27 (8) (by omega)).trans c_8
  have c_9 := (e_27 (9) (by omega)).trans c_9
  have c_10 := (e_27 (10) (by omega)).trans c_10
  have c_11 := (e_27 (11) (by omega)).trans c_11
  have c_12 := (e_27 (12) (by omega)).trans c_12
  have c_13 := (e_27 (13) (by omega)).trans c_13
  have c_14 := (e_27 (14) (by omega)).trans c_14
  have c_15 := (e_27 (15) (by omega)).trans c_15
  have c_16 := (e_27 (16) (by omega)).trans c_16
  have c_17 := (e_27 (17) (by omega)).trans c_17
  have c_18 := (e_27 (18) (by omega)).trans c_18
  have c_19 := (e_27 (19) (by omega)).trans c_19
  have c_20 := (e_27 (20) (by omega)).trans c_20
  have c_21 := (e_27 (21) (by omega)).trans c_21
  have c_22 := n_27
  have c_8 : E27 8 = (.inr (4, [.int (nI 0), .int (nI 0), .int (nI 0), .int (nI 0), .int (nI 0), .int (nI 0), .ref (ad27 9), .ref (ad27 10), .ref (ad27 11), .ref (ad27 12), .ref (ad27 13), .ref (ad27 14), .ref (ad27 15), .ref (ad27 16), .ref (ad27 17), .ref (ad27 18), .ref (ad27 19), .ref (ad27 20), .ref (ad27 21), .null, .null, .null])) := by rw [a_27 9 (by omega), a_27 10 (by omega), a_27 11 (by omega), a_27 12 (by omega), a_27 13 (by omega), a_27 14 (by omega), a_27 15 (by omega), a_27 16 (by omega), a_27 17 (by omega), a_27 18 (by omega), a_27 19 (by omega), a_27 20 (by omega), a_27 21 (by omega)]; exact c_8
  refine zx_putF X hH fp_M_50 hnm rfl (by omega) c_8 (Nat.le_of_ble_eq_true rfl) rfl rfl d_M_init_118 (fun H locs hH => ?_)
  have hH : zw_H g A s.heap s (23) ad27 (va_up E27 (8) (.inr (4, [.int (nI 0), .int (nI 0), .int (nI 0), .int (nI 0), .int (nI 0), .int (nI 0), .ref (ad27 9), .ref (ad27 10), .ref (ad27 11), .ref (ad27 12), .ref (ad27 13), .ref (ad27 14), .ref (ad27 15), .ref (ad27 16), .ref (ad27 17), .ref (ad27 18), .ref (ad27 19), .ref (ad27 20), .ref (ad27 21), .ref (ad27 22), .null, .null]))) H locs := hH
  obtain ⟨E28, hE28⟩ : ∃ x, x = va_up E27 (8) (.inr (4, [.int (nI 0), .int (nI 0), .int (nI 0), .int (nI 0), .int (nI 0), .int (nI 0), .ref (ad27 9), .ref (ad27 10), .ref (ad27 11), .ref (ad27 12), .ref (ad27 13), .ref (ad27 14), .ref (ad27 15), .ref (ad27 16), .ref (ad27 17), .ref (ad27 18), .ref (ad27 19), .ref (ad27 20), .ref (ad27 21), .ref (ad27 22), .null, .null])) := ⟨_, rfl⟩
  rw [← hE28] at hH
  have e_28 : ∀ k, k ≠ 8 → E28 k = E27 k := fun k hk => by rw [hE28]; exact va_up_ne _ _ hk
  have c_8 : E28 (8) = (.inr (4, [.int (nI 0), .int (nI 0), .int (nI 0), .int (nI 0), .int (nI 0), .int (nI 0), .ref (ad27 9), .ref (ad27 10), .ref (ad27 11), .ref (ad27 12), .ref (ad27 13), .ref (ad27 14), .ref (ad27 15), .ref (ad27 16), .ref (ad27 17), .ref (ad27 18), .ref (ad27 19), .ref (ad27 20), .ref (ad27 21), .ref (ad27 22), .null, .null])) := by rw [hE28]; exact va_up_self _ _ _
  have c_9 := (e_28 (9) (by omega)).trans c_9
  have c_10 := (e_28 (10) (by omega)).trans c_10
  have c_11 := (e_28 (11) (by omega)).trans c_11
  have c_12 := (e_28 (12) (by omega)).trans c_12
  have c_13 := (e_28 (13) (by omega)).trans c_13
  have c_14 := (e_28 (14) (by omega)).trans c_14
  have c_15 := (e_28 (15) (by omega)).trans c_15
  have c_16 := (e_28 (16) (by omega)).trans c_16
  have c_17 := (e_28 (17) (by omega)).trans c_17
  have c_18 := (e_28 (18) (by omega)).trans c_18
  have c_19 := (e_28 (19) (by omega)).trans c_19
  have c_20 := (e_28 (20) (by omega)).trans c_20
  have c_21 := (e_28 (21) (by omega)).trans c_21
  have c_22 := (e_28 (22) (by omega)).trans c_22
  refine lv_aload_n X.1 X.2.1 d_M_init_121 rfl (lv_at hl 0 rfl) ?_
  refine lv_bipush (v := nI 16) X.1 X.2.1 d_M_init_122 (by decide) ?_
  refine zx_newi (j := 16) X hH zw_arrI rfl (by decide) (by dsimp only; omega) (by dsimp only; omega) d_M_init_124 (fun q0 H hH => ?_)
  have hH : zw_H g A s.heap s (23 + 1) (va_up ad27 (23) q0) (va_up E28 (23) (zr_ia g 16 (fun _ => 0))) H _ := hH
  obtain ⟨ad29, had29⟩ : ∃ x, x = va_up ad27 (23) q0 := ⟨_, rfl⟩
  obtain ⟨E29, hE29⟩ : ∃ x, x = va_up E28 (23) (zr_ia g 16 (fun _ => 0)) := ⟨_, rfl⟩
  rw [← had29, ← hE29] at hH
  have a_29 : ∀ k, k < 23 → ad29 k = ad27 k := fun k hk => by rw [had29]; exact va_up_ne _ _ (by omega)
  have e_29 : ∀ k, k ≠ 23 → E29 k = E28 k := fun k hk => by rw [hE29]; exact va_up_ne _ _ hk
  have n_29 : E29 (23) = (zr_ia g 16 (fun _ => 0)) := by rw [hE29]; exact va_up_self _ _ _
  refine W.eq (g2 := F0 m 126 ls [.ref (ad29 (23)), .ref (ad29 (8))]) (by rw [had29, va_up_ne _ _ (show 8 ≠ 23 by omega)]) ?_
  rw [← a_29 (8) (by omega)] at hl
  have c_8 := (e_29 (8) (by omega)).trans c_8
  have c_9 := (e_29 (9) (by omega)).trans c_9
  have c_10 := (e_29 (10) (by omega)).trans c_10
  have c_11 := (e_29 (11) (by omega)).trans c_11
  have c_12 := (e_29 (12) (by omega)).trans c_12
  have c_13 := (e_29 (13) (by omega)).trans c_13
  have c_14 := (e_29 (14) (by omega)).trans c_14
  have c_15 := (e_29 (15) (by omega)).trans c_15
  have c_16 := (e_29 (16) (by omega)).trans c_16
  have c_17 := (e_29 (17) (by omega)).trans c_17
  have c_18 := (e_29 (18) (by omega)).trans c_18
  have c_19 := (e_29 (19) (by omega)).trans c_19
  have c_20 := (e_29 (20) (by omega)).trans c_20
  have c_21 := (e_29 (21) (by omega)).trans c_21
  have c_22 := (e_29 (22) (by omega)).trans c_22
  have c_23 := n_29
  have c_8 : E29 8 = (.inr (4, [.int (nI 0), .int (nI 0), .int (nI 0), .int (nI 0), .int (nI 0), .int (nI 0), .ref (ad29 9), .ref (ad29 10), .ref (ad29 11), .ref (ad29 12), .ref (ad29 13), .ref (ad29 14), .ref (ad29 15), .ref (ad29 16), .ref (ad29 17), .ref (ad29 18), .ref (ad29 19), .ref (ad29 20), .ref (ad29 21), .ref (ad29 22), .null, .null])) := by rw [a_29 9 (by omega), a_29 10 (by omega), a_29 11 (by omega), a_29 12 (by omega), a_29 13 (by omega), a_29 14 (by omega), a_29 15 (by omega), a_29 16 (by omega), a_29 17 (by omega), a_29 18 (by omega), a_29 19 (by omega), a_29 20 (by omega), a_29 21 (by omega), a_29 22 (by omega)]; exact c_8
  refine zx_putF X hH fp_M_53 hnm rfl (by omega) c_8 (Nat.le_of_ble_eq_true rfl) rfl rfl d_M_init_126 (fun H locs hH => ?_)
  have hH : zw_H g A s.heap s (24) ad29 (va_up E29 (8) (.inr (4, [.int (nI 0), .int (nI 0), .int (nI 0), .int (nI 0), .int (nI 0), .int (nI 0), .ref (ad29 9), .ref (ad29 10), .ref (ad29 11), .ref (ad29 12), .ref (ad29 13), .ref (ad29 14), .ref (ad29 15), .ref (ad29 16), .ref (ad29 17), .ref (ad29 18), .ref (ad29 19), .ref (ad29 20), .ref (ad29 21), .ref (ad29 22), .ref (ad29 23), .null]))) H locs := hH
  obtain ⟨E30, hE30⟩ : ∃ x, x = va_up E29 (8) (.inr (4, [.int (nI 0), .int (nI 0), .int (nI 0), .int (nI 0), .int (nI 0), .int (nI 0), .ref (ad29 9), .ref (ad29 10), .ref (ad29 11), .ref (ad29 12), .ref (ad29 13), .ref (ad29 14), .ref (ad29 15), .ref (ad29 16), .ref (ad29 17), .ref (ad29 18), .ref (ad29 19), .ref (ad29 20), .ref (ad29 21), .ref (ad29 22), .ref (ad29 23), .null])) := ⟨_, rfl⟩
  rw [← hE30] at hH
  have e_30 : ∀ k, k ≠ 8 → E30 k = E29 k := fun k hk => by rw [hE30]; exact va_up_ne _ _ hk
  have c_8 : E30 (8) = (.inr (4, [.int (nI 0), .int (nI 0), .int (nI 0), .int (nI 0), .int (nI 0), .int (nI 0), .ref (ad29 9), .ref (ad29 10), .ref (ad29 11), .ref (ad29 12), .ref (ad29 13), .ref (ad29 14), .ref (ad29 15), .ref (ad29 16), .ref (ad29 17), .ref (ad29 18), .ref (ad29 19), .ref (ad29 20), .ref (ad29 21), .ref (ad29 22), .ref (ad29 23), .null])) := by rw [hE30]; exact va_up_self _ _ _
  have c_9 := (e_30 (9) (by omega)).trans c_9
  have c_10 := (e_30 (10) (by omega)).trans c_10
  have c_11 := (e_30 (11) (by omega)).trans c_11
  have c_12 := (e_30 (12) (by omega)).trans c_12
  have c_13 := (e_30 (13) (by omega)).trans c_13
  have c_14 := (e_30 (14) (by omega)).trans c_14
  have c_15 := (e_30 (15) (by omega)).trans c_15
  have c_16 := (e_30 (16) (by omega)).trans c_16
  have c_17 := (e_30 (17) (by omega)).trans c_17
  have c_18 := (e_30 (18) (by omega)).trans c_18
  have c_19 := (e_30 (19) (by omega)).trans c_19
  have c_20 := (e_30 (20) (by omega)).trans c_20
  have c_21 := (e_30 (21) (by omega)).trans c_21
  have c_22 := (e_30 (22) (by omega)).trans c_22
  have c_23 := (e_30 (23) (by omega)).trans c_23
  refine lv_aload_n X.1 X.2.1 d_M_init_129 rfl (lv_at hl 0 rfl) ?_
  refine lv_sipush (v := nI 3100) X.1 X.2.1 d_M_init_130 (by decide) ?_
  refine zx_newi (j := 3100) X hH zw_arrI rfl (by decide) (by dsimp only; omega) (by dsimp only; omega) d_M_init_133 (fun q0 H hH => ?_)
  have hH : zw_H g A s.heap s (24 + 1) (va_up ad29 (24) q0) (va_up E30 (24) (zr_ia g 3100 (fun _ => 0))) H _ := hH
  obtain ⟨ad31, had31⟩ : ∃ x, x = va_up ad29 (24) q0 := ⟨_, rfl⟩
  obtain ⟨E31, hE31⟩ : ∃ x, x = va_up E30 (24) (zr_ia g 3100 (fun _ => 0)) := ⟨_, rfl⟩
  rw [← had31, ← hE31] at hH
  have a_31 : ∀ k, k < 24 → ad31 k = ad29 k := fun k hk => by rw [had31]; exact va_up_ne _ _ (by omega)
  have e_31 : ∀ k, k ≠ 24 → E31 k = E30 k := fun k hk => by rw [hE31]; exact va_up_ne _ _ hk
  have n_31 : E31 (24) = (zr_ia g 3100 (fun _ => 0)) := by rw [hE31]; exact va_up_self _ _ _
  refine W.eq (g2 := F0 m 135 ls [.ref (ad31 (24)), .ref (ad31 (8))]) (by rw [had31, va_up_ne _ _ (show 8 ≠ 24 by omega)]) ?_
  rw [← a_31 (8) (by omega)] at hl
  have c_8 := (e_31 (8) (by omega)).trans c_8
  have c_9 := (e_31 (9) (by omega)).trans c_9
  have c_10 := (e_31 (10) (by omega)).trans c_10
  have c_11 := (e_31 (11) (by omega)).trans c_11
  have c_12 := (e_31 (12) (by omega)).trans c_12
  have c_13 := (e_31 (13) (by omega)).trans c_13
  have c_14 := (e_31 (14) (by omega)).trans c_14
  have c_15 := (e_31 (15) (by omega)).trans c_15
  have c_16 := (e_31 (16) (by omega)).trans c_16
  have c_17 := (e_31 (17) (by omega)).trans c_17
  have c_18 := (e_31 (18) (by omega)).trans c_18
  have c_19 := (e_31 (19) (by omega)).trans c_19
  have c_20 := (e_31 (20) (by omega)).trans c_20
  have c_21 := (e_31 (21) (by omega)).trans c_21
  have c_22 := (e_31 (22) (by omega)).trans c_22
  have c_23 := (e_31 (23) (by omega)).trans c_23
  have c_24 := n_31
  have c_8 : E31 8 = (.inr (4, [.int (nI 0), .int (nI 0), .int (nI 0), .int (nI 0), .int (nI 0), .int (nI 0), .ref (ad31 9), .ref (ad31 10), .ref (ad31 11), .ref (ad31 12), .ref (ad31 13), .ref (ad31 14), .ref (ad31 15), .ref (ad31 16), .ref (ad31 17), .ref (ad31 18), .ref (ad31 19), .ref (ad31 20), .ref (ad31 21), .ref (ad31 22), .ref (ad31 23), .null])) := by rw [a_31 9 (by omega), a_31 10 (by omega), a_31 11 (by omega), a_31 12 (by omega), a_31 13 (by omega), a_31 14 (by omega), a_31 15 (by omega), a_31 16 (by omega), a_31 17 (by omega), a_31 18 (by omega), a_31 19 (by omega), a_31 20 (by omega), a_31 21 (by omega), a_31 22 (by omega), a_31 23 (by omega)]; exact c_8
  refine zx_putF X hH fp_M_56 hnm rfl (by omega) c_8 (Nat.le_of_ble_eq_true rfl) rfl rfl d_M_init_135 (fun H locs hH => ?_)
  have hH : zw_H g A s.heap s (25) ad31 (va_up E31 (8) (.inr (4, [.int (nI 0), .int (nI 0), .int (nI 0), .int (nI 0), .int (nI 0), .int (nI 0), .ref (ad31 9), .ref (ad31 10), .ref (ad31 11), .ref (ad31 12), .ref (ad31 13), .ref (ad31 14), .ref (ad31 15), .ref (ad31 16), .ref (ad31 17), .ref (ad31 18), .ref (ad31 19), .ref (ad31 20), .ref (ad31 21), .ref (ad31 22), .ref (ad31 23), .ref (ad31 24)]))) H locs := hH
  obtain ⟨E32, hE32⟩ : ∃ x, x = va_up E31 (8) (.inr (4, [.int (nI 0), .int (nI 0), .int (nI 0), .int (nI 0), .int (nI 0), .int (nI 0), .ref (ad31 9), .ref (ad31 10), .ref (ad31 11), .ref (ad31 12), .ref (ad31 13), .ref (ad31 14), .ref (ad31 15), .ref (ad31 16), .ref (ad31 17), .ref (ad31 18), .ref (ad31 19), .ref (ad31 20), .ref (ad31 21), .ref (ad31 22), .ref (ad31 23), .ref (ad31 24)])) := ⟨_, rfl⟩
  rw [← hE32] at hH
  have e_32 : ∀ k, k ≠ 8 → E32 k = E31 k := fun k hk => by rw [hE32]; exact va_up_ne _ _ hk
  have c_8 : E32 (8) = (.inr (4, [.int (nI 0), .int (nI 0), .int (nI 0), .int (nI 0), .int (nI 0), .int (nI 0), .ref (ad31 9), .ref (ad31 10), .ref (ad31 11), .ref (ad31 12), .ref (ad31 13), .ref (ad31 14), .ref (ad31 15), .ref (ad31 16), .ref (ad31 17), .ref (ad31 18), .ref (ad31 19), .ref (ad31 20), .ref (ad31 21), .ref (ad31 22), .ref (ad31 23), .ref (ad31 24)])) := by rw [hE32]; exact va_up_self _ _ _
  have c_9 := (e_32 (9) (by omega)).trans c_9
  have c_10 := (e_32 (10) (by omega)).trans c_10
  have c_11 := (e_32 (11) (by omega)).trans c_11
  have c_12 := (e_32 (12) (by omega)).trans c_12
  have c_13 := (e_32 (13) (by omega)).trans c_13
  have c_14 := (e_32 (14) (by omega)).trans c_14
  have c_15 := (e_32 (15) (by omega)).trans c_15
  have c_16 := (e_32 (16) (by omega)).trans c_16
  have c_17 := (e_32 (17) (by omega)).trans c_17
  have c_18 := (e_32 (18) (by omega)).trans c_18
  have c_19 := (e_32 (19) (by omega)).trans c_19
  have c_20 := (e_32 (20) (by omega)).trans c_20
  have c_21 := (e_32 (21) (by omega)).trans c_21
  have c_22 := (e_32 (22) (by omega)).trans c_22
  have c_23 := (e_32 (23) (by omega)).trans c_23
  have c_24 := (e_32 (24) (by omega)).trans c_24
  exact zx_vret X hr hlk hH (by dsimp only; omega) (by dsimp only; omega) d_M_init_138 ⟨rfl, fun k hk => by rw [a_31 k (by omega), a_29 k (by omega), a_27 k (by omega), a_25 k (by omega), a_23 k (by omega), a_21 k (by omega), a_19 k (by omega), a_17 k (by omega), a_15 k (by omega), a_13 k (by omega), a_11 k (by omega), a_9 k (by omega), a_7 k (by omega), a_5 k (by omega), a_3 k (by omega), a_1 k (by omega)], ⟨c_8, c_9.trans (by rw [zm_c_0]), c_10.trans (by rw [zm_c_0]), c_11.trans (by rw [zm_c_0]), c_12.trans (by rw [zm_c_0]), c_13.trans (by rw [zm_c_0]), c_14.trans (by rw [zm_c_0]), c_15.trans (by rw [zm_c_0]), c_16.trans (by rw [zm_c_0]), c_17.trans (by rw [zm_c_0]), c_18.trans (by rw [zm_w_0]), c_19.trans (by rw [zm_d_0]), c_20.trans (by rw [zm_w_0]), c_21.trans (by rw [zm_w_0]), c_22, c_23, c_24⟩, fun k hk => by rw [e_32 k (by omega), e_31 k (by omega), e_30 k (by omega), e_29 k (by omega), e_28 k (by omega), e_27 k (by omega), e_26 k (by omega), e_25 k (by omega), e_24 k (by omega), e_23 k (by omega), e_22 k (by omega), e_21 k (by omega), e_20 k (by omega), e_19 k (by omega), e_18 k (by omega), e_17 k (by omega), e_16 k (by omega), e_15 k (by omega), e_14 k (by omega), e_13 k (by omega), e_12 k (by omega), e_11 k (by omega), e_10 k (by omega), e_9 k (by omega), e_8 k (by omega), e_7 k (by omega), e_6 k (by omega), e_5 k (by omega), e_4 k (by omega), e_3 k (by omega), e_2 k (by omega), e_1 k (by omega)]⟩
end
