-- ===== PART A: goes FIRST, ahead of the names: the tables' words, and 'selects' of the private methods out of them =====
/-- a private method of a class that the tables say can be made, by its rows of tables_1 -/
def lw_okq (q : MethodName × Nat) : Prop := (q.1.cls ≠ "java/lang/invoke/MethodHandle" ∧ q.1.cls ≠ "java/lang/invoke/VarHandle") ∧ Cond.instantiable q.1.cls q.2 ∈ tables_1 ∧ Cond.privateMethod q.1 ∈ tables_1 ∧ Cond.instanceMethod q.1 ∈ tables_1
theorem lw_p0 : lw_okq (⟨"RegionThreads", "find", "(I)LRegionThreads$Region;"⟩, 7) := ⟨⟨by decide +kernel, by decide +kernel⟩, List.mem_of_getElem? (i := 10) (by decide +kernel), List.mem_of_getElem? (i := 131) (by decide +kernel), List.mem_of_getElem? (i := 132) (by decide +kernel)⟩
theorem lw_p1 : lw_okq (⟨"RegionThreads", "giveTurn", "(I)I"⟩, 7) := ⟨⟨by decide +kernel, by decide +kernel⟩, List.mem_of_getElem? (i := 10) (by decide +kernel), List.mem_of_getElem? (i := 195) (by decide +kernel), List.mem_of_getElem? (i := 196) (by decide +kernel)⟩
theorem lw_p2 : lw_okq (⟨"RegionThreads$Region", "halfOf", "(I)I"⟩, 13) := ⟨⟨by decide +kernel, by decide +kernel⟩, List.mem_of_getElem? (i := 73) (by decide +kernel), List.mem_of_getElem? (i := 207) (by decide +kernel), List.mem_of_getElem? (i := 208) (by decide +kernel)⟩
theorem lw_p3 : lw_okq (⟨"RegionThreads$Region", "endAs", "(I)V"⟩, 13) := ⟨⟨by decide +kernel, by decide +kernel⟩, List.mem_of_getElem? (i := 73) (by decide +kernel), List.mem_of_getElem? (i := 219) (by decide +kernel), List.mem_of_getElem? (i := 220) (by decide +kernel)⟩
theorem lw_p4 : lw_okq (⟨"RegionThreads$Region", "takeWaitsAt", "(ILRegionThreads$Events;)Z"⟩, 13) := ⟨⟨by decide +kernel, by decide +kernel⟩, List.mem_of_getElem? (i := 73) (by decide +kernel), List.mem_of_getElem? (i := 223) (by decide +kernel), List.mem_of_getElem? (i := 224) (by decide +kernel)⟩
theorem lw_p5 : lw_okq (⟨"RegionThreads$Region", "doStep", "(I)V"⟩, 13) := ⟨⟨by decide +kernel, by decide +kernel⟩, List.mem_of_getElem? (i := 73) (by decide +kernel), List.mem_of_getElem? (i := 231) (by decide +kernel), List.mem_of_getElem? (i := 232) (by decide +kernel)⟩
theorem lw_p6 : lw_okq (⟨"RegionThreads", "giveRounds", "()V"⟩, 7) := ⟨⟨by decide +kernel, by decide +kernel⟩, List.mem_of_getElem? (i := 10) (by decide +kernel), List.mem_of_getElem? (i := 260) (by decide +kernel), List.mem_of_getElem? (i := 261) (by decide +kernel)⟩
theorem lw_p7 : lw_okq (⟨"RegionThreads", "giveOneRound", "()Z"⟩, 7) := ⟨⟨by decide +kernel, by decide +kernel⟩, List.mem_of_getElem? (i := 10) (by decide +kernel), List.mem_of_getElem? (i := 264) (by decide +kernel), List.mem_of_getElem? (i := 265) (by decide +kernel)⟩
theorem lw_p8 : lw_okq (⟨"RegionThreads", "cancelThoseThatMay", "()V"⟩, 7) := ⟨⟨by decide +kernel, by decide +kernel⟩, List.mem_of_getElem? (i := 10) (by decide +kernel), List.mem_of_getElem? (i := 268) (by decide +kernel), List.mem_of_getElem? (i := 269) (by decide +kernel)⟩
theorem lw_p9 : lw_okq (⟨"RegionThreads", "countOpenUnits", "()I"⟩, 7) := ⟨⟨by decide +kernel, by decide +kernel⟩, List.mem_of_getElem? (i := 10) (by decide +kernel), List.mem_of_getElem? (i := 274) (by decide +kernel), List.mem_of_getElem? (i := 275) (by decide +kernel)⟩
theorem lw_p10 : lw_okq (⟨"RegionThreads", "leaveAll", "()V"⟩, 7) := ⟨⟨by decide +kernel, by decide +kernel⟩, List.mem_of_getElem? (i := 10) (by decide +kernel), List.mem_of_getElem? (i := 279) (by decide +kernel), List.mem_of_getElem? (i := 280) (by decide +kernel)⟩
theorem lw_p11 : lw_okq (⟨"RegionThreads", "countGoingOn", "()I"⟩, 7) := ⟨⟨by decide +kernel, by decide +kernel⟩, List.mem_of_getElem? (i := 10) (by decide +kernel), List.mem_of_getElem? (i := 299) (by decide +kernel), List.mem_of_getElem? (i := 300) (by decide +kernel)⟩
theorem lw_p12 : lw_okq (⟨"RegionThreadsModel", "isRegion", "(I)Z"⟩, 22) := ⟨⟨by decide +kernel, by decide +kernel⟩, List.mem_of_getElem? (i := 311) (by decide +kernel), List.mem_of_getElem? (i := 392) (by decide +kernel), List.mem_of_getElem? (i := 393) (by decide +kernel)⟩
theorem lw_p13 : lw_okq (⟨"RegionThreadsModel", "goes", "(I)I"⟩, 22) := ⟨⟨by decide +kernel, by decide +kernel⟩, List.mem_of_getElem? (i := 311) (by decide +kernel), List.mem_of_getElem? (i := 415) (by decide +kernel), List.mem_of_getElem? (i := 416) (by decide +kernel)⟩
theorem lw_p14 : lw_okq (⟨"RegionThreadsModel", "isBetween", "(I)Z"⟩, 22) := ⟨⟨by decide +kernel, by decide +kernel⟩, List.mem_of_getElem? (i := 311) (by decide +kernel), List.mem_of_getElem? (i := 419) (by decide +kernel), List.mem_of_getElem? (i := 420) (by decide +kernel)⟩
theorem lw_p15 : lw_okq (⟨"RegionThreadsModel", "end", "(II)V"⟩, 22) := ⟨⟨by decide +kernel, by decide +kernel⟩, List.mem_of_getElem? (i := 311) (by decide +kernel), List.mem_of_getElem? (i := 423) (by decide +kernel), List.mem_of_getElem? (i := 424) (by decide +kernel)⟩
def lw_privs_1 : List (MethodName × Nat) := [(⟨"RegionThreads", "find", "(I)LRegionThreads$Region;"⟩, 7), (⟨"RegionThreads", "giveTurn", "(I)I"⟩, 7), (⟨"RegionThreads$Region", "halfOf", "(I)I"⟩, 13), (⟨"RegionThreads$Region", "endAs", "(I)V"⟩, 13), (⟨"RegionThreads$Region", "takeWaitsAt", "(ILRegionThreads$Events;)Z"⟩, 13), (⟨"RegionThreads$Region", "doStep", "(I)V"⟩, 13), (⟨"RegionThreads", "giveRounds", "()V"⟩, 7), (⟨"RegionThreads", "giveOneRound", "()Z"⟩, 7), (⟨"RegionThreads", "cancelThoseThatMay", "()V"⟩, 7), (⟨"RegionThreads", "countOpenUnits", "()I"⟩, 7), (⟨"RegionThreads", "leaveAll", "()V"⟩, 7), (⟨"RegionThreads", "countGoingOn", "()I"⟩, 7), (⟨"RegionThreadsModel", "isRegion", "(I)Z"⟩, 22), (⟨"RegionThreadsModel", "goes", "(I)I"⟩, 22), (⟨"RegionThreadsModel", "isBetween", "(I)Z"⟩, 22), (⟨"RegionThreadsModel", "end", "(II)V"⟩, 22)]
theorem lw_r1 : ∀ q ∈ lw_privs_1, lw_okq q := List.forall_mem_cons.mpr ⟨lw_p0, List.forall_mem_cons.mpr ⟨lw_p1, List.forall_mem_cons.mpr ⟨lw_p2, List.forall_mem_cons.mpr ⟨lw_p3, List.forall_mem_cons.mpr ⟨lw_p4, List.forall_mem_cons.mpr ⟨lw_p5, List.forall_mem_cons.mpr ⟨lw_p6, List.forall_mem_cons.mpr ⟨lw_p7, List.forall_mem_cons.mpr ⟨lw_p8, List.forall_mem_cons.mpr ⟨lw_p9, List.forall_mem_cons.mpr ⟨lw_p10, List.forall_mem_cons.mpr ⟨lw_p11, List.forall_mem_cons.mpr ⟨lw_p12, List.forall_mem_cons.mpr ⟨lw_p13, List.forall_mem_cons.mpr ⟨lw_p14, List.forall_mem_cons.mpr ⟨lw_p15, fun _ h => absurd h List.not_mem_nil⟩⟩⟩⟩⟩⟩⟩⟩⟩⟩⟩⟩⟩⟩⟩⟩
theorem lw_p16 : lw_okq (⟨"RegionThreadsModel", "isFree", "(I)Z"⟩, 22) := ⟨⟨by decide +kernel, by decide +kernel⟩, List.mem_of_getElem? (i := 311) (by decide +kernel), List.mem_of_getElem? (i := 427) (by decide +kernel), List.mem_of_getElem? (i := 428) (by decide +kernel)⟩
theorem lw_p17 : lw_okq (⟨"RegionThreadsModel", "leave", "(I)I"⟩, 22) := ⟨⟨by decide +kernel, by decide +kernel⟩, List.mem_of_getElem? (i := 311) (by decide +kernel), List.mem_of_getElem? (i := 439) (by decide +kernel), List.mem_of_getElem? (i := 440) (by decide +kernel)⟩
def lw_privs_2 : List (MethodName × Nat) := [(⟨"RegionThreadsModel", "isFree", "(I)Z"⟩, 22), (⟨"RegionThreadsModel", "leave", "(I)I"⟩, 22)]
theorem lw_r2 : ∀ q ∈ lw_privs_2, lw_okq q := List.forall_mem_cons.mpr ⟨lw_p16, List.forall_mem_cons.mpr ⟨lw_p17, fun _ h => absurd h List.not_mem_nil⟩⟩
def lw_privs : List (MethodName × Nat) := lw_privs_1 ++ (lw_privs_2)
def lw_tbl : List Cond := k2_sels lw_privs ++ tables_1
theorem lw_privs_ok : ∀ q ∈ lw_privs, lw_okq q := by
  show ∀ q ∈ lw_privs_1 ++ (lw_privs_2), lw_okq q
  exact List.forall_mem_append.mpr ⟨lw_r1, lw_r2⟩

/-- the words that go on from a method to those that it calls -/
def zt_U : List Cond := lw_tbl.filter goodWord
theorem zt_in {w : Cond} (h : w ∈ lw_tbl) (hg : goodWord w = true) : w ∈ zt_U := List.mem_filter.mpr ⟨h, hg⟩
theorem zt_good : ∀ w ∈ zt_U, (w.onTables && w.keeps) = true ∨ ∃ ty, w = .arrayClass ty := fun w h => good_of_word (List.mem_filter.mp h).2
-- the names: classes, fields in the order of the slots, methods
def zN_V : String := "RegionThreads$Events"
def zT_V : u_T := fun k => match k with
  | _ => ("RegionThreads$Events", "postings", "[I", true)
def zY_V : Nat → FieldType := fun k => match k with
  | _ => .array .int
theorem zI_V : ∀ w ∈ u_ws zN_V zT_V 1, w ∈ zt_U := by decide +kernel
theorem zD_V : ∀ a, a < 1 → ∀ b, b < 1 → a ≠ b → (zT_V a).2.1 ≠ (zT_V b).2.1 := by decide +kernel
theorem zP_V : ∀ k, k < 1 → parseFieldDescriptor (zT_V k).2.2.1 = some (zY_V k) := by decide +kernel
def zN_R : String := "RegionThreads$Region"
def zT_R : u_T := fun k => match k with
  | 0 => ("RegionThreads$Region", "steps", "I", true)
  | 1 => ("RegionThreads$Region", "failsAt", "I", true)
  | 2 => ("RegionThreads$Region", "state", "I", false)
  | 3 => ("RegionThreads$Region", "stepsDone", "I", false)
  | 4 => ("RegionThreads$Region", "latestEnd", "I", false)
  | 5 => ("RegionThreads$Region", "stepsBackedOut", "I", false)
  | 6 => ("RegionThreads$Region", "timesCleaned", "I", false)
  | 7 => ("RegionThreads$Region", "toBeCancelled", "Z", false)
  | 8 => ("RegionThreads$Region", "waitCount", "I", false)
  | 9 => ("RegionThreads$Region", "waitStep", "[I", true)
  | 10 => ("RegionThreads$Region", "waitEvent", "[I", true)
  | 11 => ("RegionThreads$Region", "waitTaken", "[Z", true)
  | _ => ("RegionThreads$Region", "half", "[I", true)
def zY_R : Nat → FieldType := fun k => match k with
  | 0 => .int
  | 1 => .int
  | 2 => .int
  | 3 => .int
  | 4 => .int
  | 5 => .int
  | 6 => .int
  | 7 => .boolean
  | 8 => .int
  | 9 => .array .int
  | 10 => .array .int
  | 11 => .array .boolean
  | _ => .array .int
theorem zI_R : ∀ w ∈ u_ws zN_R zT_R 13, w ∈ zt_U := by decide +kernel
theorem zD_R : ∀ a, a < 13 → ∀ b, b < 13 → a ≠ b → (zT_R a).2.1 ≠ (zT_R b).2.1 := by decide +kernel
theorem zP_R : ∀ k, k < 13 → parseFieldDescriptor (zT_R k).2.2.1 = some (zY_R k) := by decide +kernel
def zN_O : String := "RegionThreads$Row"
def zT_O : u_T := fun k => match k with
  | 0 => ("RegionThreads$Row", "limit", "I", true)
  | 1 => ("RegionThreads$Row", "numbers", "[I", false)
  | _ => ("RegionThreads$Row", "length", "I", false)
def zY_O : Nat → FieldType := fun k => match k with
  | 0 => .int
  | 1 => .array .int
  | _ => .int
theorem zI_O : ∀ w ∈ u_ws zN_O zT_O 3, w ∈ zt_U := by decide +kernel
theorem zD_O : ∀ a, a < 3 → ∀ b, b < 3 → a ≠ b → (zT_O a).2.1 ≠ (zT_O b).2.1 := by decide +kernel
theorem zP_O : ∀ k, k < 3 → parseFieldDescriptor (zT_O k).2.2.1 = some (zY_O k) := by decide +kernel
def zN_X : String := "RegionThreads"
def zT_X : u_T := fun k => match k with
  | 0 => ("RegionThreads", "regions", "[LRegionThreads$Region;", true)
  | 1 => ("RegionThreads", "events", "LRegionThreads$Events;", true)
  | 2 => ("RegionThreads", "schedule", "LRegionThreads$Row;", true)
  | 3 => ("RegionThreads", "entries", "LRegionThreads$Row;", true)
  | 4 => ("RegionThreads", "regionCount", "I", false)
  | 5 => ("RegionThreads", "turnsPassedOver", "I", false)
  | _ => ("RegionThreads", "closed", "Z", false)
def zY_X : Nat → FieldType := fun k => match k with
  | 0 => .array (.object "RegionThreads$Region")
  | 1 => .object "RegionThreads$Events"
  | 2 => .object "RegionThreads$Row"
  | 3 => .object "RegionThreads$Row"
  | 4 => .int
  | 5 => .int
  | _ => .boolean
theorem zI_X : ∀ w ∈ u_ws zN_X zT_X 7, w ∈ zt_U := by decide +kernel
theorem zD_X : ∀ a, a < 7 → ∀ b, b < 7 → a ≠ b → (zT_X a).2.1 ≠ (zT_X b).2.1 := by decide +kernel
theorem zP_X : ∀ k, k < 7 → parseFieldDescriptor (zT_X k).2.2.1 = some (zY_X k) := by decide +kernel
def zN_M : String := "RegionThreadsModel"
def zT_M : u_T := fun k => match k with
  | 0 => ("RegionThreadsModel", "code", "I", false)
  | 1 => ("RegionThreadsModel", "regions", "I", false)
  | 2 => ("RegionThreadsModel", "turns", "I", false)
  | 3 => ("RegionThreadsModel", "logged", "I", false)
  | 4 => ("RegionThreadsModel", "passed", "I", false)
  | 5 => ("RegionThreadsModel", "closed", "Z", false)
  | 6 => ("RegionThreadsModel", "steps", "[I", true)
  | 7 => ("RegionThreadsModel", "fails", "[I", true)
  | 8 => ("RegionThreadsModel", "states", "[I", true)
  | 9 => ("RegionThreadsModel", "done", "[I", true)
  | 10 => ("RegionThreadsModel", "ends", "[I", true)
  | 11 => ("RegionThreadsModel", "cleaned", "[I", true)
  | 12 => ("RegionThreadsModel", "backed", "[I", true)
  | 13 => ("RegionThreadsModel", "many", "[I", true)
  | 14 => ("RegionThreadsModel", "told", "[Z", true)
  | 15 => ("RegionThreadsModel", "taken", "[Z", true)
  | 16 => ("RegionThreadsModel", "decisions", "[I", true)
  | 17 => ("RegionThreadsModel", "waitSteps", "[I", true)
  | 18 => ("RegionThreadsModel", "waitOns", "[I", true)
  | 19 => ("RegionThreadsModel", "schedule", "[I", true)
  | 20 => ("RegionThreadsModel", "postings", "[I", true)
  | _ => ("RegionThreadsModel", "log", "[I", true)
def zY_M : Nat → FieldType := fun k => match k with
  | 0 => .int
  | 1 => .int
  | 2 => .int
  | 3 => .int
  | 4 => .int
  | 5 => .boolean
  | 6 => .array .int
  | 7 => .array .int
  | 8 => .array .int
  | 9 => .array .int
  | 10 => .array .int
  | 11 => .array .int
  | 12 => .array .int
  | 13 => .array .int
  | 14 => .array .boolean
  | 15 => .array .boolean
  | 16 => .array .int
  | 17 => .array .int
  | 18 => .array .int
  | 19 => .array .int
  | 20 => .array .int
  | _ => .array .int
theorem zI_M : ∀ w ∈ u_ws zN_M zT_M 22, w ∈ zt_U := by decide +kernel
theorem zD_M : ∀ a, a < 22 → ∀ b, b < 22 → a ≠ b → (zT_M a).2.1 ≠ (zT_M b).2.1 := by decide +kernel
theorem zP_M : ∀ k, k < 22 → parseFieldDescriptor (zT_M k).2.2.1 = some (zY_M k) := by decide +kernel
def zN_L : String := "RegionThreadsLaw"
def zN_J : String := "java/util/Arrays"
def zN_K : String := "java/lang/Math"
abbrev vwCl : List vw_C := [(zN_V, zT_V, 1), (zN_R, zT_R, 13), (zN_O, zT_O, 3), (zN_X, zT_X, 7), (zN_M, zT_M, 22)]
def zw_ty (g : va_G × (Nat → ClassId)) : List (ClassId × FieldType) := [(g.2 0, .int), (g.2 1, .boolean), (g.2 2, .object "RegionThreads$Region")]
abbrev b_X_init : ByteArray := prog_1_method_1_code
def y_X_init : MethodName := ⟨"RegionThreads", "<init>", "()V"⟩
abbrev b_V_init : ByteArray := prog_2_method_1_code
def y_V_init : MethodName := ⟨"RegionThreads$Events", "<init>", "()V"⟩
abbrev b_O_init : ByteArray := prog_4_method_1_code
def y_O_init : MethodName := ⟨"RegionThreads$Row", "<init>", "(I)V"⟩
abbrev b_X_region : ByteArray := prog_1_method_2_code
def y_X_region : MethodName := ⟨"RegionThreads", "region", "(II)I"⟩
abbrev b_R_init : ByteArray := prog_3_method_1_code
def y_R_init : MethodName := ⟨"RegionThreads$Region", "<init>", "(II)V"⟩
abbrev b_X_waits : ByteArray := prog_1_method_3_code
def y_X_waits : MethodName := ⟨"RegionThreads", "waits", "(III)I"⟩
abbrev b_X_find : ByteArray := prog_1_method_17_code
def y_X_find : MethodName := ⟨"RegionThreads", "find", "(I)LRegionThreads$Region;"⟩
abbrev b_X_isEvent : ByteArray := prog_1_method_18_code
def y_X_isEvent : MethodName := ⟨"RegionThreads", "isEvent", "(I)Z"⟩
abbrev b_R_isAheadOf : ByteArray := prog_3_method_3_code
def y_R_isAheadOf : MethodName := ⟨"RegionThreads$Region", "isAheadOf", "(I)Z"⟩
abbrev b_R_goesOn : ByteArray := prog_3_method_2_code
def y_R_goesOn : MethodName := ⟨"RegionThreads$Region", "goesOn", "()Z"⟩
abbrev b_R_addWait : ByteArray := prog_3_method_6_code
def y_R_addWait : MethodName := ⟨"RegionThreads$Region", "addWait", "(II)Z"⟩
abbrev b_X_post : ByteArray := prog_1_method_4_code
def y_X_post : MethodName := ⟨"RegionThreads", "post", "(I)I"⟩
abbrev b_V_addPosting : ByteArray := prog_2_method_2_code
def y_V_addPosting : MethodName := ⟨"RegionThreads$Events", "addPosting", "(I)V"⟩
abbrev b_V_untaken : ByteArray := prog_2_method_4_code
def y_V_untaken : MethodName := ⟨"RegionThreads$Events", "untaken", "(I)I"⟩
abbrev b_X_turn : ByteArray := prog_1_method_5_code
def y_X_turn : MethodName := ⟨"RegionThreads", "turn", "(I)V"⟩
abbrev b_O_append : ByteArray := prog_4_method_2_code
def y_O_append : MethodName := ⟨"RegionThreads$Row", "append", "(I)V"⟩
abbrev b_J_copyOf : ByteArray := prog_10_method_123_code
def y_J_copyOf : MethodName := ⟨"java/util/Arrays", "copyOf", "([II)[I"⟩
abbrev b_K_min : ByteArray := prog_8_method_69_code
def y_K_min : MethodName := ⟨"java/lang/Math", "min", "(II)I"⟩
abbrev b_X_run : ByteArray := prog_1_method_6_code
def y_X_run : MethodName := ⟨"RegionThreads", "run", "()I"⟩
abbrev b_O_at : ByteArray := prog_4_method_3_code
def y_O_at : MethodName := ⟨"RegionThreads$Row", "at", "(I)I"⟩
abbrev b_X_giveTurn : ByteArray := prog_1_method_19_code
def y_X_giveTurn : MethodName := ⟨"RegionThreads", "giveTurn", "(I)I"⟩
abbrev b_R_takeTurn : ByteArray := prog_3_method_8_code
def y_R_takeTurn : MethodName := ⟨"RegionThreads$Region", "takeTurn", "(LRegionThreads$Events;)I"⟩
abbrev b_R_isInsideDecision : ByteArray := prog_3_method_4_code
def y_R_isInsideDecision : MethodName := ⟨"RegionThreads$Region", "isInsideDecision", "()Z"⟩
abbrev b_R_halfOf : ByteArray := prog_3_method_13_code
def y_R_halfOf : MethodName := ⟨"RegionThreads$Region", "halfOf", "(I)I"⟩
abbrev b_R_backOut : ByteArray := prog_3_method_9_code
def y_R_backOut : MethodName := ⟨"RegionThreads$Region", "backOut", "(I)V"⟩
abbrev b_R_openSteps : ByteArray := prog_3_method_5_code
def y_R_openSteps : MethodName := ⟨"RegionThreads$Region", "openSteps", "()I"⟩
abbrev b_R_endAs : ByteArray := prog_3_method_11_code
def y_R_endAs : MethodName := ⟨"RegionThreads$Region", "endAs", "(I)V"⟩
abbrev b_R_takeWaitsAt : ByteArray := prog_3_method_12_code
def y_R_takeWaitsAt : MethodName := ⟨"RegionThreads$Region", "takeWaitsAt", "(ILRegionThreads$Events;)Z"⟩
abbrev b_V_takePosting : ByteArray := prog_2_method_3_code
def y_V_takePosting : MethodName := ⟨"RegionThreads$Events", "takePosting", "(I)Z"⟩
abbrev b_R_doStep : ByteArray := prog_3_method_10_code
def y_R_doStep : MethodName := ⟨"RegionThreads$Region", "doStep", "(I)V"⟩
abbrev b_O_makeEmpty : ByteArray := prog_4_method_4_code
def y_O_makeEmpty : MethodName := ⟨"RegionThreads$Row", "makeEmpty", "()V"⟩
abbrev b_X_log : ByteArray := prog_1_method_7_code
def y_X_log : MethodName := ⟨"RegionThreads", "log", "(I)I"⟩
abbrev b_X_cancel : ByteArray := prog_1_method_8_code
def y_X_cancel : MethodName := ⟨"RegionThreads", "cancel", "(I)Z"⟩
abbrev b_X_cleaned : ByteArray := prog_1_method_9_code
def y_X_cleaned : MethodName := ⟨"RegionThreads", "cleaned", "(I)I"⟩
abbrev b_X_backed : ByteArray := prog_1_method_10_code
def y_X_backed : MethodName := ⟨"RegionThreads", "backed", "(I)I"⟩
abbrev b_X_shutdown : ByteArray := prog_1_method_11_code
def y_X_shutdown : MethodName := ⟨"RegionThreads", "shutdown", "(Z)I"⟩
abbrev b_X_giveRounds : ByteArray := prog_1_method_20_code
def y_X_giveRounds : MethodName := ⟨"RegionThreads", "giveRounds", "()V"⟩
abbrev b_X_giveOneRound : ByteArray := prog_1_method_21_code
def y_X_giveOneRound : MethodName := ⟨"RegionThreads", "giveOneRound", "()Z"⟩
abbrev b_X_cancelThoseThatMay : ByteArray := prog_1_method_22_code
def y_X_cancelThoseThatMay : MethodName := ⟨"RegionThreads", "cancelThoseThatMay", "()V"⟩
abbrev b_X_countOpenUnits : ByteArray := prog_1_method_23_code
def y_X_countOpenUnits : MethodName := ⟨"RegionThreads", "countOpenUnits", "()I"⟩
abbrev b_X_leaveAll : ByteArray := prog_1_method_25_code
def y_X_leaveAll : MethodName := ⟨"RegionThreads", "leaveAll", "()V"⟩
abbrev b_X_decision : ByteArray := prog_1_method_12_code
def y_X_decision : MethodName := ⟨"RegionThreads", "decision", "(II)I"⟩
abbrev b_R_addDecision : ByteArray := prog_3_method_7_code
def y_R_addDecision : MethodName := ⟨"RegionThreads$Region", "addDecision", "(I)Z"⟩
abbrev b_X_finished : ByteArray := prog_1_method_13_code
def y_X_finished : MethodName := ⟨"RegionThreads", "finished", "(I)I"⟩
abbrev b_X_close : ByteArray := prog_1_method_14_code
def y_X_close : MethodName := ⟨"RegionThreads", "close", "()I"⟩
abbrev b_X_countGoingOn : ByteArray := prog_1_method_24_code
def y_X_countGoingOn : MethodName := ⟨"RegionThreads", "countGoingOn", "()I"⟩
abbrev b_X_count : ByteArray := prog_1_method_15_code
def y_X_count : MethodName := ⟨"RegionThreads", "count", "(I)I"⟩
abbrev b_X_done : ByteArray := prog_1_method_16_code
def y_X_done : MethodName := ⟨"RegionThreads", "done", "(I)I"⟩
abbrev b_M_init : ByteArray := prog_6_method_1_code
def y_M_init : MethodName := ⟨"RegionThreadsModel", "<init>", "()V"⟩
abbrev b_M_region : ByteArray := prog_6_method_4_code
def y_M_region : MethodName := ⟨"RegionThreadsModel", "region", "(II)I"⟩
abbrev b_M_waits : ByteArray := prog_6_method_5_code
def y_M_waits : MethodName := ⟨"RegionThreadsModel", "waits", "(III)I"⟩
abbrev b_M_isRegion : ByteArray := prog_6_method_3_code
def y_M_isRegion : MethodName := ⟨"RegionThreadsModel", "isRegion", "(I)Z"⟩
abbrev b_M_post : ByteArray := prog_6_method_6_code
def y_M_post : MethodName := ⟨"RegionThreadsModel", "post", "(I)I"⟩
abbrev b_M_turn : ByteArray := prog_6_method_7_code
def y_M_turn : MethodName := ⟨"RegionThreadsModel", "turn", "(I)V"⟩
abbrev b_M_decision : ByteArray := prog_6_method_9_code
def y_M_decision : MethodName := ⟨"RegionThreadsModel", "decision", "(II)I"⟩
abbrev b_M_of : ByteArray := prog_6_method_8_code
def y_M_of : MethodName := ⟨"RegionThreadsModel", "of", "(II)I"⟩
abbrev b_M_run : ByteArray := prog_6_method_14_code
def y_M_run : MethodName := ⟨"RegionThreadsModel", "run", "()I"⟩
abbrev b_M_goes : ByteArray := prog_6_method_13_code
def y_M_goes : MethodName := ⟨"RegionThreadsModel", "goes", "(I)I"⟩
abbrev b_M_isBetween : ByteArray := prog_6_method_10_code
def y_M_isBetween : MethodName := ⟨"RegionThreadsModel", "isBetween", "(I)Z"⟩
abbrev b_M_end : ByteArray := prog_6_method_11_code
def y_M_end : MethodName := ⟨"RegionThreadsModel", "end", "(II)V"⟩
abbrev b_M_isFree : ByteArray := prog_6_method_12_code
def y_M_isFree : MethodName := ⟨"RegionThreadsModel", "isFree", "(I)Z"⟩
abbrev b_M_cancel : ByteArray := prog_6_method_15_code
def y_M_cancel : MethodName := ⟨"RegionThreadsModel", "cancel", "(I)Z"⟩
abbrev b_M_shutdown : ByteArray := prog_6_method_17_code
def y_M_shutdown : MethodName := ⟨"RegionThreadsModel", "shutdown", "(Z)I"⟩
abbrev b_M_leave : ByteArray := prog_6_method_16_code
def y_M_leave : MethodName := ⟨"RegionThreadsModel", "leave", "(I)I"⟩
abbrev b_M_close : ByteArray := prog_6_method_18_code
def y_M_close : MethodName := ⟨"RegionThreadsModel", "close", "()I"⟩
abbrev b_M_log : ByteArray := prog_6_method_19_code
def y_M_log : MethodName := ⟨"RegionThreadsModel", "log", "(I)I"⟩
abbrev b_M_cleaned : ByteArray := prog_6_method_20_code
def y_M_cleaned : MethodName := ⟨"RegionThreadsModel", "cleaned", "(I)I"⟩
abbrev b_M_backed : ByteArray := prog_6_method_21_code
def y_M_backed : MethodName := ⟨"RegionThreadsModel", "backed", "(I)I"⟩
abbrev b_M_finished : ByteArray := prog_6_method_22_code
def y_M_finished : MethodName := ⟨"RegionThreadsModel", "finished", "(I)I"⟩
abbrev b_M_done : ByteArray := prog_6_method_23_code
def y_M_done : MethodName := ⟨"RegionThreadsModel", "done", "(I)I"⟩
abbrev b_M_count : ByteArray := prog_6_method_24_code
def y_M_count : MethodName := ⟨"RegionThreadsModel", "count", "(I)I"⟩
abbrev b_L_law : ByteArray := code
