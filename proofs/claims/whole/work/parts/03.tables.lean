-- what the tables say of each field link, of each call
theorem zq_link : True := trivial
theorem fg_X_11 : zf_g zN_X 11 3 zN_X zT_X 7 0 := ⟨rfl, zI_X, by decide, (zt_in (List.mem_of_getElem? (i := 65) (by decide +kernel)) rfl)⟩
theorem fp_X_11 : zf_p zN_X 11 3 zN_X zT_X 7 0 true (.array (.object "RegionThreads$Region")) := ⟨fg_X_11, ⟨zY_X, zP_X⟩, zD_X, rfl, by decide +kernel⟩
theorem zb_V_init : zm_b y_V_init b_V_init 1 (none) 0 := ⟨(zt_in (List.mem_of_getElem? (i := 20) (by decide +kernel)) rfl), (zt_in (List.mem_of_getElem? (i := 41) (by decide +kernel)) rfl), by decide, by decide, by decide +kernel⟩
theorem zh_X_17 : Cond.methodLinkNest zN_X 17 y_V_init "RegionThreads" ∈ lw_tbl := (List.mem_of_getElem? (i := 39) (by decide +kernel))
theorem mi_X_17 : zm_iN y_V_init b_V_init 1 0 := ⟨zb_V_init, (zt_in (List.mem_of_getElem? (i := 40) (by decide +kernel)) rfl), rfl⟩
theorem fg_X_18 : zf_g zN_X 18 3 zN_X zT_X 7 1 := ⟨rfl, zI_X, by decide, (zt_in (List.mem_of_getElem? (i := 66) (by decide +kernel)) rfl)⟩
theorem fp_X_18 : zf_p zN_X 18 3 zN_X zT_X 7 1 true (.object "RegionThreads$Events") := ⟨fg_X_18, ⟨zY_X, zP_X⟩, zD_X, rfl, by decide +kernel⟩
theorem zb_O_init : zm_b y_O_init b_O_init 2 (none) 1 := ⟨(zt_in (List.mem_of_getElem? (i := 21) (by decide +kernel)) rfl), (zt_in (List.mem_of_getElem? (i := 52) (by decide +kernel)) rfl), by decide, by decide, by decide +kernel⟩
theorem mi_X_24 : zm_i zN_X 24 y_O_init b_O_init 2 1 := ⟨zb_O_init, (zt_in (List.mem_of_getElem? (i := 50) (by decide +kernel)) rfl), (zt_in (List.mem_of_getElem? (i := 51) (by decide +kernel)) rfl), rfl⟩
theorem fg_X_27 : zf_g zN_X 27 3 zN_X zT_X 7 2 := ⟨rfl, zI_X, by decide, (zt_in (List.mem_of_getElem? (i := 67) (by decide +kernel)) rfl)⟩
theorem fp_X_27 : zf_p zN_X 27 3 zN_X zT_X 7 2 true (.object "RegionThreads$Row") := ⟨fg_X_27, ⟨zY_X, zP_X⟩, zD_X, rfl, by decide +kernel⟩
theorem fg_X_31 : zf_g zN_X 31 3 zN_X zT_X 7 3 := ⟨rfl, zI_X, by decide, (zt_in (List.mem_of_getElem? (i := 68) (by decide +kernel)) rfl)⟩
theorem fp_X_31 : zf_p zN_X 31 3 zN_X zT_X 7 3 true (.object "RegionThreads$Row") := ⟨fg_X_31, ⟨zY_X, zP_X⟩, zD_X, rfl, by decide +kernel⟩
theorem fg_X_34 : zf_g zN_X 34 3 zN_X zT_X 7 6 := ⟨rfl, zI_X, by decide, (zt_in (List.mem_of_getElem? (i := 71) (by decide +kernel)) rfl)⟩
theorem fp_X_34 : zf_p zN_X 34 3 zN_X zT_X 7 6 false (.boolean) := ⟨fg_X_34, ⟨zY_X, zP_X⟩, zD_X, rfl, by decide +kernel⟩
theorem fg_X_38 : zf_g zN_X 38 3 zN_X zT_X 7 4 := ⟨rfl, zI_X, by decide, (zt_in (List.mem_of_getElem? (i := 69) (by decide +kernel)) rfl)⟩
theorem fp_X_38 : zf_p zN_X 38 3 zN_X zT_X 7 4 false (.int) := ⟨fg_X_38, ⟨zY_X, zP_X⟩, zD_X, rfl, by decide +kernel⟩
theorem zb_R_init : zm_b y_R_init b_R_init 3 (none) 2 := ⟨(zt_in (List.mem_of_getElem? (i := 23) (by decide +kernel)) rfl), (zt_in (List.mem_of_getElem? (i := 94) (by decide +kernel)) rfl), by decide, by decide, by decide +kernel⟩
theorem mi_X_42 : zm_i zN_X 42 y_R_init b_R_init 3 2 := ⟨zb_R_init, (zt_in (List.mem_of_getElem? (i := 92) (by decide +kernel)) rfl), (zt_in (List.mem_of_getElem? (i := 93) (by decide +kernel)) rfl), rfl⟩
theorem zb_X_find : zm_b y_X_find b_X_find 2 (some (.object "RegionThreads$Region")) 1 := ⟨(zt_in (List.mem_of_getElem? (i := 19) (by decide +kernel)) rfl), (zt_in (List.mem_of_getElem? (i := 151) (by decide +kernel)) rfl), by decide, by decide, by decide +kernel⟩
theorem mv_X_45 : zm_v zN_X 45 y_X_find b_X_find 2 (some (.object "RegionThreads$Region")) 1 := ⟨zb_X_find, (zt_in (List.mem_of_getElem? (i := 148) (by decide +kernel)) rfl), (zt_in (List.mem_of_getElem? (i := 150) (by decide +kernel)) rfl), (zt_in (List.mem_of_getElem? (i := 0) (by decide +kernel)) rfl)⟩
theorem fg_X_49 : zf_g zN_X 49 1 zN_R zT_R 13 0 := ⟨rfl, zI_R, by decide, (zt_in (List.mem_of_getElem? (i := 97) (by decide +kernel)) rfl)⟩
theorem fp_X_49 : zf_p zN_X 49 1 zN_R zT_R 13 0 true (.int) := ⟨fg_X_49, ⟨zY_R, zP_R⟩, zD_R, rfl, by decide +kernel⟩
theorem zb_X_isEvent : zm_b y_X_isEvent b_X_isEvent 1 (some .boolean) 1 := ⟨(zt_in (List.mem_of_getElem? (i := 19) (by decide +kernel)) rfl), (zt_in (List.mem_of_getElem? (i := 154) (by decide +kernel)) rfl), by decide, by decide, by decide +kernel⟩
theorem ms_X_52 : zm_s zN_X 52 y_X_isEvent b_X_isEvent 1 (some .boolean) 1 := ⟨zb_X_isEvent, (zt_in (List.mem_of_getElem? (i := 152) (by decide +kernel)) rfl), (zt_in (List.mem_of_getElem? (i := 153) (by decide +kernel)) rfl)⟩
theorem zb_R_isAheadOf : zm_b y_R_isAheadOf b_R_isAheadOf 2 (some .boolean) 1 := ⟨(zt_in (List.mem_of_getElem? (i := 23) (by decide +kernel)) rfl), (zt_in (List.mem_of_getElem? (i := 158) (by decide +kernel)) rfl), by decide, by decide, by decide +kernel⟩
theorem mv_X_56 : zm_v zN_X 56 y_R_isAheadOf b_R_isAheadOf 2 (some .boolean) 1 := ⟨zb_R_isAheadOf, (zt_in (List.mem_of_getElem? (i := 155) (by decide +kernel)) rfl), (zt_in (List.mem_of_getElem? (i := 156) (by decide +kernel)) rfl), (zt_in (List.mem_of_getElem? (i := 157) (by decide +kernel)) rfl)⟩
theorem zb_R_addWait : zm_b y_R_addWait b_R_addWait 3 (some .boolean) 2 := ⟨(zt_in (List.mem_of_getElem? (i := 23) (by decide +kernel)) rfl), (zt_in (List.mem_of_getElem? (i := 166) (by decide +kernel)) rfl), by decide, by decide, by decide +kernel⟩
theorem mv_X_59 : zm_v zN_X 59 y_R_addWait b_R_addWait 3 (some .boolean) 2 := ⟨zb_R_addWait, (zt_in (List.mem_of_getElem? (i := 163) (by decide +kernel)) rfl), (zt_in (List.mem_of_getElem? (i := 164) (by decide +kernel)) rfl), (zt_in (List.mem_of_getElem? (i := 165) (by decide +kernel)) rfl)⟩
theorem fg_X_63 : zf_g zN_X 63 1 zN_R zT_R 13 8 := ⟨rfl, zI_R, by decide, (zt_in (List.mem_of_getElem? (i := 110) (by decide +kernel)) rfl)⟩
theorem fp_X_63 : zf_p zN_X 63 1 zN_R zT_R 13 8 false (.int) := ⟨fg_X_63, ⟨zY_R, zP_R⟩, zD_R, rfl, by decide +kernel⟩
theorem zb_V_addPosting : zm_b y_V_addPosting b_V_addPosting 2 (none) 1 := ⟨(zt_in (List.mem_of_getElem? (i := 20) (by decide +kernel)) rfl), (zt_in (List.mem_of_getElem? (i := 174) (by decide +kernel)) rfl), by decide, by decide, by decide +kernel⟩
theorem mv_X_66 : zm_v zN_X 66 y_V_addPosting b_V_addPosting 2 (none) 1 := ⟨zb_V_addPosting, (zt_in (List.mem_of_getElem? (i := 171) (by decide +kernel)) rfl), (zt_in (List.mem_of_getElem? (i := 172) (by decide +kernel)) rfl), (zt_in (List.mem_of_getElem? (i := 173) (by decide +kernel)) rfl)⟩
theorem zb_V_untaken : zm_b y_V_untaken b_V_untaken 2 (some .int) 1 := ⟨(zt_in (List.mem_of_getElem? (i := 20) (by decide +kernel)) rfl), (zt_in (List.mem_of_getElem? (i := 179) (by decide +kernel)) rfl), by decide, by decide, by decide +kernel⟩
theorem mv_X_69 : zm_v zN_X 69 y_V_untaken b_V_untaken 2 (some .int) 1 := ⟨zb_V_untaken, (zt_in (List.mem_of_getElem? (i := 176) (by decide +kernel)) rfl), (zt_in (List.mem_of_getElem? (i := 177) (by decide +kernel)) rfl), (zt_in (List.mem_of_getElem? (i := 178) (by decide +kernel)) rfl)⟩
theorem zb_O_append : zm_b y_O_append b_O_append 2 (none) 1 := ⟨(zt_in (List.mem_of_getElem? (i := 21) (by decide +kernel)) rfl), (zt_in (List.mem_of_getElem? (i := 187) (by decide +kernel)) rfl), by decide, by decide, by decide +kernel⟩
theorem mv_X_73 : zm_v zN_X 73 y_O_append b_O_append 2 (none) 1 := ⟨zb_O_append, (zt_in (List.mem_of_getElem? (i := 184) (by decide +kernel)) rfl), (zt_in (List.mem_of_getElem? (i := 185) (by decide +kernel)) rfl), (zt_in (List.mem_of_getElem? (i := 186) (by decide +kernel)) rfl)⟩
theorem fg_X_76 : zf_g zN_X 76 2 zN_O zT_O 3 2 := ⟨rfl, zI_O, by decide, (zt_in (List.mem_of_getElem? (i := 57) (by decide +kernel)) rfl)⟩
theorem fp_X_76 : zf_p zN_X 76 2 zN_O zT_O 3 2 false (.int) := ⟨fg_X_76, ⟨zY_O, zP_O⟩, zD_O, rfl, by decide +kernel⟩
theorem zb_O_at : zm_b y_O_at b_O_at 2 (some .int) 1 := ⟨(zt_in (List.mem_of_getElem? (i := 21) (by decide +kernel)) rfl), (zt_in (List.mem_of_getElem? (i := 211) (by decide +kernel)) rfl), by decide, by decide, by decide +kernel⟩
theorem mv_X_79 : zm_v zN_X 79 y_O_at b_O_at 2 (some .int) 1 := ⟨zb_O_at, (zt_in (List.mem_of_getElem? (i := 208) (by decide +kernel)) rfl), (zt_in (List.mem_of_getElem? (i := 209) (by decide +kernel)) rfl), (zt_in (List.mem_of_getElem? (i := 210) (by decide +kernel)) rfl)⟩
theorem zb_X_giveTurn : zm_b y_X_giveTurn b_X_giveTurn 4 (some .int) 1 := ⟨(zt_in (List.mem_of_getElem? (i := 19) (by decide +kernel)) rfl), (zt_in (List.mem_of_getElem? (i := 215) (by decide +kernel)) rfl), by decide, by decide, by decide +kernel⟩
theorem mv_X_82 : zm_v zN_X 82 y_X_giveTurn b_X_giveTurn 4 (some .int) 1 := ⟨zb_X_giveTurn, (zt_in (List.mem_of_getElem? (i := 212) (by decide +kernel)) rfl), (zt_in (List.mem_of_getElem? (i := 214) (by decide +kernel)) rfl), (zt_in (List.mem_of_getElem? (i := 1) (by decide +kernel)) rfl)⟩
theorem fg_X_85 : zf_g zN_X 85 3 zN_X zT_X 7 5 := ⟨rfl, zI_X, by decide, (zt_in (List.mem_of_getElem? (i := 70) (by decide +kernel)) rfl)⟩
theorem fp_X_85 : zf_p zN_X 85 3 zN_X zT_X 7 5 false (.int) := ⟨fg_X_85, ⟨zY_X, zP_X⟩, zD_X, rfl, by decide +kernel⟩
theorem zb_O_makeEmpty : zm_b y_O_makeEmpty b_O_makeEmpty 1 (none) 0 := ⟨(zt_in (List.mem_of_getElem? (i := 21) (by decide +kernel)) rfl), (zt_in (List.mem_of_getElem? (i := 255) (by decide +kernel)) rfl), by decide, by decide, by decide +kernel⟩
theorem mv_X_88 : zm_v zN_X 88 y_O_makeEmpty b_O_makeEmpty 1 (none) 0 := ⟨zb_O_makeEmpty, (zt_in (List.mem_of_getElem? (i := 252) (by decide +kernel)) rfl), (zt_in (List.mem_of_getElem? (i := 253) (by decide +kernel)) rfl), (zt_in (List.mem_of_getElem? (i := 254) (by decide +kernel)) rfl)⟩
theorem zb_R_goesOn : zm_b y_R_goesOn b_R_goesOn 1 (some .boolean) 0 := ⟨(zt_in (List.mem_of_getElem? (i := 23) (by decide +kernel)) rfl), (zt_in (List.mem_of_getElem? (i := 162) (by decide +kernel)) rfl), by decide, by decide, by decide +kernel⟩
theorem mv_X_91 : zm_v zN_X 91 y_R_goesOn b_R_goesOn 1 (some .boolean) 0 := ⟨zb_R_goesOn, (zt_in (List.mem_of_getElem? (i := 264) (by decide +kernel)) rfl), (zt_in (List.mem_of_getElem? (i := 160) (by decide +kernel)) rfl), (zt_in (List.mem_of_getElem? (i := 161) (by decide +kernel)) rfl)⟩
theorem fg_X_95 : zf_g zN_X 95 1 zN_R zT_R 13 7 := ⟨rfl, zI_R, by decide, (zt_in (List.mem_of_getElem? (i := 109) (by decide +kernel)) rfl)⟩
theorem fp_X_95 : zf_p zN_X 95 1 zN_R zT_R 13 7 false (.boolean) := ⟨fg_X_95, ⟨zY_R, zP_R⟩, zD_R, rfl, by decide +kernel⟩
theorem fg_X_98 : zf_g zN_X 98 1 zN_R zT_R 13 6 := ⟨rfl, zI_R, by decide, (zt_in (List.mem_of_getElem? (i := 106) (by decide +kernel)) rfl)⟩
theorem fp_X_98 : zf_p zN_X 98 1 zN_R zT_R 13 6 false (.int) := ⟨fg_X_98, ⟨zY_R, zP_R⟩, zD_R, rfl, by decide +kernel⟩
theorem fg_X_101 : zf_g zN_X 101 1 zN_R zT_R 13 5 := ⟨rfl, zI_R, by decide, (zt_in (List.mem_of_getElem? (i := 105) (by decide +kernel)) rfl)⟩
theorem fp_X_101 : zf_p zN_X 101 1 zN_R zT_R 13 5 false (.int) := ⟨fg_X_101, ⟨zY_R, zP_R⟩, zD_R, rfl, by decide +kernel⟩
theorem zb_X_giveRounds : zm_b y_X_giveRounds b_X_giveRounds 3 (none) 0 := ⟨(zt_in (List.mem_of_getElem? (i := 19) (by decide +kernel)) rfl), (zt_in (List.mem_of_getElem? (i := 280) (by decide +kernel)) rfl), by decide, by decide, by decide +kernel⟩
theorem mv_X_104 : zm_v zN_X 104 y_X_giveRounds b_X_giveRounds 3 (none) 0 := ⟨zb_X_giveRounds, (zt_in (List.mem_of_getElem? (i := 277) (by decide +kernel)) rfl), (zt_in (List.mem_of_getElem? (i := 279) (by decide +kernel)) rfl), (zt_in (List.mem_of_getElem? (i := 6) (by decide +kernel)) rfl)⟩
theorem zb_X_cancelThoseThatMay : zm_b y_X_cancelThoseThatMay b_X_cancelThoseThatMay 3 (none) 0 := ⟨(zt_in (List.mem_of_getElem? (i := 19) (by decide +kernel)) rfl), (zt_in (List.mem_of_getElem? (i := 288) (by decide +kernel)) rfl), by decide, by decide, by decide +kernel⟩
theorem mv_X_107 : zm_v zN_X 107 y_X_cancelThoseThatMay b_X_cancelThoseThatMay 3 (none) 0 := ⟨zb_X_cancelThoseThatMay, (zt_in (List.mem_of_getElem? (i := 285) (by decide +kernel)) rfl), (zt_in (List.mem_of_getElem? (i := 287) (by decide +kernel)) rfl), (zt_in (List.mem_of_getElem? (i := 8) (by decide +kernel)) rfl)⟩
theorem zb_X_countOpenUnits : zm_b y_X_countOpenUnits b_X_countOpenUnits 4 (some .int) 0 := ⟨(zt_in (List.mem_of_getElem? (i := 19) (by decide +kernel)) rfl), (zt_in (List.mem_of_getElem? (i := 294) (by decide +kernel)) rfl), by decide, by decide, by decide +kernel⟩
theorem mv_X_110 : zm_v zN_X 110 y_X_countOpenUnits b_X_countOpenUnits 4 (some .int) 0 := ⟨zb_X_countOpenUnits, (zt_in (List.mem_of_getElem? (i := 291) (by decide +kernel)) rfl), (zt_in (List.mem_of_getElem? (i := 293) (by decide +kernel)) rfl), (zt_in (List.mem_of_getElem? (i := 9) (by decide +kernel)) rfl)⟩
theorem zb_X_leaveAll : zm_b y_X_leaveAll b_X_leaveAll 3 (none) 0 := ⟨(zt_in (List.mem_of_getElem? (i := 19) (by decide +kernel)) rfl), (zt_in (List.mem_of_getElem? (i := 299) (by decide +kernel)) rfl), by decide, by decide, by decide +kernel⟩
theorem mv_X_114 : zm_v zN_X 114 y_X_leaveAll b_X_leaveAll 3 (none) 0 := ⟨zb_X_leaveAll, (zt_in (List.mem_of_getElem? (i := 296) (by decide +kernel)) rfl), (zt_in (List.mem_of_getElem? (i := 298) (by decide +kernel)) rfl), (zt_in (List.mem_of_getElem? (i := 10) (by decide +kernel)) rfl)⟩
theorem zb_R_addDecision : zm_b y_R_addDecision b_R_addDecision 2 (some .boolean) 1 := ⟨(zt_in (List.mem_of_getElem? (i := 23) (by decide +kernel)) rfl), (zt_in (List.mem_of_getElem? (i := 307) (by decide +kernel)) rfl), by decide, by decide, by decide +kernel⟩
theorem mv_X_117 : zm_v zN_X 117 y_R_addDecision b_R_addDecision 2 (some .boolean) 1 := ⟨zb_R_addDecision, (zt_in (List.mem_of_getElem? (i := 304) (by decide +kernel)) rfl), (zt_in (List.mem_of_getElem? (i := 305) (by decide +kernel)) rfl), (zt_in (List.mem_of_getElem? (i := 306) (by decide +kernel)) rfl)⟩
theorem fg_X_120 : zf_g zN_X 120 1 zN_R zT_R 13 2 := ⟨rfl, zI_R, by decide, (zt_in (List.mem_of_getElem? (i := 100) (by decide +kernel)) rfl)⟩
theorem fp_X_120 : zf_p zN_X 120 1 zN_R zT_R 13 2 false (.int) := ⟨fg_X_120, ⟨zY_R, zP_R⟩, zD_R, rfl, by decide +kernel⟩
theorem zb_X_countGoingOn : zm_b y_X_countGoingOn b_X_countGoingOn 4 (some .int) 0 := ⟨(zt_in (List.mem_of_getElem? (i := 19) (by decide +kernel)) rfl), (zt_in (List.mem_of_getElem? (i := 319) (by decide +kernel)) rfl), by decide, by decide, by decide +kernel⟩
theorem mv_X_123 : zm_v zN_X 123 y_X_countGoingOn b_X_countGoingOn 4 (some .int) 0 := ⟨zb_X_countGoingOn, (zt_in (List.mem_of_getElem? (i := 316) (by decide +kernel)) rfl), (zt_in (List.mem_of_getElem? (i := 318) (by decide +kernel)) rfl), (zt_in (List.mem_of_getElem? (i := 11) (by decide +kernel)) rfl)⟩
theorem fg_X_126 : zf_g zN_X 126 1 zN_R zT_R 13 3 := ⟨rfl, zI_R, by decide, (zt_in (List.mem_of_getElem? (i := 102) (by decide +kernel)) rfl)⟩
theorem fp_X_126 : zf_p zN_X 126 1 zN_R zT_R 13 3 false (.int) := ⟨fg_X_126, ⟨zY_R, zP_R⟩, zD_R, rfl, by decide +kernel⟩
theorem zb_R_takeTurn : zm_b y_R_takeTurn b_R_takeTurn 3 (some .int) 1 := ⟨(zt_in (List.mem_of_getElem? (i := 23) (by decide +kernel)) rfl), (zt_in (List.mem_of_getElem? (i := 219) (by decide +kernel)) rfl), by decide, by decide, by decide +kernel⟩
theorem mv_X_129 : zm_v zN_X 129 y_R_takeTurn b_R_takeTurn 3 (some .int) 1 := ⟨zb_R_takeTurn, (zt_in (List.mem_of_getElem? (i := 216) (by decide +kernel)) rfl), (zt_in (List.mem_of_getElem? (i := 217) (by decide +kernel)) rfl), (zt_in (List.mem_of_getElem? (i := 218) (by decide +kernel)) rfl)⟩
theorem zb_X_giveOneRound : zm_b y_X_giveOneRound b_X_giveOneRound 3 (some .boolean) 0 := ⟨(zt_in (List.mem_of_getElem? (i := 19) (by decide +kernel)) rfl), (zt_in (List.mem_of_getElem? (i := 284) (by decide +kernel)) rfl), by decide, by decide, by decide +kernel⟩
theorem mv_X_133 : zm_v zN_X 133 y_X_giveOneRound b_X_giveOneRound 3 (some .boolean) 0 := ⟨zb_X_giveOneRound, (zt_in (List.mem_of_getElem? (i := 281) (by decide +kernel)) rfl), (zt_in (List.mem_of_getElem? (i := 283) (by decide +kernel)) rfl), (zt_in (List.mem_of_getElem? (i := 7) (by decide +kernel)) rfl)⟩
theorem zb_R_isInsideDecision : zm_b y_R_isInsideDecision b_R_isInsideDecision 1 (some .boolean) 0 := ⟨(zt_in (List.mem_of_getElem? (i := 23) (by decide +kernel)) rfl), (zt_in (List.mem_of_getElem? (i := 223) (by decide +kernel)) rfl), by decide, by decide, by decide +kernel⟩
theorem mv_X_136 : zm_v zN_X 136 y_R_isInsideDecision b_R_isInsideDecision 1 (some .boolean) 0 := ⟨zb_R_isInsideDecision, (zt_in (List.mem_of_getElem? (i := 289) (by decide +kernel)) rfl), (zt_in (List.mem_of_getElem? (i := 221) (by decide +kernel)) rfl), (zt_in (List.mem_of_getElem? (i := 222) (by decide +kernel)) rfl)⟩
theorem zb_R_backOut : zm_b y_R_backOut b_R_backOut 2 (none) 1 := ⟨(zt_in (List.mem_of_getElem? (i := 23) (by decide +kernel)) rfl), (zt_in (List.mem_of_getElem? (i := 231) (by decide +kernel)) rfl), by decide, by decide, by decide +kernel⟩
theorem mv_X_139 : zm_v zN_X 139 y_R_backOut b_R_backOut 2 (none) 1 := ⟨zb_R_backOut, (zt_in (List.mem_of_getElem? (i := 290) (by decide +kernel)) rfl), (zt_in (List.mem_of_getElem? (i := 229) (by decide +kernel)) rfl), (zt_in (List.mem_of_getElem? (i := 230) (by decide +kernel)) rfl)⟩
theorem zb_R_openSteps : zm_b y_R_openSteps b_R_openSteps 1 (some .int) 0 := ⟨(zt_in (List.mem_of_getElem? (i := 23) (by decide +kernel)) rfl), (zt_in (List.mem_of_getElem? (i := 235) (by decide +kernel)) rfl), by decide, by decide, by decide +kernel⟩
theorem mv_X_142 : zm_v zN_X 142 y_R_openSteps b_R_openSteps 1 (some .int) 0 := ⟨zb_R_openSteps, (zt_in (List.mem_of_getElem? (i := 295) (by decide +kernel)) rfl), (zt_in (List.mem_of_getElem? (i := 233) (by decide +kernel)) rfl), (zt_in (List.mem_of_getElem? (i := 234) (by decide +kernel)) rfl)⟩
theorem fg_M_7 : zf_g zN_M 7 4 zN_M zT_M 22 6 := ⟨rfl, zI_M, by decide, (zt_in (List.mem_of_getElem? (i := 340) (by decide +kernel)) rfl)⟩
theorem fp_M_7 : zf_p zN_M 7 4 zN_M zT_M 22 6 true (.array .int) := ⟨fg_M_7, ⟨zY_M, zP_M⟩, zD_M, rfl, by decide +kernel⟩
theorem fg_M_13 : zf_g zN_M 13 4 zN_M zT_M 22 7 := ⟨rfl, zI_M, by decide, (zt_in (List.mem_of_getElem? (i := 341) (by decide +kernel)) rfl)⟩
theorem fp_M_13 : zf_p zN_M 13 4 zN_M zT_M 22 7 true (.array .int) := ⟨fg_M_13, ⟨zY_M, zP_M⟩, zD_M, rfl, by decide +kernel⟩
theorem fg_M_16 : zf_g zN_M 16 4 zN_M zT_M 22 8 := ⟨rfl, zI_M, by decide, (zt_in (List.mem_of_getElem? (i := 342) (by decide +kernel)) rfl)⟩
theorem fp_M_16 : zf_p zN_M 16 4 zN_M zT_M 22 8 true (.array .int) := ⟨fg_M_16, ⟨zY_M, zP_M⟩, zD_M, rfl, by decide +kernel⟩
theorem fg_M_19 : zf_g zN_M 19 4 zN_M zT_M 22 9 := ⟨rfl, zI_M, by decide, (zt_in (List.mem_of_getElem? (i := 343) (by decide +kernel)) rfl)⟩
theorem fp_M_19 : zf_p zN_M 19 4 zN_M zT_M 22 9 true (.array .int) := ⟨fg_M_19, ⟨zY_M, zP_M⟩, zD_M, rfl, by decide +kernel⟩
theorem fg_M_22 : zf_g zN_M 22 4 zN_M zT_M 22 10 := ⟨rfl, zI_M, by decide, (zt_in (List.mem_of_getElem? (i := 344) (by decide +kernel)) rfl)⟩
theorem fp_M_22 : zf_p zN_M 22 4 zN_M zT_M 22 10 true (.array .int) := ⟨fg_M_22, ⟨zY_M, zP_M⟩, zD_M, rfl, by decide +kernel⟩
theorem fg_M_25 : zf_g zN_M 25 4 zN_M zT_M 22 11 := ⟨rfl, zI_M, by decide, (zt_in (List.mem_of_getElem? (i := 345) (by decide +kernel)) rfl)⟩
theorem fp_M_25 : zf_p zN_M 25 4 zN_M zT_M 22 11 true (.array .int) := ⟨fg_M_25, ⟨zY_M, zP_M⟩, zD_M, rfl, by decide +kernel⟩
theorem fg_M_28 : zf_g zN_M 28 4 zN_M zT_M 22 12 := ⟨rfl, zI_M, by decide, (zt_in (List.mem_of_getElem? (i := 346) (by decide +kernel)) rfl)⟩
theorem fp_M_28 : zf_p zN_M 28 4 zN_M zT_M 22 12 true (.array .int) := ⟨fg_M_28, ⟨zY_M, zP_M⟩, zD_M, rfl, by decide +kernel⟩
theorem fg_M_31 : zf_g zN_M 31 4 zN_M zT_M 22 13 := ⟨rfl, zI_M, by decide, (zt_in (List.mem_of_getElem? (i := 347) (by decide +kernel)) rfl)⟩
theorem fp_M_31 : zf_p zN_M 31 4 zN_M zT_M 22 13 true (.array .int) := ⟨fg_M_31, ⟨zY_M, zP_M⟩, zD_M, rfl, by decide +kernel⟩
theorem fg_M_34 : zf_g zN_M 34 4 zN_M zT_M 22 14 := ⟨rfl, zI_M, by decide, (zt_in (List.mem_of_getElem? (i := 348) (by decide +kernel)) rfl)⟩
theorem fp_M_34 : zf_p zN_M 34 4 zN_M zT_M 22 14 true (.array .boolean) := ⟨fg_M_34, ⟨zY_M, zP_M⟩, zD_M, rfl, by decide +kernel⟩
theorem fg_M_38 : zf_g zN_M 38 4 zN_M zT_M 22 15 := ⟨rfl, zI_M, by decide, (zt_in (List.mem_of_getElem? (i := 349) (by decide +kernel)) rfl)⟩
theorem fp_M_38 : zf_p zN_M 38 4 zN_M zT_M 22 15 true (.array .boolean) := ⟨fg_M_38, ⟨zY_M, zP_M⟩, zD_M, rfl, by decide +kernel⟩
theorem fg_M_41 : zf_g zN_M 41 4 zN_M zT_M 22 16 := ⟨rfl, zI_M, by decide, (zt_in (List.mem_of_getElem? (i := 350) (by decide +kernel)) rfl)⟩
theorem fp_M_41 : zf_p zN_M 41 4 zN_M zT_M 22 16 true (.array .int) := ⟨fg_M_41, ⟨zY_M, zP_M⟩, zD_M, rfl, by decide +kernel⟩
theorem fg_M_44 : zf_g zN_M 44 4 zN_M zT_M 22 17 := ⟨rfl, zI_M, by decide, (zt_in (List.mem_of_getElem? (i := 351) (by decide +kernel)) rfl)⟩
theorem fp_M_44 : zf_p zN_M 44 4 zN_M zT_M 22 17 true (.array .int) := ⟨fg_M_44, ⟨zY_M, zP_M⟩, zD_M, rfl, by decide +kernel⟩
theorem fg_M_47 : zf_g zN_M 47 4 zN_M zT_M 22 18 := ⟨rfl, zI_M, by decide, (zt_in (List.mem_of_getElem? (i := 352) (by decide +kernel)) rfl)⟩
theorem fp_M_47 : zf_p zN_M 47 4 zN_M zT_M 22 18 true (.array .int) := ⟨fg_M_47, ⟨zY_M, zP_M⟩, zD_M, rfl, by decide +kernel⟩
theorem fg_M_50 : zf_g zN_M 50 4 zN_M zT_M 22 19 := ⟨rfl, zI_M, by decide, (zt_in (List.mem_of_getElem? (i := 353) (by decide +kernel)) rfl)⟩
theorem fp_M_50 : zf_p zN_M 50 4 zN_M zT_M 22 19 true (.array .int) := ⟨fg_M_50, ⟨zY_M, zP_M⟩, zD_M, rfl, by decide +kernel⟩
theorem fg_M_53 : zf_g zN_M 53 4 zN_M zT_M 22 20 := ⟨rfl, zI_M, by decide, (zt_in (List.mem_of_getElem? (i := 354) (by decide +kernel)) rfl)⟩
theorem fp_M_53 : zf_p zN_M 53 4 zN_M zT_M 22 20 true (.array .int) := ⟨fg_M_53, ⟨zY_M, zP_M⟩, zD_M, rfl, by decide +kernel⟩
theorem fg_M_56 : zf_g zN_M 56 4 zN_M zT_M 22 21 := ⟨rfl, zI_M, by decide, (zt_in (List.mem_of_getElem? (i := 355) (by decide +kernel)) rfl)⟩
theorem fp_M_56 : zf_p zN_M 56 4 zN_M zT_M 22 21 true (.array .int) := ⟨fg_M_56, ⟨zY_M, zP_M⟩, zD_M, rfl, by decide +kernel⟩
theorem fg_M_63 : zf_g zN_M 63 4 zN_M zT_M 22 1 := ⟨rfl, zI_M, by decide, (zt_in (List.mem_of_getElem? (i := 335) (by decide +kernel)) rfl)⟩
theorem fp_M_63 : zf_p zN_M 63 4 zN_M zT_M 22 1 false (.int) := ⟨fg_M_63, ⟨zY_M, zP_M⟩, zD_M, rfl, by decide +kernel⟩
theorem fg_M_59 : zf_g zN_M 59 4 zN_M zT_M 22 0 := ⟨rfl, zI_M, by decide, (zt_in (List.mem_of_getElem? (i := 334) (by decide +kernel)) rfl)⟩
theorem fp_M_59 : zf_p zN_M 59 4 zN_M zT_M 22 0 false (.int) := ⟨fg_M_59, ⟨zY_M, zP_M⟩, zD_M, rfl, by decide +kernel⟩
theorem fg_M_66 : zf_g zN_M 66 4 zN_M zT_M 22 5 := ⟨rfl, zI_M, by decide, (zt_in (List.mem_of_getElem? (i := 339) (by decide +kernel)) rfl)⟩
theorem fp_M_66 : zf_p zN_M 66 4 zN_M zT_M 22 5 false (.boolean) := ⟨fg_M_66, ⟨zY_M, zP_M⟩, zD_M, rfl, by decide +kernel⟩
theorem zb_M_isRegion : zm_b y_M_isRegion b_M_isRegion 2 (some .boolean) 1 := ⟨(zt_in (List.mem_of_getElem? (i := 22) (by decide +kernel)) rfl), (zt_in (List.mem_of_getElem? (i := 412) (by decide +kernel)) rfl), by decide, by decide, by decide +kernel⟩
theorem mv_M_70 : zm_v zN_M 70 y_M_isRegion b_M_isRegion 2 (some .boolean) 1 := ⟨zb_M_isRegion, (zt_in (List.mem_of_getElem? (i := 409) (by decide +kernel)) rfl), (zt_in (List.mem_of_getElem? (i := 411) (by decide +kernel)) rfl), (zt_in (List.mem_of_getElem? (i := 12) (by decide +kernel)) rfl)⟩
theorem fg_M_74 : zf_g zN_M 74 4 zN_M zT_M 22 2 := ⟨rfl, zI_M, by decide, (zt_in (List.mem_of_getElem? (i := 336) (by decide +kernel)) rfl)⟩
theorem fp_M_74 : zf_p zN_M 74 4 zN_M zT_M 22 2 false (.int) := ⟨fg_M_74, ⟨zY_M, zP_M⟩, zD_M, rfl, by decide +kernel⟩
theorem zb_M_of : zm_b y_M_of b_M_of 2 (some .int) 2 := ⟨(zt_in (List.mem_of_getElem? (i := 22) (by decide +kernel)) rfl), (zt_in (List.mem_of_getElem? (i := 427) (by decide +kernel)) rfl), by decide, by decide, by decide +kernel⟩
theorem ms_M_77 : zm_s zN_M 77 y_M_of b_M_of 2 (some .int) 2 := ⟨zb_M_of, (zt_in (List.mem_of_getElem? (i := 425) (by decide +kernel)) rfl), (zt_in (List.mem_of_getElem? (i := 426) (by decide +kernel)) rfl)⟩
theorem zb_M_isBetween : zm_b y_M_isBetween b_M_isBetween 2 (some .boolean) 1 := ⟨(zt_in (List.mem_of_getElem? (i := 22) (by decide +kernel)) rfl), (zt_in (List.mem_of_getElem? (i := 439) (by decide +kernel)) rfl), by decide, by decide, by decide +kernel⟩
theorem mv_M_81 : zm_v zN_M 81 y_M_isBetween b_M_isBetween 2 (some .boolean) 1 := ⟨zb_M_isBetween, (zt_in (List.mem_of_getElem? (i := 436) (by decide +kernel)) rfl), (zt_in (List.mem_of_getElem? (i := 438) (by decide +kernel)) rfl), (zt_in (List.mem_of_getElem? (i := 14) (by decide +kernel)) rfl)⟩
theorem zb_M_end : zm_b y_M_end b_M_end 3 (none) 2 := ⟨(zt_in (List.mem_of_getElem? (i := 22) (by decide +kernel)) rfl), (zt_in (List.mem_of_getElem? (i := 443) (by decide +kernel)) rfl), by decide, by decide, by decide +kernel⟩
theorem mv_M_84 : zm_v zN_M 84 y_M_end b_M_end 3 (none) 2 := ⟨zb_M_end, (zt_in (List.mem_of_getElem? (i := 440) (by decide +kernel)) rfl), (zt_in (List.mem_of_getElem? (i := 442) (by decide +kernel)) rfl), (zt_in (List.mem_of_getElem? (i := 15) (by decide +kernel)) rfl)⟩
theorem zb_M_isFree : zm_b y_M_isFree b_M_isFree 3 (some .boolean) 1 := ⟨(zt_in (List.mem_of_getElem? (i := 22) (by decide +kernel)) rfl), (zt_in (List.mem_of_getElem? (i := 447) (by decide +kernel)) rfl), by decide, by decide, by decide +kernel⟩
theorem mv_M_88 : zm_v zN_M 88 y_M_isFree b_M_isFree 3 (some .boolean) 1 := ⟨zb_M_isFree, (zt_in (List.mem_of_getElem? (i := 444) (by decide +kernel)) rfl), (zt_in (List.mem_of_getElem? (i := 446) (by decide +kernel)) rfl), (zt_in (List.mem_of_getElem? (i := 16) (by decide +kernel)) rfl)⟩
theorem fg_M_91 : zf_g zN_M 91 4 zN_M zT_M 22 3 := ⟨rfl, zI_M, by decide, (zt_in (List.mem_of_getElem? (i := 337) (by decide +kernel)) rfl)⟩
theorem fp_M_91 : zf_p zN_M 91 4 zN_M zT_M 22 3 false (.int) := ⟨fg_M_91, ⟨zY_M, zP_M⟩, zD_M, rfl, by decide +kernel⟩
theorem zb_M_goes : zm_b y_M_goes b_M_goes 2 (some .int) 1 := ⟨(zt_in (List.mem_of_getElem? (i := 22) (by decide +kernel)) rfl), (zt_in (List.mem_of_getElem? (i := 435) (by decide +kernel)) rfl), by decide, by decide, by decide +kernel⟩
theorem mv_M_94 : zm_v zN_M 94 y_M_goes b_M_goes 2 (some .int) 1 := ⟨zb_M_goes, (zt_in (List.mem_of_getElem? (i := 432) (by decide +kernel)) rfl), (zt_in (List.mem_of_getElem? (i := 434) (by decide +kernel)) rfl), (zt_in (List.mem_of_getElem? (i := 13) (by decide +kernel)) rfl)⟩
theorem fg_M_98 : zf_g zN_M 98 4 zN_M zT_M 22 4 := ⟨rfl, zI_M, by decide, (zt_in (List.mem_of_getElem? (i := 338) (by decide +kernel)) rfl)⟩
theorem fp_M_98 : zf_p zN_M 98 4 zN_M zT_M 22 4 false (.int) := ⟨fg_M_98, ⟨zY_M, zP_M⟩, zD_M, rfl, by decide +kernel⟩
theorem zb_M_leave : zm_b y_M_leave b_M_leave 2 (some .int) 1 := ⟨(zt_in (List.mem_of_getElem? (i := 22) (by decide +kernel)) rfl), (zt_in (List.mem_of_getElem? (i := 459) (by decide +kernel)) rfl), by decide, by decide, by decide +kernel⟩
theorem mv_M_101 : zm_v zN_M 101 y_M_leave b_M_leave 2 (some .int) 1 := ⟨zb_M_leave, (zt_in (List.mem_of_getElem? (i := 456) (by decide +kernel)) rfl), (zt_in (List.mem_of_getElem? (i := 458) (by decide +kernel)) rfl), (zt_in (List.mem_of_getElem? (i := 17) (by decide +kernel)) rfl)⟩
theorem fg_V_9 : zf_g zN_V 9 0 zN_V zT_V 1 0 := ⟨rfl, zI_V, by decide, (zt_in (List.mem_of_getElem? (i := 43) (by decide +kernel)) rfl)⟩
theorem fp_V_9 : zf_p zN_V 9 0 zN_V zT_V 1 0 true (.array .int) := ⟨fg_V_9, ⟨zY_V, zP_V⟩, zD_V, rfl, by decide +kernel⟩
theorem zh_V_15 : Cond.methodLinkNest zN_V 15 y_X_isEvent "RegionThreads" ∈ lw_tbl := (List.mem_of_getElem? (i := 175) (by decide +kernel))
theorem ms_V_15 : zm_sN y_X_isEvent b_X_isEvent 1 (some .boolean) 1 := ⟨zb_X_isEvent, (zt_in (List.mem_of_getElem? (i := 153) (by decide +kernel)) rfl)⟩
theorem fg_R_9 : zf_g zN_R 9 1 zN_R zT_R 13 2 := ⟨rfl, zI_R, by decide, (zt_in (List.mem_of_getElem? (i := 99) (by decide +kernel)) rfl)⟩
theorem fp_R_9 : zf_p zN_R 9 1 zN_R zT_R 13 2 false (.int) := ⟨fg_R_9, ⟨zY_R, zP_R⟩, zD_R, rfl, by decide +kernel⟩
theorem fg_R_15 : zf_g zN_R 15 1 zN_R zT_R 13 9 := ⟨rfl, zI_R, by decide, (zt_in (List.mem_of_getElem? (i := 112) (by decide +kernel)) rfl)⟩
theorem fp_R_15 : zf_p zN_R 15 1 zN_R zT_R 13 9 true (.array .int) := ⟨fg_R_15, ⟨zY_R, zP_R⟩, zD_R, rfl, by decide +kernel⟩
theorem fg_R_19 : zf_g zN_R 19 1 zN_R zT_R 13 10 := ⟨rfl, zI_R, by decide, (zt_in (List.mem_of_getElem? (i := 113) (by decide +kernel)) rfl)⟩
theorem fp_R_19 : zf_p zN_R 19 1 zN_R zT_R 13 10 true (.array .int) := ⟨fg_R_19, ⟨zY_R, zP_R⟩, zD_R, rfl, by decide +kernel⟩
theorem fg_R_22 : zf_g zN_R 22 1 zN_R zT_R 13 11 := ⟨rfl, zI_R, by decide, (zt_in (List.mem_of_getElem? (i := 114) (by decide +kernel)) rfl)⟩
theorem fp_R_22 : zf_p zN_R 22 1 zN_R zT_R 13 11 true (.array .boolean) := ⟨fg_R_22, ⟨zY_R, zP_R⟩, zD_R, rfl, by decide +kernel⟩
theorem fg_R_26 : zf_g zN_R 26 1 zN_R zT_R 13 12 := ⟨rfl, zI_R, by decide, (zt_in (List.mem_of_getElem? (i := 115) (by decide +kernel)) rfl)⟩
theorem fp_R_26 : zf_p zN_R 26 1 zN_R zT_R 13 12 true (.array .int) := ⟨fg_R_26, ⟨zY_R, zP_R⟩, zD_R, rfl, by decide +kernel⟩
theorem fg_R_29 : zf_g zN_R 29 1 zN_R zT_R 13 0 := ⟨rfl, zI_R, by decide, (zt_in (List.mem_of_getElem? (i := 96) (by decide +kernel)) rfl)⟩
theorem fp_R_29 : zf_p zN_R 29 1 zN_R zT_R 13 0 true (.int) := ⟨fg_R_29, ⟨zY_R, zP_R⟩, zD_R, rfl, by decide +kernel⟩
theorem fg_R_32 : zf_g zN_R 32 1 zN_R zT_R 13 1 := ⟨rfl, zI_R, by decide, (zt_in (List.mem_of_getElem? (i := 98) (by decide +kernel)) rfl)⟩
theorem fp_R_32 : zf_p zN_R 32 1 zN_R zT_R 13 1 true (.int) := ⟨fg_R_32, ⟨zY_R, zP_R⟩, zD_R, rfl, by decide +kernel⟩
theorem mv_R_35 : zm_v zN_R 35 y_R_goesOn b_R_goesOn 1 (some .boolean) 0 := ⟨zb_R_goesOn, (zt_in (List.mem_of_getElem? (i := 159) (by decide +kernel)) rfl), (zt_in (List.mem_of_getElem? (i := 160) (by decide +kernel)) rfl), (zt_in (List.mem_of_getElem? (i := 161) (by decide +kernel)) rfl)⟩
theorem fg_R_39 : zf_g zN_R 39 1 zN_R zT_R 13 3 := ⟨rfl, zI_R, by decide, (zt_in (List.mem_of_getElem? (i := 101) (by decide +kernel)) rfl)⟩
theorem fp_R_39 : zf_p zN_R 39 1 zN_R zT_R 13 3 false (.int) := ⟨fg_R_39, ⟨zY_R, zP_R⟩, zD_R, rfl, by decide +kernel⟩
theorem zb_R_halfOf : zm_b y_R_halfOf b_R_halfOf 2 (some .int) 1 := ⟨(zt_in (List.mem_of_getElem? (i := 23) (by decide +kernel)) rfl), (zt_in (List.mem_of_getElem? (i := 227) (by decide +kernel)) rfl), by decide, by decide, by decide +kernel⟩
theorem mv_R_42 : zm_v zN_R 42 y_R_halfOf b_R_halfOf 2 (some .int) 1 := ⟨zb_R_halfOf, (zt_in (List.mem_of_getElem? (i := 224) (by decide +kernel)) rfl), (zt_in (List.mem_of_getElem? (i := 226) (by decide +kernel)) rfl), (zt_in (List.mem_of_getElem? (i := 2) (by decide +kernel)) rfl)⟩
theorem fg_R_46 : zf_g zN_R 46 1 zN_R zT_R 13 4 := ⟨rfl, zI_R, by decide, (zt_in (List.mem_of_getElem? (i := 103) (by decide +kernel)) rfl)⟩
theorem fp_R_46 : zf_p zN_R 46 1 zN_R zT_R 13 4 false (.int) := ⟨fg_R_46, ⟨zY_R, zP_R⟩, zD_R, rfl, by decide +kernel⟩
theorem fg_R_49 : zf_g zN_R 49 1 zN_R zT_R 13 8 := ⟨rfl, zI_R, by decide, (zt_in (List.mem_of_getElem? (i := 111) (by decide +kernel)) rfl)⟩
theorem fp_R_49 : zf_p zN_R 49 1 zN_R zT_R 13 8 false (.int) := ⟨fg_R_49, ⟨zY_R, zP_R⟩, zD_R, rfl, by decide +kernel⟩
theorem fg_R_52 : zf_g zN_R 52 1 zN_R zT_R 13 7 := ⟨rfl, zI_R, by decide, (zt_in (List.mem_of_getElem? (i := 108) (by decide +kernel)) rfl)⟩
theorem fp_R_52 : zf_p zN_R 52 1 zN_R zT_R 13 7 false (.boolean) := ⟨fg_R_52, ⟨zY_R, zP_R⟩, zD_R, rfl, by decide +kernel⟩
theorem mv_R_56 : zm_v zN_R 56 y_R_isInsideDecision b_R_isInsideDecision 1 (some .boolean) 0 := ⟨zb_R_isInsideDecision, (zt_in (List.mem_of_getElem? (i := 220) (by decide +kernel)) rfl), (zt_in (List.mem_of_getElem? (i := 221) (by decide +kernel)) rfl), (zt_in (List.mem_of_getElem? (i := 222) (by decide +kernel)) rfl)⟩
theorem mv_R_59 : zm_v zN_R 59 y_R_backOut b_R_backOut 2 (none) 1 := ⟨zb_R_backOut, (zt_in (List.mem_of_getElem? (i := 228) (by decide +kernel)) rfl), (zt_in (List.mem_of_getElem? (i := 229) (by decide +kernel)) rfl), (zt_in (List.mem_of_getElem? (i := 230) (by decide +kernel)) rfl)⟩
theorem zb_R_takeWaitsAt : zm_b y_R_takeWaitsAt b_R_takeWaitsAt 4 (some .boolean) 2 := ⟨(zt_in (List.mem_of_getElem? (i := 23) (by decide +kernel)) rfl), (zt_in (List.mem_of_getElem? (i := 243) (by decide +kernel)) rfl), by decide, by decide, by decide +kernel⟩
theorem mv_R_63 : zm_v zN_R 63 y_R_takeWaitsAt b_R_takeWaitsAt 4 (some .boolean) 2 := ⟨zb_R_takeWaitsAt, (zt_in (List.mem_of_getElem? (i := 240) (by decide +kernel)) rfl), (zt_in (List.mem_of_getElem? (i := 242) (by decide +kernel)) rfl), (zt_in (List.mem_of_getElem? (i := 4) (by decide +kernel)) rfl)⟩
theorem zb_R_doStep : zm_b y_R_doStep b_R_doStep 2 (none) 1 := ⟨(zt_in (List.mem_of_getElem? (i := 23) (by decide +kernel)) rfl), (zt_in (List.mem_of_getElem? (i := 251) (by decide +kernel)) rfl), by decide, by decide, by decide +kernel⟩
theorem mv_R_67 : zm_v zN_R 67 y_R_doStep b_R_doStep 2 (none) 1 := ⟨zb_R_doStep, (zt_in (List.mem_of_getElem? (i := 248) (by decide +kernel)) rfl), (zt_in (List.mem_of_getElem? (i := 250) (by decide +kernel)) rfl), (zt_in (List.mem_of_getElem? (i := 5) (by decide +kernel)) rfl)⟩
theorem mv_R_70 : zm_v zN_R 70 y_R_openSteps b_R_openSteps 1 (some .int) 0 := ⟨zb_R_openSteps, (zt_in (List.mem_of_getElem? (i := 232) (by decide +kernel)) rfl), (zt_in (List.mem_of_getElem? (i := 233) (by decide +kernel)) rfl), (zt_in (List.mem_of_getElem? (i := 234) (by decide +kernel)) rfl)⟩
theorem fg_R_74 : zf_g zN_R 74 1 zN_R zT_R 13 5 := ⟨rfl, zI_R, by decide, (zt_in (List.mem_of_getElem? (i := 104) (by decide +kernel)) rfl)⟩
theorem fp_R_74 : zf_p zN_R 74 1 zN_R zT_R 13 5 false (.int) := ⟨fg_R_74, ⟨zY_R, zP_R⟩, zD_R, rfl, by decide +kernel⟩
theorem zb_R_endAs : zm_b y_R_endAs b_R_endAs 2 (none) 1 := ⟨(zt_in (List.mem_of_getElem? (i := 23) (by decide +kernel)) rfl), (zt_in (List.mem_of_getElem? (i := 239) (by decide +kernel)) rfl), by decide, by decide, by decide +kernel⟩
theorem mv_R_77 : zm_v zN_R 77 y_R_endAs b_R_endAs 2 (none) 1 := ⟨zb_R_endAs, (zt_in (List.mem_of_getElem? (i := 236) (by decide +kernel)) rfl), (zt_in (List.mem_of_getElem? (i := 238) (by decide +kernel)) rfl), (zt_in (List.mem_of_getElem? (i := 3) (by decide +kernel)) rfl)⟩
theorem fg_R_80 : zf_g zN_R 80 1 zN_R zT_R 13 6 := ⟨rfl, zI_R, by decide, (zt_in (List.mem_of_getElem? (i := 107) (by decide +kernel)) rfl)⟩
theorem fp_R_80 : zf_p zN_R 80 1 zN_R zT_R 13 6 false (.int) := ⟨fg_R_80, ⟨zY_R, zP_R⟩, zD_R, rfl, by decide +kernel⟩
theorem zb_V_takePosting : zm_b y_V_takePosting b_V_takePosting 2 (some .boolean) 1 := ⟨(zt_in (List.mem_of_getElem? (i := 20) (by decide +kernel)) rfl), (zt_in (List.mem_of_getElem? (i := 247) (by decide +kernel)) rfl), by decide, by decide, by decide +kernel⟩
theorem mv_R_83 : zm_v zN_R 83 y_V_takePosting b_V_takePosting 2 (some .boolean) 1 := ⟨zb_V_takePosting, (zt_in (List.mem_of_getElem? (i := 244) (by decide +kernel)) rfl), (zt_in (List.mem_of_getElem? (i := 245) (by decide +kernel)) rfl), (zt_in (List.mem_of_getElem? (i := 246) (by decide +kernel)) rfl)⟩
theorem fg_O_9 : zf_g zN_O 9 2 zN_O zT_O 3 1 := ⟨rfl, zI_O, by decide, (zt_in (List.mem_of_getElem? (i := 55) (by decide +kernel)) rfl)⟩
theorem fp_O_9 : zf_p zN_O 9 2 zN_O zT_O 3 1 false (.array .int) := ⟨fg_O_9, ⟨zY_O, zP_O⟩, zD_O, rfl, by decide +kernel⟩
theorem fg_O_13 : zf_g zN_O 13 2 zN_O zT_O 3 0 := ⟨rfl, zI_O, by decide, (zt_in (List.mem_of_getElem? (i := 54) (by decide +kernel)) rfl)⟩
theorem fp_O_13 : zf_p zN_O 13 2 zN_O zT_O 3 0 true (.int) := ⟨fg_O_13, ⟨zY_O, zP_O⟩, zD_O, rfl, by decide +kernel⟩
theorem fg_O_17 : zf_g zN_O 17 2 zN_O zT_O 3 2 := ⟨rfl, zI_O, by decide, (zt_in (List.mem_of_getElem? (i := 56) (by decide +kernel)) rfl)⟩
theorem fp_O_17 : zf_p zN_O 17 2 zN_O zT_O 3 2 false (.int) := ⟨fg_O_17, ⟨zY_O, zP_O⟩, zD_O, rfl, by decide +kernel⟩
theorem zb_J_copyOf : zm_b y_J_copyOf b_J_copyOf 3 (some (.array .int)) 2 := ⟨(zt_in (List.mem_of_getElem? (i := 24) (by decide +kernel)) rfl), (zt_in (List.mem_of_getElem? (i := 190) (by decide +kernel)) rfl), by decide, by decide, by decide +kernel⟩
theorem ms_O_20 : zm_s zN_O 20 y_J_copyOf b_J_copyOf 3 (some (.array .int)) 2 := ⟨zb_J_copyOf, (zt_in (List.mem_of_getElem? (i := 188) (by decide +kernel)) rfl), (zt_in (List.mem_of_getElem? (i := 189) (by decide +kernel)) rfl)⟩
theorem zb_X_init : zm_b y_X_init b_X_init 1 (none) 0 := ⟨(zt_in (List.mem_of_getElem? (i := 19) (by decide +kernel)) rfl), (zt_in (List.mem_of_getElem? (i := 31) (by decide +kernel)) rfl), by decide, by decide, by decide +kernel⟩
theorem mi_L_9 : zm_i zN_L 9 y_X_init b_X_init 1 0 := ⟨zb_X_init, (zt_in (List.mem_of_getElem? (i := 29) (by decide +kernel)) rfl), (zt_in (List.mem_of_getElem? (i := 30) (by decide +kernel)) rfl), rfl⟩
theorem zb_M_init : zm_b y_M_init b_M_init 1 (none) 0 := ⟨(zt_in (List.mem_of_getElem? (i := 22) (by decide +kernel)) rfl), (zt_in (List.mem_of_getElem? (i := 332) (by decide +kernel)) rfl), by decide, by decide, by decide +kernel⟩
theorem mi_L_12 : zm_i zN_L 12 y_M_init b_M_init 1 0 := ⟨zb_M_init, (zt_in (List.mem_of_getElem? (i := 330) (by decide +kernel)) rfl), (zt_in (List.mem_of_getElem? (i := 331) (by decide +kernel)) rfl), rfl⟩
theorem zb_X_region : zm_b y_X_region b_X_region 3 (some .int) 2 := ⟨(zt_in (List.mem_of_getElem? (i := 19) (by decide +kernel)) rfl), (zt_in (List.mem_of_getElem? (i := 90) (by decide +kernel)) rfl), by decide, by decide, by decide +kernel⟩
theorem mv_L_13 : zm_v zN_L 13 y_X_region b_X_region 3 (some .int) 2 := ⟨zb_X_region, (zt_in (List.mem_of_getElem? (i := 87) (by decide +kernel)) rfl), (zt_in (List.mem_of_getElem? (i := 88) (by decide +kernel)) rfl), (zt_in (List.mem_of_getElem? (i := 89) (by decide +kernel)) rfl)⟩
theorem zb_M_region : zm_b y_M_region b_M_region 3 (some .int) 2 := ⟨(zt_in (List.mem_of_getElem? (i := 22) (by decide +kernel)) rfl), (zt_in (List.mem_of_getElem? (i := 404) (by decide +kernel)) rfl), by decide, by decide, by decide +kernel⟩
theorem mv_L_17 : zm_v zN_L 17 y_M_region b_M_region 3 (some .int) 2 := ⟨zb_M_region, (zt_in (List.mem_of_getElem? (i := 401) (by decide +kernel)) rfl), (zt_in (List.mem_of_getElem? (i := 402) (by decide +kernel)) rfl), (zt_in (List.mem_of_getElem? (i := 403) (by decide +kernel)) rfl)⟩
theorem zb_X_waits : zm_b y_X_waits b_X_waits 5 (some .int) 3 := ⟨(zt_in (List.mem_of_getElem? (i := 19) (by decide +kernel)) rfl), (zt_in (List.mem_of_getElem? (i := 147) (by decide +kernel)) rfl), by decide, by decide, by decide +kernel⟩
theorem mv_L_18 : zm_v zN_L 18 y_X_waits b_X_waits 5 (some .int) 3 := ⟨zb_X_waits, (zt_in (List.mem_of_getElem? (i := 144) (by decide +kernel)) rfl), (zt_in (List.mem_of_getElem? (i := 145) (by decide +kernel)) rfl), (zt_in (List.mem_of_getElem? (i := 146) (by decide +kernel)) rfl)⟩
theorem zb_M_waits : zm_b y_M_waits b_M_waits 4 (some .int) 3 := ⟨(zt_in (List.mem_of_getElem? (i := 22) (by decide +kernel)) rfl), (zt_in (List.mem_of_getElem? (i := 408) (by decide +kernel)) rfl), by decide, by decide, by decide +kernel⟩
theorem mv_L_22 : zm_v zN_L 22 y_M_waits b_M_waits 4 (some .int) 3 := ⟨zb_M_waits, (zt_in (List.mem_of_getElem? (i := 405) (by decide +kernel)) rfl), (zt_in (List.mem_of_getElem? (i := 406) (by decide +kernel)) rfl), (zt_in (List.mem_of_getElem? (i := 407) (by decide +kernel)) rfl)⟩
theorem zb_X_post : zm_b y_X_post b_X_post 2 (some .int) 1 := ⟨(zt_in (List.mem_of_getElem? (i := 19) (by decide +kernel)) rfl), (zt_in (List.mem_of_getElem? (i := 170) (by decide +kernel)) rfl), by decide, by decide, by decide +kernel⟩
theorem mv_L_23 : zm_v zN_L 23 y_X_post b_X_post 2 (some .int) 1 := ⟨zb_X_post, (zt_in (List.mem_of_getElem? (i := 167) (by decide +kernel)) rfl), (zt_in (List.mem_of_getElem? (i := 168) (by decide +kernel)) rfl), (zt_in (List.mem_of_getElem? (i := 169) (by decide +kernel)) rfl)⟩
theorem zb_M_post : zm_b y_M_post b_M_post 2 (some .int) 1 := ⟨(zt_in (List.mem_of_getElem? (i := 22) (by decide +kernel)) rfl), (zt_in (List.mem_of_getElem? (i := 416) (by decide +kernel)) rfl), by decide, by decide, by decide +kernel⟩
theorem mv_L_27 : zm_v zN_L 27 y_M_post b_M_post 2 (some .int) 1 := ⟨zb_M_post, (zt_in (List.mem_of_getElem? (i := 413) (by decide +kernel)) rfl), (zt_in (List.mem_of_getElem? (i := 414) (by decide +kernel)) rfl), (zt_in (List.mem_of_getElem? (i := 415) (by decide +kernel)) rfl)⟩
theorem zb_X_turn : zm_b y_X_turn b_X_turn 2 (none) 1 := ⟨(zt_in (List.mem_of_getElem? (i := 19) (by decide +kernel)) rfl), (zt_in (List.mem_of_getElem? (i := 183) (by decide +kernel)) rfl), by decide, by decide, by decide +kernel⟩
theorem mv_L_28 : zm_v zN_L 28 y_X_turn b_X_turn 2 (none) 1 := ⟨zb_X_turn, (zt_in (List.mem_of_getElem? (i := 180) (by decide +kernel)) rfl), (zt_in (List.mem_of_getElem? (i := 181) (by decide +kernel)) rfl), (zt_in (List.mem_of_getElem? (i := 182) (by decide +kernel)) rfl)⟩
theorem zb_M_turn : zm_b y_M_turn b_M_turn 2 (none) 1 := ⟨(zt_in (List.mem_of_getElem? (i := 22) (by decide +kernel)) rfl), (zt_in (List.mem_of_getElem? (i := 420) (by decide +kernel)) rfl), by decide, by decide, by decide +kernel⟩
theorem mv_L_32 : zm_v zN_L 32 y_M_turn b_M_turn 2 (none) 1 := ⟨zb_M_turn, (zt_in (List.mem_of_getElem? (i := 417) (by decide +kernel)) rfl), (zt_in (List.mem_of_getElem? (i := 418) (by decide +kernel)) rfl), (zt_in (List.mem_of_getElem? (i := 419) (by decide +kernel)) rfl)⟩
theorem zb_X_run : zm_b y_X_run b_X_run 4 (some .int) 0 := ⟨(zt_in (List.mem_of_getElem? (i := 19) (by decide +kernel)) rfl), (zt_in (List.mem_of_getElem? (i := 207) (by decide +kernel)) rfl), by decide, by decide, by decide +kernel⟩
theorem mv_L_33 : zm_v zN_L 33 y_X_run b_X_run 4 (some .int) 0 := ⟨zb_X_run, (zt_in (List.mem_of_getElem? (i := 204) (by decide +kernel)) rfl), (zt_in (List.mem_of_getElem? (i := 205) (by decide +kernel)) rfl), (zt_in (List.mem_of_getElem? (i := 206) (by decide +kernel)) rfl)⟩
theorem zb_M_run : zm_b y_M_run b_M_run 4 (some .int) 0 := ⟨(zt_in (List.mem_of_getElem? (i := 22) (by decide +kernel)) rfl), (zt_in (List.mem_of_getElem? (i := 431) (by decide +kernel)) rfl), by decide, by decide, by decide +kernel⟩
theorem mv_L_37 : zm_v zN_L 37 y_M_run b_M_run 4 (some .int) 0 := ⟨zb_M_run, (zt_in (List.mem_of_getElem? (i := 428) (by decide +kernel)) rfl), (zt_in (List.mem_of_getElem? (i := 429) (by decide +kernel)) rfl), (zt_in (List.mem_of_getElem? (i := 430) (by decide +kernel)) rfl)⟩
theorem zb_X_log : zm_b y_X_log b_X_log 2 (some .int) 1 := ⟨(zt_in (List.mem_of_getElem? (i := 19) (by decide +kernel)) rfl), (zt_in (List.mem_of_getElem? (i := 259) (by decide +kernel)) rfl), by decide, by decide, by decide +kernel⟩
theorem mv_L_38 : zm_v zN_L 38 y_X_log b_X_log 2 (some .int) 1 := ⟨zb_X_log, (zt_in (List.mem_of_getElem? (i := 256) (by decide +kernel)) rfl), (zt_in (List.mem_of_getElem? (i := 257) (by decide +kernel)) rfl), (zt_in (List.mem_of_getElem? (i := 258) (by decide +kernel)) rfl)⟩
theorem zb_M_log : zm_b y_M_log b_M_log 2 (some .int) 1 := ⟨(zt_in (List.mem_of_getElem? (i := 22) (by decide +kernel)) rfl), (zt_in (List.mem_of_getElem? (i := 467) (by decide +kernel)) rfl), by decide, by decide, by decide +kernel⟩
theorem mv_L_41 : zm_v zN_L 41 y_M_log b_M_log 2 (some .int) 1 := ⟨zb_M_log, (zt_in (List.mem_of_getElem? (i := 464) (by decide +kernel)) rfl), (zt_in (List.mem_of_getElem? (i := 465) (by decide +kernel)) rfl), (zt_in (List.mem_of_getElem? (i := 466) (by decide +kernel)) rfl)⟩
theorem zb_X_cancel : zm_b y_X_cancel b_X_cancel 3 (some .boolean) 1 := ⟨(zt_in (List.mem_of_getElem? (i := 19) (by decide +kernel)) rfl), (zt_in (List.mem_of_getElem? (i := 263) (by decide +kernel)) rfl), by decide, by decide, by decide +kernel⟩
theorem mv_L_42 : zm_v zN_L 42 y_X_cancel b_X_cancel 3 (some .boolean) 1 := ⟨zb_X_cancel, (zt_in (List.mem_of_getElem? (i := 260) (by decide +kernel)) rfl), (zt_in (List.mem_of_getElem? (i := 261) (by decide +kernel)) rfl), (zt_in (List.mem_of_getElem? (i := 262) (by decide +kernel)) rfl)⟩
theorem zb_M_cancel : zm_b y_M_cancel b_M_cancel 2 (some .boolean) 1 := ⟨(zt_in (List.mem_of_getElem? (i := 22) (by decide +kernel)) rfl), (zt_in (List.mem_of_getElem? (i := 451) (by decide +kernel)) rfl), by decide, by decide, by decide +kernel⟩
theorem mv_L_46 : zm_v zN_L 46 y_M_cancel b_M_cancel 2 (some .boolean) 1 := ⟨zb_M_cancel, (zt_in (List.mem_of_getElem? (i := 448) (by decide +kernel)) rfl), (zt_in (List.mem_of_getElem? (i := 449) (by decide +kernel)) rfl), (zt_in (List.mem_of_getElem? (i := 450) (by decide +kernel)) rfl)⟩
theorem zb_X_cleaned : zm_b y_X_cleaned b_X_cleaned 3 (some .int) 1 := ⟨(zt_in (List.mem_of_getElem? (i := 19) (by decide +kernel)) rfl), (zt_in (List.mem_of_getElem? (i := 268) (by decide +kernel)) rfl), by decide, by decide, by decide +kernel⟩
theorem mv_L_47 : zm_v zN_L 47 y_X_cleaned b_X_cleaned 3 (some .int) 1 := ⟨zb_X_cleaned, (zt_in (List.mem_of_getElem? (i := 265) (by decide +kernel)) rfl), (zt_in (List.mem_of_getElem? (i := 266) (by decide +kernel)) rfl), (zt_in (List.mem_of_getElem? (i := 267) (by decide +kernel)) rfl)⟩
theorem zb_M_cleaned : zm_b y_M_cleaned b_M_cleaned 2 (some .int) 1 := ⟨(zt_in (List.mem_of_getElem? (i := 22) (by decide +kernel)) rfl), (zt_in (List.mem_of_getElem? (i := 471) (by decide +kernel)) rfl), by decide, by decide, by decide +kernel⟩
theorem mv_L_50 : zm_v zN_L 50 y_M_cleaned b_M_cleaned 2 (some .int) 1 := ⟨zb_M_cleaned, (zt_in (List.mem_of_getElem? (i := 468) (by decide +kernel)) rfl), (zt_in (List.mem_of_getElem? (i := 469) (by decide +kernel)) rfl), (zt_in (List.mem_of_getElem? (i := 470) (by decide +kernel)) rfl)⟩
theorem zb_X_backed : zm_b y_X_backed b_X_backed 3 (some .int) 1 := ⟨(zt_in (List.mem_of_getElem? (i := 19) (by decide +kernel)) rfl), (zt_in (List.mem_of_getElem? (i := 272) (by decide +kernel)) rfl), by decide, by decide, by decide +kernel⟩
theorem mv_L_51 : zm_v zN_L 51 y_X_backed b_X_backed 3 (some .int) 1 := ⟨zb_X_backed, (zt_in (List.mem_of_getElem? (i := 269) (by decide +kernel)) rfl), (zt_in (List.mem_of_getElem? (i := 270) (by decide +kernel)) rfl), (zt_in (List.mem_of_getElem? (i := 271) (by decide +kernel)) rfl)⟩
theorem zb_M_backed : zm_b y_M_backed b_M_backed 2 (some .int) 1 := ⟨(zt_in (List.mem_of_getElem? (i := 22) (by decide +kernel)) rfl), (zt_in (List.mem_of_getElem? (i := 475) (by decide +kernel)) rfl), by decide, by decide, by decide +kernel⟩
theorem mv_L_54 : zm_v zN_L 54 y_M_backed b_M_backed 2 (some .int) 1 := ⟨zb_M_backed, (zt_in (List.mem_of_getElem? (i := 472) (by decide +kernel)) rfl), (zt_in (List.mem_of_getElem? (i := 473) (by decide +kernel)) rfl), (zt_in (List.mem_of_getElem? (i := 474) (by decide +kernel)) rfl)⟩
theorem zb_X_shutdown : zm_b y_X_shutdown b_X_shutdown 3 (some .int) 1 := ⟨(zt_in (List.mem_of_getElem? (i := 19) (by decide +kernel)) rfl), (zt_in (List.mem_of_getElem? (i := 276) (by decide +kernel)) rfl), by decide, by decide, by decide +kernel⟩
theorem mv_L_55 : zm_v zN_L 55 y_X_shutdown b_X_shutdown 3 (some .int) 1 := ⟨zb_X_shutdown, (zt_in (List.mem_of_getElem? (i := 273) (by decide +kernel)) rfl), (zt_in (List.mem_of_getElem? (i := 274) (by decide +kernel)) rfl), (zt_in (List.mem_of_getElem? (i := 275) (by decide +kernel)) rfl)⟩
theorem zb_M_shutdown : zm_b y_M_shutdown b_M_shutdown 5 (some .int) 1 := ⟨(zt_in (List.mem_of_getElem? (i := 22) (by decide +kernel)) rfl), (zt_in (List.mem_of_getElem? (i := 455) (by decide +kernel)) rfl), by decide, by decide, by decide +kernel⟩
theorem mv_L_59 : zm_v zN_L 59 y_M_shutdown b_M_shutdown 5 (some .int) 1 := ⟨zb_M_shutdown, (zt_in (List.mem_of_getElem? (i := 452) (by decide +kernel)) rfl), (zt_in (List.mem_of_getElem? (i := 453) (by decide +kernel)) rfl), (zt_in (List.mem_of_getElem? (i := 454) (by decide +kernel)) rfl)⟩
theorem zb_X_decision : zm_b y_X_decision b_X_decision 4 (some .int) 2 := ⟨(zt_in (List.mem_of_getElem? (i := 19) (by decide +kernel)) rfl), (zt_in (List.mem_of_getElem? (i := 303) (by decide +kernel)) rfl), by decide, by decide, by decide +kernel⟩
theorem mv_L_60 : zm_v zN_L 60 y_X_decision b_X_decision 4 (some .int) 2 := ⟨zb_X_decision, (zt_in (List.mem_of_getElem? (i := 300) (by decide +kernel)) rfl), (zt_in (List.mem_of_getElem? (i := 301) (by decide +kernel)) rfl), (zt_in (List.mem_of_getElem? (i := 302) (by decide +kernel)) rfl)⟩
theorem zb_M_decision : zm_b y_M_decision b_M_decision 3 (some .int) 2 := ⟨(zt_in (List.mem_of_getElem? (i := 22) (by decide +kernel)) rfl), (zt_in (List.mem_of_getElem? (i := 424) (by decide +kernel)) rfl), by decide, by decide, by decide +kernel⟩
theorem mv_L_63 : zm_v zN_L 63 y_M_decision b_M_decision 3 (some .int) 2 := ⟨zb_M_decision, (zt_in (List.mem_of_getElem? (i := 421) (by decide +kernel)) rfl), (zt_in (List.mem_of_getElem? (i := 422) (by decide +kernel)) rfl), (zt_in (List.mem_of_getElem? (i := 423) (by decide +kernel)) rfl)⟩
theorem zb_X_finished : zm_b y_X_finished b_X_finished 3 (some .int) 1 := ⟨(zt_in (List.mem_of_getElem? (i := 19) (by decide +kernel)) rfl), (zt_in (List.mem_of_getElem? (i := 311) (by decide +kernel)) rfl), by decide, by decide, by decide +kernel⟩
theorem mv_L_64 : zm_v zN_L 64 y_X_finished b_X_finished 3 (some .int) 1 := ⟨zb_X_finished, (zt_in (List.mem_of_getElem? (i := 308) (by decide +kernel)) rfl), (zt_in (List.mem_of_getElem? (i := 309) (by decide +kernel)) rfl), (zt_in (List.mem_of_getElem? (i := 310) (by decide +kernel)) rfl)⟩
theorem zb_M_finished : zm_b y_M_finished b_M_finished 2 (some .int) 1 := ⟨(zt_in (List.mem_of_getElem? (i := 22) (by decide +kernel)) rfl), (zt_in (List.mem_of_getElem? (i := 479) (by decide +kernel)) rfl), by decide, by decide, by decide +kernel⟩
theorem mv_L_67 : zm_v zN_L 67 y_M_finished b_M_finished 2 (some .int) 1 := ⟨zb_M_finished, (zt_in (List.mem_of_getElem? (i := 476) (by decide +kernel)) rfl), (zt_in (List.mem_of_getElem? (i := 477) (by decide +kernel)) rfl), (zt_in (List.mem_of_getElem? (i := 478) (by decide +kernel)) rfl)⟩
theorem zb_X_close : zm_b y_X_close b_X_close 2 (some .int) 0 := ⟨(zt_in (List.mem_of_getElem? (i := 19) (by decide +kernel)) rfl), (zt_in (List.mem_of_getElem? (i := 315) (by decide +kernel)) rfl), by decide, by decide, by decide +kernel⟩
theorem mv_L_68 : zm_v zN_L 68 y_X_close b_X_close 2 (some .int) 0 := ⟨zb_X_close, (zt_in (List.mem_of_getElem? (i := 312) (by decide +kernel)) rfl), (zt_in (List.mem_of_getElem? (i := 313) (by decide +kernel)) rfl), (zt_in (List.mem_of_getElem? (i := 314) (by decide +kernel)) rfl)⟩
theorem zb_M_close : zm_b y_M_close b_M_close 3 (some .int) 0 := ⟨(zt_in (List.mem_of_getElem? (i := 22) (by decide +kernel)) rfl), (zt_in (List.mem_of_getElem? (i := 463) (by decide +kernel)) rfl), by decide, by decide, by decide +kernel⟩
theorem mv_L_71 : zm_v zN_L 71 y_M_close b_M_close 3 (some .int) 0 := ⟨zb_M_close, (zt_in (List.mem_of_getElem? (i := 460) (by decide +kernel)) rfl), (zt_in (List.mem_of_getElem? (i := 461) (by decide +kernel)) rfl), (zt_in (List.mem_of_getElem? (i := 462) (by decide +kernel)) rfl)⟩
theorem zb_X_count : zm_b y_X_count b_X_count 3 (some .int) 1 := ⟨(zt_in (List.mem_of_getElem? (i := 19) (by decide +kernel)) rfl), (zt_in (List.mem_of_getElem? (i := 323) (by decide +kernel)) rfl), by decide, by decide, by decide +kernel⟩
theorem mv_L_72 : zm_v zN_L 72 y_X_count b_X_count 3 (some .int) 1 := ⟨zb_X_count, (zt_in (List.mem_of_getElem? (i := 320) (by decide +kernel)) rfl), (zt_in (List.mem_of_getElem? (i := 321) (by decide +kernel)) rfl), (zt_in (List.mem_of_getElem? (i := 322) (by decide +kernel)) rfl)⟩
theorem zb_M_count : zm_b y_M_count b_M_count 4 (some .int) 1 := ⟨(zt_in (List.mem_of_getElem? (i := 22) (by decide +kernel)) rfl), (zt_in (List.mem_of_getElem? (i := 487) (by decide +kernel)) rfl), by decide, by decide, by decide +kernel⟩
theorem mv_L_75 : zm_v zN_L 75 y_M_count b_M_count 4 (some .int) 1 := ⟨zb_M_count, (zt_in (List.mem_of_getElem? (i := 484) (by decide +kernel)) rfl), (zt_in (List.mem_of_getElem? (i := 485) (by decide +kernel)) rfl), (zt_in (List.mem_of_getElem? (i := 486) (by decide +kernel)) rfl)⟩
theorem zb_X_done : zm_b y_X_done b_X_done 3 (some .int) 1 := ⟨(zt_in (List.mem_of_getElem? (i := 19) (by decide +kernel)) rfl), (zt_in (List.mem_of_getElem? (i := 327) (by decide +kernel)) rfl), by decide, by decide, by decide +kernel⟩
theorem mv_L_76 : zm_v zN_L 76 y_X_done b_X_done 3 (some .int) 1 := ⟨zb_X_done, (zt_in (List.mem_of_getElem? (i := 324) (by decide +kernel)) rfl), (zt_in (List.mem_of_getElem? (i := 325) (by decide +kernel)) rfl), (zt_in (List.mem_of_getElem? (i := 326) (by decide +kernel)) rfl)⟩
theorem zb_M_done : zm_b y_M_done b_M_done 2 (some .int) 1 := ⟨(zt_in (List.mem_of_getElem? (i := 22) (by decide +kernel)) rfl), (zt_in (List.mem_of_getElem? (i := 483) (by decide +kernel)) rfl), by decide, by decide, by decide +kernel⟩
theorem mv_L_79 : zm_v zN_L 79 y_M_done b_M_done 2 (some .int) 1 := ⟨zb_M_done, (zt_in (List.mem_of_getElem? (i := 480) (by decide +kernel)) rfl), (zt_in (List.mem_of_getElem? (i := 481) (by decide +kernel)) rfl), (zt_in (List.mem_of_getElem? (i := 482) (by decide +kernel)) rfl)⟩
theorem zw_arrI : Cond.arrayClass .int ∈ zt_U := (zt_in (List.mem_of_getElem? (i := 47) (by decide +kernel)) rfl)
theorem zw_arrZ : Cond.arrayClass .boolean ∈ zt_U := (zt_in (List.mem_of_getElem? (i := 143) (by decide +kernel)) rfl)
theorem zw_over : Cond.arrayOver (.object "RegionThreads$Region") ∈ lw_tbl := (List.mem_of_getElem? (i := 36) (by decide +kernel))
theorem zj_X : Cond.methodLink zN_X 3 objectInit ∈ zt_U := (zt_in (List.mem_of_getElem? (i := 32) (by decide +kernel)) rfl)
theorem zj_M : Cond.methodLink zN_M 1 objectInit ∈ zt_U := (zt_in (List.mem_of_getElem? (i := 333) (by decide +kernel)) rfl)
theorem zj_V : Cond.methodLink zN_V 3 objectInit ∈ zt_U := (zt_in (List.mem_of_getElem? (i := 42) (by decide +kernel)) rfl)
theorem zj_R : Cond.methodLink zN_R 3 objectInit ∈ zt_U := (zt_in (List.mem_of_getElem? (i := 95) (by decide +kernel)) rfl)
theorem zj_O : Cond.methodLink zN_O 1 objectInit ∈ zt_U := (zt_in (List.mem_of_getElem? (i := 53) (by decide +kernel)) rfl)
theorem zj_inst : Cond.instanceMethod objectInit ∈ zt_U := (zt_in (List.mem_of_getElem? (i := 33) (by decide +kernel)) rfl)
theorem zj_code : Cond.code objectInit ⟨#[0xb1]⟩ 1 none ∈ zt_U := (zt_in (List.mem_of_getElem? (i := 34) (by decide +kernel)) rfl)
theorem zk_L_7 : Cond.classLink zN_L 7 zN_X ∈ zt_U := (zt_in (List.mem_of_getElem? (i := 27) (by decide +kernel)) rfl)
theorem zk_X_9 : Cond.classLink zN_X 9 zN_R ∈ zt_U := (zt_in (List.mem_of_getElem? (i := 35) (by decide +kernel)) rfl)
theorem zk_X_15 : Cond.classLink zN_X 15 zN_V ∈ zt_U := (zt_in (List.mem_of_getElem? (i := 37) (by decide +kernel)) rfl)
theorem zk_X_22 : Cond.classLink zN_X 22 zN_O ∈ zt_U := (zt_in (List.mem_of_getElem? (i := 48) (by decide +kernel)) rfl)
theorem zk_L_10 : Cond.classLink zN_L 10 zN_M ∈ zt_U := (zt_in (List.mem_of_getElem? (i := 328) (by decide +kernel)) rfl)
theorem zi_V : Cond.instantiable zN_V 1 ∈ zt_U := (zt_in (List.mem_of_getElem? (i := 38) (by decide +kernel)) rfl)
theorem zl_V : Cond.initialized zN_V ∈ zt_U := (zt_in (List.mem_of_getElem? (i := 20) (by decide +kernel)) rfl)
theorem zi_R : Cond.instantiable zN_R 13 ∈ zt_U := (zt_in (List.mem_of_getElem? (i := 91) (by decide +kernel)) rfl)
theorem zl_R : Cond.initialized zN_R ∈ zt_U := (zt_in (List.mem_of_getElem? (i := 23) (by decide +kernel)) rfl)
theorem zi_O : Cond.instantiable zN_O 3 ∈ zt_U := (zt_in (List.mem_of_getElem? (i := 49) (by decide +kernel)) rfl)
theorem zl_O : Cond.initialized zN_O ∈ zt_U := (zt_in (List.mem_of_getElem? (i := 21) (by decide +kernel)) rfl)
theorem zi_X : Cond.instantiable zN_X 7 ∈ zt_U := (zt_in (List.mem_of_getElem? (i := 28) (by decide +kernel)) rfl)
theorem zl_X : Cond.initialized zN_X ∈ zt_U := (zt_in (List.mem_of_getElem? (i := 19) (by decide +kernel)) rfl)
theorem zi_M : Cond.instantiable zN_M 22 ∈ zt_U := (zt_in (List.mem_of_getElem? (i := 329) (by decide +kernel)) rfl)
theorem zl_M : Cond.initialized zN_M ∈ zt_U := (zt_in (List.mem_of_getElem? (i := 22) (by decide +kernel)) rfl)
