-- words of the tables by their places: written by wip/gen/words.py
theorem m_u1 {w : Cond} (h : w ∈ tables_1_1) : w ∈ lw_tbl := List.mem_append_right _ (List.mem_append_left _ h)
theorem m_t1 {w : Cond} (h : w ∈ tables_1_1) (g : goodWord w = true) : w ∈ m_tbl := List.mem_filter.mpr ⟨m_u1 h, g⟩
theorem m_u2 {w : Cond} (h : w ∈ tables_1_2) : w ∈ lw_tbl := List.mem_append_right _ (List.mem_append_right _ (List.mem_append_left _ h))
theorem m_t2 {w : Cond} (h : w ∈ tables_1_2) (g : goodWord w = true) : w ∈ m_tbl := List.mem_filter.mpr ⟨m_u2 h, g⟩
theorem m_u3 {w : Cond} (h : w ∈ tables_1_3) : w ∈ lw_tbl := List.mem_append_right _ (List.mem_append_right _ (List.mem_append_right _ (h)))
theorem m_t3 {w : Cond} (h : w ∈ tables_1_3) (g : goodWord w = true) : w ∈ m_tbl := List.mem_filter.mpr ⟨m_u3 h, g⟩
theorem wn_L : Cond.initialized RL ∈ m_tbl := m_t1 (List.mem_of_getElem? (i := 0) rfl) rfl
theorem wn_X7 : Cond.initialized RX7 ∈ m_tbl := m_t1 (List.mem_of_getElem? (i := 1) rfl) rfl
theorem wn_X3 : Cond.initialized RX3 ∈ m_tbl := m_t1 (List.mem_of_getElem? (i := 2) rfl) rfl
theorem wn_X0 : Cond.initialized RX0 ∈ m_tbl := m_t1 (List.mem_of_getElem? (i := 3) rfl) rfl
theorem wn_X1 : Cond.initialized RX1 ∈ m_tbl := m_t1 (List.mem_of_getElem? (i := 4) rfl) rfl
theorem wn_X4 : Cond.initialized RX4 ∈ m_tbl := m_t1 (List.mem_of_getElem? (i := 5) rfl) rfl
theorem wn_X6 : Cond.initialized RX6 ∈ m_tbl := m_t1 (List.mem_of_getElem? (i := 6) rfl) rfl
theorem wn_java_lang_System : Cond.initialized "java/lang/System" ∈ m_tbl := m_t1 (List.mem_of_getElem? (i := 7) rfl) rfl
theorem wn_X2 : Cond.initialized RX2 ∈ m_tbl := m_t1 (List.mem_of_getElem? (i := 8) rfl) rfl
theorem wn_X5 : Cond.initialized RX5 ∈ m_tbl := m_t1 (List.mem_of_getElem? (i := 9) rfl) rfl
theorem wn_java_lang_Math : Cond.initialized "java/lang/Math" ∈ m_tbl := m_t1 (List.mem_of_getElem? (i := 10) rfl) rfl
theorem wk_L_59 : Cond.classLink RL 59 RX7 ∈ m_tbl := m_t1 (List.mem_of_getElem? (i := 11) rfl) rfl
theorem wb_X7 : Cond.instantiable RX7 5 ∈ m_tbl := m_t1 (List.mem_of_getElem? (i := 12) rfl) rfl
theorem wl_L_123 : Cond.methodLink RL 123 yX7_init ∈ m_tbl := m_t1 (List.mem_of_getElem? (i := 13) rfl) rfl
theorem wi_X7_init : Cond.instanceMethod yX7_init ∈ m_tbl := m_t1 (List.mem_of_getElem? (i := 14) rfl) rfl
theorem wc_X7_init : Cond.code yX7_init cX7_init 1 none ∈ m_tbl := m_t1 (List.mem_of_getElem? (i := 15) rfl) rfl
theorem wl_X7_1 : Cond.methodLink RX7 1 objectInit ∈ m_tbl := m_t1 (List.mem_of_getElem? (i := 16) rfl) rfl
theorem wi_objectInit : Cond.instanceMethod objectInit ∈ m_tbl := m_t1 (List.mem_of_getElem? (i := 17) rfl) rfl
theorem wc_objectInit : Cond.code objectInit ⟨#[0xb1]⟩ 1 none ∈ m_tbl := m_t1 (List.mem_of_getElem? (i := 18) rfl) rfl
theorem wk_X7_7 : Cond.classLink RX7 7 RX3 ∈ m_tbl := m_t1 (List.mem_of_getElem? (i := 19) rfl) rfl
theorem wb_X3 : Cond.instantiable RX3 12 ∈ m_tbl := m_t1 (List.mem_of_getElem? (i := 20) rfl) rfl
theorem wl_X7_9 : Cond.methodLink RX7 9 yX3_init ∈ m_tbl := m_t1 (List.mem_of_getElem? (i := 21) rfl) rfl
theorem wi_X3_init : Cond.instanceMethod yX3_init ∈ m_tbl := m_t1 (List.mem_of_getElem? (i := 22) rfl) rfl
theorem wc_X3_init : Cond.code yX3_init cX3_init 2 none ∈ m_tbl := m_t1 (List.mem_of_getElem? (i := 23) rfl) rfl
theorem wl_X3_3 : Cond.methodLink RX3 3 objectInit ∈ m_tbl := m_t1 (List.mem_of_getElem? (i := 24) rfl) rfl
theorem wk_X3_9 : Cond.classLink RX3 9 RX0 ∈ m_tbl := m_t1 (List.mem_of_getElem? (i := 25) rfl) rfl
theorem wb_X0 : Cond.instantiable RX0 9 ∈ m_tbl := m_t1 (List.mem_of_getElem? (i := 26) rfl) rfl
theorem wln_X3_11 : Cond.methodLinkNest RX3 11 yX0_init "GroupCommits" ∈ lw_tbl := m_u1 (List.mem_of_getElem? (i := 27) rfl)
theorem wi_X0_init : Cond.instanceMethod yX0_init ∈ m_tbl := m_t1 (List.mem_of_getElem? (i := 28) rfl) rfl
theorem wc_X0_init : Cond.code yX0_init cX0_init 1 none ∈ m_tbl := m_t1 (List.mem_of_getElem? (i := 29) rfl) rfl
theorem wl_X0_3 : Cond.methodLink RX0 3 objectInit ∈ m_tbl := m_t1 (List.mem_of_getElem? (i := 30) rfl) rfl
theorem wf_X0_11 : Cond.fieldLink RX0 11 "GroupCommits$Commits" "clients" "[I" ∈ m_tbl := m_t1 (List.mem_of_getElem? (i := 31) rfl) rfl
theorem wf_X0_15 : Cond.fieldLink RX0 15 "GroupCommits$Commits" "records" "[I" ∈ m_tbl := m_t1 (List.mem_of_getElem? (i := 32) rfl) rfl
theorem wf_X0_18 : Cond.fieldLink RX0 18 "GroupCommits$Commits" "urgent" "[Z" ∈ m_tbl := m_t1 (List.mem_of_getElem? (i := 33) rfl) rfl
theorem wf_X0_22 : Cond.fieldLink RX0 22 "GroupCommits$Commits" "states" "[I" ∈ m_tbl := m_t1 (List.mem_of_getElem? (i := 34) rfl) rfl
theorem wf_X0_25 : Cond.fieldLink RX0 25 "GroupCommits$Commits" "submitTimes" "[I" ∈ m_tbl := m_t1 (List.mem_of_getElem? (i := 35) rfl) rfl
theorem wf_X0_28 : Cond.fieldLink RX0 28 "GroupCommits$Commits" "answerTimes" "[I" ∈ m_tbl := m_t1 (List.mem_of_getElem? (i := 36) rfl) rfl
theorem wf_X0_31 : Cond.fieldLink RX0 31 "GroupCommits$Commits" "groups" "[I" ∈ m_tbl := m_t1 (List.mem_of_getElem? (i := 37) rfl) rfl
theorem wf_X0_34 : Cond.fieldLink RX0 34 "GroupCommits$Commits" "inGroup" "[Z" ∈ m_tbl := m_t1 (List.mem_of_getElem? (i := 38) rfl) rfl
theorem wf_X0_43 : Cond.fieldLink RX0 43 "GroupCommits$Commits" "size" "I" ∈ m_tbl := m_t1 (List.mem_of_getElem? (i := 39) rfl) rfl
theorem wa_int : Cond.arrayClass .int ∈ m_tbl := m_t1 (List.mem_of_getElem? (i := 59) rfl) rfl
theorem wa_boolean : Cond.arrayClass .boolean ∈ m_tbl := m_t1 (List.mem_of_getElem? (i := 60) rfl) rfl
theorem wk_X3_18 : Cond.classLink RX3 18 RX1 ∈ m_tbl := m_t1 (List.mem_of_getElem? (i := 61) rfl) rfl
theorem wb_X1 : Cond.instantiable RX1 5 ∈ m_tbl := m_t1 (List.mem_of_getElem? (i := 62) rfl) rfl
theorem wln_X3_20 : Cond.methodLinkNest RX3 20 yX1_init "GroupCommits" ∈ lw_tbl := m_u1 (List.mem_of_getElem? (i := 63) rfl)
theorem wi_X1_init : Cond.instanceMethod yX1_init ∈ m_tbl := m_t1 (List.mem_of_getElem? (i := 64) rfl) rfl
theorem wc_X1_init : Cond.code yX1_init cX1_init 1 none ∈ m_tbl := m_t1 (List.mem_of_getElem? (i := 65) rfl) rfl
theorem wl_X1_5 : Cond.methodLink RX1 5 objectInit ∈ m_tbl := m_t1 (List.mem_of_getElem? (i := 66) rfl) rfl
theorem wf_X1_13 : Cond.fieldLink RX1 13 "GroupCommits$Groups" "states" "[I" ∈ m_tbl := m_t1 (List.mem_of_getElem? (i := 67) rfl) rfl
theorem wf_X1_17 : Cond.fieldLink RX1 17 "GroupCommits$Groups" "members" "[I" ∈ m_tbl := m_t1 (List.mem_of_getElem? (i := 68) rfl) rfl
theorem wf_X1_20 : Cond.fieldLink RX1 20 "GroupCommits$Groups" "records" "[I" ∈ m_tbl := m_t1 (List.mem_of_getElem? (i := 69) rfl) rfl
theorem wf_X1_23 : Cond.fieldLink RX1 23 "GroupCommits$Groups" "reasons" "[I" ∈ m_tbl := m_t1 (List.mem_of_getElem? (i := 70) rfl) rfl
theorem wf_X1_32 : Cond.fieldLink RX1 32 "GroupCommits$Groups" "size" "I" ∈ m_tbl := m_t1 (List.mem_of_getElem? (i := 71) rfl) rfl
theorem wk_X3_25 : Cond.classLink RX3 25 RX4 ∈ m_tbl := m_t1 (List.mem_of_getElem? (i := 83) rfl) rfl
theorem wb_X4 : Cond.instantiable RX4 3 ∈ m_tbl := m_t1 (List.mem_of_getElem? (i := 84) rfl) rfl
theorem wln_X3_27 : Cond.methodLinkNest RX3 27 yX4_init "GroupCommits" ∈ lw_tbl := m_u1 (List.mem_of_getElem? (i := 85) rfl)
theorem wi_X4_init : Cond.instanceMethod yX4_init ∈ m_tbl := m_t1 (List.mem_of_getElem? (i := 86) rfl) rfl
theorem wc_X4_init : Cond.code yX4_init cX4_init 1 none ∈ m_tbl := m_t1 (List.mem_of_getElem? (i := 87) rfl) rfl
theorem wl_X4_5 : Cond.methodLink RX4 5 objectInit ∈ m_tbl := m_t1 (List.mem_of_getElem? (i := 88) rfl) rfl
theorem wf_X4_13 : Cond.fieldLink RX4 13 "GroupCommits$Queue" "row" "[I" ∈ m_tbl := m_t1 (List.mem_of_getElem? (i := 89) rfl) rfl
theorem wf_X4_23 : Cond.fieldLink RX4 23 "GroupCommits$Queue" "first" "I" ∈ m_tbl := m_t1 (List.mem_of_getElem? (i := 90) rfl) rfl
theorem wf_X4_27 : Cond.fieldLink RX4 27 "GroupCommits$Queue" "end" "I" ∈ m_tbl := m_t1 (List.mem_of_getElem? (i := 91) rfl) rfl
theorem wk_X3_32 : Cond.classLink RX3 32 RX6 ∈ m_tbl := m_t1 (List.mem_of_getElem? (i := 99) rfl) rfl
theorem wb_X6 : Cond.instantiable RX6 1 ∈ m_tbl := m_t1 (List.mem_of_getElem? (i := 100) rfl) rfl
theorem wl_X3_34 : Cond.methodLink RX3 34 yX6_init ∈ m_tbl := m_t1 (List.mem_of_getElem? (i := 101) rfl) rfl
theorem wi_X6_init : Cond.instanceMethod yX6_init ∈ m_tbl := m_t1 (List.mem_of_getElem? (i := 102) rfl) rfl
theorem wc_X6_init : Cond.code yX6_init cX6_init 1 none ∈ m_tbl := m_t1 (List.mem_of_getElem? (i := 103) rfl) rfl
theorem wl_X6_3 : Cond.methodLink RX6 3 objectInit ∈ m_tbl := m_t1 (List.mem_of_getElem? (i := 104) rfl) rfl
theorem wf_X6_15 : Cond.fieldLink RX6 15 "GroupCommits$Settings" "FIRST" "[I" ∈ m_tbl := m_t1 (List.mem_of_getElem? (i := 105) rfl) rfl
theorem wz_FIRST : Cond.laysStatic "GroupCommits$Settings" "FIRST" "[I" ∈ lw_tbl := m_u1 (List.mem_of_getElem? (i := 106) rfl)
theorem wl_X6_18 : Cond.methodLink RX6 18 arraycopyName ∈ m_tbl := m_t1 (List.mem_of_getElem? (i := 107) rfl) rfl
theorem wst_arraycopyName : Cond.static arraycopyName ∈ m_tbl := m_t1 (List.mem_of_getElem? (i := 108) rfl) rfl
theorem wnat_arraycopyName : Cond.native arraycopyName ∈ m_tbl := m_t1 (List.mem_of_getElem? (i := 109) rfl) rfl
theorem wf_X6_11 : Cond.fieldLink RX6 11 "GroupCommits$Settings" "values" "[I" ∈ m_tbl := m_t1 (List.mem_of_getElem? (i := 110) rfl) rfl
theorem wf_X3_12 : Cond.fieldLink RX3 12 "GroupCommits$Log" "commits" "LGroupCommits$Commits;" ∈ m_tbl := m_t1 (List.mem_of_getElem? (i := 114) rfl) rfl
theorem wf_X3_21 : Cond.fieldLink RX3 21 "GroupCommits$Log" "groups" "LGroupCommits$Groups;" ∈ m_tbl := m_t1 (List.mem_of_getElem? (i := 115) rfl) rfl
theorem wf_X3_28 : Cond.fieldLink RX3 28 "GroupCommits$Log" "queue" "LGroupCommits$Queue;" ∈ m_tbl := m_t1 (List.mem_of_getElem? (i := 116) rfl) rfl
theorem wf_X3_35 : Cond.fieldLink RX3 35 "GroupCommits$Log" "settings" "LGroupCommits$Settings;" ∈ m_tbl := m_t1 (List.mem_of_getElem? (i := 117) rfl) rfl
theorem wf_X3_39 : Cond.fieldLink RX3 39 "GroupCommits$Log" "totals" "[I" ∈ m_tbl := m_t1 (List.mem_of_getElem? (i := 118) rfl) rfl
theorem wf_X3_43 : Cond.fieldLink RX3 43 "GroupCommits$Log" "openCommits" "[I" ∈ m_tbl := m_t1 (List.mem_of_getElem? (i := 119) rfl) rfl
theorem wf_X3_75 : Cond.fieldLink RX3 75 "GroupCommits$Log" "time" "I" ∈ m_tbl := m_t1 (List.mem_of_getElem? (i := 120) rfl) rfl
theorem wf_X3_46 : Cond.fieldLink RX3 46 "GroupCommits$Log" "wait" "I" ∈ m_tbl := m_t1 (List.mem_of_getElem? (i := 121) rfl) rfl
theorem wf_X3_50 : Cond.fieldLink RX3 50 "GroupCommits$Log" "gathering" "I" ∈ m_tbl := m_t1 (List.mem_of_getElem? (i := 122) rfl) rfl
theorem wf_X3_78 : Cond.fieldLink RX3 78 "GroupCommits$Log" "gatheringEnd" "I" ∈ m_tbl := m_t1 (List.mem_of_getElem? (i := 123) rfl) rfl
theorem wf_X3_53 : Cond.fieldLink RX3 53 "GroupCommits$Log" "writing" "I" ∈ m_tbl := m_t1 (List.mem_of_getElem? (i := 124) rfl) rfl
theorem wf_X3_81 : Cond.fieldLink RX3 81 "GroupCommits$Log" "ticksLeft" "I" ∈ m_tbl := m_t1 (List.mem_of_getElem? (i := 125) rfl) rfl
theorem wk_X7_19 : Cond.classLink RX7 19 RX2 ∈ m_tbl := m_t1 (List.mem_of_getElem? (i := 151) rfl) rfl
theorem wb_X2 : Cond.instantiable RX2 3 ∈ m_tbl := m_t1 (List.mem_of_getElem? (i := 152) rfl) rfl
theorem wl_X7_21 : Cond.methodLink RX7 21 yX2_init ∈ m_tbl := m_t1 (List.mem_of_getElem? (i := 153) rfl) rfl
theorem wi_X2_init : Cond.instanceMethod yX2_init ∈ m_tbl := m_t1 (List.mem_of_getElem? (i := 154) rfl) rfl
theorem wc_X2_init : Cond.code yX2_init cX2_init 2 none ∈ m_tbl := m_t1 (List.mem_of_getElem? (i := 155) rfl) rfl
theorem wl_X2_3 : Cond.methodLink RX2 3 objectInit ∈ m_tbl := m_t1 (List.mem_of_getElem? (i := 156) rfl) rfl
theorem wk_X2_11 : Cond.classLink RX2 11 RX3 ∈ m_tbl := m_t1 (List.mem_of_getElem? (i := 157) rfl) rfl
theorem wo_arrayOver : Cond.arrayOver (.object "GroupCommits$Log") ∈ lw_tbl := m_u1 (List.mem_of_getElem? (i := 158) rfl)
theorem wl_X2_17 : Cond.methodLink RX2 17 yX3_init ∈ m_tbl := m_t1 (List.mem_of_getElem? (i := 159) rfl) rfl
theorem wf_X2_13 : Cond.fieldLink RX2 13 "GroupCommits$History" "states" "[LGroupCommits$Log;" ∈ m_tbl := m_t1 (List.mem_of_getElem? (i := 160) rfl) rfl
theorem wf_X2_22 : Cond.fieldLink RX2 22 "GroupCommits$History" "oldest" "I" ∈ m_tbl := m_t1 (List.mem_of_getElem? (i := 161) rfl) rfl
theorem wf_X2_18 : Cond.fieldLink RX2 18 "GroupCommits$History" "size" "I" ∈ m_tbl := m_t1 (List.mem_of_getElem? (i := 162) rfl) rfl
theorem wk_X7_26 : Cond.classLink RX7 26 RX5 ∈ m_tbl := m_t1 (List.mem_of_getElem? (i := 170) rfl) rfl
theorem wb_X5 : Cond.instantiable RX5 7 ∈ m_tbl := m_t1 (List.mem_of_getElem? (i := 171) rfl) rfl
theorem wln_X7_28 : Cond.methodLinkNest RX7 28 yX5_init "GroupCommits" ∈ lw_tbl := m_u1 (List.mem_of_getElem? (i := 172) rfl)
theorem wi_X5_init : Cond.instanceMethod yX5_init ∈ m_tbl := m_t1 (List.mem_of_getElem? (i := 173) rfl) rfl
theorem wc_X5_init : Cond.code yX5_init cX5_init 1 none ∈ m_tbl := m_t1 (List.mem_of_getElem? (i := 174) rfl) rfl
theorem wl_X5_3 : Cond.methodLink RX5 3 objectInit ∈ m_tbl := m_t1 (List.mem_of_getElem? (i := 175) rfl) rfl
theorem wf_X5_11 : Cond.fieldLink RX5 11 "GroupCommits$Script" "characters" "[C" ∈ m_tbl := m_t1 (List.mem_of_getElem? (i := 176) rfl) rfl
theorem wf_X5_15 : Cond.fieldLink RX5 15 "GroupCommits$Script" "length" "I" ∈ m_tbl := m_t1 (List.mem_of_getElem? (i := 177) rfl) rfl
theorem wa_char : Cond.arrayClass .char ∈ m_tbl := m_t1 (List.mem_of_getElem? (i := 193) rfl) rfl
theorem wf_X7_10 : Cond.fieldLink RX7 10 "GroupCommits" "now" "LGroupCommits$Log;" ∈ m_tbl := m_t1 (List.mem_of_getElem? (i := 194) rfl) rfl
theorem wf_X7_16 : Cond.fieldLink RX7 16 "GroupCommits" "snapshot" "LGroupCommits$Log;" ∈ m_tbl := m_t1 (List.mem_of_getElem? (i := 195) rfl) rfl
theorem wf_X7_22 : Cond.fieldLink RX7 22 "GroupCommits" "history" "LGroupCommits$History;" ∈ m_tbl := m_t1 (List.mem_of_getElem? (i := 196) rfl) rfl
theorem wf_X7_29 : Cond.fieldLink RX7 29 "GroupCommits" "script" "LGroupCommits$Script;" ∈ m_tbl := m_t1 (List.mem_of_getElem? (i := 197) rfl) rfl
theorem wl_L_136 : Cond.methodLink RL 136 yX7_undo ∈ m_tbl := m_t1 (List.mem_of_getElem? (i := 209) rfl) rfl
theorem wi_X7_undo : Cond.instanceMethod yX7_undo ∈ m_tbl := m_t1 (List.mem_of_getElem? (i := 210) rfl) rfl
theorem ws_X7_undo : Cond.selects RX7 yX7_undo yX7_undo ∈ m_tbl := m_t1 (List.mem_of_getElem? (i := 211) rfl) rfl
theorem wc_X7_undo : Cond.code yX7_undo cX7_undo 1 (some .int) ∈ m_tbl := m_t1 (List.mem_of_getElem? (i := 212) rfl) rfl
theorem wl_X7_108 : Cond.methodLink RX7 108 yX2_popInto ∈ m_tbl := m_t1 (List.mem_of_getElem? (i := 213) rfl) rfl
theorem wi_X2_popInto : Cond.instanceMethod yX2_popInto ∈ m_tbl := m_t1 (List.mem_of_getElem? (i := 214) rfl) rfl
theorem ws_X2_popInto : Cond.selects RX2 yX2_popInto yX2_popInto ∈ m_tbl := m_t1 (List.mem_of_getElem? (i := 215) rfl) rfl
theorem wc_X2_popInto : Cond.code yX2_popInto cX2_popInto 3 (some .int) ∈ m_tbl := m_t1 (List.mem_of_getElem? (i := 216) rfl) rfl
theorem wl_X2_25 : Cond.methodLink RX2 25 yX2_stateAt ∈ m_tbl := m_t1 (List.mem_of_getElem? (i := 217) rfl) rfl
theorem wi_X2_stateAt : Cond.instanceMethod yX2_stateAt ∈ m_tbl := m_t1 (List.mem_of_getElem? (i := 219) rfl) rfl
theorem wc_X2_stateAt : Cond.code yX2_stateAt cX2_stateAt 3 (some (.object "GroupCommits$Log")) ∈ m_tbl := m_t1 (List.mem_of_getElem? (i := 220) rfl) rfl
theorem wl_X2_29 : Cond.methodLink RX2 29 yX3_copyFrom ∈ m_tbl := m_t1 (List.mem_of_getElem? (i := 221) rfl) rfl
theorem wi_X3_copyFrom : Cond.instanceMethod yX3_copyFrom ∈ m_tbl := m_t1 (List.mem_of_getElem? (i := 222) rfl) rfl
theorem ws_X3_copyFrom : Cond.selects RX3 yX3_copyFrom yX3_copyFrom ∈ m_tbl := m_t1 (List.mem_of_getElem? (i := 223) rfl) rfl
theorem wc_X3_copyFrom : Cond.code yX3_copyFrom cX3_copyFrom 2 none ∈ m_tbl := m_t1 (List.mem_of_getElem? (i := 224) rfl) rfl
theorem wl_X3_56 : Cond.methodLink RX3 56 yX0_copyFrom ∈ m_tbl := m_t1 (List.mem_of_getElem? (i := 225) rfl) rfl
theorem wi_X0_copyFrom : Cond.instanceMethod yX0_copyFrom ∈ m_tbl := m_t1 (List.mem_of_getElem? (i := 226) rfl) rfl
theorem ws_X0_copyFrom : Cond.selects RX0 yX0_copyFrom yX0_copyFrom ∈ m_tbl := m_t1 (List.mem_of_getElem? (i := 227) rfl) rfl
theorem wc_X0_copyFrom : Cond.code yX0_copyFrom cX0_copyFrom 2 none ∈ m_tbl := m_t1 (List.mem_of_getElem? (i := 228) rfl) rfl
theorem wl_X0_37 : Cond.methodLink RX0 37 arraycopyName ∈ m_tbl := m_t1 (List.mem_of_getElem? (i := 229) rfl) rfl
theorem wl_X3_60 : Cond.methodLink RX3 60 yX1_copyFrom ∈ m_tbl := m_t1 (List.mem_of_getElem? (i := 230) rfl) rfl
theorem wi_X1_copyFrom : Cond.instanceMethod yX1_copyFrom ∈ m_tbl := m_t1 (List.mem_of_getElem? (i := 231) rfl) rfl
theorem ws_X1_copyFrom : Cond.selects RX1 yX1_copyFrom yX1_copyFrom ∈ m_tbl := m_t1 (List.mem_of_getElem? (i := 232) rfl) rfl
theorem wc_X1_copyFrom : Cond.code yX1_copyFrom cX1_copyFrom 2 none ∈ m_tbl := m_t1 (List.mem_of_getElem? (i := 233) rfl) rfl
theorem wl_X1_26 : Cond.methodLink RX1 26 arraycopyName ∈ m_tbl := m_t1 (List.mem_of_getElem? (i := 234) rfl) rfl
theorem wl_X3_63 : Cond.methodLink RX3 63 yX4_copyFrom ∈ m_tbl := m_t1 (List.mem_of_getElem? (i := 235) rfl) rfl
theorem wi_X4_copyFrom : Cond.instanceMethod yX4_copyFrom ∈ m_tbl := m_t1 (List.mem_of_getElem? (i := 236) rfl) rfl
theorem ws_X4_copyFrom : Cond.selects RX4 yX4_copyFrom yX4_copyFrom ∈ m_tbl := m_t1 (List.mem_of_getElem? (i := 237) rfl) rfl
theorem wc_X4_copyFrom : Cond.code yX4_copyFrom cX4_copyFrom 2 none ∈ m_tbl := m_t1 (List.mem_of_getElem? (i := 238) rfl) rfl
theorem wl_X4_17 : Cond.methodLink RX4 17 arraycopyName ∈ m_tbl := m_t1 (List.mem_of_getElem? (i := 239) rfl) rfl
theorem wl_X3_66 : Cond.methodLink RX3 66 yX6_copyFrom ∈ m_tbl := m_t2 (List.mem_of_getElem? (i := 0) rfl) rfl
theorem wi_X6_copyFrom : Cond.instanceMethod yX6_copyFrom ∈ m_tbl := m_t2 (List.mem_of_getElem? (i := 1) rfl) rfl
theorem ws_X6_copyFrom : Cond.selects RX6 yX6_copyFrom yX6_copyFrom ∈ m_tbl := m_t2 (List.mem_of_getElem? (i := 2) rfl) rfl
theorem wc_X6_copyFrom : Cond.code yX6_copyFrom cX6_copyFrom 2 none ∈ m_tbl := m_t2 (List.mem_of_getElem? (i := 3) rfl) rfl
theorem wl_X3_69 : Cond.methodLink RX3 69 arraycopyName ∈ m_tbl := m_t2 (List.mem_of_getElem? (i := 4) rfl) rfl
theorem wl_L_124 : Cond.methodLink RL 124 yL_cell ∈ m_tbl := m_t2 (List.mem_of_getElem? (i := 5) rfl) rfl
theorem wst_L_cell : Cond.static yL_cell ∈ m_tbl := m_t2 (List.mem_of_getElem? (i := 6) rfl) rfl
theorem wc_L_cell : Cond.code yL_cell cL_cell 2 (some .int) ∈ m_tbl := m_t2 (List.mem_of_getElem? (i := 7) rfl) rfl
theorem wq_L_7 : Cond.constant RL 7 (42491) ∈ m_tbl := m_t2 (List.mem_of_getElem? (i := 8) rfl) rfl
theorem wq_L_8 : Cond.constant RL 8 (1859539) ∈ m_tbl := m_t2 (List.mem_of_getElem? (i := 9) rfl) rfl
theorem wl_L_107 : Cond.methodLink RL 107 yL_low ∈ m_tbl := m_t2 (List.mem_of_getElem? (i := 10) rfl) rfl
theorem wst_L_low : Cond.static yL_low ∈ m_tbl := m_t2 (List.mem_of_getElem? (i := 11) rfl) rfl
theorem wc_L_low : Cond.code yL_low cL_low 2 (some .int) ∈ m_tbl := m_t2 (List.mem_of_getElem? (i := 12) rfl) rfl
theorem wq_L_9 : Cond.constant RL 9 (2147483647) ∈ m_tbl := m_t2 (List.mem_of_getElem? (i := 13) rfl) rfl
theorem wl_L_139 : Cond.methodLink RL 139 yL_due ∈ m_tbl := m_t2 (List.mem_of_getElem? (i := 14) rfl) rfl
theorem wst_L_due : Cond.static yL_due ∈ m_tbl := m_t2 (List.mem_of_getElem? (i := 15) rfl) rfl
theorem wc_L_due : Cond.code yL_due cL_due 13 (some .int) ∈ m_tbl := m_t2 (List.mem_of_getElem? (i := 16) rfl) rfl
theorem wl_L_46 : Cond.methodLink RL 46 yL_submits ∈ m_tbl := m_t2 (List.mem_of_getElem? (i := 17) rfl) rfl
theorem wst_L_submits : Cond.static yL_submits ∈ m_tbl := m_t2 (List.mem_of_getElem? (i := 18) rfl) rfl
theorem wc_L_submits : Cond.code yL_submits cL_submits 12 (some .int) ∈ m_tbl := m_t2 (List.mem_of_getElem? (i := 19) rfl) rfl
theorem wl_L_39 : Cond.methodLink RL 39 yL_open ∈ m_tbl := m_t2 (List.mem_of_getElem? (i := 20) rfl) rfl
theorem wst_L_open : Cond.static yL_open ∈ m_tbl := m_t2 (List.mem_of_getElem? (i := 21) rfl) rfl
theorem wc_L_open : Cond.code yL_open cL_open 4 (some .int) ∈ m_tbl := m_t2 (List.mem_of_getElem? (i := 22) rfl) rfl
theorem wl_L_16 : Cond.methodLink RL 16 yL_what ∈ m_tbl := m_t2 (List.mem_of_getElem? (i := 23) rfl) rfl
theorem wst_L_what : Cond.static yL_what ∈ m_tbl := m_t2 (List.mem_of_getElem? (i := 24) rfl) rfl
theorem wc_L_what : Cond.code yL_what cL_what 2 (some .int) ∈ m_tbl := m_t2 (List.mem_of_getElem? (i := 25) rfl) rfl
theorem wl_L_23 : Cond.methodLink RL 23 yL_members ∈ m_tbl := m_t2 (List.mem_of_getElem? (i := 26) rfl) rfl
theorem wst_L_members : Cond.static yL_members ∈ m_tbl := m_t2 (List.mem_of_getElem? (i := 27) rfl) rfl
theorem wc_L_members : Cond.code yL_members cL_members 6 (some .int) ∈ m_tbl := m_t2 (List.mem_of_getElem? (i := 28) rfl) rfl
theorem wl_L_10 : Cond.methodLink RL 10 yL_records ∈ m_tbl := m_t2 (List.mem_of_getElem? (i := 29) rfl) rfl
theorem wst_L_records : Cond.static yL_records ∈ m_tbl := m_t2 (List.mem_of_getElem? (i := 30) rfl) rfl
theorem wc_L_records : Cond.code yL_records cL_records 2 (some .int) ∈ m_tbl := m_t2 (List.mem_of_getElem? (i := 31) rfl) rfl
theorem wl_L_35 : Cond.methodLink RL 35 yL_closes ∈ m_tbl := m_t2 (List.mem_of_getElem? (i := 32) rfl) rfl
theorem wst_L_closes : Cond.static yL_closes ∈ m_tbl := m_t2 (List.mem_of_getElem? (i := 33) rfl) rfl
theorem wc_L_closes : Cond.code yL_closes cL_closes 7 none ∈ m_tbl := m_t2 (List.mem_of_getElem? (i := 34) rfl) rfl
theorem wl_L_27 : Cond.methodLink RL 27 yL_turns ∈ m_tbl := m_t2 (List.mem_of_getElem? (i := 35) rfl) rfl
theorem wst_L_turns : Cond.static yL_turns ∈ m_tbl := m_t2 (List.mem_of_getElem? (i := 36) rfl) rfl
theorem wc_L_turns : Cond.code yL_turns cL_turns 7 (some .int) ∈ m_tbl := m_t2 (List.mem_of_getElem? (i := 37) rfl) rfl
theorem wl_L_19 : Cond.methodLink RL 19 yL_becomes ∈ m_tbl := m_t2 (List.mem_of_getElem? (i := 38) rfl) rfl
theorem wst_L_becomes : Cond.static yL_becomes ∈ m_tbl := m_t2 (List.mem_of_getElem? (i := 39) rfl) rfl
theorem wc_L_becomes : Cond.code yL_becomes cL_becomes 3 none ∈ m_tbl := m_t2 (List.mem_of_getElem? (i := 40) rfl) rfl
theorem wl_L_31 : Cond.methodLink RL 31 yL_writes ∈ m_tbl := m_t2 (List.mem_of_getElem? (i := 41) rfl) rfl
theorem wst_L_writes : Cond.static yL_writes ∈ m_tbl := m_t2 (List.mem_of_getElem? (i := 42) rfl) rfl
theorem wc_L_writes : Cond.code yL_writes cL_writes 5 none ∈ m_tbl := m_t2 (List.mem_of_getElem? (i := 43) rfl) rfl
theorem wl_L_50 : Cond.methodLink RL 50 yL_ticks ∈ m_tbl := m_t2 (List.mem_of_getElem? (i := 44) rfl) rfl
theorem wst_L_ticks : Cond.static yL_ticks ∈ m_tbl := m_t2 (List.mem_of_getElem? (i := 45) rfl) rfl
theorem wc_L_ticks : Cond.code yL_ticks cL_ticks 12 (some .int) ∈ m_tbl := m_t2 (List.mem_of_getElem? (i := 46) rfl) rfl
theorem wl_L_54 : Cond.methodLink RL 54 yL_outs ∈ m_tbl := m_t2 (List.mem_of_getElem? (i := 47) rfl) rfl
theorem wst_L_outs : Cond.static yL_outs ∈ m_tbl := m_t2 (List.mem_of_getElem? (i := 48) rfl) rfl
theorem wc_L_outs : Cond.code yL_outs cL_outs 9 none ∈ m_tbl := m_t2 (List.mem_of_getElem? (i := 49) rfl) rfl
theorem wl_L_43 : Cond.methodLink RL 43 yL_firstOf ∈ m_tbl := m_t2 (List.mem_of_getElem? (i := 50) rfl) rfl
theorem wst_L_firstOf : Cond.static yL_firstOf ∈ m_tbl := m_t2 (List.mem_of_getElem? (i := 51) rfl) rfl
theorem wc_L_firstOf : Cond.code yL_firstOf cL_firstOf 4 (some .int) ∈ m_tbl := m_t2 (List.mem_of_getElem? (i := 52) rfl) rfl
theorem wl_L_132 : Cond.methodLink RL 132 yL_call ∈ m_tbl := m_t2 (List.mem_of_getElem? (i := 53) rfl) rfl
theorem wst_L_call : Cond.static yL_call ∈ m_tbl := m_t2 (List.mem_of_getElem? (i := 54) rfl) rfl
theorem wc_L_call : Cond.code yL_call cL_call 4 (some .int) ∈ m_tbl := m_t2 (List.mem_of_getElem? (i := 55) rfl) rfl
theorem wl_L_58 : Cond.methodLink RL 58 yX7_submit ∈ m_tbl := m_t2 (List.mem_of_getElem? (i := 56) rfl) rfl
theorem wi_X7_submit : Cond.instanceMethod yX7_submit ∈ m_tbl := m_t2 (List.mem_of_getElem? (i := 57) rfl) rfl
theorem ws_X7_submit : Cond.selects RX7 yX7_submit yX7_submit ∈ m_tbl := m_t2 (List.mem_of_getElem? (i := 58) rfl) rfl
theorem wc_X7_submit : Cond.code yX7_submit cX7_submit 5 (some .int) ∈ m_tbl := m_t2 (List.mem_of_getElem? (i := 59) rfl) rfl
theorem wl_X7_33 : Cond.methodLink RX7 33 yX3_refusalToEnter ∈ m_tbl := m_t2 (List.mem_of_getElem? (i := 60) rfl) rfl
theorem wi_X3_refusalToEnter : Cond.instanceMethod yX3_refusalToEnter ∈ m_tbl := m_t2 (List.mem_of_getElem? (i := 61) rfl) rfl
theorem ws_X3_refusalToEnter : Cond.selects RX3 yX3_refusalToEnter yX3_refusalToEnter ∈ m_tbl := m_t2 (List.mem_of_getElem? (i := 62) rfl) rfl
theorem wc_X3_refusalToEnter : Cond.code yX3_refusalToEnter cX3_refusalToEnter 3 (some .int) ∈ m_tbl := m_t2 (List.mem_of_getElem? (i := 63) rfl) rfl
theorem wl_X3_84 : Cond.methodLink RX3 84 yX3_isClient ∈ m_tbl := m_t2 (List.mem_of_getElem? (i := 64) rfl) rfl
theorem wst_X3_isClient : Cond.static yX3_isClient ∈ m_tbl := m_t2 (List.mem_of_getElem? (i := 65) rfl) rfl
theorem wc_X3_isClient : Cond.code yX3_isClient cX3_isClient 1 (some .boolean) ∈ m_tbl := m_t2 (List.mem_of_getElem? (i := 66) rfl) rfl
theorem wl_X3_88 : Cond.methodLink RX3 88 yX3_isRecords ∈ m_tbl := m_t2 (List.mem_of_getElem? (i := 67) rfl) rfl
theorem wst_X3_isRecords : Cond.static yX3_isRecords ∈ m_tbl := m_t2 (List.mem_of_getElem? (i := 68) rfl) rfl
theorem wc_X3_isRecords : Cond.code yX3_isRecords cX3_isRecords 1 (some .boolean) ∈ m_tbl := m_t2 (List.mem_of_getElem? (i := 69) rfl) rfl
theorem wl_X3_91 : Cond.methodLink RX3 91 yX3_openCommitOf ∈ m_tbl := m_t2 (List.mem_of_getElem? (i := 70) rfl) rfl
theorem wi_X3_openCommitOf : Cond.instanceMethod yX3_openCommitOf ∈ m_tbl := m_t2 (List.mem_of_getElem? (i := 71) rfl) rfl
theorem ws_X3_openCommitOf : Cond.selects RX3 yX3_openCommitOf yX3_openCommitOf ∈ m_tbl := m_t2 (List.mem_of_getElem? (i := 72) rfl) rfl
theorem wc_X3_openCommitOf : Cond.code yX3_openCommitOf cX3_openCommitOf 2 (some .int) ∈ m_tbl := m_t2 (List.mem_of_getElem? (i := 73) rfl) rfl
theorem wl_X3_95 : Cond.methodLink RX3 95 yX0_isFull ∈ m_tbl := m_t2 (List.mem_of_getElem? (i := 74) rfl) rfl
theorem wi_X0_isFull : Cond.instanceMethod yX0_isFull ∈ m_tbl := m_t2 (List.mem_of_getElem? (i := 75) rfl) rfl
theorem ws_X0_isFull : Cond.selects RX0 yX0_isFull yX0_isFull ∈ m_tbl := m_t2 (List.mem_of_getElem? (i := 76) rfl) rfl
theorem wc_X0_isFull : Cond.code yX0_isFull cX0_isFull 1 (some .boolean) ∈ m_tbl := m_t2 (List.mem_of_getElem? (i := 77) rfl) rfl
theorem wl_X7_37 : Cond.methodLink RX7 37 yX2_push ∈ m_tbl := m_t2 (List.mem_of_getElem? (i := 78) rfl) rfl
theorem wi_X2_push : Cond.instanceMethod yX2_push ∈ m_tbl := m_t2 (List.mem_of_getElem? (i := 79) rfl) rfl
theorem ws_X2_push : Cond.selects RX2 yX2_push yX2_push ∈ m_tbl := m_t2 (List.mem_of_getElem? (i := 80) rfl) rfl
theorem wc_X2_push : Cond.code yX2_push cX2_push 3 none ∈ m_tbl := m_t2 (List.mem_of_getElem? (i := 81) rfl) rfl
theorem wl_X7_41 : Cond.methodLink RX7 41 yX3_enter ∈ m_tbl := m_t2 (List.mem_of_getElem? (i := 82) rfl) rfl
theorem wi_X3_enter : Cond.instanceMethod yX3_enter ∈ m_tbl := m_t2 (List.mem_of_getElem? (i := 83) rfl) rfl
theorem ws_X3_enter : Cond.selects RX3 yX3_enter yX3_enter ∈ m_tbl := m_t2 (List.mem_of_getElem? (i := 84) rfl) rfl
theorem wc_X3_enter : Cond.code yX3_enter cX3_enter 6 (some .int) ∈ m_tbl := m_t2 (List.mem_of_getElem? (i := 85) rfl) rfl
theorem wl_X3_103 : Cond.methodLink RX3 103 yX3_beginGroup ∈ m_tbl := m_t2 (List.mem_of_getElem? (i := 86) rfl) rfl
theorem wi_X3_beginGroup : Cond.instanceMethod yX3_beginGroup ∈ m_tbl := m_t2 (List.mem_of_getElem? (i := 88) rfl) rfl
theorem wc_X3_beginGroup : Cond.code yX3_beginGroup cX3_beginGroup 1 none ∈ m_tbl := m_t2 (List.mem_of_getElem? (i := 89) rfl) rfl
theorem wl_X3_152 : Cond.methodLink RX3 152 yX1_begin ∈ m_tbl := m_t2 (List.mem_of_getElem? (i := 90) rfl) rfl
theorem wi_X1_begin : Cond.instanceMethod yX1_begin ∈ m_tbl := m_t2 (List.mem_of_getElem? (i := 91) rfl) rfl
theorem ws_X1_begin : Cond.selects RX1 yX1_begin yX1_begin ∈ m_tbl := m_t2 (List.mem_of_getElem? (i := 92) rfl) rfl
theorem wc_X1_begin : Cond.code yX1_begin cX1_begin 2 (some .int) ∈ m_tbl := m_t2 (List.mem_of_getElem? (i := 93) rfl) rfl
theorem wl_X3_106 : Cond.methodLink RX3 106 yX0_add ∈ m_tbl := m_t2 (List.mem_of_getElem? (i := 94) rfl) rfl
theorem wi_X0_add : Cond.instanceMethod yX0_add ∈ m_tbl := m_t2 (List.mem_of_getElem? (i := 95) rfl) rfl
theorem ws_X0_add : Cond.selects RX0 yX0_add yX0_add ∈ m_tbl := m_t2 (List.mem_of_getElem? (i := 96) rfl) rfl
theorem wc_X0_add : Cond.code yX0_add cX0_add 7 (some .int) ∈ m_tbl := m_t2 (List.mem_of_getElem? (i := 97) rfl) rfl
theorem wl_X0_47 : Cond.methodLink RX0 47 yX0_isFull ∈ m_tbl := m_t2 (List.mem_of_getElem? (i := 98) rfl) rfl
theorem wl_X3_110 : Cond.methodLink RX3 110 yX1_join ∈ m_tbl := m_t2 (List.mem_of_getElem? (i := 99) rfl) rfl
theorem wi_X1_join : Cond.instanceMethod yX1_join ∈ m_tbl := m_t2 (List.mem_of_getElem? (i := 100) rfl) rfl
theorem ws_X1_join : Cond.selects RX1 yX1_join yX1_join ∈ m_tbl := m_t2 (List.mem_of_getElem? (i := 101) rfl) rfl
theorem wc_X1_join : Cond.code yX1_join cX1_join 3 none ∈ m_tbl := m_t2 (List.mem_of_getElem? (i := 102) rfl) rfl
theorem wl_X1_36 : Cond.methodLink RX1 36 yX1_has ∈ m_tbl := m_t2 (List.mem_of_getElem? (i := 103) rfl) rfl
theorem wi_X1_has : Cond.instanceMethod yX1_has ∈ m_tbl := m_t2 (List.mem_of_getElem? (i := 104) rfl) rfl
theorem ws_X1_has : Cond.selects RX1 yX1_has yX1_has ∈ m_tbl := m_t2 (List.mem_of_getElem? (i := 105) rfl) rfl
theorem wc_X1_has : Cond.code yX1_has cX1_has 2 (some .boolean) ∈ m_tbl := m_t2 (List.mem_of_getElem? (i := 106) rfl) rfl
theorem wl_X3_114 : Cond.methodLink RX3 114 yX3_setOpenCommit ∈ m_tbl := m_t2 (List.mem_of_getElem? (i := 107) rfl) rfl
theorem wi_X3_setOpenCommit : Cond.instanceMethod yX3_setOpenCommit ∈ m_tbl := m_t2 (List.mem_of_getElem? (i := 109) rfl) rfl
theorem wc_X3_setOpenCommit : Cond.code yX3_setOpenCommit cX3_setOpenCommit 3 none ∈ m_tbl := m_t2 (List.mem_of_getElem? (i := 110) rfl) rfl
theorem wl_X3_117 : Cond.methodLink RX3 117 yX1_recordsOf ∈ m_tbl := m_t2 (List.mem_of_getElem? (i := 111) rfl) rfl
theorem wi_X1_recordsOf : Cond.instanceMethod yX1_recordsOf ∈ m_tbl := m_t2 (List.mem_of_getElem? (i := 112) rfl) rfl
theorem ws_X1_recordsOf : Cond.selects RX1 yX1_recordsOf yX1_recordsOf ∈ m_tbl := m_t2 (List.mem_of_getElem? (i := 113) rfl) rfl
theorem wc_X1_recordsOf : Cond.code yX1_recordsOf cX1_recordsOf 2 (some .int) ∈ m_tbl := m_t2 (List.mem_of_getElem? (i := 114) rfl) rfl
theorem wl_X3_120 : Cond.methodLink RX3 120 yX3_reasonToClose ∈ m_tbl := m_t2 (List.mem_of_getElem? (i := 115) rfl) rfl
theorem wi_X3_reasonToClose : Cond.instanceMethod yX3_reasonToClose ∈ m_tbl := m_t2 (List.mem_of_getElem? (i := 117) rfl) rfl
theorem wc_X3_reasonToClose : Cond.code yX3_reasonToClose cX3_reasonToClose 4 (some .int) ∈ m_tbl := m_t2 (List.mem_of_getElem? (i := 118) rfl) rfl
theorem wl_X3_155 : Cond.methodLink RX3 155 yX6_valueOf ∈ m_tbl := m_t2 (List.mem_of_getElem? (i := 119) rfl) rfl
theorem wi_X6_valueOf : Cond.instanceMethod yX6_valueOf ∈ m_tbl := m_t2 (List.mem_of_getElem? (i := 120) rfl) rfl
theorem ws_X6_valueOf : Cond.selects RX6 yX6_valueOf yX6_valueOf ∈ m_tbl := m_t2 (List.mem_of_getElem? (i := 121) rfl) rfl
theorem wc_X6_valueOf : Cond.code yX6_valueOf cX6_valueOf 2 (some .int) ∈ m_tbl := m_t2 (List.mem_of_getElem? (i := 122) rfl) rfl
theorem wl_X3_124 : Cond.methodLink RX3 124 yX3_closeGathering ∈ m_tbl := m_t2 (List.mem_of_getElem? (i := 123) rfl) rfl
theorem wi_X3_closeGathering : Cond.instanceMethod yX3_closeGathering ∈ m_tbl := m_t2 (List.mem_of_getElem? (i := 125) rfl) rfl
theorem wc_X3_closeGathering : Cond.code yX3_closeGathering cX3_closeGathering 3 none ∈ m_tbl := m_t2 (List.mem_of_getElem? (i := 126) rfl) rfl
theorem wl_X3_158 : Cond.methodLink RX3 158 yX1_close ∈ m_tbl := m_t2 (List.mem_of_getElem? (i := 127) rfl) rfl
theorem wi_X1_close : Cond.instanceMethod yX1_close ∈ m_tbl := m_t2 (List.mem_of_getElem? (i := 128) rfl) rfl
theorem ws_X1_close : Cond.selects RX1 yX1_close yX1_close ∈ m_tbl := m_t2 (List.mem_of_getElem? (i := 129) rfl) rfl
theorem wc_X1_close : Cond.code yX1_close cX1_close 3 none ∈ m_tbl := m_t2 (List.mem_of_getElem? (i := 130) rfl) rfl
theorem wl_X3_161 : Cond.methodLink RX3 161 yX0_moveMembers ∈ m_tbl := m_t2 (List.mem_of_getElem? (i := 131) rfl) rfl
theorem wi_X0_moveMembers : Cond.instanceMethod yX0_moveMembers ∈ m_tbl := m_t2 (List.mem_of_getElem? (i := 132) rfl) rfl
theorem ws_X0_moveMembers : Cond.selects RX0 yX0_moveMembers yX0_moveMembers ∈ m_tbl := m_t2 (List.mem_of_getElem? (i := 133) rfl) rfl
theorem wc_X0_moveMembers : Cond.code yX0_moveMembers cX0_moveMembers 5 none ∈ m_tbl := m_t2 (List.mem_of_getElem? (i := 134) rfl) rfl
theorem wl_X3_165 : Cond.methodLink RX3 165 yX4_add ∈ m_tbl := m_t2 (List.mem_of_getElem? (i := 135) rfl) rfl
theorem wi_X4_add : Cond.instanceMethod yX4_add ∈ m_tbl := m_t2 (List.mem_of_getElem? (i := 136) rfl) rfl
theorem ws_X4_add : Cond.selects RX4 yX4_add yX4_add ∈ m_tbl := m_t2 (List.mem_of_getElem? (i := 137) rfl) rfl
theorem wc_X4_add : Cond.code yX4_add cX4_add 2 none ∈ m_tbl := m_t2 (List.mem_of_getElem? (i := 138) rfl) rfl
theorem wl_X3_143 : Cond.methodLink RX3 143 yX1_membersOf ∈ m_tbl := m_t2 (List.mem_of_getElem? (i := 139) rfl) rfl
theorem wi_X1_membersOf : Cond.instanceMethod yX1_membersOf ∈ m_tbl := m_t2 (List.mem_of_getElem? (i := 140) rfl) rfl
theorem ws_X1_membersOf : Cond.selects RX1 yX1_membersOf yX1_membersOf ∈ m_tbl := m_t2 (List.mem_of_getElem? (i := 141) rfl) rfl
theorem wc_X1_membersOf : Cond.code yX1_membersOf cX1_membersOf 2 (some .int) ∈ m_tbl := m_t2 (List.mem_of_getElem? (i := 142) rfl) rfl
theorem wl_X3_167 : Cond.methodLink RX3 167 yX3_learnWait ∈ m_tbl := m_t2 (List.mem_of_getElem? (i := 143) rfl) rfl
theorem wi_X3_learnWait : Cond.instanceMethod yX3_learnWait ∈ m_tbl := m_t2 (List.mem_of_getElem? (i := 145) rfl) rfl
theorem wc_X3_learnWait : Cond.code yX3_learnWait cX3_learnWait 2 none ∈ m_tbl := m_t2 (List.mem_of_getElem? (i := 146) rfl) rfl
theorem wl_X3_170 : Cond.methodLink RX3 170 Lib.Math.min.name ∈ m_tbl := m_t2 (List.mem_of_getElem? (i := 147) rfl) rfl
theorem wst_Lib_Math_min_name : Cond.static Lib.Math.min.name ∈ m_tbl := m_t2 (List.mem_of_getElem? (i := 148) rfl) rfl
theorem wc_Lib_Math_min_name : Cond.code Lib.Math.min.name Lib.Math.min.code 2 (some .int) ∈ m_tbl := m_t2 (List.mem_of_getElem? (i := 149) rfl) rfl
theorem wl_X3_176 : Cond.methodLink RX3 176 Lib.Math.max.name ∈ m_tbl := m_t2 (List.mem_of_getElem? (i := 150) rfl) rfl
theorem wst_Lib_Math_max_name : Cond.static Lib.Math.max.name ∈ m_tbl := m_t2 (List.mem_of_getElem? (i := 151) rfl) rfl
theorem wc_Lib_Math_max_name : Cond.code Lib.Math.max.name Lib.Math.max.code 2 (some .int) ∈ m_tbl := m_t2 (List.mem_of_getElem? (i := 152) rfl) rfl
theorem wl_X3_128 : Cond.methodLink RX3 128 yX3_startWriting ∈ m_tbl := m_t2 (List.mem_of_getElem? (i := 153) rfl) rfl
theorem wi_X3_startWriting : Cond.instanceMethod yX3_startWriting ∈ m_tbl := m_t2 (List.mem_of_getElem? (i := 155) rfl) rfl
theorem wc_X3_startWriting : Cond.code yX3_startWriting cX3_startWriting 1 none ∈ m_tbl := m_t2 (List.mem_of_getElem? (i := 156) rfl) rfl
theorem wl_X3_190 : Cond.methodLink RX3 190 yX4_size ∈ m_tbl := m_t2 (List.mem_of_getElem? (i := 157) rfl) rfl
theorem wi_X4_size : Cond.instanceMethod yX4_size ∈ m_tbl := m_t2 (List.mem_of_getElem? (i := 158) rfl) rfl
theorem ws_X4_size : Cond.selects RX4 yX4_size yX4_size ∈ m_tbl := m_t2 (List.mem_of_getElem? (i := 159) rfl) rfl
theorem wc_X4_size : Cond.code yX4_size cX4_size 1 (some .int) ∈ m_tbl := m_t2 (List.mem_of_getElem? (i := 160) rfl) rfl
theorem wl_X3_193 : Cond.methodLink RX3 193 yX4_takeFirst ∈ m_tbl := m_t2 (List.mem_of_getElem? (i := 161) rfl) rfl
theorem wi_X4_takeFirst : Cond.instanceMethod yX4_takeFirst ∈ m_tbl := m_t2 (List.mem_of_getElem? (i := 162) rfl) rfl
theorem ws_X4_takeFirst : Cond.selects RX4 yX4_takeFirst yX4_takeFirst ∈ m_tbl := m_t2 (List.mem_of_getElem? (i := 163) rfl) rfl
theorem wc_X4_takeFirst : Cond.code yX4_takeFirst cX4_takeFirst 2 (some .int) ∈ m_tbl := m_t2 (List.mem_of_getElem? (i := 164) rfl) rfl
theorem wl_X3_196 : Cond.methodLink RX3 196 yX3_ticksToWrite ∈ m_tbl := m_t2 (List.mem_of_getElem? (i := 165) rfl) rfl
theorem wi_X3_ticksToWrite : Cond.instanceMethod yX3_ticksToWrite ∈ m_tbl := m_t2 (List.mem_of_getElem? (i := 167) rfl) rfl
theorem wc_X3_ticksToWrite : Cond.code yX3_ticksToWrite cX3_ticksToWrite 2 (some .int) ∈ m_tbl := m_t2 (List.mem_of_getElem? (i := 168) rfl) rfl
theorem wl_X3_189 : Cond.methodLink RX3 189 yX1_setState ∈ m_tbl := m_t2 (List.mem_of_getElem? (i := 169) rfl) rfl
theorem wi_X1_setState : Cond.instanceMethod yX1_setState ∈ m_tbl := m_t2 (List.mem_of_getElem? (i := 170) rfl) rfl
theorem ws_X1_setState : Cond.selects RX1 yX1_setState yX1_setState ∈ m_tbl := m_t2 (List.mem_of_getElem? (i := 171) rfl) rfl
theorem wc_X1_setState : Cond.code yX1_setState cX1_setState 3 none ∈ m_tbl := m_t2 (List.mem_of_getElem? (i := 172) rfl) rfl
theorem wl_L_64 : Cond.methodLink RL 64 yX7_tick ∈ m_tbl := m_t2 (List.mem_of_getElem? (i := 173) rfl) rfl
theorem wi_X7_tick : Cond.instanceMethod yX7_tick ∈ m_tbl := m_t2 (List.mem_of_getElem? (i := 174) rfl) rfl
theorem ws_X7_tick : Cond.selects RX7 yX7_tick yX7_tick ∈ m_tbl := m_t2 (List.mem_of_getElem? (i := 175) rfl) rfl
theorem wc_X7_tick : Cond.code yX7_tick cX7_tick 2 (some .int) ∈ m_tbl := m_t2 (List.mem_of_getElem? (i := 176) rfl) rfl
theorem wl_X7_63 : Cond.methodLink RX7 63 yX3_passTicks ∈ m_tbl := m_t2 (List.mem_of_getElem? (i := 177) rfl) rfl
theorem wi_X3_passTicks : Cond.instanceMethod yX3_passTicks ∈ m_tbl := m_t2 (List.mem_of_getElem? (i := 178) rfl) rfl
theorem ws_X3_passTicks : Cond.selects RX3 yX3_passTicks yX3_passTicks ∈ m_tbl := m_t2 (List.mem_of_getElem? (i := 179) rfl) rfl
theorem wc_X3_passTicks : Cond.code yX3_passTicks cX3_passTicks 4 (some .int) ∈ m_tbl := m_t2 (List.mem_of_getElem? (i := 180) rfl) rfl
theorem wl_X3_202 : Cond.methodLink RX3 202 yX3_passTick ∈ m_tbl := m_t2 (List.mem_of_getElem? (i := 181) rfl) rfl
theorem wi_X3_passTick : Cond.instanceMethod yX3_passTick ∈ m_tbl := m_t2 (List.mem_of_getElem? (i := 183) rfl) rfl
theorem wc_X3_passTick : Cond.code yX3_passTick cX3_passTick 2 (some .int) ∈ m_tbl := m_t2 (List.mem_of_getElem? (i := 184) rfl) rfl
theorem wl_X3_205 : Cond.methodLink RX3 205 yX3_finishWriting ∈ m_tbl := m_t2 (List.mem_of_getElem? (i := 185) rfl) rfl
theorem wi_X3_finishWriting : Cond.instanceMethod yX3_finishWriting ∈ m_tbl := m_t2 (List.mem_of_getElem? (i := 187) rfl) rfl
theorem wc_X3_finishWriting : Cond.code yX3_finishWriting cX3_finishWriting 5 (some .int) ∈ m_tbl := m_t2 (List.mem_of_getElem? (i := 188) rfl) rfl
theorem wl_X3_140 : Cond.methodLink RX3 140 yX0_groupOf ∈ m_tbl := m_t2 (List.mem_of_getElem? (i := 189) rfl) rfl
theorem wi_X0_groupOf : Cond.instanceMethod yX0_groupOf ∈ m_tbl := m_t2 (List.mem_of_getElem? (i := 190) rfl) rfl
theorem ws_X0_groupOf : Cond.selects RX0 yX0_groupOf yX0_groupOf ∈ m_tbl := m_t2 (List.mem_of_getElem? (i := 191) rfl) rfl
theorem wc_X0_groupOf : Cond.code yX0_groupOf cX0_groupOf 2 (some .int) ∈ m_tbl := m_t2 (List.mem_of_getElem? (i := 192) rfl) rfl
theorem wl_X0_51 : Cond.methodLink RX0 51 yX0_has ∈ m_tbl := m_t2 (List.mem_of_getElem? (i := 193) rfl) rfl
theorem wi_X0_has : Cond.instanceMethod yX0_has ∈ m_tbl := m_t2 (List.mem_of_getElem? (i := 194) rfl) rfl
theorem ws_X0_has : Cond.selects RX0 yX0_has yX0_has ∈ m_tbl := m_t2 (List.mem_of_getElem? (i := 195) rfl) rfl
theorem wc_X0_has : Cond.code yX0_has cX0_has 2 (some .boolean) ∈ m_tbl := m_t2 (List.mem_of_getElem? (i := 196) rfl) rfl
theorem wl_X3_208 : Cond.methodLink RX3 208 yX0_answer ∈ m_tbl := m_t2 (List.mem_of_getElem? (i := 197) rfl) rfl
theorem wi_X0_answer : Cond.instanceMethod yX0_answer ∈ m_tbl := m_t2 (List.mem_of_getElem? (i := 198) rfl) rfl
theorem ws_X0_answer : Cond.selects RX0 yX0_answer yX0_answer ∈ m_tbl := m_t2 (List.mem_of_getElem? (i := 199) rfl) rfl
theorem wc_X0_answer : Cond.code yX0_answer cX0_answer 3 none ∈ m_tbl := m_t2 (List.mem_of_getElem? (i := 200) rfl) rfl
theorem wl_X3_211 : Cond.methodLink RX3 211 yX0_submitTimeOf ∈ m_tbl := m_t2 (List.mem_of_getElem? (i := 201) rfl) rfl
theorem wi_X0_submitTimeOf : Cond.instanceMethod yX0_submitTimeOf ∈ m_tbl := m_t2 (List.mem_of_getElem? (i := 202) rfl) rfl
theorem ws_X0_submitTimeOf : Cond.selects RX0 yX0_submitTimeOf yX0_submitTimeOf ∈ m_tbl := m_t2 (List.mem_of_getElem? (i := 203) rfl) rfl
theorem wc_X0_submitTimeOf : Cond.code yX0_submitTimeOf cX0_submitTimeOf 2 (some .int) ∈ m_tbl := m_t2 (List.mem_of_getElem? (i := 204) rfl) rfl
theorem wl_L_68 : Cond.methodLink RL 68 yX7_fail ∈ m_tbl := m_t2 (List.mem_of_getElem? (i := 205) rfl) rfl
theorem wi_X7_fail : Cond.instanceMethod yX7_fail ∈ m_tbl := m_t2 (List.mem_of_getElem? (i := 206) rfl) rfl
theorem ws_X7_fail : Cond.selects RX7 yX7_fail yX7_fail ∈ m_tbl := m_t2 (List.mem_of_getElem? (i := 207) rfl) rfl
theorem wc_X7_fail : Cond.code yX7_fail cX7_fail 2 (some .int) ∈ m_tbl := m_t2 (List.mem_of_getElem? (i := 208) rfl) rfl
theorem wl_X7_45 : Cond.methodLink RX7 45 yX3_isClient ∈ m_tbl := m_t2 (List.mem_of_getElem? (i := 209) rfl) rfl
theorem wl_X7_49 : Cond.methodLink RX7 49 yX3_loseClient ∈ m_tbl := m_t2 (List.mem_of_getElem? (i := 210) rfl) rfl
theorem wi_X3_loseClient : Cond.instanceMethod yX3_loseClient ∈ m_tbl := m_t2 (List.mem_of_getElem? (i := 211) rfl) rfl
theorem ws_X3_loseClient : Cond.selects RX3 yX3_loseClient yX3_loseClient ∈ m_tbl := m_t2 (List.mem_of_getElem? (i := 212) rfl) rfl
theorem wc_X3_loseClient : Cond.code yX3_loseClient cX3_loseClient 3 (some .int) ∈ m_tbl := m_t2 (List.mem_of_getElem? (i := 213) rfl) rfl
theorem wl_X3_131 : Cond.methodLink RX3 131 yX0_stateOf ∈ m_tbl := m_t2 (List.mem_of_getElem? (i := 214) rfl) rfl
theorem wi_X0_stateOf : Cond.instanceMethod yX0_stateOf ∈ m_tbl := m_t2 (List.mem_of_getElem? (i := 215) rfl) rfl
theorem ws_X0_stateOf : Cond.selects RX0 yX0_stateOf yX0_stateOf ∈ m_tbl := m_t2 (List.mem_of_getElem? (i := 216) rfl) rfl
theorem wc_X0_stateOf : Cond.code yX0_stateOf cX0_stateOf 2 (some .int) ∈ m_tbl := m_t2 (List.mem_of_getElem? (i := 217) rfl) rfl
theorem wl_X3_134 : Cond.methodLink RX3 134 yX3_leaveGathering ∈ m_tbl := m_t2 (List.mem_of_getElem? (i := 218) rfl) rfl
theorem wi_X3_leaveGathering : Cond.instanceMethod yX3_leaveGathering ∈ m_tbl := m_t2 (List.mem_of_getElem? (i := 220) rfl) rfl
theorem wc_X3_leaveGathering : Cond.code yX3_leaveGathering cX3_leaveGathering 3 none ∈ m_tbl := m_t2 (List.mem_of_getElem? (i := 221) rfl) rfl
theorem wl_X3_179 : Cond.methodLink RX3 179 yX0_memberAt ∈ m_tbl := m_t2 (List.mem_of_getElem? (i := 222) rfl) rfl
theorem wi_X0_memberAt : Cond.instanceMethod yX0_memberAt ∈ m_tbl := m_t2 (List.mem_of_getElem? (i := 223) rfl) rfl
theorem ws_X0_memberAt : Cond.selects RX0 yX0_memberAt yX0_memberAt ∈ m_tbl := m_t2 (List.mem_of_getElem? (i := 224) rfl) rfl
theorem wc_X0_memberAt : Cond.code yX0_memberAt cX0_memberAt 5 (some .int) ∈ m_tbl := m_t2 (List.mem_of_getElem? (i := 225) rfl) rfl
theorem wl_X3_182 : Cond.methodLink RX3 182 yX0_leaveGroup ∈ m_tbl := m_t2 (List.mem_of_getElem? (i := 226) rfl) rfl
theorem wi_X0_leaveGroup : Cond.instanceMethod yX0_leaveGroup ∈ m_tbl := m_t2 (List.mem_of_getElem? (i := 227) rfl) rfl
theorem ws_X0_leaveGroup : Cond.selects RX0 yX0_leaveGroup yX0_leaveGroup ∈ m_tbl := m_t2 (List.mem_of_getElem? (i := 228) rfl) rfl
theorem wc_X0_leaveGroup : Cond.code yX0_leaveGroup cX0_leaveGroup 2 none ∈ m_tbl := m_t2 (List.mem_of_getElem? (i := 229) rfl) rfl
theorem wl_X3_185 : Cond.methodLink RX3 185 yX0_recordsOf ∈ m_tbl := m_t2 (List.mem_of_getElem? (i := 230) rfl) rfl
theorem wi_X0_recordsOf : Cond.instanceMethod yX0_recordsOf ∈ m_tbl := m_t2 (List.mem_of_getElem? (i := 231) rfl) rfl
theorem ws_X0_recordsOf : Cond.selects RX0 yX0_recordsOf yX0_recordsOf ∈ m_tbl := m_t2 (List.mem_of_getElem? (i := 232) rfl) rfl
theorem wc_X0_recordsOf : Cond.code yX0_recordsOf cX0_recordsOf 2 (some .int) ∈ m_tbl := m_t2 (List.mem_of_getElem? (i := 233) rfl) rfl
theorem wl_X3_186 : Cond.methodLink RX3 186 yX1_leave ∈ m_tbl := m_t2 (List.mem_of_getElem? (i := 234) rfl) rfl
theorem wi_X1_leave : Cond.instanceMethod yX1_leave ∈ m_tbl := m_t2 (List.mem_of_getElem? (i := 235) rfl) rfl
theorem ws_X1_leave : Cond.selects RX1 yX1_leave yX1_leave ∈ m_tbl := m_t2 (List.mem_of_getElem? (i := 236) rfl) rfl
theorem wc_X1_leave : Cond.code yX1_leave cX1_leave 3 none ∈ m_tbl := m_t2 (List.mem_of_getElem? (i := 237) rfl) rfl
theorem wl_X3_137 : Cond.methodLink RX3 137 yX3_endCommit ∈ m_tbl := m_t2 (List.mem_of_getElem? (i := 238) rfl) rfl
theorem wi_X3_endCommit : Cond.instanceMethod yX3_endCommit ∈ m_tbl := m_t3 (List.mem_of_getElem? (i := 0) rfl) rfl
theorem wc_X3_endCommit : Cond.code yX3_endCommit cX3_endCommit 3 none ∈ m_tbl := m_t3 (List.mem_of_getElem? (i := 1) rfl) rfl
theorem wl_X3_146 : Cond.methodLink RX3 146 yX0_setState ∈ m_tbl := m_t3 (List.mem_of_getElem? (i := 2) rfl) rfl
theorem wi_X0_setState : Cond.instanceMethod yX0_setState ∈ m_tbl := m_t3 (List.mem_of_getElem? (i := 3) rfl) rfl
theorem ws_X0_setState : Cond.selects RX0 yX0_setState yX0_setState ∈ m_tbl := m_t3 (List.mem_of_getElem? (i := 4) rfl) rfl
theorem wc_X0_setState : Cond.code yX0_setState cX0_setState 3 none ∈ m_tbl := m_t3 (List.mem_of_getElem? (i := 5) rfl) rfl
theorem wl_X3_149 : Cond.methodLink RX3 149 yX0_clientOf ∈ m_tbl := m_t3 (List.mem_of_getElem? (i := 6) rfl) rfl
theorem wi_X0_clientOf : Cond.instanceMethod yX0_clientOf ∈ m_tbl := m_t3 (List.mem_of_getElem? (i := 7) rfl) rfl
theorem ws_X0_clientOf : Cond.selects RX0 yX0_clientOf yX0_clientOf ∈ m_tbl := m_t3 (List.mem_of_getElem? (i := 8) rfl) rfl
theorem wc_X0_clientOf : Cond.code yX0_clientOf cX0_clientOf 2 (some .int) ∈ m_tbl := m_t3 (List.mem_of_getElem? (i := 9) rfl) rfl
theorem wl_L_71 : Cond.methodLink RL 71 yX7_withdraw ∈ m_tbl := m_t3 (List.mem_of_getElem? (i := 10) rfl) rfl
theorem wi_X7_withdraw : Cond.instanceMethod yX7_withdraw ∈ m_tbl := m_t3 (List.mem_of_getElem? (i := 11) rfl) rfl
theorem ws_X7_withdraw : Cond.selects RX7 yX7_withdraw yX7_withdraw ∈ m_tbl := m_t3 (List.mem_of_getElem? (i := 12) rfl) rfl
theorem wc_X7_withdraw : Cond.code yX7_withdraw cX7_withdraw 3 (some .int) ∈ m_tbl := m_t3 (List.mem_of_getElem? (i := 13) rfl) rfl
theorem wl_X7_53 : Cond.methodLink RX7 53 yX3_refusalToTakeBack ∈ m_tbl := m_t3 (List.mem_of_getElem? (i := 14) rfl) rfl
theorem wi_X3_refusalToTakeBack : Cond.instanceMethod yX3_refusalToTakeBack ∈ m_tbl := m_t3 (List.mem_of_getElem? (i := 15) rfl) rfl
theorem ws_X3_refusalToTakeBack : Cond.selects RX3 yX3_refusalToTakeBack yX3_refusalToTakeBack ∈ m_tbl := m_t3 (List.mem_of_getElem? (i := 16) rfl) rfl
theorem wc_X3_refusalToTakeBack : Cond.code yX3_refusalToTakeBack cX3_refusalToTakeBack 3 (some .int) ∈ m_tbl := m_t3 (List.mem_of_getElem? (i := 17) rfl) rfl
theorem wl_X7_56 : Cond.methodLink RX7 56 yX3_takeBack ∈ m_tbl := m_t3 (List.mem_of_getElem? (i := 18) rfl) rfl
theorem wi_X3_takeBack : Cond.instanceMethod yX3_takeBack ∈ m_tbl := m_t3 (List.mem_of_getElem? (i := 19) rfl) rfl
theorem ws_X3_takeBack : Cond.selects RX3 yX3_takeBack yX3_takeBack ∈ m_tbl := m_t3 (List.mem_of_getElem? (i := 20) rfl) rfl
theorem wc_X3_takeBack : Cond.code yX3_takeBack cX3_takeBack 3 (some .int) ∈ m_tbl := m_t3 (List.mem_of_getElem? (i := 21) rfl) rfl
theorem wl_L_74 : Cond.methodLink RL 74 yX7_set ∈ m_tbl := m_t3 (List.mem_of_getElem? (i := 22) rfl) rfl
theorem wi_X7_set : Cond.instanceMethod yX7_set ∈ m_tbl := m_t3 (List.mem_of_getElem? (i := 23) rfl) rfl
theorem ws_X7_set : Cond.selects RX7 yX7_set yX7_set ∈ m_tbl := m_t3 (List.mem_of_getElem? (i := 24) rfl) rfl
theorem wc_X7_set : Cond.code yX7_set cX7_set 4 (some .int) ∈ m_tbl := m_t3 (List.mem_of_getElem? (i := 25) rfl) rfl
theorem wl_X7_66 : Cond.methodLink RX7 66 yX6_refusal ∈ m_tbl := m_t3 (List.mem_of_getElem? (i := 26) rfl) rfl
theorem wst_X6_refusal : Cond.static yX6_refusal ∈ m_tbl := m_t3 (List.mem_of_getElem? (i := 27) rfl) rfl
theorem wc_X6_refusal : Cond.code yX6_refusal cX6_refusal 2 (some .int) ∈ m_tbl := m_t3 (List.mem_of_getElem? (i := 28) rfl) rfl
theorem wf_X6_24 : Cond.fieldLink RX6 24 "GroupCommits$Settings" "LEAST" "[I" ∈ m_tbl := m_t3 (List.mem_of_getElem? (i := 29) rfl) rfl
theorem wz_LEAST : Cond.laysStatic "GroupCommits$Settings" "LEAST" "[I" ∈ lw_tbl := m_u3 (List.mem_of_getElem? (i := 30) rfl)
theorem wf_X6_27 : Cond.fieldLink RX6 27 "GroupCommits$Settings" "GREATEST" "[I" ∈ m_tbl := m_t3 (List.mem_of_getElem? (i := 31) rfl) rfl
theorem wz_GREATEST : Cond.laysStatic "GroupCommits$Settings" "GREATEST" "[I" ∈ lw_tbl := m_u3 (List.mem_of_getElem? (i := 32) rfl)
theorem wl_X7_71 : Cond.methodLink RX7 71 yX3_change ∈ m_tbl := m_t3 (List.mem_of_getElem? (i := 33) rfl) rfl
theorem wi_X3_change : Cond.instanceMethod yX3_change ∈ m_tbl := m_t3 (List.mem_of_getElem? (i := 34) rfl) rfl
theorem ws_X3_change : Cond.selects RX3 yX3_change yX3_change ∈ m_tbl := m_t3 (List.mem_of_getElem? (i := 35) rfl) rfl
theorem wc_X3_change : Cond.code yX3_change cX3_change 3 (some .int) ∈ m_tbl := m_t3 (List.mem_of_getElem? (i := 36) rfl) rfl
theorem wl_X3_199 : Cond.methodLink RX3 199 yX6_change ∈ m_tbl := m_t3 (List.mem_of_getElem? (i := 37) rfl) rfl
theorem wi_X6_change : Cond.instanceMethod yX6_change ∈ m_tbl := m_t3 (List.mem_of_getElem? (i := 38) rfl) rfl
theorem ws_X6_change : Cond.selects RX6 yX6_change yX6_change ∈ m_tbl := m_t3 (List.mem_of_getElem? (i := 39) rfl) rfl
theorem wc_X6_change : Cond.code yX6_change cX6_change 4 (some .int) ∈ m_tbl := m_t3 (List.mem_of_getElem? (i := 40) rfl) rfl
theorem wl_X6_30 : Cond.methodLink RX6 30 yX6_valueOf ∈ m_tbl := m_t3 (List.mem_of_getElem? (i := 41) rfl) rfl
theorem wl_L_78 : Cond.methodLink RL 78 yX7_crash ∈ m_tbl := m_t3 (List.mem_of_getElem? (i := 42) rfl) rfl
theorem wi_X7_crash : Cond.instanceMethod yX7_crash ∈ m_tbl := m_t3 (List.mem_of_getElem? (i := 43) rfl) rfl
theorem ws_X7_crash : Cond.selects RX7 yX7_crash yX7_crash ∈ m_tbl := m_t3 (List.mem_of_getElem? (i := 44) rfl) rfl
theorem wc_X7_crash : Cond.code yX7_crash cX7_crash 1 (some .int) ∈ m_tbl := m_t3 (List.mem_of_getElem? (i := 45) rfl) rfl
theorem wl_X7_59 : Cond.methodLink RX7 59 yX3_loseAll ∈ m_tbl := m_t3 (List.mem_of_getElem? (i := 46) rfl) rfl
theorem wi_X3_loseAll : Cond.instanceMethod yX3_loseAll ∈ m_tbl := m_t3 (List.mem_of_getElem? (i := 47) rfl) rfl
theorem ws_X3_loseAll : Cond.selects RX3 yX3_loseAll yX3_loseAll ∈ m_tbl := m_t3 (List.mem_of_getElem? (i := 48) rfl) rfl
theorem wc_X3_loseAll : Cond.code yX3_loseAll cX3_loseAll 3 (some .int) ∈ m_tbl := m_t3 (List.mem_of_getElem? (i := 49) rfl) rfl
theorem wl_X3_214 : Cond.methodLink RX3 214 yX3_dropGroups ∈ m_tbl := m_t3 (List.mem_of_getElem? (i := 50) rfl) rfl
theorem wi_X3_dropGroups : Cond.instanceMethod yX3_dropGroups ∈ m_tbl := m_t3 (List.mem_of_getElem? (i := 52) rfl) rfl
theorem wc_X3_dropGroups : Cond.code yX3_dropGroups cX3_dropGroups 3 none ∈ m_tbl := m_t3 (List.mem_of_getElem? (i := 53) rfl) rfl
theorem wl_L_128 : Cond.methodLink RL 128 yL_told ∈ m_tbl := m_t3 (List.mem_of_getElem? (i := 54) rfl) rfl
theorem wst_L_told : Cond.static yL_told ∈ m_tbl := m_t3 (List.mem_of_getElem? (i := 55) rfl) rfl
theorem wc_L_told : Cond.code yL_told cL_told 4 (some .long) ∈ m_tbl := m_t3 (List.mem_of_getElem? (i := 56) rfl) rfl
theorem wq_L_82 : Cond.constantLong RL 82 (113) ∈ m_tbl := m_t3 (List.mem_of_getElem? (i := 57) rfl) rfl
theorem wq_L_84 : Cond.constantLong RL 84 (31) ∈ m_tbl := m_t3 (List.mem_of_getElem? (i := 58) rfl) rfl
theorem wl_L_86 : Cond.methodLink RL 86 yX7_count ∈ m_tbl := m_t3 (List.mem_of_getElem? (i := 59) rfl) rfl
theorem wi_X7_count : Cond.instanceMethod yX7_count ∈ m_tbl := m_t3 (List.mem_of_getElem? (i := 60) rfl) rfl
theorem ws_X7_count : Cond.selects RX7 yX7_count yX7_count ∈ m_tbl := m_t3 (List.mem_of_getElem? (i := 61) rfl) rfl
theorem wc_X7_count : Cond.code yX7_count cX7_count 2 (some .int) ∈ m_tbl := m_t3 (List.mem_of_getElem? (i := 62) rfl) rfl
theorem wl_X7_137 : Cond.methodLink RX7 137 yX2_size ∈ m_tbl := m_t3 (List.mem_of_getElem? (i := 63) rfl) rfl
theorem wi_X2_size : Cond.instanceMethod yX2_size ∈ m_tbl := m_t3 (List.mem_of_getElem? (i := 64) rfl) rfl
theorem ws_X2_size : Cond.selects RX2 yX2_size yX2_size ∈ m_tbl := m_t3 (List.mem_of_getElem? (i := 65) rfl) rfl
theorem wc_X2_size : Cond.code yX2_size cX2_size 1 (some .int) ∈ m_tbl := m_t3 (List.mem_of_getElem? (i := 66) rfl) rfl
theorem wl_X7_140 : Cond.methodLink RX7 140 yX5_length ∈ m_tbl := m_t3 (List.mem_of_getElem? (i := 67) rfl) rfl
theorem wi_X5_length : Cond.instanceMethod yX5_length ∈ m_tbl := m_t3 (List.mem_of_getElem? (i := 68) rfl) rfl
theorem ws_X5_length : Cond.selects RX5 yX5_length yX5_length ∈ m_tbl := m_t3 (List.mem_of_getElem? (i := 69) rfl) rfl
theorem wc_X5_length : Cond.code yX5_length cX5_length 1 (some .int) ∈ m_tbl := m_t3 (List.mem_of_getElem? (i := 70) rfl) rfl
theorem wl_X7_143 : Cond.methodLink RX7 143 yX3_aboutNow ∈ m_tbl := m_t3 (List.mem_of_getElem? (i := 71) rfl) rfl
theorem wi_X3_aboutNow : Cond.instanceMethod yX3_aboutNow ∈ m_tbl := m_t3 (List.mem_of_getElem? (i := 72) rfl) rfl
theorem ws_X3_aboutNow : Cond.selects RX3 yX3_aboutNow yX3_aboutNow ∈ m_tbl := m_t3 (List.mem_of_getElem? (i := 73) rfl) rfl
theorem wc_X3_aboutNow : Cond.code yX3_aboutNow cX3_aboutNow 2 (some .int) ∈ m_tbl := m_t3 (List.mem_of_getElem? (i := 74) rfl) rfl
theorem wl_X3_99 : Cond.methodLink RX3 99 yX3_busyClients ∈ m_tbl := m_t3 (List.mem_of_getElem? (i := 75) rfl) rfl
theorem wi_X3_busyClients : Cond.instanceMethod yX3_busyClients ∈ m_tbl := m_t3 (List.mem_of_getElem? (i := 77) rfl) rfl
theorem wc_X3_busyClients : Cond.code yX3_busyClients cX3_busyClients 3 (some .int) ∈ m_tbl := m_t3 (List.mem_of_getElem? (i := 78) rfl) rfl
theorem wl_L_89 : Cond.methodLink RL 89 yX7_total ∈ m_tbl := m_t3 (List.mem_of_getElem? (i := 79) rfl) rfl
theorem wi_X7_total : Cond.instanceMethod yX7_total ∈ m_tbl := m_t3 (List.mem_of_getElem? (i := 80) rfl) rfl
theorem ws_X7_total : Cond.selects RX7 yX7_total yX7_total ∈ m_tbl := m_t3 (List.mem_of_getElem? (i := 81) rfl) rfl
theorem wc_X7_total : Cond.code yX7_total cX7_total 2 (some .int) ∈ m_tbl := m_t3 (List.mem_of_getElem? (i := 82) rfl) rfl
theorem wl_X7_146 : Cond.methodLink RX7 146 yX3_totalOf ∈ m_tbl := m_t3 (List.mem_of_getElem? (i := 83) rfl) rfl
theorem wi_X3_totalOf : Cond.instanceMethod yX3_totalOf ∈ m_tbl := m_t3 (List.mem_of_getElem? (i := 84) rfl) rfl
theorem ws_X3_totalOf : Cond.selects RX3 yX3_totalOf yX3_totalOf ∈ m_tbl := m_t3 (List.mem_of_getElem? (i := 85) rfl) rfl
theorem wc_X3_totalOf : Cond.code yX3_totalOf cX3_totalOf 2 (some .int) ∈ m_tbl := m_t3 (List.mem_of_getElem? (i := 86) rfl) rfl
theorem wq_L_92 : Cond.constantLong RL 92 (100) ∈ m_tbl := m_t3 (List.mem_of_getElem? (i := 87) rfl) rfl
theorem wl_L_94 : Cond.methodLink RL 94 yX7_commit ∈ m_tbl := m_t3 (List.mem_of_getElem? (i := 88) rfl) rfl
theorem wi_X7_commit : Cond.instanceMethod yX7_commit ∈ m_tbl := m_t3 (List.mem_of_getElem? (i := 89) rfl) rfl
theorem ws_X7_commit : Cond.selects RX7 yX7_commit yX7_commit ∈ m_tbl := m_t3 (List.mem_of_getElem? (i := 90) rfl) rfl
theorem wc_X7_commit : Cond.code yX7_commit cX7_commit 3 (some .int) ∈ m_tbl := m_t3 (List.mem_of_getElem? (i := 91) rfl) rfl
theorem wl_X7_122 : Cond.methodLink RX7 122 yX3_aboutCommit ∈ m_tbl := m_t3 (List.mem_of_getElem? (i := 92) rfl) rfl
theorem wi_X3_aboutCommit : Cond.instanceMethod yX3_aboutCommit ∈ m_tbl := m_t3 (List.mem_of_getElem? (i := 93) rfl) rfl
theorem ws_X3_aboutCommit : Cond.selects RX3 yX3_aboutCommit yX3_aboutCommit ∈ m_tbl := m_t3 (List.mem_of_getElem? (i := 94) rfl) rfl
theorem wc_X3_aboutCommit : Cond.code yX3_aboutCommit cX3_aboutCommit 3 (some .int) ∈ m_tbl := m_t3 (List.mem_of_getElem? (i := 95) rfl) rfl
theorem wl_X3_217 : Cond.methodLink RX3 217 yX0_has ∈ m_tbl := m_t3 (List.mem_of_getElem? (i := 96) rfl) rfl
theorem wl_X3_220 : Cond.methodLink RX3 220 yX0_isUrgent ∈ m_tbl := m_t3 (List.mem_of_getElem? (i := 97) rfl) rfl
theorem wi_X0_isUrgent : Cond.instanceMethod yX0_isUrgent ∈ m_tbl := m_t3 (List.mem_of_getElem? (i := 98) rfl) rfl
theorem ws_X0_isUrgent : Cond.selects RX0 yX0_isUrgent yX0_isUrgent ∈ m_tbl := m_t3 (List.mem_of_getElem? (i := 99) rfl) rfl
theorem wc_X0_isUrgent : Cond.code yX0_isUrgent cX0_isUrgent 2 (some .boolean) ∈ m_tbl := m_t3 (List.mem_of_getElem? (i := 100) rfl) rfl
theorem wl_X3_223 : Cond.methodLink RX3 223 yX0_answerTimeOf ∈ m_tbl := m_t3 (List.mem_of_getElem? (i := 101) rfl) rfl
theorem wi_X0_answerTimeOf : Cond.instanceMethod yX0_answerTimeOf ∈ m_tbl := m_t3 (List.mem_of_getElem? (i := 102) rfl) rfl
theorem ws_X0_answerTimeOf : Cond.selects RX0 yX0_answerTimeOf yX0_answerTimeOf ∈ m_tbl := m_t3 (List.mem_of_getElem? (i := 103) rfl) rfl
theorem wc_X0_answerTimeOf : Cond.code yX0_answerTimeOf cX0_answerTimeOf 2 (some .int) ∈ m_tbl := m_t3 (List.mem_of_getElem? (i := 104) rfl) rfl
theorem wq_L_97 : Cond.constantLong RL 97 (10) ∈ m_tbl := m_t3 (List.mem_of_getElem? (i := 105) rfl) rfl
theorem wq_L_99 : Cond.constantLong RL 99 (1000) ∈ m_tbl := m_t3 (List.mem_of_getElem? (i := 106) rfl) rfl
theorem wl_L_101 : Cond.methodLink RL 101 yX7_group ∈ m_tbl := m_t3 (List.mem_of_getElem? (i := 107) rfl) rfl
theorem wi_X7_group : Cond.instanceMethod yX7_group ∈ m_tbl := m_t3 (List.mem_of_getElem? (i := 108) rfl) rfl
theorem ws_X7_group : Cond.selects RX7 yX7_group yX7_group ∈ m_tbl := m_t3 (List.mem_of_getElem? (i := 109) rfl) rfl
theorem wc_X7_group : Cond.code yX7_group cX7_group 3 (some .int) ∈ m_tbl := m_t3 (List.mem_of_getElem? (i := 110) rfl) rfl
theorem wl_X7_125 : Cond.methodLink RX7 125 yX3_aboutGroup ∈ m_tbl := m_t3 (List.mem_of_getElem? (i := 111) rfl) rfl
theorem wi_X3_aboutGroup : Cond.instanceMethod yX3_aboutGroup ∈ m_tbl := m_t3 (List.mem_of_getElem? (i := 112) rfl) rfl
theorem ws_X3_aboutGroup : Cond.selects RX3 yX3_aboutGroup yX3_aboutGroup ∈ m_tbl := m_t3 (List.mem_of_getElem? (i := 113) rfl) rfl
theorem wc_X3_aboutGroup : Cond.code yX3_aboutGroup cX3_aboutGroup 3 (some .int) ∈ m_tbl := m_t3 (List.mem_of_getElem? (i := 114) rfl) rfl
theorem wl_X3_226 : Cond.methodLink RX3 226 yX1_has ∈ m_tbl := m_t3 (List.mem_of_getElem? (i := 115) rfl) rfl
theorem wl_X3_227 : Cond.methodLink RX3 227 yX1_stateOf ∈ m_tbl := m_t3 (List.mem_of_getElem? (i := 116) rfl) rfl
theorem wi_X1_stateOf : Cond.instanceMethod yX1_stateOf ∈ m_tbl := m_t3 (List.mem_of_getElem? (i := 117) rfl) rfl
theorem ws_X1_stateOf : Cond.selects RX1 yX1_stateOf yX1_stateOf ∈ m_tbl := m_t3 (List.mem_of_getElem? (i := 118) rfl) rfl
theorem wc_X1_stateOf : Cond.code yX1_stateOf cX1_stateOf 2 (some .int) ∈ m_tbl := m_t3 (List.mem_of_getElem? (i := 119) rfl) rfl
theorem wl_X3_228 : Cond.methodLink RX3 228 yX1_reasonOf ∈ m_tbl := m_t3 (List.mem_of_getElem? (i := 120) rfl) rfl
theorem wi_X1_reasonOf : Cond.instanceMethod yX1_reasonOf ∈ m_tbl := m_t3 (List.mem_of_getElem? (i := 121) rfl) rfl
theorem ws_X1_reasonOf : Cond.selects RX1 yX1_reasonOf yX1_reasonOf ∈ m_tbl := m_t3 (List.mem_of_getElem? (i := 122) rfl) rfl
theorem wc_X1_reasonOf : Cond.code yX1_reasonOf cX1_reasonOf 2 (some .int) ∈ m_tbl := m_t3 (List.mem_of_getElem? (i := 123) rfl) rfl
theorem wl_L_143 : Cond.methodLink RL 143 yL_isSo ∈ m_tbl := m_t3 (List.mem_of_getElem? (i := 124) rfl) rfl
theorem wst_L_isSo : Cond.static yL_isSo ∈ m_tbl := m_t3 (List.mem_of_getElem? (i := 125) rfl) rfl
theorem wc_L_isSo : Cond.code yL_isSo cL_isSo 16 (some .boolean) ∈ m_tbl := m_t3 (List.mem_of_getElem? (i := 126) rfl) rfl
theorem wl_L_110 : Cond.methodLink RL 110 yX7_queued ∈ m_tbl := m_t3 (List.mem_of_getElem? (i := 127) rfl) rfl
theorem wi_X7_queued : Cond.instanceMethod yX7_queued ∈ m_tbl := m_t3 (List.mem_of_getElem? (i := 128) rfl) rfl
theorem ws_X7_queued : Cond.selects RX7 yX7_queued yX7_queued ∈ m_tbl := m_t3 (List.mem_of_getElem? (i := 129) rfl) rfl
theorem wc_X7_queued : Cond.code yX7_queued cX7_queued 2 (some .int) ∈ m_tbl := m_t3 (List.mem_of_getElem? (i := 130) rfl) rfl
theorem wl_X7_134 : Cond.methodLink RX7 134 yX3_queuedAt ∈ m_tbl := m_t3 (List.mem_of_getElem? (i := 131) rfl) rfl
theorem wi_X3_queuedAt : Cond.instanceMethod yX3_queuedAt ∈ m_tbl := m_t3 (List.mem_of_getElem? (i := 132) rfl) rfl
theorem ws_X3_queuedAt : Cond.selects RX3 yX3_queuedAt yX3_queuedAt ∈ m_tbl := m_t3 (List.mem_of_getElem? (i := 133) rfl) rfl
theorem wc_X3_queuedAt : Cond.code yX3_queuedAt cX3_queuedAt 2 (some .int) ∈ m_tbl := m_t3 (List.mem_of_getElem? (i := 134) rfl) rfl
theorem wl_X3_231 : Cond.methodLink RX3 231 yX4_at ∈ m_tbl := m_t3 (List.mem_of_getElem? (i := 135) rfl) rfl
theorem wi_X4_at : Cond.instanceMethod yX4_at ∈ m_tbl := m_t3 (List.mem_of_getElem? (i := 136) rfl) rfl
theorem ws_X4_at : Cond.selects RX4 yX4_at yX4_at ∈ m_tbl := m_t3 (List.mem_of_getElem? (i := 137) rfl) rfl
theorem wc_X4_at : Cond.code yX4_at cX4_at 2 (some .int) ∈ m_tbl := m_t3 (List.mem_of_getElem? (i := 138) rfl) rfl
theorem wl_X4_30 : Cond.methodLink RX4 30 yX4_size ∈ m_tbl := m_t3 (List.mem_of_getElem? (i := 139) rfl) rfl
theorem wl_L_113 : Cond.methodLink RL 113 yX7_mean ∈ m_tbl := m_t3 (List.mem_of_getElem? (i := 140) rfl) rfl
theorem wi_X7_mean : Cond.instanceMethod yX7_mean ∈ m_tbl := m_t3 (List.mem_of_getElem? (i := 141) rfl) rfl
theorem ws_X7_mean : Cond.selects RX7 yX7_mean yX7_mean ∈ m_tbl := m_t3 (List.mem_of_getElem? (i := 142) rfl) rfl
theorem wc_X7_mean : Cond.code yX7_mean cX7_mean 1 (some .double) ∈ m_tbl := m_t3 (List.mem_of_getElem? (i := 143) rfl) rfl
theorem wl_X7_162 : Cond.methodLink RX7 162 yX3_meanTicks ∈ m_tbl := m_t3 (List.mem_of_getElem? (i := 144) rfl) rfl
theorem wi_X3_meanTicks : Cond.instanceMethod yX3_meanTicks ∈ m_tbl := m_t3 (List.mem_of_getElem? (i := 145) rfl) rfl
theorem ws_X3_meanTicks : Cond.selects RX3 yX3_meanTicks yX3_meanTicks ∈ m_tbl := m_t3 (List.mem_of_getElem? (i := 146) rfl) rfl
theorem wc_X3_meanTicks : Cond.code yX3_meanTicks cX3_meanTicks 2 (some .double) ∈ m_tbl := m_t3 (List.mem_of_getElem? (i := 147) rfl) rfl
theorem wl_L_117 : Cond.methodLink RL 117 yX7_open ∈ m_tbl := m_t3 (List.mem_of_getElem? (i := 148) rfl) rfl
theorem wi_X7_open : Cond.instanceMethod yX7_open ∈ m_tbl := m_t3 (List.mem_of_getElem? (i := 149) rfl) rfl
theorem ws_X7_open : Cond.selects RX7 yX7_open yX7_open ∈ m_tbl := m_t3 (List.mem_of_getElem? (i := 150) rfl) rfl
theorem wc_X7_open : Cond.code yX7_open cX7_open 2 (some .int) ∈ m_tbl := m_t3 (List.mem_of_getElem? (i := 151) rfl) rfl
theorem wl_X7_131 : Cond.methodLink RX7 131 yX3_openCommitOf ∈ m_tbl := m_t3 (List.mem_of_getElem? (i := 152) rfl) rfl
theorem wl_L_119 : Cond.methodLink RL 119 yL_isGroup ∈ m_tbl := m_t3 (List.mem_of_getElem? (i := 153) rfl) rfl
theorem wst_L_isGroup : Cond.static yL_isGroup ∈ m_tbl := m_t3 (List.mem_of_getElem? (i := 154) rfl) rfl
theorem wc_L_isGroup : Cond.code yL_isGroup cL_isGroup 14 (some .boolean) ∈ m_tbl := m_t3 (List.mem_of_getElem? (i := 155) rfl) rfl
theorem wl_L_104 : Cond.methodLink RL 104 yX7_member ∈ m_tbl := m_t3 (List.mem_of_getElem? (i := 156) rfl) rfl
theorem wi_X7_member : Cond.instanceMethod yX7_member ∈ m_tbl := m_t3 (List.mem_of_getElem? (i := 157) rfl) rfl
theorem ws_X7_member : Cond.selects RX7 yX7_member yX7_member ∈ m_tbl := m_t3 (List.mem_of_getElem? (i := 158) rfl) rfl
theorem wc_X7_member : Cond.code yX7_member cX7_member 3 (some .int) ∈ m_tbl := m_t3 (List.mem_of_getElem? (i := 159) rfl) rfl
theorem wl_X7_128 : Cond.methodLink RX7 128 yX3_memberAt ∈ m_tbl := m_t3 (List.mem_of_getElem? (i := 160) rfl) rfl
theorem wi_X3_memberAt : Cond.instanceMethod yX3_memberAt ∈ m_tbl := m_t3 (List.mem_of_getElem? (i := 161) rfl) rfl
theorem ws_X3_memberAt : Cond.selects RX3 yX3_memberAt yX3_memberAt ∈ m_tbl := m_t3 (List.mem_of_getElem? (i := 162) rfl) rfl
theorem wc_X3_memberAt : Cond.code yX3_memberAt cX3_memberAt 3 (some .int) ∈ m_tbl := m_t3 (List.mem_of_getElem? (i := 163) rfl) rfl
theorem ws_X2_stateAt : Cond.selects RX2 yX2_stateAt yX2_stateAt ∈ m_tbl := List.mem_filter.mpr ⟨List.mem_append_left _ (List.mem_of_getElem? (i := 0) rfl), rfl⟩
theorem ws_X3_beginGroup : Cond.selects RX3 yX3_beginGroup yX3_beginGroup ∈ m_tbl := List.mem_filter.mpr ⟨List.mem_append_left _ (List.mem_of_getElem? (i := 1) rfl), rfl⟩
theorem ws_X3_setOpenCommit : Cond.selects RX3 yX3_setOpenCommit yX3_setOpenCommit ∈ m_tbl := List.mem_filter.mpr ⟨List.mem_append_left _ (List.mem_of_getElem? (i := 2) rfl), rfl⟩
theorem ws_X3_reasonToClose : Cond.selects RX3 yX3_reasonToClose yX3_reasonToClose ∈ m_tbl := List.mem_filter.mpr ⟨List.mem_append_left _ (List.mem_of_getElem? (i := 3) rfl), rfl⟩
theorem ws_X3_closeGathering : Cond.selects RX3 yX3_closeGathering yX3_closeGathering ∈ m_tbl := List.mem_filter.mpr ⟨List.mem_append_left _ (List.mem_of_getElem? (i := 4) rfl), rfl⟩
theorem ws_X3_learnWait : Cond.selects RX3 yX3_learnWait yX3_learnWait ∈ m_tbl := List.mem_filter.mpr ⟨List.mem_append_left _ (List.mem_of_getElem? (i := 5) rfl), rfl⟩
theorem ws_X3_startWriting : Cond.selects RX3 yX3_startWriting yX3_startWriting ∈ m_tbl := List.mem_filter.mpr ⟨List.mem_append_left _ (List.mem_of_getElem? (i := 6) rfl), rfl⟩
theorem ws_X3_ticksToWrite : Cond.selects RX3 yX3_ticksToWrite yX3_ticksToWrite ∈ m_tbl := List.mem_filter.mpr ⟨List.mem_append_left _ (List.mem_of_getElem? (i := 7) rfl), rfl⟩
theorem ws_X3_passTick : Cond.selects RX3 yX3_passTick yX3_passTick ∈ m_tbl := List.mem_filter.mpr ⟨List.mem_append_left _ (List.mem_of_getElem? (i := 8) rfl), rfl⟩
theorem ws_X3_finishWriting : Cond.selects RX3 yX3_finishWriting yX3_finishWriting ∈ m_tbl := List.mem_filter.mpr ⟨List.mem_append_left _ (List.mem_of_getElem? (i := 9) rfl), rfl⟩
theorem ws_X3_leaveGathering : Cond.selects RX3 yX3_leaveGathering yX3_leaveGathering ∈ m_tbl := List.mem_filter.mpr ⟨List.mem_append_left _ (List.mem_of_getElem? (i := 10) rfl), rfl⟩
theorem ws_X3_endCommit : Cond.selects RX3 yX3_endCommit yX3_endCommit ∈ m_tbl := List.mem_filter.mpr ⟨List.mem_append_left _ (List.mem_of_getElem? (i := 11) rfl), rfl⟩
theorem ws_X3_dropGroups : Cond.selects RX3 yX3_dropGroups yX3_dropGroups ∈ m_tbl := List.mem_filter.mpr ⟨List.mem_append_left _ (List.mem_of_getElem? (i := 12) rfl), rfl⟩
theorem ws_X3_busyClients : Cond.selects RX3 yX3_busyClients yX3_busyClients ∈ m_tbl := List.mem_filter.mpr ⟨List.mem_append_left _ (List.mem_of_getElem? (i := 13) rfl), rfl⟩
theorem inX0 : ∀ w ∈ u_ws RX0 TX0 9, w ∈ m_tbl := by
  intro w hw
  obtain ⟨k, hk, rfl⟩ := List.mem_map.mp hw
  have hk := List.mem_range.mp hk
  match k, hk with
  | 0, _ => exact m_t1 (List.mem_of_getElem? (i := 40) rfl) rfl
  | 1, _ => exact m_t1 (List.mem_of_getElem? (i := 42) rfl) rfl
  | 2, _ => exact m_t1 (List.mem_of_getElem? (i := 44) rfl) rfl
  | 3, _ => exact m_t1 (List.mem_of_getElem? (i := 46) rfl) rfl
  | 4, _ => exact m_t1 (List.mem_of_getElem? (i := 48) rfl) rfl
  | 5, _ => exact m_t1 (List.mem_of_getElem? (i := 50) rfl) rfl
  | 6, _ => exact m_t1 (List.mem_of_getElem? (i := 52) rfl) rfl
  | 7, _ => exact m_t1 (List.mem_of_getElem? (i := 54) rfl) rfl
  | 8, _ => exact m_t1 (List.mem_of_getElem? (i := 56) rfl) rfl
theorem inX1 : ∀ w ∈ u_ws RX1 TX1 5, w ∈ m_tbl := by
  intro w hw
  obtain ⟨k, hk, rfl⟩ := List.mem_map.mp hw
  have hk := List.mem_range.mp hk
  match k, hk with
  | 0, _ => exact m_t1 (List.mem_of_getElem? (i := 72) rfl) rfl
  | 1, _ => exact m_t1 (List.mem_of_getElem? (i := 74) rfl) rfl
  | 2, _ => exact m_t1 (List.mem_of_getElem? (i := 76) rfl) rfl
  | 3, _ => exact m_t1 (List.mem_of_getElem? (i := 78) rfl) rfl
  | 4, _ => exact m_t1 (List.mem_of_getElem? (i := 80) rfl) rfl
theorem inX2 : ∀ w ∈ u_ws RX2 TX2 3, w ∈ m_tbl := by
  intro w hw
  obtain ⟨k, hk, rfl⟩ := List.mem_map.mp hw
  have hk := List.mem_range.mp hk
  match k, hk with
  | 0, _ => exact m_t1 (List.mem_of_getElem? (i := 163) rfl) rfl
  | 1, _ => exact m_t1 (List.mem_of_getElem? (i := 165) rfl) rfl
  | 2, _ => exact m_t1 (List.mem_of_getElem? (i := 167) rfl) rfl
theorem inX3 : ∀ w ∈ u_ws RX3 TX3 12, w ∈ m_tbl := by
  intro w hw
  obtain ⟨k, hk, rfl⟩ := List.mem_map.mp hw
  have hk := List.mem_range.mp hk
  match k, hk with
  | 0, _ => exact m_t1 (List.mem_of_getElem? (i := 126) rfl) rfl
  | 1, _ => exact m_t1 (List.mem_of_getElem? (i := 128) rfl) rfl
  | 2, _ => exact m_t1 (List.mem_of_getElem? (i := 130) rfl) rfl
  | 3, _ => exact m_t1 (List.mem_of_getElem? (i := 132) rfl) rfl
  | 4, _ => exact m_t1 (List.mem_of_getElem? (i := 134) rfl) rfl
  | 5, _ => exact m_t1 (List.mem_of_getElem? (i := 136) rfl) rfl
  | 6, _ => exact m_t1 (List.mem_of_getElem? (i := 138) rfl) rfl
  | 7, _ => exact m_t1 (List.mem_of_getElem? (i := 140) rfl) rfl
  | 8, _ => exact m_t1 (List.mem_of_getElem? (i := 142) rfl) rfl
  | 9, _ => exact m_t1 (List.mem_of_getElem? (i := 144) rfl) rfl
  | 10, _ => exact m_t1 (List.mem_of_getElem? (i := 146) rfl) rfl
  | 11, _ => exact m_t1 (List.mem_of_getElem? (i := 148) rfl) rfl
theorem inX4 : ∀ w ∈ u_ws RX4 TX4 3, w ∈ m_tbl := by
  intro w hw
  obtain ⟨k, hk, rfl⟩ := List.mem_map.mp hw
  have hk := List.mem_range.mp hk
  match k, hk with
  | 0, _ => exact m_t1 (List.mem_of_getElem? (i := 92) rfl) rfl
  | 1, _ => exact m_t1 (List.mem_of_getElem? (i := 94) rfl) rfl
  | 2, _ => exact m_t1 (List.mem_of_getElem? (i := 96) rfl) rfl
theorem inX5 : ∀ w ∈ u_ws RX5 TX5 7, w ∈ m_tbl := by
  intro w hw
  obtain ⟨k, hk, rfl⟩ := List.mem_map.mp hw
  have hk := List.mem_range.mp hk
  match k, hk with
  | 0, _ => exact m_t1 (List.mem_of_getElem? (i := 178) rfl) rfl
  | 1, _ => exact m_t1 (List.mem_of_getElem? (i := 180) rfl) rfl
  | 2, _ => exact m_t1 (List.mem_of_getElem? (i := 182) rfl) rfl
  | 3, _ => exact m_t1 (List.mem_of_getElem? (i := 184) rfl) rfl
  | 4, _ => exact m_t1 (List.mem_of_getElem? (i := 186) rfl) rfl
  | 5, _ => exact m_t1 (List.mem_of_getElem? (i := 188) rfl) rfl
  | 6, _ => exact m_t1 (List.mem_of_getElem? (i := 190) rfl) rfl
theorem inX6 : ∀ w ∈ u_ws RX6 TX6 1, w ∈ m_tbl := by
  intro w hw
  obtain ⟨k, hk, rfl⟩ := List.mem_map.mp hw
  have hk := List.mem_range.mp hk
  match k, hk with
  | 0, _ => exact m_t1 (List.mem_of_getElem? (i := 111) rfl) rfl
theorem inX7 : ∀ w ∈ u_ws RX7 TX7 5, w ∈ m_tbl := by
  intro w hw
  obtain ⟨k, hk, rfl⟩ := List.mem_map.mp hw
  have hk := List.mem_range.mp hk
  match k, hk with
  | 0, _ => exact m_t1 (List.mem_of_getElem? (i := 198) rfl) rfl
  | 1, _ => exact m_t1 (List.mem_of_getElem? (i := 200) rfl) rfl
  | 2, _ => exact m_t1 (List.mem_of_getElem? (i := 202) rfl) rfl
  | 3, _ => exact m_t1 (List.mem_of_getElem? (i := 204) rfl) rfl
  | 4, _ => exact m_t1 (List.mem_of_getElem? (i := 206) rfl) rfl
theorem hv_X0_init : yX0_init.cls = RX0 ∧ yX0_init.cls ≠ "java/lang/invoke/MethodHandle" ∧ yX0_init.cls ≠ "java/lang/invoke/VarHandle" ∧ (parseMethodDescriptor yX0_init.desc).map (fun d => d.parameters.length) = some 0 := by decide +kernel
theorem hy_X0_init : plainName yX0_init.cls = true := by decide +kernel
theorem hv_X0_copyFrom : yX0_copyFrom.cls = RX0 ∧ yX0_copyFrom.cls ≠ "java/lang/invoke/MethodHandle" ∧ yX0_copyFrom.cls ≠ "java/lang/invoke/VarHandle" ∧ (parseMethodDescriptor yX0_copyFrom.desc).map (fun d => d.parameters.length) = some 1 := by decide +kernel
theorem hy_X0_copyFrom : plainName yX0_copyFrom.cls = true := by decide +kernel
theorem hv_X0_has : yX0_has.cls = RX0 ∧ yX0_has.cls ≠ "java/lang/invoke/MethodHandle" ∧ yX0_has.cls ≠ "java/lang/invoke/VarHandle" ∧ (parseMethodDescriptor yX0_has.desc).map (fun d => d.parameters.length) = some 1 := by decide +kernel
theorem hy_X0_has : plainName yX0_has.cls = true := by decide +kernel
theorem hv_X0_isFull : yX0_isFull.cls = RX0 ∧ yX0_isFull.cls ≠ "java/lang/invoke/MethodHandle" ∧ yX0_isFull.cls ≠ "java/lang/invoke/VarHandle" ∧ (parseMethodDescriptor yX0_isFull.desc).map (fun d => d.parameters.length) = some 0 := by decide +kernel
theorem hy_X0_isFull : plainName yX0_isFull.cls = true := by decide +kernel
theorem hv_X0_add : yX0_add.cls = RX0 ∧ yX0_add.cls ≠ "java/lang/invoke/MethodHandle" ∧ yX0_add.cls ≠ "java/lang/invoke/VarHandle" ∧ (parseMethodDescriptor yX0_add.desc).map (fun d => d.parameters.length) = some 5 := by decide +kernel
theorem hy_X0_add : plainName yX0_add.cls = true := by decide +kernel
theorem hv_X0_clientOf : yX0_clientOf.cls = RX0 ∧ yX0_clientOf.cls ≠ "java/lang/invoke/MethodHandle" ∧ yX0_clientOf.cls ≠ "java/lang/invoke/VarHandle" ∧ (parseMethodDescriptor yX0_clientOf.desc).map (fun d => d.parameters.length) = some 1 := by decide +kernel
theorem hy_X0_clientOf : plainName yX0_clientOf.cls = true := by decide +kernel
theorem hv_X0_recordsOf : yX0_recordsOf.cls = RX0 ∧ yX0_recordsOf.cls ≠ "java/lang/invoke/MethodHandle" ∧ yX0_recordsOf.cls ≠ "java/lang/invoke/VarHandle" ∧ (parseMethodDescriptor yX0_recordsOf.desc).map (fun d => d.parameters.length) = some 1 := by decide +kernel
theorem hy_X0_recordsOf : plainName yX0_recordsOf.cls = true := by decide +kernel
theorem hv_X0_isUrgent : yX0_isUrgent.cls = RX0 ∧ yX0_isUrgent.cls ≠ "java/lang/invoke/MethodHandle" ∧ yX0_isUrgent.cls ≠ "java/lang/invoke/VarHandle" ∧ (parseMethodDescriptor yX0_isUrgent.desc).map (fun d => d.parameters.length) = some 1 := by decide +kernel
theorem hy_X0_isUrgent : plainName yX0_isUrgent.cls = true := by decide +kernel
theorem hv_X0_stateOf : yX0_stateOf.cls = RX0 ∧ yX0_stateOf.cls ≠ "java/lang/invoke/MethodHandle" ∧ yX0_stateOf.cls ≠ "java/lang/invoke/VarHandle" ∧ (parseMethodDescriptor yX0_stateOf.desc).map (fun d => d.parameters.length) = some 1 := by decide +kernel
theorem hy_X0_stateOf : plainName yX0_stateOf.cls = true := by decide +kernel
theorem hv_X0_setState : yX0_setState.cls = RX0 ∧ yX0_setState.cls ≠ "java/lang/invoke/MethodHandle" ∧ yX0_setState.cls ≠ "java/lang/invoke/VarHandle" ∧ (parseMethodDescriptor yX0_setState.desc).map (fun d => d.parameters.length) = some 2 := by decide +kernel
theorem hy_X0_setState : plainName yX0_setState.cls = true := by decide +kernel
theorem hv_X0_submitTimeOf : yX0_submitTimeOf.cls = RX0 ∧ yX0_submitTimeOf.cls ≠ "java/lang/invoke/MethodHandle" ∧ yX0_submitTimeOf.cls ≠ "java/lang/invoke/VarHandle" ∧ (parseMethodDescriptor yX0_submitTimeOf.desc).map (fun d => d.parameters.length) = some 1 := by decide +kernel
theorem hy_X0_submitTimeOf : plainName yX0_submitTimeOf.cls = true := by decide +kernel
theorem hv_X0_answerTimeOf : yX0_answerTimeOf.cls = RX0 ∧ yX0_answerTimeOf.cls ≠ "java/lang/invoke/MethodHandle" ∧ yX0_answerTimeOf.cls ≠ "java/lang/invoke/VarHandle" ∧ (parseMethodDescriptor yX0_answerTimeOf.desc).map (fun d => d.parameters.length) = some 1 := by decide +kernel
theorem hy_X0_answerTimeOf : plainName yX0_answerTimeOf.cls = true := by decide +kernel
theorem hv_X0_answer : yX0_answer.cls = RX0 ∧ yX0_answer.cls ≠ "java/lang/invoke/MethodHandle" ∧ yX0_answer.cls ≠ "java/lang/invoke/VarHandle" ∧ (parseMethodDescriptor yX0_answer.desc).map (fun d => d.parameters.length) = some 2 := by decide +kernel
theorem hy_X0_answer : plainName yX0_answer.cls = true := by decide +kernel
theorem hv_X0_groupOf : yX0_groupOf.cls = RX0 ∧ yX0_groupOf.cls ≠ "java/lang/invoke/MethodHandle" ∧ yX0_groupOf.cls ≠ "java/lang/invoke/VarHandle" ∧ (parseMethodDescriptor yX0_groupOf.desc).map (fun d => d.parameters.length) = some 1 := by decide +kernel
theorem hy_X0_groupOf : plainName yX0_groupOf.cls = true := by decide +kernel
theorem hv_X0_leaveGroup : yX0_leaveGroup.cls = RX0 ∧ yX0_leaveGroup.cls ≠ "java/lang/invoke/MethodHandle" ∧ yX0_leaveGroup.cls ≠ "java/lang/invoke/VarHandle" ∧ (parseMethodDescriptor yX0_leaveGroup.desc).map (fun d => d.parameters.length) = some 1 := by decide +kernel
theorem hy_X0_leaveGroup : plainName yX0_leaveGroup.cls = true := by decide +kernel
theorem hv_X0_memberAt : yX0_memberAt.cls = RX0 ∧ yX0_memberAt.cls ≠ "java/lang/invoke/MethodHandle" ∧ yX0_memberAt.cls ≠ "java/lang/invoke/VarHandle" ∧ (parseMethodDescriptor yX0_memberAt.desc).map (fun d => d.parameters.length) = some 2 := by decide +kernel
theorem hy_X0_memberAt : plainName yX0_memberAt.cls = true := by decide +kernel
theorem hv_X0_moveMembers : yX0_moveMembers.cls = RX0 ∧ yX0_moveMembers.cls ≠ "java/lang/invoke/MethodHandle" ∧ yX0_moveMembers.cls ≠ "java/lang/invoke/VarHandle" ∧ (parseMethodDescriptor yX0_moveMembers.desc).map (fun d => d.parameters.length) = some 3 := by decide +kernel
theorem hy_X0_moveMembers : plainName yX0_moveMembers.cls = true := by decide +kernel
theorem hv_X1_init : yX1_init.cls = RX1 ∧ yX1_init.cls ≠ "java/lang/invoke/MethodHandle" ∧ yX1_init.cls ≠ "java/lang/invoke/VarHandle" ∧ (parseMethodDescriptor yX1_init.desc).map (fun d => d.parameters.length) = some 0 := by decide +kernel
theorem hy_X1_init : plainName yX1_init.cls = true := by decide +kernel
theorem hv_X1_copyFrom : yX1_copyFrom.cls = RX1 ∧ yX1_copyFrom.cls ≠ "java/lang/invoke/MethodHandle" ∧ yX1_copyFrom.cls ≠ "java/lang/invoke/VarHandle" ∧ (parseMethodDescriptor yX1_copyFrom.desc).map (fun d => d.parameters.length) = some 1 := by decide +kernel
theorem hy_X1_copyFrom : plainName yX1_copyFrom.cls = true := by decide +kernel
theorem hv_X1_has : yX1_has.cls = RX1 ∧ yX1_has.cls ≠ "java/lang/invoke/MethodHandle" ∧ yX1_has.cls ≠ "java/lang/invoke/VarHandle" ∧ (parseMethodDescriptor yX1_has.desc).map (fun d => d.parameters.length) = some 1 := by decide +kernel
theorem hy_X1_has : plainName yX1_has.cls = true := by decide +kernel
theorem hv_X1_begin : yX1_begin.cls = RX1 ∧ yX1_begin.cls ≠ "java/lang/invoke/MethodHandle" ∧ yX1_begin.cls ≠ "java/lang/invoke/VarHandle" ∧ (parseMethodDescriptor yX1_begin.desc).map (fun d => d.parameters.length) = some 0 := by decide +kernel
theorem hy_X1_begin : plainName yX1_begin.cls = true := by decide +kernel
theorem hv_X1_join : yX1_join.cls = RX1 ∧ yX1_join.cls ≠ "java/lang/invoke/MethodHandle" ∧ yX1_join.cls ≠ "java/lang/invoke/VarHandle" ∧ (parseMethodDescriptor yX1_join.desc).map (fun d => d.parameters.length) = some 2 := by decide +kernel
theorem hy_X1_join : plainName yX1_join.cls = true := by decide +kernel
theorem hv_X1_leave : yX1_leave.cls = RX1 ∧ yX1_leave.cls ≠ "java/lang/invoke/MethodHandle" ∧ yX1_leave.cls ≠ "java/lang/invoke/VarHandle" ∧ (parseMethodDescriptor yX1_leave.desc).map (fun d => d.parameters.length) = some 2 := by decide +kernel
theorem hy_X1_leave : plainName yX1_leave.cls = true := by decide +kernel
theorem hv_X1_close : yX1_close.cls = RX1 ∧ yX1_close.cls ≠ "java/lang/invoke/MethodHandle" ∧ yX1_close.cls ≠ "java/lang/invoke/VarHandle" ∧ (parseMethodDescriptor yX1_close.desc).map (fun d => d.parameters.length) = some 2 := by decide +kernel
theorem hy_X1_close : plainName yX1_close.cls = true := by decide +kernel
theorem hv_X1_setState : yX1_setState.cls = RX1 ∧ yX1_setState.cls ≠ "java/lang/invoke/MethodHandle" ∧ yX1_setState.cls ≠ "java/lang/invoke/VarHandle" ∧ (parseMethodDescriptor yX1_setState.desc).map (fun d => d.parameters.length) = some 2 := by decide +kernel
theorem hy_X1_setState : plainName yX1_setState.cls = true := by decide +kernel
theorem hv_X1_stateOf : yX1_stateOf.cls = RX1 ∧ yX1_stateOf.cls ≠ "java/lang/invoke/MethodHandle" ∧ yX1_stateOf.cls ≠ "java/lang/invoke/VarHandle" ∧ (parseMethodDescriptor yX1_stateOf.desc).map (fun d => d.parameters.length) = some 1 := by decide +kernel
theorem hy_X1_stateOf : plainName yX1_stateOf.cls = true := by decide +kernel
theorem hv_X1_membersOf : yX1_membersOf.cls = RX1 ∧ yX1_membersOf.cls ≠ "java/lang/invoke/MethodHandle" ∧ yX1_membersOf.cls ≠ "java/lang/invoke/VarHandle" ∧ (parseMethodDescriptor yX1_membersOf.desc).map (fun d => d.parameters.length) = some 1 := by decide +kernel
theorem hy_X1_membersOf : plainName yX1_membersOf.cls = true := by decide +kernel
theorem hv_X1_recordsOf : yX1_recordsOf.cls = RX1 ∧ yX1_recordsOf.cls ≠ "java/lang/invoke/MethodHandle" ∧ yX1_recordsOf.cls ≠ "java/lang/invoke/VarHandle" ∧ (parseMethodDescriptor yX1_recordsOf.desc).map (fun d => d.parameters.length) = some 1 := by decide +kernel
theorem hy_X1_recordsOf : plainName yX1_recordsOf.cls = true := by decide +kernel
theorem hv_X1_reasonOf : yX1_reasonOf.cls = RX1 ∧ yX1_reasonOf.cls ≠ "java/lang/invoke/MethodHandle" ∧ yX1_reasonOf.cls ≠ "java/lang/invoke/VarHandle" ∧ (parseMethodDescriptor yX1_reasonOf.desc).map (fun d => d.parameters.length) = some 1 := by decide +kernel
theorem hy_X1_reasonOf : plainName yX1_reasonOf.cls = true := by decide +kernel
theorem hv_X2_init : yX2_init.cls = RX2 ∧ yX2_init.cls ≠ "java/lang/invoke/MethodHandle" ∧ yX2_init.cls ≠ "java/lang/invoke/VarHandle" ∧ (parseMethodDescriptor yX2_init.desc).map (fun d => d.parameters.length) = some 0 := by decide +kernel
theorem hy_X2_init : plainName yX2_init.cls = true := by decide +kernel
theorem hv_X2_size : yX2_size.cls = RX2 ∧ yX2_size.cls ≠ "java/lang/invoke/MethodHandle" ∧ yX2_size.cls ≠ "java/lang/invoke/VarHandle" ∧ (parseMethodDescriptor yX2_size.desc).map (fun d => d.parameters.length) = some 0 := by decide +kernel
theorem hy_X2_size : plainName yX2_size.cls = true := by decide +kernel
theorem hv_X2_push : yX2_push.cls = RX2 ∧ yX2_push.cls ≠ "java/lang/invoke/MethodHandle" ∧ yX2_push.cls ≠ "java/lang/invoke/VarHandle" ∧ (parseMethodDescriptor yX2_push.desc).map (fun d => d.parameters.length) = some 1 := by decide +kernel
theorem hy_X2_push : plainName yX2_push.cls = true := by decide +kernel
theorem hv_X2_stateAt : yX2_stateAt.cls = RX2 ∧ yX2_stateAt.cls ≠ "java/lang/invoke/MethodHandle" ∧ yX2_stateAt.cls ≠ "java/lang/invoke/VarHandle" ∧ (parseMethodDescriptor yX2_stateAt.desc).map (fun d => d.parameters.length) = some 1 := by decide +kernel
theorem hy_X2_stateAt : plainName yX2_stateAt.cls = true := by decide +kernel
theorem hv_X2_popInto : yX2_popInto.cls = RX2 ∧ yX2_popInto.cls ≠ "java/lang/invoke/MethodHandle" ∧ yX2_popInto.cls ≠ "java/lang/invoke/VarHandle" ∧ (parseMethodDescriptor yX2_popInto.desc).map (fun d => d.parameters.length) = some 1 := by decide +kernel
theorem hy_X2_popInto : plainName yX2_popInto.cls = true := by decide +kernel
theorem hv_X3_init : yX3_init.cls = RX3 ∧ yX3_init.cls ≠ "java/lang/invoke/MethodHandle" ∧ yX3_init.cls ≠ "java/lang/invoke/VarHandle" ∧ (parseMethodDescriptor yX3_init.desc).map (fun d => d.parameters.length) = some 0 := by decide +kernel
theorem hy_X3_init : plainName yX3_init.cls = true := by decide +kernel
theorem hv_X3_copyFrom : yX3_copyFrom.cls = RX3 ∧ yX3_copyFrom.cls ≠ "java/lang/invoke/MethodHandle" ∧ yX3_copyFrom.cls ≠ "java/lang/invoke/VarHandle" ∧ (parseMethodDescriptor yX3_copyFrom.desc).map (fun d => d.parameters.length) = some 1 := by decide +kernel
theorem hy_X3_copyFrom : plainName yX3_copyFrom.cls = true := by decide +kernel
theorem hv_X3_isClient : yX3_isClient.cls ≠ "java/lang/invoke/MethodHandle" ∧ yX3_isClient.cls ≠ "java/lang/invoke/VarHandle" ∧ (parseMethodDescriptor yX3_isClient.desc).map (fun d => d.parameters.length) = some 1 := by decide +kernel
theorem hy_X3_isClient : plainName yX3_isClient.cls = true := by decide +kernel
theorem hv_X3_openCommitOf : yX3_openCommitOf.cls = RX3 ∧ yX3_openCommitOf.cls ≠ "java/lang/invoke/MethodHandle" ∧ yX3_openCommitOf.cls ≠ "java/lang/invoke/VarHandle" ∧ (parseMethodDescriptor yX3_openCommitOf.desc).map (fun d => d.parameters.length) = some 1 := by decide +kernel
theorem hy_X3_openCommitOf : plainName yX3_openCommitOf.cls = true := by decide +kernel
theorem hv_X3_setOpenCommit : yX3_setOpenCommit.cls = RX3 ∧ yX3_setOpenCommit.cls ≠ "java/lang/invoke/MethodHandle" ∧ yX3_setOpenCommit.cls ≠ "java/lang/invoke/VarHandle" ∧ (parseMethodDescriptor yX3_setOpenCommit.desc).map (fun d => d.parameters.length) = some 2 := by decide +kernel
theorem hy_X3_setOpenCommit : plainName yX3_setOpenCommit.cls = true := by decide +kernel
theorem hv_X3_busyClients : yX3_busyClients.cls = RX3 ∧ yX3_busyClients.cls ≠ "java/lang/invoke/MethodHandle" ∧ yX3_busyClients.cls ≠ "java/lang/invoke/VarHandle" ∧ (parseMethodDescriptor yX3_busyClients.desc).map (fun d => d.parameters.length) = some 0 := by decide +kernel
theorem hy_X3_busyClients : plainName yX3_busyClients.cls = true := by decide +kernel
theorem hv_X3_isRecords : yX3_isRecords.cls ≠ "java/lang/invoke/MethodHandle" ∧ yX3_isRecords.cls ≠ "java/lang/invoke/VarHandle" ∧ (parseMethodDescriptor yX3_isRecords.desc).map (fun d => d.parameters.length) = some 1 := by decide +kernel
theorem hy_X3_isRecords : plainName yX3_isRecords.cls = true := by decide +kernel
theorem hv_X3_refusalToEnter : yX3_refusalToEnter.cls = RX3 ∧ yX3_refusalToEnter.cls ≠ "java/lang/invoke/MethodHandle" ∧ yX3_refusalToEnter.cls ≠ "java/lang/invoke/VarHandle" ∧ (parseMethodDescriptor yX3_refusalToEnter.desc).map (fun d => d.parameters.length) = some 2 := by decide +kernel
theorem hy_X3_refusalToEnter : plainName yX3_refusalToEnter.cls = true := by decide +kernel
theorem hv_X3_enter : yX3_enter.cls = RX3 ∧ yX3_enter.cls ≠ "java/lang/invoke/MethodHandle" ∧ yX3_enter.cls ≠ "java/lang/invoke/VarHandle" ∧ (parseMethodDescriptor yX3_enter.desc).map (fun d => d.parameters.length) = some 3 := by decide +kernel
theorem hy_X3_enter : plainName yX3_enter.cls = true := by decide +kernel
theorem hv_X3_loseClient : yX3_loseClient.cls = RX3 ∧ yX3_loseClient.cls ≠ "java/lang/invoke/MethodHandle" ∧ yX3_loseClient.cls ≠ "java/lang/invoke/VarHandle" ∧ (parseMethodDescriptor yX3_loseClient.desc).map (fun d => d.parameters.length) = some 1 := by decide +kernel
theorem hy_X3_loseClient : plainName yX3_loseClient.cls = true := by decide +kernel
theorem hv_X3_refusalToTakeBack : yX3_refusalToTakeBack.cls = RX3 ∧ yX3_refusalToTakeBack.cls ≠ "java/lang/invoke/MethodHandle" ∧ yX3_refusalToTakeBack.cls ≠ "java/lang/invoke/VarHandle" ∧ (parseMethodDescriptor yX3_refusalToTakeBack.desc).map (fun d => d.parameters.length) = some 1 := by decide +kernel
theorem hy_X3_refusalToTakeBack : plainName yX3_refusalToTakeBack.cls = true := by decide +kernel
theorem hv_X3_takeBack : yX3_takeBack.cls = RX3 ∧ yX3_takeBack.cls ≠ "java/lang/invoke/MethodHandle" ∧ yX3_takeBack.cls ≠ "java/lang/invoke/VarHandle" ∧ (parseMethodDescriptor yX3_takeBack.desc).map (fun d => d.parameters.length) = some 1 := by decide +kernel
theorem hy_X3_takeBack : plainName yX3_takeBack.cls = true := by decide +kernel
theorem hv_X3_endCommit : yX3_endCommit.cls = RX3 ∧ yX3_endCommit.cls ≠ "java/lang/invoke/MethodHandle" ∧ yX3_endCommit.cls ≠ "java/lang/invoke/VarHandle" ∧ (parseMethodDescriptor yX3_endCommit.desc).map (fun d => d.parameters.length) = some 2 := by decide +kernel
theorem hy_X3_endCommit : plainName yX3_endCommit.cls = true := by decide +kernel
theorem hv_X3_beginGroup : yX3_beginGroup.cls = RX3 ∧ yX3_beginGroup.cls ≠ "java/lang/invoke/MethodHandle" ∧ yX3_beginGroup.cls ≠ "java/lang/invoke/VarHandle" ∧ (parseMethodDescriptor yX3_beginGroup.desc).map (fun d => d.parameters.length) = some 0 := by decide +kernel
theorem hy_X3_beginGroup : plainName yX3_beginGroup.cls = true := by decide +kernel
theorem hv_X3_reasonToClose : yX3_reasonToClose.cls = RX3 ∧ yX3_reasonToClose.cls ≠ "java/lang/invoke/MethodHandle" ∧ yX3_reasonToClose.cls ≠ "java/lang/invoke/VarHandle" ∧ (parseMethodDescriptor yX3_reasonToClose.desc).map (fun d => d.parameters.length) = some 3 := by decide +kernel
theorem hy_X3_reasonToClose : plainName yX3_reasonToClose.cls = true := by decide +kernel
theorem hv_X3_closeGathering : yX3_closeGathering.cls = RX3 ∧ yX3_closeGathering.cls ≠ "java/lang/invoke/MethodHandle" ∧ yX3_closeGathering.cls ≠ "java/lang/invoke/VarHandle" ∧ (parseMethodDescriptor yX3_closeGathering.desc).map (fun d => d.parameters.length) = some 1 := by decide +kernel
theorem hy_X3_closeGathering : plainName yX3_closeGathering.cls = true := by decide +kernel
theorem hv_X3_learnWait : yX3_learnWait.cls = RX3 ∧ yX3_learnWait.cls ≠ "java/lang/invoke/MethodHandle" ∧ yX3_learnWait.cls ≠ "java/lang/invoke/VarHandle" ∧ (parseMethodDescriptor yX3_learnWait.desc).map (fun d => d.parameters.length) = some 1 := by decide +kernel
theorem hy_X3_learnWait : plainName yX3_learnWait.cls = true := by decide +kernel
theorem hv_X3_leaveGathering : yX3_leaveGathering.cls = RX3 ∧ yX3_leaveGathering.cls ≠ "java/lang/invoke/MethodHandle" ∧ yX3_leaveGathering.cls ≠ "java/lang/invoke/VarHandle" ∧ (parseMethodDescriptor yX3_leaveGathering.desc).map (fun d => d.parameters.length) = some 1 := by decide +kernel
theorem hy_X3_leaveGathering : plainName yX3_leaveGathering.cls = true := by decide +kernel
theorem hv_X3_ticksToWrite : yX3_ticksToWrite.cls = RX3 ∧ yX3_ticksToWrite.cls ≠ "java/lang/invoke/MethodHandle" ∧ yX3_ticksToWrite.cls ≠ "java/lang/invoke/VarHandle" ∧ (parseMethodDescriptor yX3_ticksToWrite.desc).map (fun d => d.parameters.length) = some 1 := by decide +kernel
theorem hy_X3_ticksToWrite : plainName yX3_ticksToWrite.cls = true := by decide +kernel
theorem hv_X3_startWriting : yX3_startWriting.cls = RX3 ∧ yX3_startWriting.cls ≠ "java/lang/invoke/MethodHandle" ∧ yX3_startWriting.cls ≠ "java/lang/invoke/VarHandle" ∧ (parseMethodDescriptor yX3_startWriting.desc).map (fun d => d.parameters.length) = some 0 := by decide +kernel
theorem hy_X3_startWriting : plainName yX3_startWriting.cls = true := by decide +kernel
theorem hv_X3_change : yX3_change.cls = RX3 ∧ yX3_change.cls ≠ "java/lang/invoke/MethodHandle" ∧ yX3_change.cls ≠ "java/lang/invoke/VarHandle" ∧ (parseMethodDescriptor yX3_change.desc).map (fun d => d.parameters.length) = some 2 := by decide +kernel
theorem hy_X3_change : plainName yX3_change.cls = true := by decide +kernel
theorem hv_X3_passTicks : yX3_passTicks.cls = RX3 ∧ yX3_passTicks.cls ≠ "java/lang/invoke/MethodHandle" ∧ yX3_passTicks.cls ≠ "java/lang/invoke/VarHandle" ∧ (parseMethodDescriptor yX3_passTicks.desc).map (fun d => d.parameters.length) = some 1 := by decide +kernel
theorem hy_X3_passTicks : plainName yX3_passTicks.cls = true := by decide +kernel
theorem hv_X3_passTick : yX3_passTick.cls = RX3 ∧ yX3_passTick.cls ≠ "java/lang/invoke/MethodHandle" ∧ yX3_passTick.cls ≠ "java/lang/invoke/VarHandle" ∧ (parseMethodDescriptor yX3_passTick.desc).map (fun d => d.parameters.length) = some 0 := by decide +kernel
theorem hy_X3_passTick : plainName yX3_passTick.cls = true := by decide +kernel
theorem hv_X3_finishWriting : yX3_finishWriting.cls = RX3 ∧ yX3_finishWriting.cls ≠ "java/lang/invoke/MethodHandle" ∧ yX3_finishWriting.cls ≠ "java/lang/invoke/VarHandle" ∧ (parseMethodDescriptor yX3_finishWriting.desc).map (fun d => d.parameters.length) = some 0 := by decide +kernel
theorem hy_X3_finishWriting : plainName yX3_finishWriting.cls = true := by decide +kernel
theorem hv_X3_loseAll : yX3_loseAll.cls = RX3 ∧ yX3_loseAll.cls ≠ "java/lang/invoke/MethodHandle" ∧ yX3_loseAll.cls ≠ "java/lang/invoke/VarHandle" ∧ (parseMethodDescriptor yX3_loseAll.desc).map (fun d => d.parameters.length) = some 0 := by decide +kernel
theorem hy_X3_loseAll : plainName yX3_loseAll.cls = true := by decide +kernel
theorem hv_X3_dropGroups : yX3_dropGroups.cls = RX3 ∧ yX3_dropGroups.cls ≠ "java/lang/invoke/MethodHandle" ∧ yX3_dropGroups.cls ≠ "java/lang/invoke/VarHandle" ∧ (parseMethodDescriptor yX3_dropGroups.desc).map (fun d => d.parameters.length) = some 0 := by decide +kernel
theorem hy_X3_dropGroups : plainName yX3_dropGroups.cls = true := by decide +kernel
theorem hv_X3_aboutCommit : yX3_aboutCommit.cls = RX3 ∧ yX3_aboutCommit.cls ≠ "java/lang/invoke/MethodHandle" ∧ yX3_aboutCommit.cls ≠ "java/lang/invoke/VarHandle" ∧ (parseMethodDescriptor yX3_aboutCommit.desc).map (fun d => d.parameters.length) = some 2 := by decide +kernel
theorem hy_X3_aboutCommit : plainName yX3_aboutCommit.cls = true := by decide +kernel
theorem hv_X3_aboutGroup : yX3_aboutGroup.cls = RX3 ∧ yX3_aboutGroup.cls ≠ "java/lang/invoke/MethodHandle" ∧ yX3_aboutGroup.cls ≠ "java/lang/invoke/VarHandle" ∧ (parseMethodDescriptor yX3_aboutGroup.desc).map (fun d => d.parameters.length) = some 2 := by decide +kernel
theorem hy_X3_aboutGroup : plainName yX3_aboutGroup.cls = true := by decide +kernel
theorem hv_X3_memberAt : yX3_memberAt.cls = RX3 ∧ yX3_memberAt.cls ≠ "java/lang/invoke/MethodHandle" ∧ yX3_memberAt.cls ≠ "java/lang/invoke/VarHandle" ∧ (parseMethodDescriptor yX3_memberAt.desc).map (fun d => d.parameters.length) = some 2 := by decide +kernel
theorem hy_X3_memberAt : plainName yX3_memberAt.cls = true := by decide +kernel
theorem hv_X3_queuedAt : yX3_queuedAt.cls = RX3 ∧ yX3_queuedAt.cls ≠ "java/lang/invoke/MethodHandle" ∧ yX3_queuedAt.cls ≠ "java/lang/invoke/VarHandle" ∧ (parseMethodDescriptor yX3_queuedAt.desc).map (fun d => d.parameters.length) = some 1 := by decide +kernel
theorem hy_X3_queuedAt : plainName yX3_queuedAt.cls = true := by decide +kernel
theorem hv_X3_aboutNow : yX3_aboutNow.cls = RX3 ∧ yX3_aboutNow.cls ≠ "java/lang/invoke/MethodHandle" ∧ yX3_aboutNow.cls ≠ "java/lang/invoke/VarHandle" ∧ (parseMethodDescriptor yX3_aboutNow.desc).map (fun d => d.parameters.length) = some 1 := by decide +kernel
theorem hy_X3_aboutNow : plainName yX3_aboutNow.cls = true := by decide +kernel
theorem hv_X3_totalOf : yX3_totalOf.cls = RX3 ∧ yX3_totalOf.cls ≠ "java/lang/invoke/MethodHandle" ∧ yX3_totalOf.cls ≠ "java/lang/invoke/VarHandle" ∧ (parseMethodDescriptor yX3_totalOf.desc).map (fun d => d.parameters.length) = some 1 := by decide +kernel
theorem hy_X3_totalOf : plainName yX3_totalOf.cls = true := by decide +kernel
theorem hv_X3_meanTicks : yX3_meanTicks.cls = RX3 ∧ yX3_meanTicks.cls ≠ "java/lang/invoke/MethodHandle" ∧ yX3_meanTicks.cls ≠ "java/lang/invoke/VarHandle" ∧ (parseMethodDescriptor yX3_meanTicks.desc).map (fun d => d.parameters.length) = some 0 := by decide +kernel
theorem hy_X3_meanTicks : plainName yX3_meanTicks.cls = true := by decide +kernel
theorem hv_X4_init : yX4_init.cls = RX4 ∧ yX4_init.cls ≠ "java/lang/invoke/MethodHandle" ∧ yX4_init.cls ≠ "java/lang/invoke/VarHandle" ∧ (parseMethodDescriptor yX4_init.desc).map (fun d => d.parameters.length) = some 0 := by decide +kernel
theorem hy_X4_init : plainName yX4_init.cls = true := by decide +kernel
theorem hv_X4_copyFrom : yX4_copyFrom.cls = RX4 ∧ yX4_copyFrom.cls ≠ "java/lang/invoke/MethodHandle" ∧ yX4_copyFrom.cls ≠ "java/lang/invoke/VarHandle" ∧ (parseMethodDescriptor yX4_copyFrom.desc).map (fun d => d.parameters.length) = some 1 := by decide +kernel
theorem hy_X4_copyFrom : plainName yX4_copyFrom.cls = true := by decide +kernel
theorem hv_X4_size : yX4_size.cls = RX4 ∧ yX4_size.cls ≠ "java/lang/invoke/MethodHandle" ∧ yX4_size.cls ≠ "java/lang/invoke/VarHandle" ∧ (parseMethodDescriptor yX4_size.desc).map (fun d => d.parameters.length) = some 0 := by decide +kernel
theorem hy_X4_size : plainName yX4_size.cls = true := by decide +kernel
theorem hv_X4_add : yX4_add.cls = RX4 ∧ yX4_add.cls ≠ "java/lang/invoke/MethodHandle" ∧ yX4_add.cls ≠ "java/lang/invoke/VarHandle" ∧ (parseMethodDescriptor yX4_add.desc).map (fun d => d.parameters.length) = some 1 := by decide +kernel
theorem hy_X4_add : plainName yX4_add.cls = true := by decide +kernel
theorem hv_X4_at : yX4_at.cls = RX4 ∧ yX4_at.cls ≠ "java/lang/invoke/MethodHandle" ∧ yX4_at.cls ≠ "java/lang/invoke/VarHandle" ∧ (parseMethodDescriptor yX4_at.desc).map (fun d => d.parameters.length) = some 1 := by decide +kernel
theorem hy_X4_at : plainName yX4_at.cls = true := by decide +kernel
theorem hv_X4_takeFirst : yX4_takeFirst.cls = RX4 ∧ yX4_takeFirst.cls ≠ "java/lang/invoke/MethodHandle" ∧ yX4_takeFirst.cls ≠ "java/lang/invoke/VarHandle" ∧ (parseMethodDescriptor yX4_takeFirst.desc).map (fun d => d.parameters.length) = some 0 := by decide +kernel
theorem hy_X4_takeFirst : plainName yX4_takeFirst.cls = true := by decide +kernel
theorem hv_X5_init : yX5_init.cls = RX5 ∧ yX5_init.cls ≠ "java/lang/invoke/MethodHandle" ∧ yX5_init.cls ≠ "java/lang/invoke/VarHandle" ∧ (parseMethodDescriptor yX5_init.desc).map (fun d => d.parameters.length) = some 0 := by decide +kernel
theorem hy_X5_init : plainName yX5_init.cls = true := by decide +kernel
theorem hv_X5_length : yX5_length.cls = RX5 ∧ yX5_length.cls ≠ "java/lang/invoke/MethodHandle" ∧ yX5_length.cls ≠ "java/lang/invoke/VarHandle" ∧ (parseMethodDescriptor yX5_length.desc).map (fun d => d.parameters.length) = some 0 := by decide +kernel
theorem hy_X5_length : plainName yX5_length.cls = true := by decide +kernel
theorem hv_X6_init : yX6_init.cls = RX6 ∧ yX6_init.cls ≠ "java/lang/invoke/MethodHandle" ∧ yX6_init.cls ≠ "java/lang/invoke/VarHandle" ∧ (parseMethodDescriptor yX6_init.desc).map (fun d => d.parameters.length) = some 0 := by decide +kernel
theorem hy_X6_init : plainName yX6_init.cls = true := by decide +kernel
theorem hv_X6_copyFrom : yX6_copyFrom.cls = RX6 ∧ yX6_copyFrom.cls ≠ "java/lang/invoke/MethodHandle" ∧ yX6_copyFrom.cls ≠ "java/lang/invoke/VarHandle" ∧ (parseMethodDescriptor yX6_copyFrom.desc).map (fun d => d.parameters.length) = some 1 := by decide +kernel
theorem hy_X6_copyFrom : plainName yX6_copyFrom.cls = true := by decide +kernel
theorem hv_X6_refusal : yX6_refusal.cls ≠ "java/lang/invoke/MethodHandle" ∧ yX6_refusal.cls ≠ "java/lang/invoke/VarHandle" ∧ (parseMethodDescriptor yX6_refusal.desc).map (fun d => d.parameters.length) = some 2 := by decide +kernel
theorem hy_X6_refusal : plainName yX6_refusal.cls = true := by decide +kernel
theorem hv_X6_valueOf : yX6_valueOf.cls = RX6 ∧ yX6_valueOf.cls ≠ "java/lang/invoke/MethodHandle" ∧ yX6_valueOf.cls ≠ "java/lang/invoke/VarHandle" ∧ (parseMethodDescriptor yX6_valueOf.desc).map (fun d => d.parameters.length) = some 1 := by decide +kernel
theorem hy_X6_valueOf : plainName yX6_valueOf.cls = true := by decide +kernel
theorem hv_X6_change : yX6_change.cls = RX6 ∧ yX6_change.cls ≠ "java/lang/invoke/MethodHandle" ∧ yX6_change.cls ≠ "java/lang/invoke/VarHandle" ∧ (parseMethodDescriptor yX6_change.desc).map (fun d => d.parameters.length) = some 2 := by decide +kernel
theorem hy_X6_change : plainName yX6_change.cls = true := by decide +kernel
theorem hv_X7_init : yX7_init.cls = RX7 ∧ yX7_init.cls ≠ "java/lang/invoke/MethodHandle" ∧ yX7_init.cls ≠ "java/lang/invoke/VarHandle" ∧ (parseMethodDescriptor yX7_init.desc).map (fun d => d.parameters.length) = some 0 := by decide +kernel
theorem hy_X7_init : plainName yX7_init.cls = true := by decide +kernel
theorem hv_X7_submit : yX7_submit.cls = RX7 ∧ yX7_submit.cls ≠ "java/lang/invoke/MethodHandle" ∧ yX7_submit.cls ≠ "java/lang/invoke/VarHandle" ∧ (parseMethodDescriptor yX7_submit.desc).map (fun d => d.parameters.length) = some 3 := by decide +kernel
theorem hy_X7_submit : plainName yX7_submit.cls = true := by decide +kernel
theorem hv_X7_fail : yX7_fail.cls = RX7 ∧ yX7_fail.cls ≠ "java/lang/invoke/MethodHandle" ∧ yX7_fail.cls ≠ "java/lang/invoke/VarHandle" ∧ (parseMethodDescriptor yX7_fail.desc).map (fun d => d.parameters.length) = some 1 := by decide +kernel
theorem hy_X7_fail : plainName yX7_fail.cls = true := by decide +kernel
theorem hv_X7_withdraw : yX7_withdraw.cls = RX7 ∧ yX7_withdraw.cls ≠ "java/lang/invoke/MethodHandle" ∧ yX7_withdraw.cls ≠ "java/lang/invoke/VarHandle" ∧ (parseMethodDescriptor yX7_withdraw.desc).map (fun d => d.parameters.length) = some 1 := by decide +kernel
theorem hy_X7_withdraw : plainName yX7_withdraw.cls = true := by decide +kernel
theorem hv_X7_crash : yX7_crash.cls = RX7 ∧ yX7_crash.cls ≠ "java/lang/invoke/MethodHandle" ∧ yX7_crash.cls ≠ "java/lang/invoke/VarHandle" ∧ (parseMethodDescriptor yX7_crash.desc).map (fun d => d.parameters.length) = some 0 := by decide +kernel
theorem hy_X7_crash : plainName yX7_crash.cls = true := by decide +kernel
theorem hv_X7_tick : yX7_tick.cls = RX7 ∧ yX7_tick.cls ≠ "java/lang/invoke/MethodHandle" ∧ yX7_tick.cls ≠ "java/lang/invoke/VarHandle" ∧ (parseMethodDescriptor yX7_tick.desc).map (fun d => d.parameters.length) = some 1 := by decide +kernel
theorem hy_X7_tick : plainName yX7_tick.cls = true := by decide +kernel
theorem hv_X7_set : yX7_set.cls = RX7 ∧ yX7_set.cls ≠ "java/lang/invoke/MethodHandle" ∧ yX7_set.cls ≠ "java/lang/invoke/VarHandle" ∧ (parseMethodDescriptor yX7_set.desc).map (fun d => d.parameters.length) = some 2 := by decide +kernel
theorem hy_X7_set : plainName yX7_set.cls = true := by decide +kernel
theorem hv_X7_undo : yX7_undo.cls = RX7 ∧ yX7_undo.cls ≠ "java/lang/invoke/MethodHandle" ∧ yX7_undo.cls ≠ "java/lang/invoke/VarHandle" ∧ (parseMethodDescriptor yX7_undo.desc).map (fun d => d.parameters.length) = some 0 := by decide +kernel
theorem hy_X7_undo : plainName yX7_undo.cls = true := by decide +kernel
theorem hv_X7_commit : yX7_commit.cls = RX7 ∧ yX7_commit.cls ≠ "java/lang/invoke/MethodHandle" ∧ yX7_commit.cls ≠ "java/lang/invoke/VarHandle" ∧ (parseMethodDescriptor yX7_commit.desc).map (fun d => d.parameters.length) = some 2 := by decide +kernel
theorem hy_X7_commit : plainName yX7_commit.cls = true := by decide +kernel
theorem hv_X7_group : yX7_group.cls = RX7 ∧ yX7_group.cls ≠ "java/lang/invoke/MethodHandle" ∧ yX7_group.cls ≠ "java/lang/invoke/VarHandle" ∧ (parseMethodDescriptor yX7_group.desc).map (fun d => d.parameters.length) = some 2 := by decide +kernel
theorem hy_X7_group : plainName yX7_group.cls = true := by decide +kernel
theorem hv_X7_member : yX7_member.cls = RX7 ∧ yX7_member.cls ≠ "java/lang/invoke/MethodHandle" ∧ yX7_member.cls ≠ "java/lang/invoke/VarHandle" ∧ (parseMethodDescriptor yX7_member.desc).map (fun d => d.parameters.length) = some 2 := by decide +kernel
theorem hy_X7_member : plainName yX7_member.cls = true := by decide +kernel
theorem hv_X7_open : yX7_open.cls = RX7 ∧ yX7_open.cls ≠ "java/lang/invoke/MethodHandle" ∧ yX7_open.cls ≠ "java/lang/invoke/VarHandle" ∧ (parseMethodDescriptor yX7_open.desc).map (fun d => d.parameters.length) = some 1 := by decide +kernel
theorem hy_X7_open : plainName yX7_open.cls = true := by decide +kernel
theorem hv_X7_queued : yX7_queued.cls = RX7 ∧ yX7_queued.cls ≠ "java/lang/invoke/MethodHandle" ∧ yX7_queued.cls ≠ "java/lang/invoke/VarHandle" ∧ (parseMethodDescriptor yX7_queued.desc).map (fun d => d.parameters.length) = some 1 := by decide +kernel
theorem hy_X7_queued : plainName yX7_queued.cls = true := by decide +kernel
theorem hv_X7_count : yX7_count.cls = RX7 ∧ yX7_count.cls ≠ "java/lang/invoke/MethodHandle" ∧ yX7_count.cls ≠ "java/lang/invoke/VarHandle" ∧ (parseMethodDescriptor yX7_count.desc).map (fun d => d.parameters.length) = some 1 := by decide +kernel
theorem hy_X7_count : plainName yX7_count.cls = true := by decide +kernel
theorem hv_X7_total : yX7_total.cls = RX7 ∧ yX7_total.cls ≠ "java/lang/invoke/MethodHandle" ∧ yX7_total.cls ≠ "java/lang/invoke/VarHandle" ∧ (parseMethodDescriptor yX7_total.desc).map (fun d => d.parameters.length) = some 1 := by decide +kernel
theorem hy_X7_total : plainName yX7_total.cls = true := by decide +kernel
theorem hv_X7_mean : yX7_mean.cls = RX7 ∧ yX7_mean.cls ≠ "java/lang/invoke/MethodHandle" ∧ yX7_mean.cls ≠ "java/lang/invoke/VarHandle" ∧ (parseMethodDescriptor yX7_mean.desc).map (fun d => d.parameters.length) = some 0 := by decide +kernel
theorem hy_X7_mean : plainName yX7_mean.cls = true := by decide +kernel
theorem hv_L_cell : yL_cell.cls ≠ "java/lang/invoke/MethodHandle" ∧ yL_cell.cls ≠ "java/lang/invoke/VarHandle" ∧ (parseMethodDescriptor yL_cell.desc).map (fun d => d.parameters.length) = some 2 := by decide +kernel
theorem hy_L_cell : plainName yL_cell.cls = true := by decide +kernel
theorem hv_L_low : yL_low.cls ≠ "java/lang/invoke/MethodHandle" ∧ yL_low.cls ≠ "java/lang/invoke/VarHandle" ∧ (parseMethodDescriptor yL_low.desc).map (fun d => d.parameters.length) = some 2 := by decide +kernel
theorem hy_L_low : plainName yL_low.cls = true := by decide +kernel
theorem hv_L_what : yL_what.cls ≠ "java/lang/invoke/MethodHandle" ∧ yL_what.cls ≠ "java/lang/invoke/VarHandle" ∧ (parseMethodDescriptor yL_what.desc).map (fun d => d.parameters.length) = some 2 := by decide +kernel
theorem hy_L_what : plainName yL_what.cls = true := by decide +kernel
theorem hv_L_becomes : yL_becomes.cls ≠ "java/lang/invoke/MethodHandle" ∧ yL_becomes.cls ≠ "java/lang/invoke/VarHandle" ∧ (parseMethodDescriptor yL_becomes.desc).map (fun d => d.parameters.length) = some 3 := by decide +kernel
theorem hy_L_becomes : plainName yL_becomes.cls = true := by decide +kernel
theorem hv_L_records : yL_records.cls ≠ "java/lang/invoke/MethodHandle" ∧ yL_records.cls ≠ "java/lang/invoke/VarHandle" ∧ (parseMethodDescriptor yL_records.desc).map (fun d => d.parameters.length) = some 2 := by decide +kernel
theorem hy_L_records : plainName yL_records.cls = true := by decide +kernel
theorem hv_L_members : yL_members.cls ≠ "java/lang/invoke/MethodHandle" ∧ yL_members.cls ≠ "java/lang/invoke/VarHandle" ∧ (parseMethodDescriptor yL_members.desc).map (fun d => d.parameters.length) = some 4 := by decide +kernel
theorem hy_L_members : plainName yL_members.cls = true := by decide +kernel
theorem hv_L_firstOf : yL_firstOf.cls ≠ "java/lang/invoke/MethodHandle" ∧ yL_firstOf.cls ≠ "java/lang/invoke/VarHandle" ∧ (parseMethodDescriptor yL_firstOf.desc).map (fun d => d.parameters.length) = some 3 := by decide +kernel
theorem hy_L_firstOf : plainName yL_firstOf.cls = true := by decide +kernel
theorem hv_L_turns : yL_turns.cls ≠ "java/lang/invoke/MethodHandle" ∧ yL_turns.cls ≠ "java/lang/invoke/VarHandle" ∧ (parseMethodDescriptor yL_turns.desc).map (fun d => d.parameters.length) = some 5 := by decide +kernel
theorem hy_L_turns : plainName yL_turns.cls = true := by decide +kernel
theorem hv_L_writes : yL_writes.cls ≠ "java/lang/invoke/MethodHandle" ∧ yL_writes.cls ≠ "java/lang/invoke/VarHandle" ∧ (parseMethodDescriptor yL_writes.desc).map (fun d => d.parameters.length) = some 4 := by decide +kernel
theorem hy_L_writes : plainName yL_writes.cls = true := by decide +kernel
theorem hv_L_closes : yL_closes.cls ≠ "java/lang/invoke/MethodHandle" ∧ yL_closes.cls ≠ "java/lang/invoke/VarHandle" ∧ (parseMethodDescriptor yL_closes.desc).map (fun d => d.parameters.length) = some 5 := by decide +kernel
theorem hy_L_closes : plainName yL_closes.cls = true := by decide +kernel
theorem hv_L_ticks : yL_ticks.cls ≠ "java/lang/invoke/MethodHandle" ∧ yL_ticks.cls ≠ "java/lang/invoke/VarHandle" ∧ (parseMethodDescriptor yL_ticks.desc).map (fun d => d.parameters.length) = some 8 := by decide +kernel
theorem hy_L_ticks : plainName yL_ticks.cls = true := by decide +kernel
theorem hv_L_open : yL_open.cls ≠ "java/lang/invoke/MethodHandle" ∧ yL_open.cls ≠ "java/lang/invoke/VarHandle" ∧ (parseMethodDescriptor yL_open.desc).map (fun d => d.parameters.length) = some 3 := by decide +kernel
theorem hy_L_open : plainName yL_open.cls = true := by decide +kernel
theorem hv_L_submits : yL_submits.cls ≠ "java/lang/invoke/MethodHandle" ∧ yL_submits.cls ≠ "java/lang/invoke/VarHandle" ∧ (parseMethodDescriptor yL_submits.desc).map (fun d => d.parameters.length) = some 10 := by decide +kernel
theorem hy_L_submits : plainName yL_submits.cls = true := by decide +kernel
theorem hv_L_outs : yL_outs.cls ≠ "java/lang/invoke/MethodHandle" ∧ yL_outs.cls ≠ "java/lang/invoke/VarHandle" ∧ (parseMethodDescriptor yL_outs.desc).map (fun d => d.parameters.length) = some 7 := by decide +kernel
theorem hy_L_outs : plainName yL_outs.cls = true := by decide +kernel
theorem hv_L_due : yL_due.cls ≠ "java/lang/invoke/MethodHandle" ∧ yL_due.cls ≠ "java/lang/invoke/VarHandle" ∧ (parseMethodDescriptor yL_due.desc).map (fun d => d.parameters.length) = some 10 := by decide +kernel
theorem hy_L_due : plainName yL_due.cls = true := by decide +kernel
theorem hv_L_call : yL_call.cls ≠ "java/lang/invoke/MethodHandle" ∧ yL_call.cls ≠ "java/lang/invoke/VarHandle" ∧ (parseMethodDescriptor yL_call.desc).map (fun d => d.parameters.length) = some 4 := by decide +kernel
theorem hy_L_call : plainName yL_call.cls = true := by decide +kernel
theorem hv_L_told : yL_told.cls ≠ "java/lang/invoke/MethodHandle" ∧ yL_told.cls ≠ "java/lang/invoke/VarHandle" ∧ (parseMethodDescriptor yL_told.desc).map (fun d => d.parameters.length) = some 1 := by decide +kernel
theorem hy_L_told : plainName yL_told.cls = true := by decide +kernel
theorem hv_L_isGroup : yL_isGroup.cls ≠ "java/lang/invoke/MethodHandle" ∧ yL_isGroup.cls ≠ "java/lang/invoke/VarHandle" ∧ (parseMethodDescriptor yL_isGroup.desc).map (fun d => d.parameters.length) = some 8 := by decide +kernel
theorem hy_L_isGroup : plainName yL_isGroup.cls = true := by decide +kernel
theorem hv_L_isSo : yL_isSo.cls ≠ "java/lang/invoke/MethodHandle" ∧ yL_isSo.cls ≠ "java/lang/invoke/VarHandle" ∧ (parseMethodDescriptor yL_isSo.desc).map (fun d => d.parameters.length) = some 9 := by decide +kernel
theorem hy_L_isSo : plainName yL_isSo.cls = true := by decide +kernel
theorem hy_L_law : plainName yL_law.cls = true := by decide +kernel
