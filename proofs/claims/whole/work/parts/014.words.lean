-- words of the tables by their places: written by wip/gen/words.py
theorem m_u1 {w : Cond} (h : w ∈ tables_1_1) : w ∈ lw_tbl := List.mem_append_right _ (List.mem_append_left _ h)
theorem m_t1 {w : Cond} (h : w ∈ tables_1_1) (g : goodWord w = true) : w ∈ m_tbl := List.mem_filter.mpr ⟨m_u1 h, g⟩
theorem m_u2 {w : Cond} (h : w ∈ tables_1_2) : w ∈ lw_tbl := List.mem_append_right _ (List.mem_append_right _ (List.mem_append_left _ h))
theorem m_t2 {w : Cond} (h : w ∈ tables_1_2) (g : goodWord w = true) : w ∈ m_tbl := List.mem_filter.mpr ⟨m_u2 h, g⟩
theorem m_u3 {w : Cond} (h : w ∈ tables_1_3) : w ∈ lw_tbl := List.mem_append_right _ (List.mem_append_right _ (List.mem_append_right _ (List.mem_append_left _ h)))
theorem m_t3 {w : Cond} (h : w ∈ tables_1_3) (g : goodWord w = true) : w ∈ m_tbl := List.mem_filter.mpr ⟨m_u3 h, g⟩
theorem m_u4 {w : Cond} (h : w ∈ tables_1_4) : w ∈ lw_tbl := List.mem_append_right _ (List.mem_append_right _ (List.mem_append_right _ (List.mem_append_right _ (List.mem_append_left _ h))))
theorem m_t4 {w : Cond} (h : w ∈ tables_1_4) (g : goodWord w = true) : w ∈ m_tbl := List.mem_filter.mpr ⟨m_u4 h, g⟩
theorem m_u5 {w : Cond} (h : w ∈ tables_1_5) : w ∈ lw_tbl := List.mem_append_right _ (List.mem_append_right _ (List.mem_append_right _ (List.mem_append_right _ (List.mem_append_right _ (h)))))
theorem m_t5 {w : Cond} (h : w ∈ tables_1_5) (g : goodWord w = true) : w ∈ m_tbl := List.mem_filter.mpr ⟨m_u5 h, g⟩
theorem wn_L : Cond.initialized RL ∈ m_tbl := m_t1 (List.mem_of_getElem? (i := 0) rfl) rfl
theorem wn_X7 : Cond.initialized RX7 ∈ m_tbl := m_t1 (List.mem_of_getElem? (i := 1) rfl) rfl
theorem wn_X3 : Cond.initialized RX3 ∈ m_tbl := m_t1 (List.mem_of_getElem? (i := 2) rfl) rfl
theorem wn_X0 : Cond.initialized RX0 ∈ m_tbl := m_t1 (List.mem_of_getElem? (i := 3) rfl) rfl
theorem wn_X1 : Cond.initialized RX1 ∈ m_tbl := m_t1 (List.mem_of_getElem? (i := 4) rfl) rfl
theorem wn_X4 : Cond.initialized RX4 ∈ m_tbl := m_t1 (List.mem_of_getElem? (i := 5) rfl) rfl
theorem wn_X6 : Cond.initialized RX6 ∈ m_tbl := m_t1 (List.mem_of_getElem? (i := 6) rfl) rfl
theorem wn_java_lang_System : Cond.initialized "java/lang/System" ∈ m_tbl := m_t1 (List.mem_of_getElem? (i := 7) rfl) rfl
theorem wn_X2 : Cond.initialized RX2 ∈ m_tbl := m_t1 (List.mem_of_getElem? (i := 8) rfl) rfl
theorem wn_X5 : Cond.initialized RX5 ∈ m_tbl := m_t1 (List.mem_of_getElem? (i := 9) rfl) rfl
theorem wn_X8 : Cond.initialized RX8 ∈ m_tbl := m_t1 (List.mem_of_getElem? (i := 10) rfl) rfl
theorem wn_java_lang_Math : Cond.initialized "java/lang/Math" ∈ m_tbl := m_t1 (List.mem_of_getElem? (i := 11) rfl) rfl
theorem wk_L_7 : Cond.classLink RL 7 RX7 ∈ m_tbl := m_t1 (List.mem_of_getElem? (i := 12) rfl) rfl
theorem wb_X7 : Cond.instantiable RX7 5 ∈ m_tbl := m_t1 (List.mem_of_getElem? (i := 13) rfl) rfl
theorem wl_L_9 : Cond.methodLink RL 9 yX7_init ∈ m_tbl := m_t1 (List.mem_of_getElem? (i := 14) rfl) rfl
theorem wi_X7_init : Cond.instanceMethod yX7_init ∈ m_tbl := m_t1 (List.mem_of_getElem? (i := 15) rfl) rfl
theorem wc_X7_init : Cond.code yX7_init cX7_init 1 none ∈ m_tbl := m_t1 (List.mem_of_getElem? (i := 16) rfl) rfl
theorem wl_X7_1 : Cond.methodLink RX7 1 objectInit ∈ m_tbl := m_t1 (List.mem_of_getElem? (i := 17) rfl) rfl
theorem wi_objectInit : Cond.instanceMethod objectInit ∈ m_tbl := m_t1 (List.mem_of_getElem? (i := 18) rfl) rfl
theorem wc_objectInit : Cond.code objectInit ⟨#[0xb1]⟩ 1 none ∈ m_tbl := m_t1 (List.mem_of_getElem? (i := 19) rfl) rfl
theorem wk_X7_7 : Cond.classLink RX7 7 RX3 ∈ m_tbl := m_t1 (List.mem_of_getElem? (i := 20) rfl) rfl
theorem wb_X3 : Cond.instantiable RX3 12 ∈ m_tbl := m_t1 (List.mem_of_getElem? (i := 21) rfl) rfl
theorem wl_X7_9 : Cond.methodLink RX7 9 yX3_init ∈ m_tbl := m_t1 (List.mem_of_getElem? (i := 22) rfl) rfl
theorem wi_X3_init : Cond.instanceMethod yX3_init ∈ m_tbl := m_t1 (List.mem_of_getElem? (i := 23) rfl) rfl
theorem wc_X3_init : Cond.code yX3_init cX3_init 2 none ∈ m_tbl := m_t1 (List.mem_of_getElem? (i := 24) rfl) rfl
theorem wl_X3_3 : Cond.methodLink RX3 3 objectInit ∈ m_tbl := m_t1 (List.mem_of_getElem? (i := 25) rfl) rfl
theorem wk_X3_9 : Cond.classLink RX3 9 RX0 ∈ m_tbl := m_t1 (List.mem_of_getElem? (i := 26) rfl) rfl
theorem wb_X0 : Cond.instantiable RX0 9 ∈ m_tbl := m_t1 (List.mem_of_getElem? (i := 27) rfl) rfl
theorem wln_X3_11 : Cond.methodLinkNest RX3 11 yX0_init "GroupCommits" ∈ lw_tbl := m_u1 (List.mem_of_getElem? (i := 28) rfl)
theorem wi_X0_init : Cond.instanceMethod yX0_init ∈ m_tbl := m_t1 (List.mem_of_getElem? (i := 29) rfl) rfl
theorem wc_X0_init : Cond.code yX0_init cX0_init 1 none ∈ m_tbl := m_t1 (List.mem_of_getElem? (i := 30) rfl) rfl
theorem wl_X0_3 : Cond.methodLink RX0 3 objectInit ∈ m_tbl := m_t1 (List.mem_of_getElem? (i := 31) rfl) rfl
theorem wf_X0_11 : Cond.fieldLink RX0 11 "GroupCommits$Commits" "clients" "[I" ∈ m_tbl := m_t1 (List.mem_of_getElem? (i := 32) rfl) rfl
theorem wf_X0_15 : Cond.fieldLink RX0 15 "GroupCommits$Commits" "records" "[I" ∈ m_tbl := m_t1 (List.mem_of_getElem? (i := 33) rfl) rfl
theorem wf_X0_18 : Cond.fieldLink RX0 18 "GroupCommits$Commits" "urgent" "[Z" ∈ m_tbl := m_t1 (List.mem_of_getElem? (i := 34) rfl) rfl
theorem wf_X0_22 : Cond.fieldLink RX0 22 "GroupCommits$Commits" "states" "[I" ∈ m_tbl := m_t1 (List.mem_of_getElem? (i := 35) rfl) rfl
theorem wf_X0_25 : Cond.fieldLink RX0 25 "GroupCommits$Commits" "submitTimes" "[I" ∈ m_tbl := m_t1 (List.mem_of_getElem? (i := 36) rfl) rfl
theorem wf_X0_28 : Cond.fieldLink RX0 28 "GroupCommits$Commits" "answerTimes" "[I" ∈ m_tbl := m_t1 (List.mem_of_getElem? (i := 37) rfl) rfl
theorem wf_X0_31 : Cond.fieldLink RX0 31 "GroupCommits$Commits" "groups" "[I" ∈ m_tbl := m_t1 (List.mem_of_getElem? (i := 38) rfl) rfl
theorem wf_X0_34 : Cond.fieldLink RX0 34 "GroupCommits$Commits" "inGroup" "[Z" ∈ m_tbl := m_t1 (List.mem_of_getElem? (i := 39) rfl) rfl
theorem wf_X0_43 : Cond.fieldLink RX0 43 "GroupCommits$Commits" "size" "I" ∈ m_tbl := m_t1 (List.mem_of_getElem? (i := 40) rfl) rfl
theorem wa_int : Cond.arrayClass .int ∈ m_tbl := m_t1 (List.mem_of_getElem? (i := 60) rfl) rfl
theorem wa_boolean : Cond.arrayClass .boolean ∈ m_tbl := m_t1 (List.mem_of_getElem? (i := 61) rfl) rfl
theorem wk_X3_18 : Cond.classLink RX3 18 RX1 ∈ m_tbl := m_t1 (List.mem_of_getElem? (i := 62) rfl) rfl
theorem wb_X1 : Cond.instantiable RX1 5 ∈ m_tbl := m_t1 (List.mem_of_getElem? (i := 63) rfl) rfl
theorem wln_X3_20 : Cond.methodLinkNest RX3 20 yX1_init "GroupCommits" ∈ lw_tbl := m_u1 (List.mem_of_getElem? (i := 64) rfl)
theorem wi_X1_init : Cond.instanceMethod yX1_init ∈ m_tbl := m_t1 (List.mem_of_getElem? (i := 65) rfl) rfl
theorem wc_X1_init : Cond.code yX1_init cX1_init 1 none ∈ m_tbl := m_t1 (List.mem_of_getElem? (i := 66) rfl) rfl
theorem wl_X1_5 : Cond.methodLink RX1 5 objectInit ∈ m_tbl := m_t1 (List.mem_of_getElem? (i := 67) rfl) rfl
theorem wf_X1_13 : Cond.fieldLink RX1 13 "GroupCommits$Groups" "states" "[I" ∈ m_tbl := m_t1 (List.mem_of_getElem? (i := 68) rfl) rfl
theorem wf_X1_17 : Cond.fieldLink RX1 17 "GroupCommits$Groups" "members" "[I" ∈ m_tbl := m_t1 (List.mem_of_getElem? (i := 69) rfl) rfl
theorem wf_X1_20 : Cond.fieldLink RX1 20 "GroupCommits$Groups" "records" "[I" ∈ m_tbl := m_t1 (List.mem_of_getElem? (i := 70) rfl) rfl
theorem wf_X1_23 : Cond.fieldLink RX1 23 "GroupCommits$Groups" "reasons" "[I" ∈ m_tbl := m_t1 (List.mem_of_getElem? (i := 71) rfl) rfl
theorem wf_X1_32 : Cond.fieldLink RX1 32 "GroupCommits$Groups" "size" "I" ∈ m_tbl := m_t1 (List.mem_of_getElem? (i := 72) rfl) rfl
theorem wk_X3_25 : Cond.classLink RX3 25 RX4 ∈ m_tbl := m_t1 (List.mem_of_getElem? (i := 84) rfl) rfl
theorem wb_X4 : Cond.instantiable RX4 3 ∈ m_tbl := m_t1 (List.mem_of_getElem? (i := 85) rfl) rfl
theorem wln_X3_27 : Cond.methodLinkNest RX3 27 yX4_init "GroupCommits" ∈ lw_tbl := m_u1 (List.mem_of_getElem? (i := 86) rfl)
theorem wi_X4_init : Cond.instanceMethod yX4_init ∈ m_tbl := m_t1 (List.mem_of_getElem? (i := 87) rfl) rfl
theorem wc_X4_init : Cond.code yX4_init cX4_init 1 none ∈ m_tbl := m_t1 (List.mem_of_getElem? (i := 88) rfl) rfl
theorem wl_X4_5 : Cond.methodLink RX4 5 objectInit ∈ m_tbl := m_t1 (List.mem_of_getElem? (i := 89) rfl) rfl
theorem wf_X4_13 : Cond.fieldLink RX4 13 "GroupCommits$Queue" "row" "[I" ∈ m_tbl := m_t1 (List.mem_of_getElem? (i := 90) rfl) rfl
theorem wf_X4_23 : Cond.fieldLink RX4 23 "GroupCommits$Queue" "first" "I" ∈ m_tbl := m_t1 (List.mem_of_getElem? (i := 91) rfl) rfl
theorem wf_X4_27 : Cond.fieldLink RX4 27 "GroupCommits$Queue" "end" "I" ∈ m_tbl := m_t1 (List.mem_of_getElem? (i := 92) rfl) rfl
theorem wk_X3_32 : Cond.classLink RX3 32 RX6 ∈ m_tbl := m_t1 (List.mem_of_getElem? (i := 100) rfl) rfl
theorem wb_X6 : Cond.instantiable RX6 1 ∈ m_tbl := m_t1 (List.mem_of_getElem? (i := 101) rfl) rfl
theorem wl_X3_34 : Cond.methodLink RX3 34 yX6_init ∈ m_tbl := m_t1 (List.mem_of_getElem? (i := 102) rfl) rfl
theorem wi_X6_init : Cond.instanceMethod yX6_init ∈ m_tbl := m_t1 (List.mem_of_getElem? (i := 103) rfl) rfl
theorem wc_X6_init : Cond.code yX6_init cX6_init 1 none ∈ m_tbl := m_t1 (List.mem_of_getElem? (i := 104) rfl) rfl
theorem wl_X6_3 : Cond.methodLink RX6 3 objectInit ∈ m_tbl := m_t1 (List.mem_of_getElem? (i := 105) rfl) rfl
theorem wf_X6_15 : Cond.fieldLink RX6 15 "GroupCommits$Settings" "FIRST" "[I" ∈ m_tbl := m_t1 (List.mem_of_getElem? (i := 106) rfl) rfl
theorem wz_FIRST : Cond.laysStatic "GroupCommits$Settings" "FIRST" "[I" ∈ lw_tbl := m_u1 (List.mem_of_getElem? (i := 107) rfl)
theorem wl_X6_18 : Cond.methodLink RX6 18 arraycopyName ∈ m_tbl := m_t1 (List.mem_of_getElem? (i := 108) rfl) rfl
theorem wst_arraycopyName : Cond.static arraycopyName ∈ m_tbl := m_t1 (List.mem_of_getElem? (i := 109) rfl) rfl
theorem wnat_arraycopyName : Cond.native arraycopyName ∈ m_tbl := m_t1 (List.mem_of_getElem? (i := 110) rfl) rfl
theorem wf_X6_11 : Cond.fieldLink RX6 11 "GroupCommits$Settings" "values" "[I" ∈ m_tbl := m_t1 (List.mem_of_getElem? (i := 111) rfl) rfl
theorem wf_X3_12 : Cond.fieldLink RX3 12 "GroupCommits$Log" "commits" "LGroupCommits$Commits;" ∈ m_tbl := m_t1 (List.mem_of_getElem? (i := 115) rfl) rfl
theorem wf_X3_21 : Cond.fieldLink RX3 21 "GroupCommits$Log" "groups" "LGroupCommits$Groups;" ∈ m_tbl := m_t1 (List.mem_of_getElem? (i := 116) rfl) rfl
theorem wf_X3_28 : Cond.fieldLink RX3 28 "GroupCommits$Log" "queue" "LGroupCommits$Queue;" ∈ m_tbl := m_t1 (List.mem_of_getElem? (i := 117) rfl) rfl
theorem wf_X3_35 : Cond.fieldLink RX3 35 "GroupCommits$Log" "settings" "LGroupCommits$Settings;" ∈ m_tbl := m_t1 (List.mem_of_getElem? (i := 118) rfl) rfl
theorem wf_X3_39 : Cond.fieldLink RX3 39 "GroupCommits$Log" "totals" "[I" ∈ m_tbl := m_t1 (List.mem_of_getElem? (i := 119) rfl) rfl
theorem wf_X3_43 : Cond.fieldLink RX3 43 "GroupCommits$Log" "openCommits" "[I" ∈ m_tbl := m_t1 (List.mem_of_getElem? (i := 120) rfl) rfl
theorem wf_X3_75 : Cond.fieldLink RX3 75 "GroupCommits$Log" "time" "I" ∈ m_tbl := m_t1 (List.mem_of_getElem? (i := 121) rfl) rfl
theorem wf_X3_46 : Cond.fieldLink RX3 46 "GroupCommits$Log" "wait" "I" ∈ m_tbl := m_t1 (List.mem_of_getElem? (i := 122) rfl) rfl
theorem wf_X3_50 : Cond.fieldLink RX3 50 "GroupCommits$Log" "gathering" "I" ∈ m_tbl := m_t1 (List.mem_of_getElem? (i := 123) rfl) rfl
theorem wf_X3_78 : Cond.fieldLink RX3 78 "GroupCommits$Log" "gatheringEnd" "I" ∈ m_tbl := m_t1 (List.mem_of_getElem? (i := 124) rfl) rfl
theorem wf_X3_53 : Cond.fieldLink RX3 53 "GroupCommits$Log" "writing" "I" ∈ m_tbl := m_t1 (List.mem_of_getElem? (i := 125) rfl) rfl
theorem wf_X3_81 : Cond.fieldLink RX3 81 "GroupCommits$Log" "ticksLeft" "I" ∈ m_tbl := m_t1 (List.mem_of_getElem? (i := 126) rfl) rfl
theorem wk_X7_19 : Cond.classLink RX7 19 RX2 ∈ m_tbl := m_t1 (List.mem_of_getElem? (i := 152) rfl) rfl
theorem wb_X2 : Cond.instantiable RX2 3 ∈ m_tbl := m_t1 (List.mem_of_getElem? (i := 153) rfl) rfl
theorem wl_X7_21 : Cond.methodLink RX7 21 yX2_init ∈ m_tbl := m_t1 (List.mem_of_getElem? (i := 154) rfl) rfl
theorem wi_X2_init : Cond.instanceMethod yX2_init ∈ m_tbl := m_t1 (List.mem_of_getElem? (i := 155) rfl) rfl
theorem wc_X2_init : Cond.code yX2_init cX2_init 2 none ∈ m_tbl := m_t1 (List.mem_of_getElem? (i := 156) rfl) rfl
theorem wl_X2_3 : Cond.methodLink RX2 3 objectInit ∈ m_tbl := m_t1 (List.mem_of_getElem? (i := 157) rfl) rfl
theorem wk_X2_11 : Cond.classLink RX2 11 RX3 ∈ m_tbl := m_t1 (List.mem_of_getElem? (i := 158) rfl) rfl
theorem wo_arrayOver : Cond.arrayOver (.object "GroupCommits$Log") ∈ lw_tbl := m_u1 (List.mem_of_getElem? (i := 159) rfl)
theorem wl_X2_17 : Cond.methodLink RX2 17 yX3_init ∈ m_tbl := m_t1 (List.mem_of_getElem? (i := 160) rfl) rfl
theorem wf_X2_13 : Cond.fieldLink RX2 13 "GroupCommits$History" "states" "[LGroupCommits$Log;" ∈ m_tbl := m_t1 (List.mem_of_getElem? (i := 161) rfl) rfl
theorem wf_X2_22 : Cond.fieldLink RX2 22 "GroupCommits$History" "oldest" "I" ∈ m_tbl := m_t1 (List.mem_of_getElem? (i := 162) rfl) rfl
theorem wf_X2_18 : Cond.fieldLink RX2 18 "GroupCommits$History" "size" "I" ∈ m_tbl := m_t1 (List.mem_of_getElem? (i := 163) rfl) rfl
theorem wk_X7_26 : Cond.classLink RX7 26 RX5 ∈ m_tbl := m_t1 (List.mem_of_getElem? (i := 171) rfl) rfl
theorem wb_X5 : Cond.instantiable RX5 7 ∈ m_tbl := m_t1 (List.mem_of_getElem? (i := 172) rfl) rfl
theorem wln_X7_28 : Cond.methodLinkNest RX7 28 yX5_init "GroupCommits" ∈ lw_tbl := m_u1 (List.mem_of_getElem? (i := 173) rfl)
theorem wi_X5_init : Cond.instanceMethod yX5_init ∈ m_tbl := m_t1 (List.mem_of_getElem? (i := 174) rfl) rfl
theorem wc_X5_init : Cond.code yX5_init cX5_init 1 none ∈ m_tbl := m_t1 (List.mem_of_getElem? (i := 175) rfl) rfl
theorem wl_X5_3 : Cond.methodLink RX5 3 objectInit ∈ m_tbl := m_t1 (List.mem_of_getElem? (i := 176) rfl) rfl
theorem wf_X5_11 : Cond.fieldLink RX5 11 "GroupCommits$Script" "characters" "[C" ∈ m_tbl := m_t1 (List.mem_of_getElem? (i := 177) rfl) rfl
theorem wf_X5_15 : Cond.fieldLink RX5 15 "GroupCommits$Script" "length" "I" ∈ m_tbl := m_t1 (List.mem_of_getElem? (i := 178) rfl) rfl
theorem wf_X5_39 : Cond.fieldLink RX5 39 "GroupCommits$Script" "cursor" "I" ∈ m_tbl := m_t1 (List.mem_of_getElem? (i := 179) rfl) rfl
theorem wf_X5_45 : Cond.fieldLink RX5 45 "GroupCommits$Script" "kind" "I" ∈ m_tbl := m_t1 (List.mem_of_getElem? (i := 180) rfl) rfl
theorem wf_X5_52 : Cond.fieldLink RX5 52 "GroupCommits$Script" "number" "I" ∈ m_tbl := m_t1 (List.mem_of_getElem? (i := 181) rfl) rfl
theorem wf_X5_58 : Cond.fieldLink RX5 58 "GroupCommits$Script" "records" "I" ∈ m_tbl := m_t1 (List.mem_of_getElem? (i := 182) rfl) rfl
theorem wf_X5_61 : Cond.fieldLink RX5 61 "GroupCommits$Script" "isUrgent" "Z" ∈ m_tbl := m_t1 (List.mem_of_getElem? (i := 183) rfl) rfl
theorem wa_char : Cond.arrayClass .char ∈ m_tbl := m_t1 (List.mem_of_getElem? (i := 199) rfl) rfl
theorem wf_X7_10 : Cond.fieldLink RX7 10 "GroupCommits" "now" "LGroupCommits$Log;" ∈ m_tbl := m_t1 (List.mem_of_getElem? (i := 200) rfl) rfl
theorem wf_X7_16 : Cond.fieldLink RX7 16 "GroupCommits" "snapshot" "LGroupCommits$Log;" ∈ m_tbl := m_t1 (List.mem_of_getElem? (i := 201) rfl) rfl
theorem wf_X7_22 : Cond.fieldLink RX7 22 "GroupCommits" "history" "LGroupCommits$History;" ∈ m_tbl := m_t1 (List.mem_of_getElem? (i := 202) rfl) rfl
theorem wf_X7_29 : Cond.fieldLink RX7 29 "GroupCommits" "script" "LGroupCommits$Script;" ∈ m_tbl := m_t1 (List.mem_of_getElem? (i := 203) rfl) rfl
theorem wf_X7_115 : Cond.fieldLink RX7 115 "GroupCommits" "hasSnapshot" "Z" ∈ m_tbl := m_t1 (List.mem_of_getElem? (i := 204) rfl) rfl
theorem wl_L_13 : Cond.methodLink RL 13 yX7_submit ∈ m_tbl := m_t1 (List.mem_of_getElem? (i := 216) rfl) rfl
theorem wi_X7_submit : Cond.instanceMethod yX7_submit ∈ m_tbl := m_t1 (List.mem_of_getElem? (i := 217) rfl) rfl
theorem ws_X7_submit : Cond.selects RX7 yX7_submit yX7_submit ∈ m_tbl := m_t1 (List.mem_of_getElem? (i := 218) rfl) rfl
theorem wc_X7_submit : Cond.code yX7_submit cX7_submit 5 (some .int) ∈ m_tbl := m_t1 (List.mem_of_getElem? (i := 219) rfl) rfl
theorem wl_X7_33 : Cond.methodLink RX7 33 yX3_refusalToEnter ∈ m_tbl := m_t1 (List.mem_of_getElem? (i := 220) rfl) rfl
theorem wi_X3_refusalToEnter : Cond.instanceMethod yX3_refusalToEnter ∈ m_tbl := m_t1 (List.mem_of_getElem? (i := 221) rfl) rfl
theorem ws_X3_refusalToEnter : Cond.selects RX3 yX3_refusalToEnter yX3_refusalToEnter ∈ m_tbl := m_t1 (List.mem_of_getElem? (i := 222) rfl) rfl
theorem wc_X3_refusalToEnter : Cond.code yX3_refusalToEnter cX3_refusalToEnter 3 (some .int) ∈ m_tbl := m_t1 (List.mem_of_getElem? (i := 223) rfl) rfl
theorem wl_X3_84 : Cond.methodLink RX3 84 yX3_isClient ∈ m_tbl := m_t1 (List.mem_of_getElem? (i := 224) rfl) rfl
theorem wst_X3_isClient : Cond.static yX3_isClient ∈ m_tbl := m_t1 (List.mem_of_getElem? (i := 225) rfl) rfl
theorem wc_X3_isClient : Cond.code yX3_isClient cX3_isClient 1 (some .boolean) ∈ m_tbl := m_t1 (List.mem_of_getElem? (i := 226) rfl) rfl
theorem wl_X3_88 : Cond.methodLink RX3 88 yX3_isRecords ∈ m_tbl := m_t1 (List.mem_of_getElem? (i := 227) rfl) rfl
theorem wst_X3_isRecords : Cond.static yX3_isRecords ∈ m_tbl := m_t1 (List.mem_of_getElem? (i := 228) rfl) rfl
theorem wc_X3_isRecords : Cond.code yX3_isRecords cX3_isRecords 1 (some .boolean) ∈ m_tbl := m_t1 (List.mem_of_getElem? (i := 229) rfl) rfl
theorem wl_X3_91 : Cond.methodLink RX3 91 yX3_openCommitOf ∈ m_tbl := m_t1 (List.mem_of_getElem? (i := 230) rfl) rfl
theorem wi_X3_openCommitOf : Cond.instanceMethod yX3_openCommitOf ∈ m_tbl := m_t1 (List.mem_of_getElem? (i := 231) rfl) rfl
theorem ws_X3_openCommitOf : Cond.selects RX3 yX3_openCommitOf yX3_openCommitOf ∈ m_tbl := m_t1 (List.mem_of_getElem? (i := 232) rfl) rfl
theorem wc_X3_openCommitOf : Cond.code yX3_openCommitOf cX3_openCommitOf 2 (some .int) ∈ m_tbl := m_t1 (List.mem_of_getElem? (i := 233) rfl) rfl
theorem wl_X3_95 : Cond.methodLink RX3 95 yX0_isFull ∈ m_tbl := m_t1 (List.mem_of_getElem? (i := 234) rfl) rfl
theorem wi_X0_isFull : Cond.instanceMethod yX0_isFull ∈ m_tbl := m_t1 (List.mem_of_getElem? (i := 235) rfl) rfl
theorem ws_X0_isFull : Cond.selects RX0 yX0_isFull yX0_isFull ∈ m_tbl := m_t1 (List.mem_of_getElem? (i := 236) rfl) rfl
theorem wc_X0_isFull : Cond.code yX0_isFull cX0_isFull 1 (some .boolean) ∈ m_tbl := m_t1 (List.mem_of_getElem? (i := 237) rfl) rfl
theorem wl_X7_37 : Cond.methodLink RX7 37 yX2_push ∈ m_tbl := m_t1 (List.mem_of_getElem? (i := 238) rfl) rfl
theorem wi_X2_push : Cond.instanceMethod yX2_push ∈ m_tbl := m_t1 (List.mem_of_getElem? (i := 239) rfl) rfl
theorem ws_X2_push : Cond.selects RX2 yX2_push yX2_push ∈ m_tbl := m_t2 (List.mem_of_getElem? (i := 0) rfl) rfl
theorem wc_X2_push : Cond.code yX2_push cX2_push 3 none ∈ m_tbl := m_t2 (List.mem_of_getElem? (i := 1) rfl) rfl
theorem wl_X2_25 : Cond.methodLink RX2 25 yX2_stateAt ∈ m_tbl := m_t2 (List.mem_of_getElem? (i := 2) rfl) rfl
theorem wi_X2_stateAt : Cond.instanceMethod yX2_stateAt ∈ m_tbl := m_t2 (List.mem_of_getElem? (i := 4) rfl) rfl
theorem wc_X2_stateAt : Cond.code yX2_stateAt cX2_stateAt 3 (some (.object "GroupCommits$Log")) ∈ m_tbl := m_t2 (List.mem_of_getElem? (i := 5) rfl) rfl
theorem wl_X2_29 : Cond.methodLink RX2 29 yX3_copyFrom ∈ m_tbl := m_t2 (List.mem_of_getElem? (i := 6) rfl) rfl
theorem wi_X3_copyFrom : Cond.instanceMethod yX3_copyFrom ∈ m_tbl := m_t2 (List.mem_of_getElem? (i := 7) rfl) rfl
theorem ws_X3_copyFrom : Cond.selects RX3 yX3_copyFrom yX3_copyFrom ∈ m_tbl := m_t2 (List.mem_of_getElem? (i := 8) rfl) rfl
theorem wc_X3_copyFrom : Cond.code yX3_copyFrom cX3_copyFrom 2 none ∈ m_tbl := m_t2 (List.mem_of_getElem? (i := 9) rfl) rfl
theorem wl_X3_56 : Cond.methodLink RX3 56 yX0_copyFrom ∈ m_tbl := m_t2 (List.mem_of_getElem? (i := 10) rfl) rfl
theorem wi_X0_copyFrom : Cond.instanceMethod yX0_copyFrom ∈ m_tbl := m_t2 (List.mem_of_getElem? (i := 11) rfl) rfl
theorem ws_X0_copyFrom : Cond.selects RX0 yX0_copyFrom yX0_copyFrom ∈ m_tbl := m_t2 (List.mem_of_getElem? (i := 12) rfl) rfl
theorem wc_X0_copyFrom : Cond.code yX0_copyFrom cX0_copyFrom 2 none ∈ m_tbl := m_t2 (List.mem_of_getElem? (i := 13) rfl) rfl
theorem wl_X0_37 : Cond.methodLink RX0 37 arraycopyName ∈ m_tbl := m_t2 (List.mem_of_getElem? (i := 14) rfl) rfl
theorem wl_X3_60 : Cond.methodLink RX3 60 yX1_copyFrom ∈ m_tbl := m_t2 (List.mem_of_getElem? (i := 15) rfl) rfl
theorem wi_X1_copyFrom : Cond.instanceMethod yX1_copyFrom ∈ m_tbl := m_t2 (List.mem_of_getElem? (i := 16) rfl) rfl
theorem ws_X1_copyFrom : Cond.selects RX1 yX1_copyFrom yX1_copyFrom ∈ m_tbl := m_t2 (List.mem_of_getElem? (i := 17) rfl) rfl
theorem wc_X1_copyFrom : Cond.code yX1_copyFrom cX1_copyFrom 2 none ∈ m_tbl := m_t2 (List.mem_of_getElem? (i := 18) rfl) rfl
theorem wl_X1_26 : Cond.methodLink RX1 26 arraycopyName ∈ m_tbl := m_t2 (List.mem_of_getElem? (i := 19) rfl) rfl
theorem wl_X3_63 : Cond.methodLink RX3 63 yX4_copyFrom ∈ m_tbl := m_t2 (List.mem_of_getElem? (i := 20) rfl) rfl
theorem wi_X4_copyFrom : Cond.instanceMethod yX4_copyFrom ∈ m_tbl := m_t2 (List.mem_of_getElem? (i := 21) rfl) rfl
theorem ws_X4_copyFrom : Cond.selects RX4 yX4_copyFrom yX4_copyFrom ∈ m_tbl := m_t2 (List.mem_of_getElem? (i := 22) rfl) rfl
theorem wc_X4_copyFrom : Cond.code yX4_copyFrom cX4_copyFrom 2 none ∈ m_tbl := m_t2 (List.mem_of_getElem? (i := 23) rfl) rfl
theorem wl_X4_17 : Cond.methodLink RX4 17 arraycopyName ∈ m_tbl := m_t2 (List.mem_of_getElem? (i := 24) rfl) rfl
theorem wl_X3_66 : Cond.methodLink RX3 66 yX6_copyFrom ∈ m_tbl := m_t2 (List.mem_of_getElem? (i := 25) rfl) rfl
theorem wi_X6_copyFrom : Cond.instanceMethod yX6_copyFrom ∈ m_tbl := m_t2 (List.mem_of_getElem? (i := 26) rfl) rfl
theorem ws_X6_copyFrom : Cond.selects RX6 yX6_copyFrom yX6_copyFrom ∈ m_tbl := m_t2 (List.mem_of_getElem? (i := 27) rfl) rfl
theorem wc_X6_copyFrom : Cond.code yX6_copyFrom cX6_copyFrom 2 none ∈ m_tbl := m_t2 (List.mem_of_getElem? (i := 28) rfl) rfl
theorem wl_X3_69 : Cond.methodLink RX3 69 arraycopyName ∈ m_tbl := m_t2 (List.mem_of_getElem? (i := 29) rfl) rfl
theorem wl_X7_41 : Cond.methodLink RX7 41 yX3_enter ∈ m_tbl := m_t2 (List.mem_of_getElem? (i := 30) rfl) rfl
theorem wi_X3_enter : Cond.instanceMethod yX3_enter ∈ m_tbl := m_t2 (List.mem_of_getElem? (i := 31) rfl) rfl
theorem ws_X3_enter : Cond.selects RX3 yX3_enter yX3_enter ∈ m_tbl := m_t2 (List.mem_of_getElem? (i := 32) rfl) rfl
theorem wc_X3_enter : Cond.code yX3_enter cX3_enter 6 (some .int) ∈ m_tbl := m_t2 (List.mem_of_getElem? (i := 33) rfl) rfl
theorem wl_X3_103 : Cond.methodLink RX3 103 yX3_beginGroup ∈ m_tbl := m_t2 (List.mem_of_getElem? (i := 34) rfl) rfl
theorem wi_X3_beginGroup : Cond.instanceMethod yX3_beginGroup ∈ m_tbl := m_t2 (List.mem_of_getElem? (i := 36) rfl) rfl
theorem wc_X3_beginGroup : Cond.code yX3_beginGroup cX3_beginGroup 1 none ∈ m_tbl := m_t2 (List.mem_of_getElem? (i := 37) rfl) rfl
theorem wl_X3_152 : Cond.methodLink RX3 152 yX1_begin ∈ m_tbl := m_t2 (List.mem_of_getElem? (i := 38) rfl) rfl
theorem wi_X1_begin : Cond.instanceMethod yX1_begin ∈ m_tbl := m_t2 (List.mem_of_getElem? (i := 39) rfl) rfl
theorem ws_X1_begin : Cond.selects RX1 yX1_begin yX1_begin ∈ m_tbl := m_t2 (List.mem_of_getElem? (i := 40) rfl) rfl
theorem wc_X1_begin : Cond.code yX1_begin cX1_begin 2 (some .int) ∈ m_tbl := m_t2 (List.mem_of_getElem? (i := 41) rfl) rfl
theorem wl_X3_106 : Cond.methodLink RX3 106 yX0_add ∈ m_tbl := m_t2 (List.mem_of_getElem? (i := 42) rfl) rfl
theorem wi_X0_add : Cond.instanceMethod yX0_add ∈ m_tbl := m_t2 (List.mem_of_getElem? (i := 43) rfl) rfl
theorem ws_X0_add : Cond.selects RX0 yX0_add yX0_add ∈ m_tbl := m_t2 (List.mem_of_getElem? (i := 44) rfl) rfl
theorem wc_X0_add : Cond.code yX0_add cX0_add 7 (some .int) ∈ m_tbl := m_t2 (List.mem_of_getElem? (i := 45) rfl) rfl
theorem wl_X0_47 : Cond.methodLink RX0 47 yX0_isFull ∈ m_tbl := m_t2 (List.mem_of_getElem? (i := 46) rfl) rfl
theorem wl_X3_110 : Cond.methodLink RX3 110 yX1_join ∈ m_tbl := m_t2 (List.mem_of_getElem? (i := 47) rfl) rfl
theorem wi_X1_join : Cond.instanceMethod yX1_join ∈ m_tbl := m_t2 (List.mem_of_getElem? (i := 48) rfl) rfl
theorem ws_X1_join : Cond.selects RX1 yX1_join yX1_join ∈ m_tbl := m_t2 (List.mem_of_getElem? (i := 49) rfl) rfl
theorem wc_X1_join : Cond.code yX1_join cX1_join 3 none ∈ m_tbl := m_t2 (List.mem_of_getElem? (i := 50) rfl) rfl
theorem wl_X1_36 : Cond.methodLink RX1 36 yX1_has ∈ m_tbl := m_t2 (List.mem_of_getElem? (i := 51) rfl) rfl
theorem wi_X1_has : Cond.instanceMethod yX1_has ∈ m_tbl := m_t2 (List.mem_of_getElem? (i := 52) rfl) rfl
theorem ws_X1_has : Cond.selects RX1 yX1_has yX1_has ∈ m_tbl := m_t2 (List.mem_of_getElem? (i := 53) rfl) rfl
theorem wc_X1_has : Cond.code yX1_has cX1_has 2 (some .boolean) ∈ m_tbl := m_t2 (List.mem_of_getElem? (i := 54) rfl) rfl
theorem wl_X3_114 : Cond.methodLink RX3 114 yX3_setOpenCommit ∈ m_tbl := m_t2 (List.mem_of_getElem? (i := 55) rfl) rfl
theorem wi_X3_setOpenCommit : Cond.instanceMethod yX3_setOpenCommit ∈ m_tbl := m_t2 (List.mem_of_getElem? (i := 57) rfl) rfl
theorem wc_X3_setOpenCommit : Cond.code yX3_setOpenCommit cX3_setOpenCommit 3 none ∈ m_tbl := m_t2 (List.mem_of_getElem? (i := 58) rfl) rfl
theorem wl_X3_117 : Cond.methodLink RX3 117 yX1_recordsOf ∈ m_tbl := m_t2 (List.mem_of_getElem? (i := 59) rfl) rfl
theorem wi_X1_recordsOf : Cond.instanceMethod yX1_recordsOf ∈ m_tbl := m_t2 (List.mem_of_getElem? (i := 60) rfl) rfl
theorem ws_X1_recordsOf : Cond.selects RX1 yX1_recordsOf yX1_recordsOf ∈ m_tbl := m_t2 (List.mem_of_getElem? (i := 61) rfl) rfl
theorem wc_X1_recordsOf : Cond.code yX1_recordsOf cX1_recordsOf 2 (some .int) ∈ m_tbl := m_t2 (List.mem_of_getElem? (i := 62) rfl) rfl
theorem wl_X3_120 : Cond.methodLink RX3 120 yX3_reasonToClose ∈ m_tbl := m_t2 (List.mem_of_getElem? (i := 63) rfl) rfl
theorem wi_X3_reasonToClose : Cond.instanceMethod yX3_reasonToClose ∈ m_tbl := m_t2 (List.mem_of_getElem? (i := 65) rfl) rfl
theorem wc_X3_reasonToClose : Cond.code yX3_reasonToClose cX3_reasonToClose 4 (some .int) ∈ m_tbl := m_t2 (List.mem_of_getElem? (i := 66) rfl) rfl
theorem wl_X3_155 : Cond.methodLink RX3 155 yX6_valueOf ∈ m_tbl := m_t2 (List.mem_of_getElem? (i := 67) rfl) rfl
theorem wi_X6_valueOf : Cond.instanceMethod yX6_valueOf ∈ m_tbl := m_t2 (List.mem_of_getElem? (i := 68) rfl) rfl
theorem ws_X6_valueOf : Cond.selects RX6 yX6_valueOf yX6_valueOf ∈ m_tbl := m_t2 (List.mem_of_getElem? (i := 69) rfl) rfl
theorem wc_X6_valueOf : Cond.code yX6_valueOf cX6_valueOf 2 (some .int) ∈ m_tbl := m_t2 (List.mem_of_getElem? (i := 70) rfl) rfl
theorem wl_X3_124 : Cond.methodLink RX3 124 yX3_closeGathering ∈ m_tbl := m_t2 (List.mem_of_getElem? (i := 71) rfl) rfl
theorem wi_X3_closeGathering : Cond.instanceMethod yX3_closeGathering ∈ m_tbl := m_t2 (List.mem_of_getElem? (i := 73) rfl) rfl
theorem wc_X3_closeGathering : Cond.code yX3_closeGathering cX3_closeGathering 3 none ∈ m_tbl := m_t2 (List.mem_of_getElem? (i := 74) rfl) rfl
theorem wl_X3_158 : Cond.methodLink RX3 158 yX1_close ∈ m_tbl := m_t2 (List.mem_of_getElem? (i := 75) rfl) rfl
theorem wi_X1_close : Cond.instanceMethod yX1_close ∈ m_tbl := m_t2 (List.mem_of_getElem? (i := 76) rfl) rfl
theorem ws_X1_close : Cond.selects RX1 yX1_close yX1_close ∈ m_tbl := m_t2 (List.mem_of_getElem? (i := 77) rfl) rfl
theorem wc_X1_close : Cond.code yX1_close cX1_close 3 none ∈ m_tbl := m_t2 (List.mem_of_getElem? (i := 78) rfl) rfl
theorem wl_X3_161 : Cond.methodLink RX3 161 yX0_moveMembers ∈ m_tbl := m_t2 (List.mem_of_getElem? (i := 79) rfl) rfl
theorem wi_X0_moveMembers : Cond.instanceMethod yX0_moveMembers ∈ m_tbl := m_t2 (List.mem_of_getElem? (i := 80) rfl) rfl
theorem ws_X0_moveMembers : Cond.selects RX0 yX0_moveMembers yX0_moveMembers ∈ m_tbl := m_t2 (List.mem_of_getElem? (i := 81) rfl) rfl
theorem wc_X0_moveMembers : Cond.code yX0_moveMembers cX0_moveMembers 5 none ∈ m_tbl := m_t2 (List.mem_of_getElem? (i := 82) rfl) rfl
theorem wl_X3_165 : Cond.methodLink RX3 165 yX4_add ∈ m_tbl := m_t2 (List.mem_of_getElem? (i := 83) rfl) rfl
theorem wi_X4_add : Cond.instanceMethod yX4_add ∈ m_tbl := m_t2 (List.mem_of_getElem? (i := 84) rfl) rfl
theorem ws_X4_add : Cond.selects RX4 yX4_add yX4_add ∈ m_tbl := m_t2 (List.mem_of_getElem? (i := 85) rfl) rfl
theorem wc_X4_add : Cond.code yX4_add cX4_add 2 none ∈ m_tbl := m_t2 (List.mem_of_getElem? (i := 86) rfl) rfl
theorem wl_X3_143 : Cond.methodLink RX3 143 yX1_membersOf ∈ m_tbl := m_t2 (List.mem_of_getElem? (i := 87) rfl) rfl
theorem wi_X1_membersOf : Cond.instanceMethod yX1_membersOf ∈ m_tbl := m_t2 (List.mem_of_getElem? (i := 88) rfl) rfl
theorem ws_X1_membersOf : Cond.selects RX1 yX1_membersOf yX1_membersOf ∈ m_tbl := m_t2 (List.mem_of_getElem? (i := 89) rfl) rfl
theorem wc_X1_membersOf : Cond.code yX1_membersOf cX1_membersOf 2 (some .int) ∈ m_tbl := m_t2 (List.mem_of_getElem? (i := 90) rfl) rfl
theorem wl_X3_167 : Cond.methodLink RX3 167 yX3_learnWait ∈ m_tbl := m_t2 (List.mem_of_getElem? (i := 91) rfl) rfl
theorem wi_X3_learnWait : Cond.instanceMethod yX3_learnWait ∈ m_tbl := m_t2 (List.mem_of_getElem? (i := 93) rfl) rfl
theorem wc_X3_learnWait : Cond.code yX3_learnWait cX3_learnWait 2 none ∈ m_tbl := m_t2 (List.mem_of_getElem? (i := 94) rfl) rfl
theorem wl_X3_170 : Cond.methodLink RX3 170 Lib.Math.min.name ∈ m_tbl := m_t2 (List.mem_of_getElem? (i := 95) rfl) rfl
theorem wst_Lib_Math_min_name : Cond.static Lib.Math.min.name ∈ m_tbl := m_t2 (List.mem_of_getElem? (i := 96) rfl) rfl
theorem wc_Lib_Math_min_name : Cond.code Lib.Math.min.name Lib.Math.min.code 2 (some .int) ∈ m_tbl := m_t2 (List.mem_of_getElem? (i := 97) rfl) rfl
theorem wl_X3_176 : Cond.methodLink RX3 176 Lib.Math.max.name ∈ m_tbl := m_t2 (List.mem_of_getElem? (i := 98) rfl) rfl
theorem wst_Lib_Math_max_name : Cond.static Lib.Math.max.name ∈ m_tbl := m_t2 (List.mem_of_getElem? (i := 99) rfl) rfl
theorem wc_Lib_Math_max_name : Cond.code Lib.Math.max.name Lib.Math.max.code 2 (some .int) ∈ m_tbl := m_t2 (List.mem_of_getElem? (i := 100) rfl) rfl
theorem wl_X3_128 : Cond.methodLink RX3 128 yX3_startWriting ∈ m_tbl := m_t2 (List.mem_of_getElem? (i := 101) rfl) rfl
theorem wi_X3_startWriting : Cond.instanceMethod yX3_startWriting ∈ m_tbl := m_t2 (List.mem_of_getElem? (i := 103) rfl) rfl
theorem wc_X3_startWriting : Cond.code yX3_startWriting cX3_startWriting 1 none ∈ m_tbl := m_t2 (List.mem_of_getElem? (i := 104) rfl) rfl
theorem wl_X3_190 : Cond.methodLink RX3 190 yX4_size ∈ m_tbl := m_t2 (List.mem_of_getElem? (i := 105) rfl) rfl
theorem wi_X4_size : Cond.instanceMethod yX4_size ∈ m_tbl := m_t2 (List.mem_of_getElem? (i := 106) rfl) rfl
theorem ws_X4_size : Cond.selects RX4 yX4_size yX4_size ∈ m_tbl := m_t2 (List.mem_of_getElem? (i := 107) rfl) rfl
theorem wc_X4_size : Cond.code yX4_size cX4_size 1 (some .int) ∈ m_tbl := m_t2 (List.mem_of_getElem? (i := 108) rfl) rfl
theorem wl_X3_193 : Cond.methodLink RX3 193 yX4_takeFirst ∈ m_tbl := m_t2 (List.mem_of_getElem? (i := 109) rfl) rfl
theorem wi_X4_takeFirst : Cond.instanceMethod yX4_takeFirst ∈ m_tbl := m_t2 (List.mem_of_getElem? (i := 110) rfl) rfl
theorem ws_X4_takeFirst : Cond.selects RX4 yX4_takeFirst yX4_takeFirst ∈ m_tbl := m_t2 (List.mem_of_getElem? (i := 111) rfl) rfl
theorem wc_X4_takeFirst : Cond.code yX4_takeFirst cX4_takeFirst 2 (some .int) ∈ m_tbl := m_t2 (List.mem_of_getElem? (i := 112) rfl) rfl
theorem wl_X3_196 : Cond.methodLink RX3 196 yX3_ticksToWrite ∈ m_tbl := m_t2 (List.mem_of_getElem? (i := 113) rfl) rfl
theorem wi_X3_ticksToWrite : Cond.instanceMethod yX3_ticksToWrite ∈ m_tbl := m_t2 (List.mem_of_getElem? (i := 115) rfl) rfl
theorem wc_X3_ticksToWrite : Cond.code yX3_ticksToWrite cX3_ticksToWrite 2 (some .int) ∈ m_tbl := m_t2 (List.mem_of_getElem? (i := 116) rfl) rfl
theorem wl_X3_189 : Cond.methodLink RX3 189 yX1_setState ∈ m_tbl := m_t2 (List.mem_of_getElem? (i := 117) rfl) rfl
theorem wi_X1_setState : Cond.instanceMethod yX1_setState ∈ m_tbl := m_t2 (List.mem_of_getElem? (i := 118) rfl) rfl
theorem ws_X1_setState : Cond.selects RX1 yX1_setState yX1_setState ∈ m_tbl := m_t2 (List.mem_of_getElem? (i := 119) rfl) rfl
theorem wc_X1_setState : Cond.code yX1_setState cX1_setState 3 none ∈ m_tbl := m_t2 (List.mem_of_getElem? (i := 120) rfl) rfl
theorem wl_L_18 : Cond.methodLink RL 18 yX7_fail ∈ m_tbl := m_t2 (List.mem_of_getElem? (i := 121) rfl) rfl
theorem wi_X7_fail : Cond.instanceMethod yX7_fail ∈ m_tbl := m_t2 (List.mem_of_getElem? (i := 122) rfl) rfl
theorem ws_X7_fail : Cond.selects RX7 yX7_fail yX7_fail ∈ m_tbl := m_t2 (List.mem_of_getElem? (i := 123) rfl) rfl
theorem wc_X7_fail : Cond.code yX7_fail cX7_fail 2 (some .int) ∈ m_tbl := m_t2 (List.mem_of_getElem? (i := 124) rfl) rfl
theorem wl_X7_45 : Cond.methodLink RX7 45 yX3_isClient ∈ m_tbl := m_t2 (List.mem_of_getElem? (i := 125) rfl) rfl
theorem wl_X7_49 : Cond.methodLink RX7 49 yX3_loseClient ∈ m_tbl := m_t2 (List.mem_of_getElem? (i := 126) rfl) rfl
theorem wi_X3_loseClient : Cond.instanceMethod yX3_loseClient ∈ m_tbl := m_t2 (List.mem_of_getElem? (i := 127) rfl) rfl
theorem ws_X3_loseClient : Cond.selects RX3 yX3_loseClient yX3_loseClient ∈ m_tbl := m_t2 (List.mem_of_getElem? (i := 128) rfl) rfl
theorem wc_X3_loseClient : Cond.code yX3_loseClient cX3_loseClient 3 (some .int) ∈ m_tbl := m_t2 (List.mem_of_getElem? (i := 129) rfl) rfl
theorem wl_X3_131 : Cond.methodLink RX3 131 yX0_stateOf ∈ m_tbl := m_t2 (List.mem_of_getElem? (i := 130) rfl) rfl
theorem wi_X0_stateOf : Cond.instanceMethod yX0_stateOf ∈ m_tbl := m_t2 (List.mem_of_getElem? (i := 131) rfl) rfl
theorem ws_X0_stateOf : Cond.selects RX0 yX0_stateOf yX0_stateOf ∈ m_tbl := m_t2 (List.mem_of_getElem? (i := 132) rfl) rfl
theorem wc_X0_stateOf : Cond.code yX0_stateOf cX0_stateOf 2 (some .int) ∈ m_tbl := m_t2 (List.mem_of_getElem? (i := 133) rfl) rfl
theorem wl_X0_51 : Cond.methodLink RX0 51 yX0_has ∈ m_tbl := m_t2 (List.mem_of_getElem? (i := 134) rfl) rfl
theorem wi_X0_has : Cond.instanceMethod yX0_has ∈ m_tbl := m_t2 (List.mem_of_getElem? (i := 135) rfl) rfl
theorem ws_X0_has : Cond.selects RX0 yX0_has yX0_has ∈ m_tbl := m_t2 (List.mem_of_getElem? (i := 136) rfl) rfl
theorem wc_X0_has : Cond.code yX0_has cX0_has 2 (some .boolean) ∈ m_tbl := m_t2 (List.mem_of_getElem? (i := 137) rfl) rfl
theorem wl_X3_134 : Cond.methodLink RX3 134 yX3_leaveGathering ∈ m_tbl := m_t2 (List.mem_of_getElem? (i := 138) rfl) rfl
theorem wi_X3_leaveGathering : Cond.instanceMethod yX3_leaveGathering ∈ m_tbl := m_t2 (List.mem_of_getElem? (i := 140) rfl) rfl
theorem wc_X3_leaveGathering : Cond.code yX3_leaveGathering cX3_leaveGathering 3 none ∈ m_tbl := m_t2 (List.mem_of_getElem? (i := 141) rfl) rfl
theorem wl_X3_179 : Cond.methodLink RX3 179 yX0_memberAt ∈ m_tbl := m_t2 (List.mem_of_getElem? (i := 142) rfl) rfl
theorem wi_X0_memberAt : Cond.instanceMethod yX0_memberAt ∈ m_tbl := m_t2 (List.mem_of_getElem? (i := 143) rfl) rfl
theorem ws_X0_memberAt : Cond.selects RX0 yX0_memberAt yX0_memberAt ∈ m_tbl := m_t2 (List.mem_of_getElem? (i := 144) rfl) rfl
theorem wc_X0_memberAt : Cond.code yX0_memberAt cX0_memberAt 5 (some .int) ∈ m_tbl := m_t2 (List.mem_of_getElem? (i := 145) rfl) rfl
theorem wl_X3_182 : Cond.methodLink RX3 182 yX0_leaveGroup ∈ m_tbl := m_t2 (List.mem_of_getElem? (i := 146) rfl) rfl
theorem wi_X0_leaveGroup : Cond.instanceMethod yX0_leaveGroup ∈ m_tbl := m_t2 (List.mem_of_getElem? (i := 147) rfl) rfl
theorem ws_X0_leaveGroup : Cond.selects RX0 yX0_leaveGroup yX0_leaveGroup ∈ m_tbl := m_t2 (List.mem_of_getElem? (i := 148) rfl) rfl
theorem wc_X0_leaveGroup : Cond.code yX0_leaveGroup cX0_leaveGroup 2 none ∈ m_tbl := m_t2 (List.mem_of_getElem? (i := 149) rfl) rfl
theorem wl_X3_185 : Cond.methodLink RX3 185 yX0_recordsOf ∈ m_tbl := m_t2 (List.mem_of_getElem? (i := 150) rfl) rfl
theorem wi_X0_recordsOf : Cond.instanceMethod yX0_recordsOf ∈ m_tbl := m_t2 (List.mem_of_getElem? (i := 151) rfl) rfl
theorem ws_X0_recordsOf : Cond.selects RX0 yX0_recordsOf yX0_recordsOf ∈ m_tbl := m_t2 (List.mem_of_getElem? (i := 152) rfl) rfl
theorem wc_X0_recordsOf : Cond.code yX0_recordsOf cX0_recordsOf 2 (some .int) ∈ m_tbl := m_t2 (List.mem_of_getElem? (i := 153) rfl) rfl
theorem wl_X3_186 : Cond.methodLink RX3 186 yX1_leave ∈ m_tbl := m_t2 (List.mem_of_getElem? (i := 154) rfl) rfl
theorem wi_X1_leave : Cond.instanceMethod yX1_leave ∈ m_tbl := m_t2 (List.mem_of_getElem? (i := 155) rfl) rfl
theorem ws_X1_leave : Cond.selects RX1 yX1_leave yX1_leave ∈ m_tbl := m_t2 (List.mem_of_getElem? (i := 156) rfl) rfl
theorem wc_X1_leave : Cond.code yX1_leave cX1_leave 3 none ∈ m_tbl := m_t2 (List.mem_of_getElem? (i := 157) rfl) rfl
theorem wl_X3_137 : Cond.methodLink RX3 137 yX3_endCommit ∈ m_tbl := m_t2 (List.mem_of_getElem? (i := 158) rfl) rfl
theorem wi_X3_endCommit : Cond.instanceMethod yX3_endCommit ∈ m_tbl := m_t2 (List.mem_of_getElem? (i := 160) rfl) rfl
theorem wc_X3_endCommit : Cond.code yX3_endCommit cX3_endCommit 3 none ∈ m_tbl := m_t2 (List.mem_of_getElem? (i := 161) rfl) rfl
theorem wl_X3_146 : Cond.methodLink RX3 146 yX0_setState ∈ m_tbl := m_t2 (List.mem_of_getElem? (i := 162) rfl) rfl
theorem wi_X0_setState : Cond.instanceMethod yX0_setState ∈ m_tbl := m_t2 (List.mem_of_getElem? (i := 163) rfl) rfl
theorem ws_X0_setState : Cond.selects RX0 yX0_setState yX0_setState ∈ m_tbl := m_t2 (List.mem_of_getElem? (i := 164) rfl) rfl
theorem wc_X0_setState : Cond.code yX0_setState cX0_setState 3 none ∈ m_tbl := m_t2 (List.mem_of_getElem? (i := 165) rfl) rfl
theorem wl_X3_149 : Cond.methodLink RX3 149 yX0_clientOf ∈ m_tbl := m_t2 (List.mem_of_getElem? (i := 166) rfl) rfl
theorem wi_X0_clientOf : Cond.instanceMethod yX0_clientOf ∈ m_tbl := m_t2 (List.mem_of_getElem? (i := 167) rfl) rfl
theorem ws_X0_clientOf : Cond.selects RX0 yX0_clientOf yX0_clientOf ∈ m_tbl := m_t2 (List.mem_of_getElem? (i := 168) rfl) rfl
theorem wc_X0_clientOf : Cond.code yX0_clientOf cX0_clientOf 2 (some .int) ∈ m_tbl := m_t2 (List.mem_of_getElem? (i := 169) rfl) rfl
theorem wl_L_23 : Cond.methodLink RL 23 yX7_withdraw ∈ m_tbl := m_t2 (List.mem_of_getElem? (i := 170) rfl) rfl
theorem wi_X7_withdraw : Cond.instanceMethod yX7_withdraw ∈ m_tbl := m_t2 (List.mem_of_getElem? (i := 171) rfl) rfl
theorem ws_X7_withdraw : Cond.selects RX7 yX7_withdraw yX7_withdraw ∈ m_tbl := m_t2 (List.mem_of_getElem? (i := 172) rfl) rfl
theorem wc_X7_withdraw : Cond.code yX7_withdraw cX7_withdraw 3 (some .int) ∈ m_tbl := m_t2 (List.mem_of_getElem? (i := 173) rfl) rfl
theorem wl_X7_53 : Cond.methodLink RX7 53 yX3_refusalToTakeBack ∈ m_tbl := m_t2 (List.mem_of_getElem? (i := 174) rfl) rfl
theorem wi_X3_refusalToTakeBack : Cond.instanceMethod yX3_refusalToTakeBack ∈ m_tbl := m_t2 (List.mem_of_getElem? (i := 175) rfl) rfl
theorem ws_X3_refusalToTakeBack : Cond.selects RX3 yX3_refusalToTakeBack yX3_refusalToTakeBack ∈ m_tbl := m_t2 (List.mem_of_getElem? (i := 176) rfl) rfl
theorem wc_X3_refusalToTakeBack : Cond.code yX3_refusalToTakeBack cX3_refusalToTakeBack 3 (some .int) ∈ m_tbl := m_t2 (List.mem_of_getElem? (i := 177) rfl) rfl
theorem wl_X7_56 : Cond.methodLink RX7 56 yX3_takeBack ∈ m_tbl := m_t2 (List.mem_of_getElem? (i := 178) rfl) rfl
theorem wi_X3_takeBack : Cond.instanceMethod yX3_takeBack ∈ m_tbl := m_t2 (List.mem_of_getElem? (i := 179) rfl) rfl
theorem ws_X3_takeBack : Cond.selects RX3 yX3_takeBack yX3_takeBack ∈ m_tbl := m_t2 (List.mem_of_getElem? (i := 180) rfl) rfl
theorem wc_X3_takeBack : Cond.code yX3_takeBack cX3_takeBack 3 (some .int) ∈ m_tbl := m_t2 (List.mem_of_getElem? (i := 181) rfl) rfl
theorem wl_X3_140 : Cond.methodLink RX3 140 yX0_groupOf ∈ m_tbl := m_t2 (List.mem_of_getElem? (i := 182) rfl) rfl
theorem wi_X0_groupOf : Cond.instanceMethod yX0_groupOf ∈ m_tbl := m_t2 (List.mem_of_getElem? (i := 183) rfl) rfl
theorem ws_X0_groupOf : Cond.selects RX0 yX0_groupOf yX0_groupOf ∈ m_tbl := m_t2 (List.mem_of_getElem? (i := 184) rfl) rfl
theorem wc_X0_groupOf : Cond.code yX0_groupOf cX0_groupOf 2 (some .int) ∈ m_tbl := m_t2 (List.mem_of_getElem? (i := 185) rfl) rfl
theorem wl_L_27 : Cond.methodLink RL 27 yX7_crash ∈ m_tbl := m_t2 (List.mem_of_getElem? (i := 186) rfl) rfl
theorem wi_X7_crash : Cond.instanceMethod yX7_crash ∈ m_tbl := m_t2 (List.mem_of_getElem? (i := 187) rfl) rfl
theorem ws_X7_crash : Cond.selects RX7 yX7_crash yX7_crash ∈ m_tbl := m_t2 (List.mem_of_getElem? (i := 188) rfl) rfl
theorem wc_X7_crash : Cond.code yX7_crash cX7_crash 1 (some .int) ∈ m_tbl := m_t2 (List.mem_of_getElem? (i := 189) rfl) rfl
theorem wl_X7_59 : Cond.methodLink RX7 59 yX3_loseAll ∈ m_tbl := m_t2 (List.mem_of_getElem? (i := 190) rfl) rfl
theorem wi_X3_loseAll : Cond.instanceMethod yX3_loseAll ∈ m_tbl := m_t2 (List.mem_of_getElem? (i := 191) rfl) rfl
theorem ws_X3_loseAll : Cond.selects RX3 yX3_loseAll yX3_loseAll ∈ m_tbl := m_t2 (List.mem_of_getElem? (i := 192) rfl) rfl
theorem wc_X3_loseAll : Cond.code yX3_loseAll cX3_loseAll 3 (some .int) ∈ m_tbl := m_t2 (List.mem_of_getElem? (i := 193) rfl) rfl
theorem wl_X3_214 : Cond.methodLink RX3 214 yX3_dropGroups ∈ m_tbl := m_t2 (List.mem_of_getElem? (i := 194) rfl) rfl
theorem wi_X3_dropGroups : Cond.instanceMethod yX3_dropGroups ∈ m_tbl := m_t2 (List.mem_of_getElem? (i := 196) rfl) rfl
theorem wc_X3_dropGroups : Cond.code yX3_dropGroups cX3_dropGroups 3 none ∈ m_tbl := m_t2 (List.mem_of_getElem? (i := 197) rfl) rfl
theorem wl_L_32 : Cond.methodLink RL 32 yX7_tick ∈ m_tbl := m_t2 (List.mem_of_getElem? (i := 198) rfl) rfl
theorem wi_X7_tick : Cond.instanceMethod yX7_tick ∈ m_tbl := m_t2 (List.mem_of_getElem? (i := 199) rfl) rfl
theorem ws_X7_tick : Cond.selects RX7 yX7_tick yX7_tick ∈ m_tbl := m_t2 (List.mem_of_getElem? (i := 200) rfl) rfl
theorem wc_X7_tick : Cond.code yX7_tick cX7_tick 2 (some .int) ∈ m_tbl := m_t2 (List.mem_of_getElem? (i := 201) rfl) rfl
theorem wl_X7_63 : Cond.methodLink RX7 63 yX3_passTicks ∈ m_tbl := m_t2 (List.mem_of_getElem? (i := 202) rfl) rfl
theorem wi_X3_passTicks : Cond.instanceMethod yX3_passTicks ∈ m_tbl := m_t2 (List.mem_of_getElem? (i := 203) rfl) rfl
theorem ws_X3_passTicks : Cond.selects RX3 yX3_passTicks yX3_passTicks ∈ m_tbl := m_t2 (List.mem_of_getElem? (i := 204) rfl) rfl
theorem wc_X3_passTicks : Cond.code yX3_passTicks cX3_passTicks 4 (some .int) ∈ m_tbl := m_t2 (List.mem_of_getElem? (i := 205) rfl) rfl
theorem wl_X3_202 : Cond.methodLink RX3 202 yX3_passTick ∈ m_tbl := m_t2 (List.mem_of_getElem? (i := 206) rfl) rfl
theorem wi_X3_passTick : Cond.instanceMethod yX3_passTick ∈ m_tbl := m_t2 (List.mem_of_getElem? (i := 208) rfl) rfl
theorem wc_X3_passTick : Cond.code yX3_passTick cX3_passTick 2 (some .int) ∈ m_tbl := m_t2 (List.mem_of_getElem? (i := 209) rfl) rfl
theorem wl_X3_205 : Cond.methodLink RX3 205 yX3_finishWriting ∈ m_tbl := m_t2 (List.mem_of_getElem? (i := 210) rfl) rfl
theorem wi_X3_finishWriting : Cond.instanceMethod yX3_finishWriting ∈ m_tbl := m_t2 (List.mem_of_getElem? (i := 212) rfl) rfl
theorem wc_X3_finishWriting : Cond.code yX3_finishWriting cX3_finishWriting 5 (some .int) ∈ m_tbl := m_t2 (List.mem_of_getElem? (i := 213) rfl) rfl
theorem wl_X3_208 : Cond.methodLink RX3 208 yX0_answer ∈ m_tbl := m_t2 (List.mem_of_getElem? (i := 214) rfl) rfl
theorem wi_X0_answer : Cond.instanceMethod yX0_answer ∈ m_tbl := m_t2 (List.mem_of_getElem? (i := 215) rfl) rfl
theorem ws_X0_answer : Cond.selects RX0 yX0_answer yX0_answer ∈ m_tbl := m_t2 (List.mem_of_getElem? (i := 216) rfl) rfl
theorem wc_X0_answer : Cond.code yX0_answer cX0_answer 3 none ∈ m_tbl := m_t2 (List.mem_of_getElem? (i := 217) rfl) rfl
theorem wl_X3_211 : Cond.methodLink RX3 211 yX0_submitTimeOf ∈ m_tbl := m_t2 (List.mem_of_getElem? (i := 218) rfl) rfl
theorem wi_X0_submitTimeOf : Cond.instanceMethod yX0_submitTimeOf ∈ m_tbl := m_t2 (List.mem_of_getElem? (i := 219) rfl) rfl
theorem ws_X0_submitTimeOf : Cond.selects RX0 yX0_submitTimeOf yX0_submitTimeOf ∈ m_tbl := m_t2 (List.mem_of_getElem? (i := 220) rfl) rfl
theorem wc_X0_submitTimeOf : Cond.code yX0_submitTimeOf cX0_submitTimeOf 2 (some .int) ∈ m_tbl := m_t2 (List.mem_of_getElem? (i := 221) rfl) rfl
theorem wl_L_36 : Cond.methodLink RL 36 yX7_set ∈ m_tbl := m_t2 (List.mem_of_getElem? (i := 222) rfl) rfl
theorem wi_X7_set : Cond.instanceMethod yX7_set ∈ m_tbl := m_t2 (List.mem_of_getElem? (i := 223) rfl) rfl
theorem ws_X7_set : Cond.selects RX7 yX7_set yX7_set ∈ m_tbl := m_t2 (List.mem_of_getElem? (i := 224) rfl) rfl
theorem wc_X7_set : Cond.code yX7_set cX7_set 4 (some .int) ∈ m_tbl := m_t2 (List.mem_of_getElem? (i := 225) rfl) rfl
theorem wl_X7_66 : Cond.methodLink RX7 66 yX6_refusal ∈ m_tbl := m_t2 (List.mem_of_getElem? (i := 226) rfl) rfl
theorem wst_X6_refusal : Cond.static yX6_refusal ∈ m_tbl := m_t2 (List.mem_of_getElem? (i := 227) rfl) rfl
theorem wc_X6_refusal : Cond.code yX6_refusal cX6_refusal 2 (some .int) ∈ m_tbl := m_t2 (List.mem_of_getElem? (i := 228) rfl) rfl
theorem wf_X6_24 : Cond.fieldLink RX6 24 "GroupCommits$Settings" "LEAST" "[I" ∈ m_tbl := m_t2 (List.mem_of_getElem? (i := 229) rfl) rfl
theorem wz_LEAST : Cond.laysStatic "GroupCommits$Settings" "LEAST" "[I" ∈ lw_tbl := m_u2 (List.mem_of_getElem? (i := 230) rfl)
theorem wf_X6_27 : Cond.fieldLink RX6 27 "GroupCommits$Settings" "GREATEST" "[I" ∈ m_tbl := m_t2 (List.mem_of_getElem? (i := 231) rfl) rfl
theorem wz_GREATEST : Cond.laysStatic "GroupCommits$Settings" "GREATEST" "[I" ∈ lw_tbl := m_u2 (List.mem_of_getElem? (i := 232) rfl)
theorem wl_X7_71 : Cond.methodLink RX7 71 yX3_change ∈ m_tbl := m_t2 (List.mem_of_getElem? (i := 233) rfl) rfl
theorem wi_X3_change : Cond.instanceMethod yX3_change ∈ m_tbl := m_t2 (List.mem_of_getElem? (i := 234) rfl) rfl
theorem ws_X3_change : Cond.selects RX3 yX3_change yX3_change ∈ m_tbl := m_t2 (List.mem_of_getElem? (i := 235) rfl) rfl
theorem wc_X3_change : Cond.code yX3_change cX3_change 3 (some .int) ∈ m_tbl := m_t2 (List.mem_of_getElem? (i := 236) rfl) rfl
theorem wl_X3_199 : Cond.methodLink RX3 199 yX6_change ∈ m_tbl := m_t2 (List.mem_of_getElem? (i := 237) rfl) rfl
theorem wi_X6_change : Cond.instanceMethod yX6_change ∈ m_tbl := m_t2 (List.mem_of_getElem? (i := 238) rfl) rfl
theorem ws_X6_change : Cond.selects RX6 yX6_change yX6_change ∈ m_tbl := m_t2 (List.mem_of_getElem? (i := 239) rfl) rfl
theorem wc_X6_change : Cond.code yX6_change cX6_change 4 (some .int) ∈ m_tbl := m_t3 (List.mem_of_getElem? (i := 0) rfl) rfl
theorem wl_X6_30 : Cond.methodLink RX6 30 yX6_valueOf ∈ m_tbl := m_t3 (List.mem_of_getElem? (i := 1) rfl) rfl
theorem wl_L_41 : Cond.methodLink RL 41 yX7_append ∈ m_tbl := m_t3 (List.mem_of_getElem? (i := 2) rfl) rfl
theorem wi_X7_append : Cond.instanceMethod yX7_append ∈ m_tbl := m_t3 (List.mem_of_getElem? (i := 3) rfl) rfl
theorem ws_X7_append : Cond.selects RX7 yX7_append yX7_append ∈ m_tbl := m_t3 (List.mem_of_getElem? (i := 4) rfl) rfl
theorem wc_X7_append : Cond.code yX7_append cX7_append 2 (some .int) ∈ m_tbl := m_t3 (List.mem_of_getElem? (i := 5) rfl) rfl
theorem wl_X7_74 : Cond.methodLink RX7 74 yX5_add ∈ m_tbl := m_t3 (List.mem_of_getElem? (i := 6) rfl) rfl
theorem wi_X5_add : Cond.instanceMethod yX5_add ∈ m_tbl := m_t3 (List.mem_of_getElem? (i := 7) rfl) rfl
theorem ws_X5_add : Cond.selects RX5 yX5_add yX5_add ∈ m_tbl := m_t3 (List.mem_of_getElem? (i := 8) rfl) rfl
theorem wc_X5_add : Cond.code yX5_add cX5_add 2 (some .int) ∈ m_tbl := m_t3 (List.mem_of_getElem? (i := 9) rfl) rfl
theorem wl_L_45 : Cond.methodLink RL 45 yX7_clearText ∈ m_tbl := m_t3 (List.mem_of_getElem? (i := 10) rfl) rfl
theorem wi_X7_clearText : Cond.instanceMethod yX7_clearText ∈ m_tbl := m_t3 (List.mem_of_getElem? (i := 11) rfl) rfl
theorem ws_X7_clearText : Cond.selects RX7 yX7_clearText yX7_clearText ∈ m_tbl := m_t3 (List.mem_of_getElem? (i := 12) rfl) rfl
theorem wc_X7_clearText : Cond.code yX7_clearText cX7_clearText 1 (some .int) ∈ m_tbl := m_t3 (List.mem_of_getElem? (i := 13) rfl) rfl
theorem wl_X7_77 : Cond.methodLink RX7 77 yX5_empty ∈ m_tbl := m_t3 (List.mem_of_getElem? (i := 14) rfl) rfl
theorem wi_X5_empty : Cond.instanceMethod yX5_empty ∈ m_tbl := m_t3 (List.mem_of_getElem? (i := 15) rfl) rfl
theorem ws_X5_empty : Cond.selects RX5 yX5_empty yX5_empty ∈ m_tbl := m_t3 (List.mem_of_getElem? (i := 16) rfl) rfl
theorem wc_X5_empty : Cond.code yX5_empty cX5_empty 2 (some .int) ∈ m_tbl := m_t3 (List.mem_of_getElem? (i := 17) rfl) rfl
theorem wl_L_49 : Cond.methodLink RL 49 yX7_fault ∈ m_tbl := m_t3 (List.mem_of_getElem? (i := 18) rfl) rfl
theorem wi_X7_fault : Cond.instanceMethod yX7_fault ∈ m_tbl := m_t3 (List.mem_of_getElem? (i := 19) rfl) rfl
theorem ws_X7_fault : Cond.selects RX7 yX7_fault yX7_fault ∈ m_tbl := m_t3 (List.mem_of_getElem? (i := 20) rfl) rfl
theorem wc_X7_fault : Cond.code yX7_fault cX7_fault 1 (some .int) ∈ m_tbl := m_t3 (List.mem_of_getElem? (i := 21) rfl) rfl
theorem wl_X7_80 : Cond.methodLink RX7 80 yX5_firstFault ∈ m_tbl := m_t3 (List.mem_of_getElem? (i := 22) rfl) rfl
theorem wi_X5_firstFault : Cond.instanceMethod yX5_firstFault ∈ m_tbl := m_t3 (List.mem_of_getElem? (i := 23) rfl) rfl
theorem ws_X5_firstFault : Cond.selects RX5 yX5_firstFault yX5_firstFault ∈ m_tbl := m_t3 (List.mem_of_getElem? (i := 24) rfl) rfl
theorem wc_X5_firstFault : Cond.code yX5_firstFault cX5_firstFault 3 (some .int) ∈ m_tbl := m_t3 (List.mem_of_getElem? (i := 25) rfl) rfl
theorem wl_X5_19 : Cond.methodLink RX5 19 yX5_characterAt ∈ m_tbl := m_t3 (List.mem_of_getElem? (i := 26) rfl) rfl
theorem wi_X5_characterAt : Cond.instanceMethod yX5_characterAt ∈ m_tbl := m_t3 (List.mem_of_getElem? (i := 28) rfl) rfl
theorem wc_X5_characterAt : Cond.code yX5_characterAt cX5_characterAt 2 (some .char) ∈ m_tbl := m_t3 (List.mem_of_getElem? (i := 29) rfl) rfl
theorem wl_X5_23 : Cond.methodLink RX5 23 yX5_after ∈ m_tbl := m_t3 (List.mem_of_getElem? (i := 30) rfl) rfl
theorem wst_X5_after : Cond.static yX5_after ∈ m_tbl := m_t3 (List.mem_of_getElem? (i := 31) rfl) rfl
theorem wc_X5_after : Cond.code yX5_after cX5_after 2 (some .int) ∈ m_tbl := m_t3 (List.mem_of_getElem? (i := 32) rfl) rfl
theorem wl_X5_27 : Cond.methodLink RX5 27 yX5_isComplete ∈ m_tbl := m_t3 (List.mem_of_getElem? (i := 33) rfl) rfl
theorem wst_X5_isComplete : Cond.static yX5_isComplete ∈ m_tbl := m_t3 (List.mem_of_getElem? (i := 34) rfl) rfl
theorem wc_X5_isComplete : Cond.code yX5_isComplete cX5_isComplete 1 (some .boolean) ∈ m_tbl := m_t3 (List.mem_of_getElem? (i := 35) rfl) rfl
theorem wl_X5_31 : Cond.methodLink RX5 31 yX5_afterFirst ∈ m_tbl := m_t3 (List.mem_of_getElem? (i := 36) rfl) rfl
theorem wst_X5_afterFirst : Cond.static yX5_afterFirst ∈ m_tbl := m_t3 (List.mem_of_getElem? (i := 37) rfl) rfl
theorem wc_X5_afterFirst : Cond.code yX5_afterFirst cX5_afterFirst 1 (some .int) ∈ m_tbl := m_t3 (List.mem_of_getElem? (i := 38) rfl) rfl
theorem wl_X5_35 : Cond.methodLink RX5 35 yX5_isDigit ∈ m_tbl := m_t3 (List.mem_of_getElem? (i := 39) rfl) rfl
theorem wst_X5_isDigit : Cond.static yX5_isDigit ∈ m_tbl := m_t3 (List.mem_of_getElem? (i := 40) rfl) rfl
theorem wc_X5_isDigit : Cond.code yX5_isDigit cX5_isDigit 1 (some .boolean) ∈ m_tbl := m_t3 (List.mem_of_getElem? (i := 41) rfl) rfl
theorem wl_L_53 : Cond.methodLink RL 53 yX7_run ∈ m_tbl := m_t3 (List.mem_of_getElem? (i := 42) rfl) rfl
theorem wi_X7_run : Cond.instanceMethod yX7_run ∈ m_tbl := m_t3 (List.mem_of_getElem? (i := 43) rfl) rfl
theorem ws_X7_run : Cond.selects RX7 yX7_run yX7_run ∈ m_tbl := m_t3 (List.mem_of_getElem? (i := 44) rfl) rfl
theorem wc_X7_run : Cond.code yX7_run cX7_run 4 (some .int) ∈ m_tbl := m_t3 (List.mem_of_getElem? (i := 45) rfl) rfl
theorem wl_X7_83 : Cond.methodLink RX7 83 yX5_orders ∈ m_tbl := m_t3 (List.mem_of_getElem? (i := 46) rfl) rfl
theorem wi_X5_orders : Cond.instanceMethod yX5_orders ∈ m_tbl := m_t3 (List.mem_of_getElem? (i := 47) rfl) rfl
theorem ws_X5_orders : Cond.selects RX5 yX5_orders yX5_orders ∈ m_tbl := m_t3 (List.mem_of_getElem? (i := 48) rfl) rfl
theorem wc_X5_orders : Cond.code yX5_orders cX5_orders 3 (some .int) ∈ m_tbl := m_t3 (List.mem_of_getElem? (i := 49) rfl) rfl
theorem wl_X7_86 : Cond.methodLink RX7 86 yX5_goToStart ∈ m_tbl := m_t3 (List.mem_of_getElem? (i := 50) rfl) rfl
theorem wi_X5_goToStart : Cond.instanceMethod yX5_goToStart ∈ m_tbl := m_t3 (List.mem_of_getElem? (i := 51) rfl) rfl
theorem ws_X5_goToStart : Cond.selects RX5 yX5_goToStart yX5_goToStart ∈ m_tbl := m_t3 (List.mem_of_getElem? (i := 52) rfl) rfl
theorem wc_X5_goToStart : Cond.code yX5_goToStart cX5_goToStart 1 none ∈ m_tbl := m_t3 (List.mem_of_getElem? (i := 53) rfl) rfl
theorem wl_X7_89 : Cond.methodLink RX7 89 yX5_readOrder ∈ m_tbl := m_t3 (List.mem_of_getElem? (i := 54) rfl) rfl
theorem wi_X5_readOrder : Cond.instanceMethod yX5_readOrder ∈ m_tbl := m_t3 (List.mem_of_getElem? (i := 55) rfl) rfl
theorem ws_X5_readOrder : Cond.selects RX5 yX5_readOrder yX5_readOrder ∈ m_tbl := m_t3 (List.mem_of_getElem? (i := 56) rfl) rfl
theorem wc_X5_readOrder : Cond.code yX5_readOrder cX5_readOrder 1 none ∈ m_tbl := m_t3 (List.mem_of_getElem? (i := 57) rfl) rfl
theorem wl_X5_42 : Cond.methodLink RX5 42 yX5_kindOf ∈ m_tbl := m_t3 (List.mem_of_getElem? (i := 58) rfl) rfl
theorem wst_X5_kindOf : Cond.static yX5_kindOf ∈ m_tbl := m_t3 (List.mem_of_getElem? (i := 59) rfl) rfl
theorem wc_X5_kindOf : Cond.code yX5_kindOf cX5_kindOf 1 (some .int) ∈ m_tbl := m_t3 (List.mem_of_getElem? (i := 60) rfl) rfl
theorem wl_X5_48 : Cond.methodLink RX5 48 yX5_readNumber ∈ m_tbl := m_t3 (List.mem_of_getElem? (i := 61) rfl) rfl
theorem wi_X5_readNumber : Cond.instanceMethod yX5_readNumber ∈ m_tbl := m_t3 (List.mem_of_getElem? (i := 63) rfl) rfl
theorem wc_X5_readNumber : Cond.code yX5_readNumber cX5_readNumber 3 (some .int) ∈ m_tbl := m_t3 (List.mem_of_getElem? (i := 64) rfl) rfl
theorem wl_X5_55 : Cond.methodLink RX5 55 yX5_readRecords ∈ m_tbl := m_t3 (List.mem_of_getElem? (i := 65) rfl) rfl
theorem wi_X5_readRecords : Cond.instanceMethod yX5_readRecords ∈ m_tbl := m_t3 (List.mem_of_getElem? (i := 67) rfl) rfl
theorem wc_X5_readRecords : Cond.code yX5_readRecords cX5_readRecords 1 none ∈ m_tbl := m_t3 (List.mem_of_getElem? (i := 68) rfl) rfl
theorem wl_X7_92 : Cond.methodLink RX7 92 yX7_carryOutOrder ∈ m_tbl := m_t3 (List.mem_of_getElem? (i := 69) rfl) rfl
theorem wi_X7_carryOutOrder : Cond.instanceMethod yX7_carryOutOrder ∈ m_tbl := m_t3 (List.mem_of_getElem? (i := 71) rfl) rfl
theorem wc_X7_carryOutOrder : Cond.code yX7_carryOutOrder cX7_carryOutOrder 2 (some .boolean) ∈ m_tbl := m_t3 (List.mem_of_getElem? (i := 72) rfl) rfl
theorem wl_X7_96 : Cond.methodLink RX7 96 yX5_number ∈ m_tbl := m_t3 (List.mem_of_getElem? (i := 73) rfl) rfl
theorem wi_X5_number : Cond.instanceMethod yX5_number ∈ m_tbl := m_t3 (List.mem_of_getElem? (i := 74) rfl) rfl
theorem ws_X5_number : Cond.selects RX5 yX5_number yX5_number ∈ m_tbl := m_t3 (List.mem_of_getElem? (i := 75) rfl) rfl
theorem wc_X5_number : Cond.code yX5_number cX5_number 1 (some .int) ∈ m_tbl := m_t3 (List.mem_of_getElem? (i := 76) rfl) rfl
theorem wl_X7_99 : Cond.methodLink RX7 99 yX5_kind ∈ m_tbl := m_t3 (List.mem_of_getElem? (i := 77) rfl) rfl
theorem wi_X5_kind : Cond.instanceMethod yX5_kind ∈ m_tbl := m_t3 (List.mem_of_getElem? (i := 78) rfl) rfl
theorem ws_X5_kind : Cond.selects RX5 yX5_kind yX5_kind ∈ m_tbl := m_t3 (List.mem_of_getElem? (i := 79) rfl) rfl
theorem wc_X5_kind : Cond.code yX5_kind cX5_kind 1 (some .int) ∈ m_tbl := m_t3 (List.mem_of_getElem? (i := 80) rfl) rfl
theorem wl_X7_102 : Cond.methodLink RX7 102 yX5_records ∈ m_tbl := m_t3 (List.mem_of_getElem? (i := 81) rfl) rfl
theorem wi_X5_records : Cond.instanceMethod yX5_records ∈ m_tbl := m_t3 (List.mem_of_getElem? (i := 82) rfl) rfl
theorem ws_X5_records : Cond.selects RX5 yX5_records yX5_records ∈ m_tbl := m_t3 (List.mem_of_getElem? (i := 83) rfl) rfl
theorem wc_X5_records : Cond.code yX5_records cX5_records 1 (some .int) ∈ m_tbl := m_t3 (List.mem_of_getElem? (i := 84) rfl) rfl
theorem wl_X7_105 : Cond.methodLink RX7 105 yX5_isUrgent ∈ m_tbl := m_t3 (List.mem_of_getElem? (i := 85) rfl) rfl
theorem wi_X5_isUrgent : Cond.instanceMethod yX5_isUrgent ∈ m_tbl := m_t3 (List.mem_of_getElem? (i := 86) rfl) rfl
theorem ws_X5_isUrgent : Cond.selects RX5 yX5_isUrgent yX5_isUrgent ∈ m_tbl := m_t3 (List.mem_of_getElem? (i := 87) rfl) rfl
theorem wc_X5_isUrgent : Cond.code yX5_isUrgent cX5_isUrgent 1 (some .boolean) ∈ m_tbl := m_t3 (List.mem_of_getElem? (i := 88) rfl) rfl
theorem wl_L_57 : Cond.methodLink RL 57 yX7_undo ∈ m_tbl := m_t3 (List.mem_of_getElem? (i := 89) rfl) rfl
theorem wi_X7_undo : Cond.instanceMethod yX7_undo ∈ m_tbl := m_t3 (List.mem_of_getElem? (i := 90) rfl) rfl
theorem ws_X7_undo : Cond.selects RX7 yX7_undo yX7_undo ∈ m_tbl := m_t3 (List.mem_of_getElem? (i := 91) rfl) rfl
theorem wc_X7_undo : Cond.code yX7_undo cX7_undo 1 (some .int) ∈ m_tbl := m_t3 (List.mem_of_getElem? (i := 92) rfl) rfl
theorem wl_X7_108 : Cond.methodLink RX7 108 yX2_popInto ∈ m_tbl := m_t3 (List.mem_of_getElem? (i := 93) rfl) rfl
theorem wi_X2_popInto : Cond.instanceMethod yX2_popInto ∈ m_tbl := m_t3 (List.mem_of_getElem? (i := 94) rfl) rfl
theorem ws_X2_popInto : Cond.selects RX2 yX2_popInto yX2_popInto ∈ m_tbl := m_t3 (List.mem_of_getElem? (i := 95) rfl) rfl
theorem wc_X2_popInto : Cond.code yX2_popInto cX2_popInto 3 (some .int) ∈ m_tbl := m_t3 (List.mem_of_getElem? (i := 96) rfl) rfl
theorem wl_L_61 : Cond.methodLink RL 61 yX7_save ∈ m_tbl := m_t3 (List.mem_of_getElem? (i := 97) rfl) rfl
theorem wi_X7_save : Cond.instanceMethod yX7_save ∈ m_tbl := m_t3 (List.mem_of_getElem? (i := 98) rfl) rfl
theorem ws_X7_save : Cond.selects RX7 yX7_save yX7_save ∈ m_tbl := m_t3 (List.mem_of_getElem? (i := 99) rfl) rfl
theorem wc_X7_save : Cond.code yX7_save cX7_save 1 (some .int) ∈ m_tbl := m_t3 (List.mem_of_getElem? (i := 100) rfl) rfl
theorem wl_X7_112 : Cond.methodLink RX7 112 yX3_copyFrom ∈ m_tbl := m_t3 (List.mem_of_getElem? (i := 101) rfl) rfl
theorem wl_X7_119 : Cond.methodLink RX7 119 yX3_time ∈ m_tbl := m_t3 (List.mem_of_getElem? (i := 102) rfl) rfl
theorem wi_X3_time : Cond.instanceMethod yX3_time ∈ m_tbl := m_t3 (List.mem_of_getElem? (i := 103) rfl) rfl
theorem ws_X3_time : Cond.selects RX3 yX3_time yX3_time ∈ m_tbl := m_t3 (List.mem_of_getElem? (i := 104) rfl) rfl
theorem wc_X3_time : Cond.code yX3_time cX3_time 1 (some .int) ∈ m_tbl := m_t3 (List.mem_of_getElem? (i := 105) rfl) rfl
theorem wl_L_65 : Cond.methodLink RL 65 yX7_restore ∈ m_tbl := m_t3 (List.mem_of_getElem? (i := 106) rfl) rfl
theorem wi_X7_restore : Cond.instanceMethod yX7_restore ∈ m_tbl := m_t3 (List.mem_of_getElem? (i := 107) rfl) rfl
theorem ws_X7_restore : Cond.selects RX7 yX7_restore yX7_restore ∈ m_tbl := m_t3 (List.mem_of_getElem? (i := 108) rfl) rfl
theorem wc_X7_restore : Cond.code yX7_restore cX7_restore 1 (some .int) ∈ m_tbl := m_t3 (List.mem_of_getElem? (i := 109) rfl) rfl
theorem wl_L_69 : Cond.methodLink RL 69 yX7_commit ∈ m_tbl := m_t3 (List.mem_of_getElem? (i := 110) rfl) rfl
theorem wi_X7_commit : Cond.instanceMethod yX7_commit ∈ m_tbl := m_t3 (List.mem_of_getElem? (i := 111) rfl) rfl
theorem ws_X7_commit : Cond.selects RX7 yX7_commit yX7_commit ∈ m_tbl := m_t3 (List.mem_of_getElem? (i := 112) rfl) rfl
theorem wc_X7_commit : Cond.code yX7_commit cX7_commit 3 (some .int) ∈ m_tbl := m_t3 (List.mem_of_getElem? (i := 113) rfl) rfl
theorem wl_X7_122 : Cond.methodLink RX7 122 yX3_aboutCommit ∈ m_tbl := m_t3 (List.mem_of_getElem? (i := 114) rfl) rfl
theorem wi_X3_aboutCommit : Cond.instanceMethod yX3_aboutCommit ∈ m_tbl := m_t3 (List.mem_of_getElem? (i := 115) rfl) rfl
theorem ws_X3_aboutCommit : Cond.selects RX3 yX3_aboutCommit yX3_aboutCommit ∈ m_tbl := m_t3 (List.mem_of_getElem? (i := 116) rfl) rfl
theorem wc_X3_aboutCommit : Cond.code yX3_aboutCommit cX3_aboutCommit 3 (some .int) ∈ m_tbl := m_t3 (List.mem_of_getElem? (i := 117) rfl) rfl
theorem wl_X3_217 : Cond.methodLink RX3 217 yX0_has ∈ m_tbl := m_t3 (List.mem_of_getElem? (i := 118) rfl) rfl
theorem wl_X3_220 : Cond.methodLink RX3 220 yX0_isUrgent ∈ m_tbl := m_t3 (List.mem_of_getElem? (i := 119) rfl) rfl
theorem wi_X0_isUrgent : Cond.instanceMethod yX0_isUrgent ∈ m_tbl := m_t3 (List.mem_of_getElem? (i := 120) rfl) rfl
theorem ws_X0_isUrgent : Cond.selects RX0 yX0_isUrgent yX0_isUrgent ∈ m_tbl := m_t3 (List.mem_of_getElem? (i := 121) rfl) rfl
theorem wc_X0_isUrgent : Cond.code yX0_isUrgent cX0_isUrgent 2 (some .boolean) ∈ m_tbl := m_t3 (List.mem_of_getElem? (i := 122) rfl) rfl
theorem wl_X3_223 : Cond.methodLink RX3 223 yX0_answerTimeOf ∈ m_tbl := m_t3 (List.mem_of_getElem? (i := 123) rfl) rfl
theorem wi_X0_answerTimeOf : Cond.instanceMethod yX0_answerTimeOf ∈ m_tbl := m_t3 (List.mem_of_getElem? (i := 124) rfl) rfl
theorem ws_X0_answerTimeOf : Cond.selects RX0 yX0_answerTimeOf yX0_answerTimeOf ∈ m_tbl := m_t3 (List.mem_of_getElem? (i := 125) rfl) rfl
theorem wc_X0_answerTimeOf : Cond.code yX0_answerTimeOf cX0_answerTimeOf 2 (some .int) ∈ m_tbl := m_t3 (List.mem_of_getElem? (i := 126) rfl) rfl
theorem wl_L_73 : Cond.methodLink RL 73 yX7_group ∈ m_tbl := m_t3 (List.mem_of_getElem? (i := 127) rfl) rfl
theorem wi_X7_group : Cond.instanceMethod yX7_group ∈ m_tbl := m_t3 (List.mem_of_getElem? (i := 128) rfl) rfl
theorem ws_X7_group : Cond.selects RX7 yX7_group yX7_group ∈ m_tbl := m_t3 (List.mem_of_getElem? (i := 129) rfl) rfl
theorem wc_X7_group : Cond.code yX7_group cX7_group 3 (some .int) ∈ m_tbl := m_t3 (List.mem_of_getElem? (i := 130) rfl) rfl
theorem wl_X7_125 : Cond.methodLink RX7 125 yX3_aboutGroup ∈ m_tbl := m_t3 (List.mem_of_getElem? (i := 131) rfl) rfl
theorem wi_X3_aboutGroup : Cond.instanceMethod yX3_aboutGroup ∈ m_tbl := m_t3 (List.mem_of_getElem? (i := 132) rfl) rfl
theorem ws_X3_aboutGroup : Cond.selects RX3 yX3_aboutGroup yX3_aboutGroup ∈ m_tbl := m_t3 (List.mem_of_getElem? (i := 133) rfl) rfl
theorem wc_X3_aboutGroup : Cond.code yX3_aboutGroup cX3_aboutGroup 3 (some .int) ∈ m_tbl := m_t3 (List.mem_of_getElem? (i := 134) rfl) rfl
theorem wl_X3_226 : Cond.methodLink RX3 226 yX1_has ∈ m_tbl := m_t3 (List.mem_of_getElem? (i := 135) rfl) rfl
theorem wl_X3_227 : Cond.methodLink RX3 227 yX1_stateOf ∈ m_tbl := m_t3 (List.mem_of_getElem? (i := 136) rfl) rfl
theorem wi_X1_stateOf : Cond.instanceMethod yX1_stateOf ∈ m_tbl := m_t3 (List.mem_of_getElem? (i := 137) rfl) rfl
theorem ws_X1_stateOf : Cond.selects RX1 yX1_stateOf yX1_stateOf ∈ m_tbl := m_t3 (List.mem_of_getElem? (i := 138) rfl) rfl
theorem wc_X1_stateOf : Cond.code yX1_stateOf cX1_stateOf 2 (some .int) ∈ m_tbl := m_t3 (List.mem_of_getElem? (i := 139) rfl) rfl
theorem wl_X3_228 : Cond.methodLink RX3 228 yX1_reasonOf ∈ m_tbl := m_t3 (List.mem_of_getElem? (i := 140) rfl) rfl
theorem wi_X1_reasonOf : Cond.instanceMethod yX1_reasonOf ∈ m_tbl := m_t3 (List.mem_of_getElem? (i := 141) rfl) rfl
theorem ws_X1_reasonOf : Cond.selects RX1 yX1_reasonOf yX1_reasonOf ∈ m_tbl := m_t3 (List.mem_of_getElem? (i := 142) rfl) rfl
theorem wc_X1_reasonOf : Cond.code yX1_reasonOf cX1_reasonOf 2 (some .int) ∈ m_tbl := m_t3 (List.mem_of_getElem? (i := 143) rfl) rfl
theorem wl_L_77 : Cond.methodLink RL 77 yX7_member ∈ m_tbl := m_t3 (List.mem_of_getElem? (i := 144) rfl) rfl
theorem wi_X7_member : Cond.instanceMethod yX7_member ∈ m_tbl := m_t3 (List.mem_of_getElem? (i := 145) rfl) rfl
theorem ws_X7_member : Cond.selects RX7 yX7_member yX7_member ∈ m_tbl := m_t3 (List.mem_of_getElem? (i := 146) rfl) rfl
theorem wc_X7_member : Cond.code yX7_member cX7_member 3 (some .int) ∈ m_tbl := m_t3 (List.mem_of_getElem? (i := 147) rfl) rfl
theorem wl_X7_128 : Cond.methodLink RX7 128 yX3_memberAt ∈ m_tbl := m_t3 (List.mem_of_getElem? (i := 148) rfl) rfl
theorem wi_X3_memberAt : Cond.instanceMethod yX3_memberAt ∈ m_tbl := m_t3 (List.mem_of_getElem? (i := 149) rfl) rfl
theorem ws_X3_memberAt : Cond.selects RX3 yX3_memberAt yX3_memberAt ∈ m_tbl := m_t3 (List.mem_of_getElem? (i := 150) rfl) rfl
theorem wc_X3_memberAt : Cond.code yX3_memberAt cX3_memberAt 3 (some .int) ∈ m_tbl := m_t3 (List.mem_of_getElem? (i := 151) rfl) rfl
theorem wl_L_81 : Cond.methodLink RL 81 yX7_open ∈ m_tbl := m_t3 (List.mem_of_getElem? (i := 152) rfl) rfl
theorem wi_X7_open : Cond.instanceMethod yX7_open ∈ m_tbl := m_t3 (List.mem_of_getElem? (i := 153) rfl) rfl
theorem ws_X7_open : Cond.selects RX7 yX7_open yX7_open ∈ m_tbl := m_t3 (List.mem_of_getElem? (i := 154) rfl) rfl
theorem wc_X7_open : Cond.code yX7_open cX7_open 2 (some .int) ∈ m_tbl := m_t3 (List.mem_of_getElem? (i := 155) rfl) rfl
theorem wl_X7_131 : Cond.methodLink RX7 131 yX3_openCommitOf ∈ m_tbl := m_t3 (List.mem_of_getElem? (i := 156) rfl) rfl
theorem wl_L_85 : Cond.methodLink RL 85 yX7_queued ∈ m_tbl := m_t3 (List.mem_of_getElem? (i := 157) rfl) rfl
theorem wi_X7_queued : Cond.instanceMethod yX7_queued ∈ m_tbl := m_t3 (List.mem_of_getElem? (i := 158) rfl) rfl
theorem ws_X7_queued : Cond.selects RX7 yX7_queued yX7_queued ∈ m_tbl := m_t3 (List.mem_of_getElem? (i := 159) rfl) rfl
theorem wc_X7_queued : Cond.code yX7_queued cX7_queued 2 (some .int) ∈ m_tbl := m_t3 (List.mem_of_getElem? (i := 160) rfl) rfl
theorem wl_X7_134 : Cond.methodLink RX7 134 yX3_queuedAt ∈ m_tbl := m_t3 (List.mem_of_getElem? (i := 161) rfl) rfl
theorem wi_X3_queuedAt : Cond.instanceMethod yX3_queuedAt ∈ m_tbl := m_t3 (List.mem_of_getElem? (i := 162) rfl) rfl
theorem ws_X3_queuedAt : Cond.selects RX3 yX3_queuedAt yX3_queuedAt ∈ m_tbl := m_t3 (List.mem_of_getElem? (i := 163) rfl) rfl
theorem wc_X3_queuedAt : Cond.code yX3_queuedAt cX3_queuedAt 2 (some .int) ∈ m_tbl := m_t3 (List.mem_of_getElem? (i := 164) rfl) rfl
theorem wl_X3_231 : Cond.methodLink RX3 231 yX4_at ∈ m_tbl := m_t3 (List.mem_of_getElem? (i := 165) rfl) rfl
theorem wi_X4_at : Cond.instanceMethod yX4_at ∈ m_tbl := m_t3 (List.mem_of_getElem? (i := 166) rfl) rfl
theorem ws_X4_at : Cond.selects RX4 yX4_at yX4_at ∈ m_tbl := m_t3 (List.mem_of_getElem? (i := 167) rfl) rfl
theorem wc_X4_at : Cond.code yX4_at cX4_at 2 (some .int) ∈ m_tbl := m_t3 (List.mem_of_getElem? (i := 168) rfl) rfl
theorem wl_X4_30 : Cond.methodLink RX4 30 yX4_size ∈ m_tbl := m_t3 (List.mem_of_getElem? (i := 169) rfl) rfl
theorem wl_L_89 : Cond.methodLink RL 89 yX7_count ∈ m_tbl := m_t3 (List.mem_of_getElem? (i := 170) rfl) rfl
theorem wi_X7_count : Cond.instanceMethod yX7_count ∈ m_tbl := m_t3 (List.mem_of_getElem? (i := 171) rfl) rfl
theorem ws_X7_count : Cond.selects RX7 yX7_count yX7_count ∈ m_tbl := m_t3 (List.mem_of_getElem? (i := 172) rfl) rfl
theorem wc_X7_count : Cond.code yX7_count cX7_count 2 (some .int) ∈ m_tbl := m_t3 (List.mem_of_getElem? (i := 173) rfl) rfl
theorem wl_X7_137 : Cond.methodLink RX7 137 yX2_size ∈ m_tbl := m_t3 (List.mem_of_getElem? (i := 174) rfl) rfl
theorem wi_X2_size : Cond.instanceMethod yX2_size ∈ m_tbl := m_t3 (List.mem_of_getElem? (i := 175) rfl) rfl
theorem ws_X2_size : Cond.selects RX2 yX2_size yX2_size ∈ m_tbl := m_t3 (List.mem_of_getElem? (i := 176) rfl) rfl
theorem wc_X2_size : Cond.code yX2_size cX2_size 1 (some .int) ∈ m_tbl := m_t3 (List.mem_of_getElem? (i := 177) rfl) rfl
theorem wl_X7_140 : Cond.methodLink RX7 140 yX5_length ∈ m_tbl := m_t3 (List.mem_of_getElem? (i := 178) rfl) rfl
theorem wi_X5_length : Cond.instanceMethod yX5_length ∈ m_tbl := m_t3 (List.mem_of_getElem? (i := 179) rfl) rfl
theorem ws_X5_length : Cond.selects RX5 yX5_length yX5_length ∈ m_tbl := m_t3 (List.mem_of_getElem? (i := 180) rfl) rfl
theorem wc_X5_length : Cond.code yX5_length cX5_length 1 (some .int) ∈ m_tbl := m_t3 (List.mem_of_getElem? (i := 181) rfl) rfl
theorem wl_X7_143 : Cond.methodLink RX7 143 yX3_aboutNow ∈ m_tbl := m_t3 (List.mem_of_getElem? (i := 182) rfl) rfl
theorem wi_X3_aboutNow : Cond.instanceMethod yX3_aboutNow ∈ m_tbl := m_t3 (List.mem_of_getElem? (i := 183) rfl) rfl
theorem ws_X3_aboutNow : Cond.selects RX3 yX3_aboutNow yX3_aboutNow ∈ m_tbl := m_t3 (List.mem_of_getElem? (i := 184) rfl) rfl
theorem wc_X3_aboutNow : Cond.code yX3_aboutNow cX3_aboutNow 2 (some .int) ∈ m_tbl := m_t3 (List.mem_of_getElem? (i := 185) rfl) rfl
theorem wl_X3_99 : Cond.methodLink RX3 99 yX3_busyClients ∈ m_tbl := m_t3 (List.mem_of_getElem? (i := 186) rfl) rfl
theorem wi_X3_busyClients : Cond.instanceMethod yX3_busyClients ∈ m_tbl := m_t3 (List.mem_of_getElem? (i := 188) rfl) rfl
theorem wc_X3_busyClients : Cond.code yX3_busyClients cX3_busyClients 3 (some .int) ∈ m_tbl := m_t3 (List.mem_of_getElem? (i := 189) rfl) rfl
theorem wl_L_93 : Cond.methodLink RL 93 yX7_total ∈ m_tbl := m_t3 (List.mem_of_getElem? (i := 190) rfl) rfl
theorem wi_X7_total : Cond.instanceMethod yX7_total ∈ m_tbl := m_t3 (List.mem_of_getElem? (i := 191) rfl) rfl
theorem ws_X7_total : Cond.selects RX7 yX7_total yX7_total ∈ m_tbl := m_t3 (List.mem_of_getElem? (i := 192) rfl) rfl
theorem wc_X7_total : Cond.code yX7_total cX7_total 2 (some .int) ∈ m_tbl := m_t3 (List.mem_of_getElem? (i := 193) rfl) rfl
theorem wl_X7_146 : Cond.methodLink RX7 146 yX3_totalOf ∈ m_tbl := m_t3 (List.mem_of_getElem? (i := 194) rfl) rfl
theorem wi_X3_totalOf : Cond.instanceMethod yX3_totalOf ∈ m_tbl := m_t3 (List.mem_of_getElem? (i := 195) rfl) rfl
theorem ws_X3_totalOf : Cond.selects RX3 yX3_totalOf yX3_totalOf ∈ m_tbl := m_t3 (List.mem_of_getElem? (i := 196) rfl) rfl
theorem wc_X3_totalOf : Cond.code yX3_totalOf cX3_totalOf 2 (some .int) ∈ m_tbl := m_t3 (List.mem_of_getElem? (i := 197) rfl) rfl
theorem wl_L_97 : Cond.methodLink RL 97 yX7_answeredIn ∈ m_tbl := m_t3 (List.mem_of_getElem? (i := 198) rfl) rfl
theorem wi_X7_answeredIn : Cond.instanceMethod yX7_answeredIn ∈ m_tbl := m_t3 (List.mem_of_getElem? (i := 199) rfl) rfl
theorem ws_X7_answeredIn : Cond.selects RX7 yX7_answeredIn yX7_answeredIn ∈ m_tbl := m_t3 (List.mem_of_getElem? (i := 200) rfl) rfl
theorem wc_X7_answeredIn : Cond.code yX7_answeredIn cX7_answeredIn 2 (some .int) ∈ m_tbl := m_t3 (List.mem_of_getElem? (i := 201) rfl) rfl
theorem wl_X7_149 : Cond.methodLink RX7 149 yX3_ticksToAnswer ∈ m_tbl := m_t3 (List.mem_of_getElem? (i := 202) rfl) rfl
theorem wi_X3_ticksToAnswer : Cond.instanceMethod yX3_ticksToAnswer ∈ m_tbl := m_t3 (List.mem_of_getElem? (i := 203) rfl) rfl
theorem ws_X3_ticksToAnswer : Cond.selects RX3 yX3_ticksToAnswer yX3_ticksToAnswer ∈ m_tbl := m_t3 (List.mem_of_getElem? (i := 204) rfl) rfl
theorem wc_X3_ticksToAnswer : Cond.code yX3_ticksToAnswer cX3_ticksToAnswer 3 (some .int) ∈ m_tbl := m_t3 (List.mem_of_getElem? (i := 205) rfl) rfl
theorem wl_X3_234 : Cond.methodLink RX3 234 yX3_ticksToWritten ∈ m_tbl := m_t3 (List.mem_of_getElem? (i := 206) rfl) rfl
theorem wi_X3_ticksToWritten : Cond.instanceMethod yX3_ticksToWritten ∈ m_tbl := m_t3 (List.mem_of_getElem? (i := 208) rfl) rfl
theorem wc_X3_ticksToWritten : Cond.code yX3_ticksToWritten cX3_ticksToWritten 4 (some .int) ∈ m_tbl := m_t3 (List.mem_of_getElem? (i := 209) rfl) rfl
theorem wl_X3_237 : Cond.methodLink RX3 237 yX3_ticksToEndOfWriting ∈ m_tbl := m_t3 (List.mem_of_getElem? (i := 210) rfl) rfl
theorem wi_X3_ticksToEndOfWriting : Cond.instanceMethod yX3_ticksToEndOfWriting ∈ m_tbl := m_t3 (List.mem_of_getElem? (i := 212) rfl) rfl
theorem wc_X3_ticksToEndOfWriting : Cond.code yX3_ticksToEndOfWriting cX3_ticksToEndOfWriting 1 (some .int) ∈ m_tbl := m_t3 (List.mem_of_getElem? (i := 213) rfl) rfl
theorem wl_L_101 : Cond.methodLink RL 101 yX7_ifSubmitted ∈ m_tbl := m_t3 (List.mem_of_getElem? (i := 214) rfl) rfl
theorem wi_X7_ifSubmitted : Cond.instanceMethod yX7_ifSubmitted ∈ m_tbl := m_t3 (List.mem_of_getElem? (i := 215) rfl) rfl
theorem ws_X7_ifSubmitted : Cond.selects RX7 yX7_ifSubmitted yX7_ifSubmitted ∈ m_tbl := m_t3 (List.mem_of_getElem? (i := 216) rfl) rfl
theorem wc_X7_ifSubmitted : Cond.code yX7_ifSubmitted cX7_ifSubmitted 4 (some .int) ∈ m_tbl := m_t3 (List.mem_of_getElem? (i := 217) rfl) rfl
theorem wl_X7_152 : Cond.methodLink RX7 152 yX3_refusalOfAnyEntry ∈ m_tbl := m_t3 (List.mem_of_getElem? (i := 218) rfl) rfl
theorem wi_X3_refusalOfAnyEntry : Cond.instanceMethod yX3_refusalOfAnyEntry ∈ m_tbl := m_t3 (List.mem_of_getElem? (i := 219) rfl) rfl
theorem ws_X3_refusalOfAnyEntry : Cond.selects RX3 yX3_refusalOfAnyEntry yX3_refusalOfAnyEntry ∈ m_tbl := m_t3 (List.mem_of_getElem? (i := 220) rfl) rfl
theorem wc_X3_refusalOfAnyEntry : Cond.code yX3_refusalOfAnyEntry cX3_refusalOfAnyEntry 2 (some .int) ∈ m_tbl := m_t3 (List.mem_of_getElem? (i := 221) rfl) rfl
theorem wl_X7_155 : Cond.methodLink RX7 155 yX3_ticksIfEntered ∈ m_tbl := m_t3 (List.mem_of_getElem? (i := 222) rfl) rfl
theorem wi_X3_ticksIfEntered : Cond.instanceMethod yX3_ticksIfEntered ∈ m_tbl := m_t3 (List.mem_of_getElem? (i := 223) rfl) rfl
theorem ws_X3_ticksIfEntered : Cond.selects RX3 yX3_ticksIfEntered yX3_ticksIfEntered ∈ m_tbl := m_t3 (List.mem_of_getElem? (i := 224) rfl) rfl
theorem wc_X3_ticksIfEntered : Cond.code yX3_ticksIfEntered cX3_ticksIfEntered 6 (some .int) ∈ m_tbl := m_t3 (List.mem_of_getElem? (i := 225) rfl) rfl
theorem wl_X3_240 : Cond.methodLink RX3 240 yX3_ticksToFreeDisk ∈ m_tbl := m_t3 (List.mem_of_getElem? (i := 226) rfl) rfl
theorem wi_X3_ticksToFreeDisk : Cond.instanceMethod yX3_ticksToFreeDisk ∈ m_tbl := m_t3 (List.mem_of_getElem? (i := 228) rfl) rfl
theorem wc_X3_ticksToFreeDisk : Cond.code yX3_ticksToFreeDisk cX3_ticksToFreeDisk 3 (some .int) ∈ m_tbl := m_t3 (List.mem_of_getElem? (i := 229) rfl) rfl
theorem wl_L_106 : Cond.methodLink RL 106 yX7_idleIn ∈ m_tbl := m_t3 (List.mem_of_getElem? (i := 230) rfl) rfl
theorem wi_X7_idleIn : Cond.instanceMethod yX7_idleIn ∈ m_tbl := m_t3 (List.mem_of_getElem? (i := 231) rfl) rfl
theorem ws_X7_idleIn : Cond.selects RX7 yX7_idleIn yX7_idleIn ∈ m_tbl := m_t3 (List.mem_of_getElem? (i := 232) rfl) rfl
theorem wc_X7_idleIn : Cond.code yX7_idleIn cX7_idleIn 1 (some .int) ∈ m_tbl := m_t3 (List.mem_of_getElem? (i := 233) rfl) rfl
theorem wl_X7_159 : Cond.methodLink RX7 159 yX3_ticksToIdle ∈ m_tbl := m_t3 (List.mem_of_getElem? (i := 234) rfl) rfl
theorem wi_X3_ticksToIdle : Cond.instanceMethod yX3_ticksToIdle ∈ m_tbl := m_t3 (List.mem_of_getElem? (i := 235) rfl) rfl
theorem ws_X3_ticksToIdle : Cond.selects RX3 yX3_ticksToIdle yX3_ticksToIdle ∈ m_tbl := m_t3 (List.mem_of_getElem? (i := 236) rfl) rfl
theorem wc_X3_ticksToIdle : Cond.code yX3_ticksToIdle cX3_ticksToIdle 3 (some .int) ∈ m_tbl := m_t3 (List.mem_of_getElem? (i := 237) rfl) rfl
theorem wl_X3_243 : Cond.methodLink RX3 243 yX3_ticksToAnswer ∈ m_tbl := m_t3 (List.mem_of_getElem? (i := 238) rfl) rfl
theorem wl_L_110 : Cond.methodLink RL 110 yX7_mean ∈ m_tbl := m_t3 (List.mem_of_getElem? (i := 239) rfl) rfl
theorem wi_X7_mean : Cond.instanceMethod yX7_mean ∈ m_tbl := m_t4 (List.mem_of_getElem? (i := 0) rfl) rfl
theorem ws_X7_mean : Cond.selects RX7 yX7_mean yX7_mean ∈ m_tbl := m_t4 (List.mem_of_getElem? (i := 1) rfl) rfl
theorem wc_X7_mean : Cond.code yX7_mean cX7_mean 1 (some .double) ∈ m_tbl := m_t4 (List.mem_of_getElem? (i := 2) rfl) rfl
theorem wl_X7_162 : Cond.methodLink RX7 162 yX3_meanTicks ∈ m_tbl := m_t4 (List.mem_of_getElem? (i := 3) rfl) rfl
theorem wi_X3_meanTicks : Cond.instanceMethod yX3_meanTicks ∈ m_tbl := m_t4 (List.mem_of_getElem? (i := 4) rfl) rfl
theorem ws_X3_meanTicks : Cond.selects RX3 yX3_meanTicks yX3_meanTicks ∈ m_tbl := m_t4 (List.mem_of_getElem? (i := 5) rfl) rfl
theorem wc_X3_meanTicks : Cond.code yX3_meanTicks cX3_meanTicks 2 (some .double) ∈ m_tbl := m_t4 (List.mem_of_getElem? (i := 6) rfl) rfl
theorem wk_L_10 : Cond.classLink RL 10 RX8 ∈ m_tbl := m_t4 (List.mem_of_getElem? (i := 7) rfl) rfl
theorem wb_X8 : Cond.instantiable RX8 13 ∈ m_tbl := m_t4 (List.mem_of_getElem? (i := 8) rfl) rfl
theorem wl_L_12 : Cond.methodLink RL 12 yX8_init ∈ m_tbl := m_t4 (List.mem_of_getElem? (i := 9) rfl) rfl
theorem wi_X8_init : Cond.instanceMethod yX8_init ∈ m_tbl := m_t4 (List.mem_of_getElem? (i := 10) rfl) rfl
theorem wc_X8_init : Cond.code yX8_init cX8_init 1 none ∈ m_tbl := m_t4 (List.mem_of_getElem? (i := 11) rfl) rfl
theorem wl_X8_1 : Cond.methodLink RX8 1 objectInit ∈ m_tbl := m_t4 (List.mem_of_getElem? (i := 12) rfl) rfl
theorem wf_X8_7 : Cond.fieldLink RX8 7 "GroupCommitsModel" "state" "[I" ∈ m_tbl := m_t4 (List.mem_of_getElem? (i := 13) rfl) rfl
theorem wf_X8_13 : Cond.fieldLink RX8 13 "GroupCommitsModel" "spare" "[I" ∈ m_tbl := m_t4 (List.mem_of_getElem? (i := 14) rfl) rfl
theorem wf_X8_16 : Cond.fieldLink RX8 16 "GroupCommitsModel" "history" "[I" ∈ m_tbl := m_t4 (List.mem_of_getElem? (i := 15) rfl) rfl
theorem wf_X8_29 : Cond.fieldLink RX8 29 "GroupCommitsModel" "states" "I" ∈ m_tbl := m_t4 (List.mem_of_getElem? (i := 16) rfl) rfl
theorem wf_X8_19 : Cond.fieldLink RX8 19 "GroupCommitsModel" "snapshot" "[I" ∈ m_tbl := m_t4 (List.mem_of_getElem? (i := 17) rfl) rfl
theorem wf_X8_33 : Cond.fieldLink RX8 33 "GroupCommitsModel" "hasSnapshot" "Z" ∈ m_tbl := m_t4 (List.mem_of_getElem? (i := 18) rfl) rfl
theorem wf_X8_22 : Cond.fieldLink RX8 22 "GroupCommitsModel" "text" "[I" ∈ m_tbl := m_t4 (List.mem_of_getElem? (i := 19) rfl) rfl
theorem wf_X8_134 : Cond.fieldLink RX8 134 "GroupCommitsModel" "length" "I" ∈ m_tbl := m_t4 (List.mem_of_getElem? (i := 20) rfl) rfl
theorem wf_X8_137 : Cond.fieldLink RX8 137 "GroupCommitsModel" "at" "I" ∈ m_tbl := m_t4 (List.mem_of_getElem? (i := 21) rfl) rfl
theorem wf_X8_158 : Cond.fieldLink RX8 158 "GroupCommitsModel" "sign" "I" ∈ m_tbl := m_t4 (List.mem_of_getElem? (i := 22) rfl) rfl
theorem wf_X8_143 : Cond.fieldLink RX8 143 "GroupCommitsModel" "first" "I" ∈ m_tbl := m_t4 (List.mem_of_getElem? (i := 23) rfl) rfl
theorem wf_X8_152 : Cond.fieldLink RX8 152 "GroupCommitsModel" "second" "I" ∈ m_tbl := m_t4 (List.mem_of_getElem? (i := 24) rfl) rfl
theorem wf_X8_155 : Cond.fieldLink RX8 155 "GroupCommitsModel" "isPressing" "Z" ∈ m_tbl := m_t4 (List.mem_of_getElem? (i := 25) rfl) rfl
theorem wl_L_60 : Cond.methodLink RL 60 yX8_undo ∈ m_tbl := m_t4 (List.mem_of_getElem? (i := 53) rfl) rfl
theorem wi_X8_undo : Cond.instanceMethod yX8_undo ∈ m_tbl := m_t4 (List.mem_of_getElem? (i := 54) rfl) rfl
theorem ws_X8_undo : Cond.selects RX8 yX8_undo yX8_undo ∈ m_tbl := m_t4 (List.mem_of_getElem? (i := 55) rfl) rfl
theorem wc_X8_undo : Cond.code yX8_undo cX8_undo 2 (some .int) ∈ m_tbl := m_t4 (List.mem_of_getElem? (i := 56) rfl) rfl
theorem wl_L_64 : Cond.methodLink RL 64 yX8_save ∈ m_tbl := m_t4 (List.mem_of_getElem? (i := 57) rfl) rfl
theorem wi_X8_save : Cond.instanceMethod yX8_save ∈ m_tbl := m_t4 (List.mem_of_getElem? (i := 58) rfl) rfl
theorem ws_X8_save : Cond.selects RX8 yX8_save yX8_save ∈ m_tbl := m_t4 (List.mem_of_getElem? (i := 59) rfl) rfl
theorem wc_X8_save : Cond.code yX8_save cX8_save 2 (some .int) ∈ m_tbl := m_t4 (List.mem_of_getElem? (i := 60) rfl) rfl
theorem wl_L_68 : Cond.methodLink RL 68 yX8_restore ∈ m_tbl := m_t4 (List.mem_of_getElem? (i := 61) rfl) rfl
theorem wi_X8_restore : Cond.instanceMethod yX8_restore ∈ m_tbl := m_t4 (List.mem_of_getElem? (i := 62) rfl) rfl
theorem ws_X8_restore : Cond.selects RX8 yX8_restore yX8_restore ∈ m_tbl := m_t4 (List.mem_of_getElem? (i := 63) rfl) rfl
theorem wc_X8_restore : Cond.code yX8_restore cX8_restore 2 (some .int) ∈ m_tbl := m_t4 (List.mem_of_getElem? (i := 64) rfl) rfl
theorem wl_X8_37 : Cond.methodLink RX8 37 yX8_record ∈ m_tbl := m_t4 (List.mem_of_getElem? (i := 65) rfl) rfl
theorem wi_X8_record : Cond.instanceMethod yX8_record ∈ m_tbl := m_t4 (List.mem_of_getElem? (i := 67) rfl) rfl
theorem wc_X8_record : Cond.code yX8_record cX8_record 2 none ∈ m_tbl := m_t4 (List.mem_of_getElem? (i := 68) rfl) rfl
theorem wl_L_17 : Cond.methodLink RL 17 yX8_submit ∈ m_tbl := m_t4 (List.mem_of_getElem? (i := 69) rfl) rfl
theorem wi_X8_submit : Cond.instanceMethod yX8_submit ∈ m_tbl := m_t4 (List.mem_of_getElem? (i := 70) rfl) rfl
theorem ws_X8_submit : Cond.selects RX8 yX8_submit yX8_submit ∈ m_tbl := m_t4 (List.mem_of_getElem? (i := 71) rfl) rfl
theorem wc_X8_submit : Cond.code yX8_submit cX8_submit 5 (some .int) ∈ m_tbl := m_t4 (List.mem_of_getElem? (i := 72) rfl) rfl
theorem wl_X8_106 : Cond.methodLink RX8 106 yX8_whyNotSubmitted ∈ m_tbl := m_t4 (List.mem_of_getElem? (i := 73) rfl) rfl
theorem wi_X8_whyNotSubmitted : Cond.instanceMethod yX8_whyNotSubmitted ∈ m_tbl := m_t4 (List.mem_of_getElem? (i := 75) rfl) rfl
theorem wc_X8_whyNotSubmitted : Cond.code yX8_whyNotSubmitted cX8_whyNotSubmitted 3 (some .int) ∈ m_tbl := m_t4 (List.mem_of_getElem? (i := 76) rfl) rfl
theorem wl_X8_92 : Cond.methodLink RX8 92 yX8_isClient ∈ m_tbl := m_t4 (List.mem_of_getElem? (i := 77) rfl) rfl
theorem wst_X8_isClient : Cond.static yX8_isClient ∈ m_tbl := m_t4 (List.mem_of_getElem? (i := 78) rfl) rfl
theorem wc_X8_isClient : Cond.code yX8_isClient cX8_isClient 1 (some .boolean) ∈ m_tbl := m_t4 (List.mem_of_getElem? (i := 79) rfl) rfl
theorem wl_X8_25 : Cond.methodLink RX8 25 yX8_within ∈ m_tbl := m_t4 (List.mem_of_getElem? (i := 80) rfl) rfl
theorem wst_X8_within : Cond.static yX8_within ∈ m_tbl := m_t4 (List.mem_of_getElem? (i := 81) rfl) rfl
theorem wc_X8_within : Cond.code yX8_within cX8_within 3 (some .boolean) ∈ m_tbl := m_t4 (List.mem_of_getElem? (i := 82) rfl) rfl
theorem wl_X8_96 : Cond.methodLink RX8 96 yX8_openOf ∈ m_tbl := m_t4 (List.mem_of_getElem? (i := 83) rfl) rfl
theorem wi_X8_openOf : Cond.instanceMethod yX8_openOf ∈ m_tbl := m_t4 (List.mem_of_getElem? (i := 85) rfl) rfl
theorem wc_X8_openOf : Cond.code yX8_openOf cX8_openOf 3 (some .int) ∈ m_tbl := m_t4 (List.mem_of_getElem? (i := 86) rfl) rfl
theorem wl_X8_40 : Cond.methodLink RX8 40 yX8_of ∈ m_tbl := m_t4 (List.mem_of_getElem? (i := 87) rfl) rfl
theorem wi_X8_of : Cond.instanceMethod yX8_of ∈ m_tbl := m_t4 (List.mem_of_getElem? (i := 89) rfl) rfl
theorem wc_X8_of : Cond.code yX8_of cX8_of 3 (some .int) ∈ m_tbl := m_t4 (List.mem_of_getElem? (i := 90) rfl) rfl
theorem wl_X8_109 : Cond.methodLink RX8 109 yX8_doesSubmit ∈ m_tbl := m_t4 (List.mem_of_getElem? (i := 91) rfl) rfl
theorem wi_X8_doesSubmit : Cond.instanceMethod yX8_doesSubmit ∈ m_tbl := m_t4 (List.mem_of_getElem? (i := 93) rfl) rfl
theorem wc_X8_doesSubmit : Cond.code yX8_doesSubmit cX8_doesSubmit 7 (some .int) ∈ m_tbl := m_t4 (List.mem_of_getElem? (i := 94) rfl) rfl
theorem wl_X8_99 : Cond.methodLink RX8 99 yX8_begin ∈ m_tbl := m_t4 (List.mem_of_getElem? (i := 95) rfl) rfl
theorem wi_X8_begin : Cond.instanceMethod yX8_begin ∈ m_tbl := m_t4 (List.mem_of_getElem? (i := 97) rfl) rfl
theorem wc_X8_begin : Cond.code yX8_begin cX8_begin 2 (some .int) ∈ m_tbl := m_t4 (List.mem_of_getElem? (i := 98) rfl) rfl
theorem wl_X8_59 : Cond.methodLink RX8 59 yX8_setGroup ∈ m_tbl := m_t4 (List.mem_of_getElem? (i := 99) rfl) rfl
theorem wi_X8_setGroup : Cond.instanceMethod yX8_setGroup ∈ m_tbl := m_t4 (List.mem_of_getElem? (i := 101) rfl) rfl
theorem wc_X8_setGroup : Cond.code yX8_setGroup cX8_setGroup 4 none ∈ m_tbl := m_t4 (List.mem_of_getElem? (i := 102) rfl) rfl
theorem wl_X8_48 : Cond.methodLink RX8 48 yX8_setOf ∈ m_tbl := m_t4 (List.mem_of_getElem? (i := 103) rfl) rfl
theorem wi_X8_setOf : Cond.instanceMethod yX8_setOf ∈ m_tbl := m_t4 (List.mem_of_getElem? (i := 105) rfl) rfl
theorem wc_X8_setOf : Cond.code yX8_setOf cX8_setOf 4 none ∈ m_tbl := m_t4 (List.mem_of_getElem? (i := 106) rfl) rfl
theorem wl_X8_62 : Cond.methodLink RX8 62 yX8_recordsOf ∈ m_tbl := m_t4 (List.mem_of_getElem? (i := 107) rfl) rfl
theorem wi_X8_recordsOf : Cond.instanceMethod yX8_recordsOf ∈ m_tbl := m_t4 (List.mem_of_getElem? (i := 109) rfl) rfl
theorem wc_X8_recordsOf : Cond.code yX8_recordsOf cX8_recordsOf 4 (some .int) ∈ m_tbl := m_t4 (List.mem_of_getElem? (i := 110) rfl) rfl
theorem wl_X8_44 : Cond.methodLink RX8 44 yX8_isIn ∈ m_tbl := m_t4 (List.mem_of_getElem? (i := 111) rfl) rfl
theorem wi_X8_isIn : Cond.instanceMethod yX8_isIn ∈ m_tbl := m_t4 (List.mem_of_getElem? (i := 113) rfl) rfl
theorem wc_X8_isIn : Cond.code yX8_isIn cX8_isIn 3 (some .boolean) ∈ m_tbl := m_t4 (List.mem_of_getElem? (i := 114) rfl) rfl
theorem wl_X8_77 : Cond.methodLink RX8 77 yX8_isLate ∈ m_tbl := m_t4 (List.mem_of_getElem? (i := 115) rfl) rfl
theorem wi_X8_isLate : Cond.instanceMethod yX8_isLate ∈ m_tbl := m_t4 (List.mem_of_getElem? (i := 117) rfl) rfl
theorem wc_X8_isLate : Cond.code yX8_isLate cX8_isLate 1 (some .boolean) ∈ m_tbl := m_t4 (List.mem_of_getElem? (i := 118) rfl) rfl
theorem wl_X8_52 : Cond.methodLink RX8 52 yX8_ofGroup ∈ m_tbl := m_t4 (List.mem_of_getElem? (i := 119) rfl) rfl
theorem wi_X8_ofGroup : Cond.instanceMethod yX8_ofGroup ∈ m_tbl := m_t4 (List.mem_of_getElem? (i := 121) rfl) rfl
theorem wc_X8_ofGroup : Cond.code yX8_ofGroup cX8_ofGroup 3 (some .int) ∈ m_tbl := m_t4 (List.mem_of_getElem? (i := 122) rfl) rfl
theorem wl_X8_81 : Cond.methodLink RX8 81 yX8_close ∈ m_tbl := m_t4 (List.mem_of_getElem? (i := 123) rfl) rfl
theorem wi_X8_close : Cond.instanceMethod yX8_close ∈ m_tbl := m_t4 (List.mem_of_getElem? (i := 125) rfl) rfl
theorem wc_X8_close : Cond.code yX8_close cX8_close 5 none ∈ m_tbl := m_t4 (List.mem_of_getElem? (i := 126) rfl) rfl
theorem wl_X8_65 : Cond.methodLink RX8 65 yX8_turnMembers ∈ m_tbl := m_t4 (List.mem_of_getElem? (i := 127) rfl) rfl
theorem wi_X8_turnMembers : Cond.instanceMethod yX8_turnMembers ∈ m_tbl := m_t4 (List.mem_of_getElem? (i := 129) rfl) rfl
theorem wc_X8_turnMembers : Cond.code yX8_turnMembers cX8_turnMembers 5 (some .int) ∈ m_tbl := m_t4 (List.mem_of_getElem? (i := 130) rfl) rfl
theorem wl_X8_68 : Cond.methodLink RX8 68 yX8_members ∈ m_tbl := m_t4 (List.mem_of_getElem? (i := 131) rfl) rfl
theorem wi_X8_members : Cond.instanceMethod yX8_members ∈ m_tbl := m_t4 (List.mem_of_getElem? (i := 133) rfl) rfl
theorem wc_X8_members : Cond.code yX8_members cX8_members 4 (some .int) ∈ m_tbl := m_t4 (List.mem_of_getElem? (i := 134) rfl) rfl
theorem wl_X8_71 : Cond.methodLink RX8 71 yX8_goOn ∈ m_tbl := m_t4 (List.mem_of_getElem? (i := 135) rfl) rfl
theorem wi_X8_goOn : Cond.instanceMethod yX8_goOn ∈ m_tbl := m_t4 (List.mem_of_getElem? (i := 137) rfl) rfl
theorem wc_X8_goOn : Cond.code yX8_goOn cX8_goOn 2 none ∈ m_tbl := m_t4 (List.mem_of_getElem? (i := 138) rfl) rfl
theorem wl_X8_55 : Cond.methodLink RX8 55 yX8_queuedAt ∈ m_tbl := m_t4 (List.mem_of_getElem? (i := 139) rfl) rfl
theorem wi_X8_queuedAt : Cond.instanceMethod yX8_queuedAt ∈ m_tbl := m_t4 (List.mem_of_getElem? (i := 141) rfl) rfl
theorem wc_X8_queuedAt : Cond.code yX8_queuedAt cX8_queuedAt 4 (some .int) ∈ m_tbl := m_t4 (List.mem_of_getElem? (i := 142) rfl) rfl
theorem wl_L_22 : Cond.methodLink RL 22 yX8_fail ∈ m_tbl := m_t4 (List.mem_of_getElem? (i := 143) rfl) rfl
theorem wi_X8_fail : Cond.instanceMethod yX8_fail ∈ m_tbl := m_t4 (List.mem_of_getElem? (i := 144) rfl) rfl
theorem ws_X8_fail : Cond.selects RX8 yX8_fail yX8_fail ∈ m_tbl := m_t4 (List.mem_of_getElem? (i := 145) rfl) rfl
theorem wc_X8_fail : Cond.code yX8_fail cX8_fail 2 (some .int) ∈ m_tbl := m_t4 (List.mem_of_getElem? (i := 146) rfl) rfl
theorem wl_X8_113 : Cond.methodLink RX8 113 yX8_doesFail ∈ m_tbl := m_t4 (List.mem_of_getElem? (i := 147) rfl) rfl
theorem wi_X8_doesFail : Cond.instanceMethod yX8_doesFail ∈ m_tbl := m_t4 (List.mem_of_getElem? (i := 149) rfl) rfl
theorem wc_X8_doesFail : Cond.code yX8_doesFail cX8_doesFail 3 (some .int) ∈ m_tbl := m_t4 (List.mem_of_getElem? (i := 150) rfl) rfl
theorem wl_X8_102 : Cond.methodLink RX8 102 yX8_takeOut ∈ m_tbl := m_t4 (List.mem_of_getElem? (i := 151) rfl) rfl
theorem wi_X8_takeOut : Cond.instanceMethod yX8_takeOut ∈ m_tbl := m_t4 (List.mem_of_getElem? (i := 153) rfl) rfl
theorem wc_X8_takeOut : Cond.code yX8_takeOut cX8_takeOut 5 none ∈ m_tbl := m_t4 (List.mem_of_getElem? (i := 154) rfl) rfl
theorem wl_X8_89 : Cond.methodLink RX8 89 yX8_memberAt ∈ m_tbl := m_t4 (List.mem_of_getElem? (i := 155) rfl) rfl
theorem wi_X8_memberAt : Cond.instanceMethod yX8_memberAt ∈ m_tbl := m_t4 (List.mem_of_getElem? (i := 157) rfl) rfl
theorem wc_X8_memberAt : Cond.code yX8_memberAt cX8_memberAt 5 (some .int) ∈ m_tbl := m_t4 (List.mem_of_getElem? (i := 158) rfl) rfl
theorem wl_L_26 : Cond.methodLink RL 26 yX8_withdraw ∈ m_tbl := m_t4 (List.mem_of_getElem? (i := 159) rfl) rfl
theorem wi_X8_withdraw : Cond.instanceMethod yX8_withdraw ∈ m_tbl := m_t4 (List.mem_of_getElem? (i := 160) rfl) rfl
theorem ws_X8_withdraw : Cond.selects RX8 yX8_withdraw yX8_withdraw ∈ m_tbl := m_t4 (List.mem_of_getElem? (i := 161) rfl) rfl
theorem wc_X8_withdraw : Cond.code yX8_withdraw cX8_withdraw 2 (some .int) ∈ m_tbl := m_t4 (List.mem_of_getElem? (i := 162) rfl) rfl
theorem wl_X8_116 : Cond.methodLink RX8 116 yX8_canWithdraw ∈ m_tbl := m_t4 (List.mem_of_getElem? (i := 163) rfl) rfl
theorem wi_X8_canWithdraw : Cond.instanceMethod yX8_canWithdraw ∈ m_tbl := m_t4 (List.mem_of_getElem? (i := 165) rfl) rfl
theorem wc_X8_canWithdraw : Cond.code yX8_canWithdraw cX8_canWithdraw 3 (some .boolean) ∈ m_tbl := m_t4 (List.mem_of_getElem? (i := 166) rfl) rfl
theorem wl_X8_119 : Cond.methodLink RX8 119 yX8_doesWithdraw ∈ m_tbl := m_t4 (List.mem_of_getElem? (i := 167) rfl) rfl
theorem wi_X8_doesWithdraw : Cond.instanceMethod yX8_doesWithdraw ∈ m_tbl := m_t4 (List.mem_of_getElem? (i := 169) rfl) rfl
theorem wc_X8_doesWithdraw : Cond.code yX8_doesWithdraw cX8_doesWithdraw 3 (some .int) ∈ m_tbl := m_t4 (List.mem_of_getElem? (i := 170) rfl) rfl
theorem wl_L_31 : Cond.methodLink RL 31 yX8_crash ∈ m_tbl := m_t4 (List.mem_of_getElem? (i := 171) rfl) rfl
theorem wi_X8_crash : Cond.instanceMethod yX8_crash ∈ m_tbl := m_t4 (List.mem_of_getElem? (i := 172) rfl) rfl
theorem ws_X8_crash : Cond.selects RX8 yX8_crash yX8_crash ∈ m_tbl := m_t4 (List.mem_of_getElem? (i := 173) rfl) rfl
theorem wc_X8_crash : Cond.code yX8_crash cX8_crash 1 (some .int) ∈ m_tbl := m_t4 (List.mem_of_getElem? (i := 174) rfl) rfl
theorem wl_X8_122 : Cond.methodLink RX8 122 yX8_doesCrash ∈ m_tbl := m_t4 (List.mem_of_getElem? (i := 175) rfl) rfl
theorem wi_X8_doesCrash : Cond.instanceMethod yX8_doesCrash ∈ m_tbl := m_t4 (List.mem_of_getElem? (i := 177) rfl) rfl
theorem wc_X8_doesCrash : Cond.code yX8_doesCrash cX8_doesCrash 3 (some .int) ∈ m_tbl := m_t4 (List.mem_of_getElem? (i := 178) rfl) rfl
theorem wl_L_35 : Cond.methodLink RL 35 yX8_tick ∈ m_tbl := m_t4 (List.mem_of_getElem? (i := 179) rfl) rfl
theorem wi_X8_tick : Cond.instanceMethod yX8_tick ∈ m_tbl := m_t4 (List.mem_of_getElem? (i := 180) rfl) rfl
theorem ws_X8_tick : Cond.selects RX8 yX8_tick yX8_tick ∈ m_tbl := m_t4 (List.mem_of_getElem? (i := 181) rfl) rfl
theorem wc_X8_tick : Cond.code yX8_tick cX8_tick 2 (some .int) ∈ m_tbl := m_t4 (List.mem_of_getElem? (i := 182) rfl) rfl
theorem wl_X8_125 : Cond.methodLink RX8 125 yX8_ticks ∈ m_tbl := m_t4 (List.mem_of_getElem? (i := 183) rfl) rfl
theorem wi_X8_ticks : Cond.instanceMethod yX8_ticks ∈ m_tbl := m_t4 (List.mem_of_getElem? (i := 185) rfl) rfl
theorem wc_X8_ticks : Cond.code yX8_ticks cX8_ticks 4 (some .int) ∈ m_tbl := m_t4 (List.mem_of_getElem? (i := 186) rfl) rfl
theorem wl_X8_85 : Cond.methodLink RX8 85 yX8_tickOnce ∈ m_tbl := m_t4 (List.mem_of_getElem? (i := 187) rfl) rfl
theorem wi_X8_tickOnce : Cond.instanceMethod yX8_tickOnce ∈ m_tbl := m_t4 (List.mem_of_getElem? (i := 189) rfl) rfl
theorem wc_X8_tickOnce : Cond.code yX8_tickOnce cX8_tickOnce 3 (some .int) ∈ m_tbl := m_t4 (List.mem_of_getElem? (i := 190) rfl) rfl
theorem wl_X8_74 : Cond.methodLink RX8 74 yX8_answerAll ∈ m_tbl := m_t4 (List.mem_of_getElem? (i := 191) rfl) rfl
theorem wi_X8_answerAll : Cond.instanceMethod yX8_answerAll ∈ m_tbl := m_t4 (List.mem_of_getElem? (i := 193) rfl) rfl
theorem wc_X8_answerAll : Cond.code yX8_answerAll cX8_answerAll 4 (some .int) ∈ m_tbl := m_t4 (List.mem_of_getElem? (i := 194) rfl) rfl
theorem wl_L_40 : Cond.methodLink RL 40 yX8_set ∈ m_tbl := m_t4 (List.mem_of_getElem? (i := 195) rfl) rfl
theorem wi_X8_set : Cond.instanceMethod yX8_set ∈ m_tbl := m_t4 (List.mem_of_getElem? (i := 196) rfl) rfl
theorem ws_X8_set : Cond.selects RX8 yX8_set yX8_set ∈ m_tbl := m_t4 (List.mem_of_getElem? (i := 197) rfl) rfl
theorem wc_X8_set : Cond.code yX8_set cX8_set 4 (some .int) ∈ m_tbl := m_t4 (List.mem_of_getElem? (i := 198) rfl) rfl
theorem wl_X8_128 : Cond.methodLink RX8 128 yX8_leastOf ∈ m_tbl := m_t4 (List.mem_of_getElem? (i := 199) rfl) rfl
theorem wst_X8_leastOf : Cond.static yX8_leastOf ∈ m_tbl := m_t4 (List.mem_of_getElem? (i := 200) rfl) rfl
theorem wc_X8_leastOf : Cond.code yX8_leastOf cX8_leastOf 1 (some .int) ∈ m_tbl := m_t4 (List.mem_of_getElem? (i := 201) rfl) rfl
theorem wl_X8_131 : Cond.methodLink RX8 131 yX8_mostOf ∈ m_tbl := m_t4 (List.mem_of_getElem? (i := 202) rfl) rfl
theorem wst_X8_mostOf : Cond.static yX8_mostOf ∈ m_tbl := m_t4 (List.mem_of_getElem? (i := 203) rfl) rfl
theorem wc_X8_mostOf : Cond.code yX8_mostOf cX8_mostOf 1 (some .int) ∈ m_tbl := m_t4 (List.mem_of_getElem? (i := 204) rfl) rfl
theorem wl_L_44 : Cond.methodLink RL 44 yX8_append ∈ m_tbl := m_t4 (List.mem_of_getElem? (i := 205) rfl) rfl
theorem wi_X8_append : Cond.instanceMethod yX8_append ∈ m_tbl := m_t4 (List.mem_of_getElem? (i := 206) rfl) rfl
theorem ws_X8_append : Cond.selects RX8 yX8_append yX8_append ∈ m_tbl := m_t4 (List.mem_of_getElem? (i := 207) rfl) rfl
theorem wc_X8_append : Cond.code yX8_append cX8_append 2 (some .int) ∈ m_tbl := m_t4 (List.mem_of_getElem? (i := 208) rfl) rfl
theorem wl_L_48 : Cond.methodLink RL 48 yX8_clearText ∈ m_tbl := m_t4 (List.mem_of_getElem? (i := 209) rfl) rfl
theorem wi_X8_clearText : Cond.instanceMethod yX8_clearText ∈ m_tbl := m_t4 (List.mem_of_getElem? (i := 210) rfl) rfl
theorem ws_X8_clearText : Cond.selects RX8 yX8_clearText yX8_clearText ∈ m_tbl := m_t4 (List.mem_of_getElem? (i := 211) rfl) rfl
theorem wc_X8_clearText : Cond.code yX8_clearText cX8_clearText 2 (some .int) ∈ m_tbl := m_t4 (List.mem_of_getElem? (i := 212) rfl) rfl
theorem wl_L_52 : Cond.methodLink RL 52 yX8_fault ∈ m_tbl := m_t4 (List.mem_of_getElem? (i := 213) rfl) rfl
theorem wi_X8_fault : Cond.instanceMethod yX8_fault ∈ m_tbl := m_t4 (List.mem_of_getElem? (i := 214) rfl) rfl
theorem ws_X8_fault : Cond.selects RX8 yX8_fault yX8_fault ∈ m_tbl := m_t4 (List.mem_of_getElem? (i := 215) rfl) rfl
theorem wc_X8_fault : Cond.code yX8_fault cX8_fault 1 (some .int) ∈ m_tbl := m_t4 (List.mem_of_getElem? (i := 216) rfl) rfl
theorem wl_X8_167 : Cond.methodLink RX8 167 yX8_findFault ∈ m_tbl := m_t4 (List.mem_of_getElem? (i := 217) rfl) rfl
theorem wi_X8_findFault : Cond.instanceMethod yX8_findFault ∈ m_tbl := m_t4 (List.mem_of_getElem? (i := 219) rfl) rfl
theorem wc_X8_findFault : Cond.code yX8_findFault cX8_findFault 1 (some .int) ∈ m_tbl := m_t4 (List.mem_of_getElem? (i := 220) rfl) rfl
theorem wl_X8_164 : Cond.methodLink RX8 164 yX8_readsOrder ∈ m_tbl := m_t4 (List.mem_of_getElem? (i := 221) rfl) rfl
theorem wi_X8_readsOrder : Cond.instanceMethod yX8_readsOrder ∈ m_tbl := m_t4 (List.mem_of_getElem? (i := 223) rfl) rfl
theorem wc_X8_readsOrder : Cond.code yX8_readsOrder cX8_readsOrder 1 (some .boolean) ∈ m_tbl := m_t4 (List.mem_of_getElem? (i := 224) rfl) rfl
theorem wl_X8_140 : Cond.methodLink RX8 140 yX8_nextCharacter ∈ m_tbl := m_t4 (List.mem_of_getElem? (i := 225) rfl) rfl
theorem wi_X8_nextCharacter : Cond.instanceMethod yX8_nextCharacter ∈ m_tbl := m_t4 (List.mem_of_getElem? (i := 227) rfl) rfl
theorem wc_X8_nextCharacter : Cond.code yX8_nextCharacter cX8_nextCharacter 1 (some .int) ∈ m_tbl := m_t4 (List.mem_of_getElem? (i := 228) rfl) rfl
theorem wl_X8_146 : Cond.methodLink RX8 146 yX8_readsNumber ∈ m_tbl := m_t4 (List.mem_of_getElem? (i := 229) rfl) rfl
theorem wi_X8_readsNumber : Cond.instanceMethod yX8_readsNumber ∈ m_tbl := m_t4 (List.mem_of_getElem? (i := 231) rfl) rfl
theorem wc_X8_readsNumber : Cond.code yX8_readsNumber cX8_readsNumber 4 (some .boolean) ∈ m_tbl := m_t4 (List.mem_of_getElem? (i := 232) rfl) rfl
theorem wl_X8_161 : Cond.methodLink RX8 161 yX8_readsSubmit ∈ m_tbl := m_t4 (List.mem_of_getElem? (i := 233) rfl) rfl
theorem wi_X8_readsSubmit : Cond.instanceMethod yX8_readsSubmit ∈ m_tbl := m_t4 (List.mem_of_getElem? (i := 235) rfl) rfl
theorem wc_X8_readsSubmit : Cond.code yX8_readsSubmit cX8_readsSubmit 1 (some .boolean) ∈ m_tbl := m_t4 (List.mem_of_getElem? (i := 236) rfl) rfl
theorem wl_X8_149 : Cond.methodLink RX8 149 yX8_takes ∈ m_tbl := m_t4 (List.mem_of_getElem? (i := 237) rfl) rfl
theorem wi_X8_takes : Cond.instanceMethod yX8_takes ∈ m_tbl := m_t4 (List.mem_of_getElem? (i := 239) rfl) rfl
theorem wc_X8_takes : Cond.code yX8_takes cX8_takes 3 (some .boolean) ∈ m_tbl := m_t5 (List.mem_of_getElem? (i := 0) rfl) rfl
theorem wl_L_56 : Cond.methodLink RL 56 yX8_run ∈ m_tbl := m_t5 (List.mem_of_getElem? (i := 1) rfl) rfl
theorem wi_X8_run : Cond.instanceMethod yX8_run ∈ m_tbl := m_t5 (List.mem_of_getElem? (i := 2) rfl) rfl
theorem ws_X8_run : Cond.selects RX8 yX8_run yX8_run ∈ m_tbl := m_t5 (List.mem_of_getElem? (i := 3) rfl) rfl
theorem wc_X8_run : Cond.code yX8_run cX8_run 4 (some .int) ∈ m_tbl := m_t5 (List.mem_of_getElem? (i := 4) rfl) rfl
theorem wl_X8_170 : Cond.methodLink RX8 170 yX8_doesOrder ∈ m_tbl := m_t5 (List.mem_of_getElem? (i := 5) rfl) rfl
theorem wi_X8_doesOrder : Cond.instanceMethod yX8_doesOrder ∈ m_tbl := m_t5 (List.mem_of_getElem? (i := 7) rfl) rfl
theorem wc_X8_doesOrder : Cond.code yX8_doesOrder cX8_doesOrder 1 (some .boolean) ∈ m_tbl := m_t5 (List.mem_of_getElem? (i := 8) rfl) rfl
theorem wl_L_72 : Cond.methodLink RL 72 yX8_commit ∈ m_tbl := m_t5 (List.mem_of_getElem? (i := 9) rfl) rfl
theorem wi_X8_commit : Cond.instanceMethod yX8_commit ∈ m_tbl := m_t5 (List.mem_of_getElem? (i := 10) rfl) rfl
theorem ws_X8_commit : Cond.selects RX8 yX8_commit yX8_commit ∈ m_tbl := m_t5 (List.mem_of_getElem? (i := 11) rfl) rfl
theorem wc_X8_commit : Cond.code yX8_commit cX8_commit 3 (some .int) ∈ m_tbl := m_t5 (List.mem_of_getElem? (i := 12) rfl) rfl
theorem wl_L_76 : Cond.methodLink RL 76 yX8_group ∈ m_tbl := m_t5 (List.mem_of_getElem? (i := 13) rfl) rfl
theorem wi_X8_group : Cond.instanceMethod yX8_group ∈ m_tbl := m_t5 (List.mem_of_getElem? (i := 14) rfl) rfl
theorem ws_X8_group : Cond.selects RX8 yX8_group yX8_group ∈ m_tbl := m_t5 (List.mem_of_getElem? (i := 15) rfl) rfl
theorem wc_X8_group : Cond.code yX8_group cX8_group 3 (some .int) ∈ m_tbl := m_t5 (List.mem_of_getElem? (i := 16) rfl) rfl
theorem wl_X8_173 : Cond.methodLink RX8 173 yX8_tellsGroup ∈ m_tbl := m_t5 (List.mem_of_getElem? (i := 17) rfl) rfl
theorem wi_X8_tellsGroup : Cond.instanceMethod yX8_tellsGroup ∈ m_tbl := m_t5 (List.mem_of_getElem? (i := 19) rfl) rfl
theorem wc_X8_tellsGroup : Cond.code yX8_tellsGroup cX8_tellsGroup 4 (some .int) ∈ m_tbl := m_t5 (List.mem_of_getElem? (i := 20) rfl) rfl
theorem wl_L_80 : Cond.methodLink RL 80 yX8_member ∈ m_tbl := m_t5 (List.mem_of_getElem? (i := 21) rfl) rfl
theorem wi_X8_member : Cond.instanceMethod yX8_member ∈ m_tbl := m_t5 (List.mem_of_getElem? (i := 22) rfl) rfl
theorem ws_X8_member : Cond.selects RX8 yX8_member yX8_member ∈ m_tbl := m_t5 (List.mem_of_getElem? (i := 23) rfl) rfl
theorem wc_X8_member : Cond.code yX8_member cX8_member 3 (some .int) ∈ m_tbl := m_t5 (List.mem_of_getElem? (i := 24) rfl) rfl
theorem wl_L_84 : Cond.methodLink RL 84 yX8_open ∈ m_tbl := m_t5 (List.mem_of_getElem? (i := 25) rfl) rfl
theorem wi_X8_open : Cond.instanceMethod yX8_open ∈ m_tbl := m_t5 (List.mem_of_getElem? (i := 26) rfl) rfl
theorem ws_X8_open : Cond.selects RX8 yX8_open yX8_open ∈ m_tbl := m_t5 (List.mem_of_getElem? (i := 27) rfl) rfl
theorem wc_X8_open : Cond.code yX8_open cX8_open 2 (some .int) ∈ m_tbl := m_t5 (List.mem_of_getElem? (i := 28) rfl) rfl
theorem wl_L_88 : Cond.methodLink RL 88 yX8_queued ∈ m_tbl := m_t5 (List.mem_of_getElem? (i := 29) rfl) rfl
theorem wi_X8_queued : Cond.instanceMethod yX8_queued ∈ m_tbl := m_t5 (List.mem_of_getElem? (i := 30) rfl) rfl
theorem ws_X8_queued : Cond.selects RX8 yX8_queued yX8_queued ∈ m_tbl := m_t5 (List.mem_of_getElem? (i := 31) rfl) rfl
theorem wc_X8_queued : Cond.code yX8_queued cX8_queued 2 (some .int) ∈ m_tbl := m_t5 (List.mem_of_getElem? (i := 32) rfl) rfl
theorem wl_L_92 : Cond.methodLink RL 92 yX8_count ∈ m_tbl := m_t5 (List.mem_of_getElem? (i := 33) rfl) rfl
theorem wi_X8_count : Cond.instanceMethod yX8_count ∈ m_tbl := m_t5 (List.mem_of_getElem? (i := 34) rfl) rfl
theorem ws_X8_count : Cond.selects RX8 yX8_count yX8_count ∈ m_tbl := m_t5 (List.mem_of_getElem? (i := 35) rfl) rfl
theorem wc_X8_count : Cond.code yX8_count cX8_count 2 (some .int) ∈ m_tbl := m_t5 (List.mem_of_getElem? (i := 36) rfl) rfl
theorem wl_X8_176 : Cond.methodLink RX8 176 yX8_queuedMany ∈ m_tbl := m_t5 (List.mem_of_getElem? (i := 37) rfl) rfl
theorem wi_X8_queuedMany : Cond.instanceMethod yX8_queuedMany ∈ m_tbl := m_t5 (List.mem_of_getElem? (i := 39) rfl) rfl
theorem wc_X8_queuedMany : Cond.code yX8_queuedMany cX8_queuedMany 3 (some .int) ∈ m_tbl := m_t5 (List.mem_of_getElem? (i := 40) rfl) rfl
theorem wl_X8_179 : Cond.methodLink RX8 179 yX8_busyMany ∈ m_tbl := m_t5 (List.mem_of_getElem? (i := 41) rfl) rfl
theorem wi_X8_busyMany : Cond.instanceMethod yX8_busyMany ∈ m_tbl := m_t5 (List.mem_of_getElem? (i := 43) rfl) rfl
theorem wc_X8_busyMany : Cond.code yX8_busyMany cX8_busyMany 3 (some .int) ∈ m_tbl := m_t5 (List.mem_of_getElem? (i := 44) rfl) rfl
theorem wl_L_96 : Cond.methodLink RL 96 yX8_total ∈ m_tbl := m_t5 (List.mem_of_getElem? (i := 45) rfl) rfl
theorem wi_X8_total : Cond.instanceMethod yX8_total ∈ m_tbl := m_t5 (List.mem_of_getElem? (i := 46) rfl) rfl
theorem ws_X8_total : Cond.selects RX8 yX8_total yX8_total ∈ m_tbl := m_t5 (List.mem_of_getElem? (i := 47) rfl) rfl
theorem wc_X8_total : Cond.code yX8_total cX8_total 2 (some .int) ∈ m_tbl := m_t5 (List.mem_of_getElem? (i := 48) rfl) rfl
theorem wl_L_100 : Cond.methodLink RL 100 yX8_answeredIn ∈ m_tbl := m_t5 (List.mem_of_getElem? (i := 49) rfl) rfl
theorem wi_X8_answeredIn : Cond.instanceMethod yX8_answeredIn ∈ m_tbl := m_t5 (List.mem_of_getElem? (i := 50) rfl) rfl
theorem ws_X8_answeredIn : Cond.selects RX8 yX8_answeredIn yX8_answeredIn ∈ m_tbl := m_t5 (List.mem_of_getElem? (i := 51) rfl) rfl
theorem wc_X8_answeredIn : Cond.code yX8_answeredIn cX8_answeredIn 4 (some .int) ∈ m_tbl := m_t5 (List.mem_of_getElem? (i := 52) rfl) rfl
theorem wl_X8_182 : Cond.methodLink RX8 182 yX8_putAside ∈ m_tbl := m_t5 (List.mem_of_getElem? (i := 53) rfl) rfl
theorem wi_X8_putAside : Cond.instanceMethod yX8_putAside ∈ m_tbl := m_t5 (List.mem_of_getElem? (i := 55) rfl) rfl
theorem wc_X8_putAside : Cond.code yX8_putAside cX8_putAside 2 none ∈ m_tbl := m_t5 (List.mem_of_getElem? (i := 56) rfl) rfl
theorem wl_X8_185 : Cond.methodLink RX8 185 yX8_ticksFor ∈ m_tbl := m_t5 (List.mem_of_getElem? (i := 57) rfl) rfl
theorem wi_X8_ticksFor : Cond.instanceMethod yX8_ticksFor ∈ m_tbl := m_t5 (List.mem_of_getElem? (i := 59) rfl) rfl
theorem wc_X8_ticksFor : Cond.code yX8_ticksFor cX8_ticksFor 3 (some .int) ∈ m_tbl := m_t5 (List.mem_of_getElem? (i := 60) rfl) rfl
theorem wl_X8_188 : Cond.methodLink RX8 188 yX8_takeBack ∈ m_tbl := m_t5 (List.mem_of_getElem? (i := 61) rfl) rfl
theorem wi_X8_takeBack : Cond.instanceMethod yX8_takeBack ∈ m_tbl := m_t5 (List.mem_of_getElem? (i := 63) rfl) rfl
theorem wc_X8_takeBack : Cond.code yX8_takeBack cX8_takeBack 2 none ∈ m_tbl := m_t5 (List.mem_of_getElem? (i := 64) rfl) rfl
theorem wl_L_105 : Cond.methodLink RL 105 yX8_ifSubmitted ∈ m_tbl := m_t5 (List.mem_of_getElem? (i := 65) rfl) rfl
theorem wi_X8_ifSubmitted : Cond.instanceMethod yX8_ifSubmitted ∈ m_tbl := m_t5 (List.mem_of_getElem? (i := 66) rfl) rfl
theorem ws_X8_ifSubmitted : Cond.selects RX8 yX8_ifSubmitted yX8_ifSubmitted ∈ m_tbl := m_t5 (List.mem_of_getElem? (i := 67) rfl) rfl
theorem wc_X8_ifSubmitted : Cond.code yX8_ifSubmitted cX8_ifSubmitted 5 (some .int) ∈ m_tbl := m_t5 (List.mem_of_getElem? (i := 68) rfl) rfl
theorem wl_X8_191 : Cond.methodLink RX8 191 yX8_lowestFree ∈ m_tbl := m_t5 (List.mem_of_getElem? (i := 69) rfl) rfl
theorem wi_X8_lowestFree : Cond.instanceMethod yX8_lowestFree ∈ m_tbl := m_t5 (List.mem_of_getElem? (i := 71) rfl) rfl
theorem wc_X8_lowestFree : Cond.code yX8_lowestFree cX8_lowestFree 2 (some .int) ∈ m_tbl := m_t5 (List.mem_of_getElem? (i := 72) rfl) rfl
theorem wl_L_109 : Cond.methodLink RL 109 yX8_idleIn ∈ m_tbl := m_t5 (List.mem_of_getElem? (i := 73) rfl) rfl
theorem wi_X8_idleIn : Cond.instanceMethod yX8_idleIn ∈ m_tbl := m_t5 (List.mem_of_getElem? (i := 74) rfl) rfl
theorem ws_X8_idleIn : Cond.selects RX8 yX8_idleIn yX8_idleIn ∈ m_tbl := m_t5 (List.mem_of_getElem? (i := 75) rfl) rfl
theorem wc_X8_idleIn : Cond.code yX8_idleIn cX8_idleIn 2 (some .int) ∈ m_tbl := m_t5 (List.mem_of_getElem? (i := 76) rfl) rfl
theorem wl_L_114 : Cond.methodLink RL 114 yX8_mean ∈ m_tbl := m_t5 (List.mem_of_getElem? (i := 77) rfl) rfl
theorem wi_X8_mean : Cond.instanceMethod yX8_mean ∈ m_tbl := m_t5 (List.mem_of_getElem? (i := 78) rfl) rfl
theorem ws_X8_mean : Cond.selects RX8 yX8_mean yX8_mean ∈ m_tbl := m_t5 (List.mem_of_getElem? (i := 79) rfl) rfl
theorem wc_X8_mean : Cond.code yX8_mean cX8_mean 1 (some .double) ∈ m_tbl := m_t5 (List.mem_of_getElem? (i := 80) rfl) rfl
theorem ws_X2_stateAt : Cond.selects RX2 yX2_stateAt yX2_stateAt ∈ m_tbl := List.mem_filter.mpr ⟨List.mem_append_left _ (List.mem_of_getElem? (i := 0) rfl), rfl⟩
theorem ws_X3_beginGroup : Cond.selects RX3 yX3_beginGroup yX3_beginGroup ∈ m_tbl := List.mem_filter.mpr ⟨List.mem_append_left _ (List.mem_of_getElem? (i := 1) rfl), rfl⟩
theorem ws_X3_setOpenCommit : Cond.selects RX3 yX3_setOpenCommit yX3_setOpenCommit ∈ m_tbl := List.mem_filter.mpr ⟨List.mem_append_left _ (List.mem_of_getElem? (i := 2) rfl), rfl⟩
theorem ws_X3_reasonToClose : Cond.selects RX3 yX3_reasonToClose yX3_reasonToClose ∈ m_tbl := List.mem_filter.mpr ⟨List.mem_append_left _ (List.mem_of_getElem? (i := 3) rfl), rfl⟩
theorem ws_X3_closeGathering : Cond.selects RX3 yX3_closeGathering yX3_closeGathering ∈ m_tbl := List.mem_filter.mpr ⟨List.mem_append_left _ (List.mem_of_getElem? (i := 4) rfl), rfl⟩
theorem ws_X3_learnWait : Cond.selects RX3 yX3_learnWait yX3_learnWait ∈ m_tbl := List.mem_filter.mpr ⟨List.mem_append_left _ (List.mem_of_getElem? (i := 5) rfl), rfl⟩
theorem ws_X3_startWriting : Cond.selects RX3 yX3_startWriting yX3_startWriting ∈ m_tbl := List.mem_filter.mpr ⟨List.mem_append_left _ (List.mem_of_getElem? (i := 6) rfl), rfl⟩
theorem ws_X3_ticksToWrite : Cond.selects RX3 yX3_ticksToWrite yX3_ticksToWrite ∈ m_tbl := List.mem_filter.mpr ⟨List.mem_append_left _ (List.mem_of_getElem? (i := 7) rfl), rfl⟩
theorem ws_X3_leaveGathering : Cond.selects RX3 yX3_leaveGathering yX3_leaveGathering ∈ m_tbl := List.mem_filter.mpr ⟨List.mem_append_left _ (List.mem_of_getElem? (i := 8) rfl), rfl⟩
theorem ws_X3_endCommit : Cond.selects RX3 yX3_endCommit yX3_endCommit ∈ m_tbl := List.mem_filter.mpr ⟨List.mem_append_left _ (List.mem_of_getElem? (i := 9) rfl), rfl⟩
theorem ws_X3_dropGroups : Cond.selects RX3 yX3_dropGroups yX3_dropGroups ∈ m_tbl := List.mem_filter.mpr ⟨List.mem_append_left _ (List.mem_of_getElem? (i := 10) rfl), rfl⟩
theorem ws_X3_passTick : Cond.selects RX3 yX3_passTick yX3_passTick ∈ m_tbl := List.mem_filter.mpr ⟨List.mem_append_left _ (List.mem_of_getElem? (i := 11) rfl), rfl⟩
theorem ws_X3_finishWriting : Cond.selects RX3 yX3_finishWriting yX3_finishWriting ∈ m_tbl := List.mem_filter.mpr ⟨List.mem_append_left _ (List.mem_of_getElem? (i := 12) rfl), rfl⟩
theorem ws_X5_characterAt : Cond.selects RX5 yX5_characterAt yX5_characterAt ∈ m_tbl := List.mem_filter.mpr ⟨List.mem_append_left _ (List.mem_of_getElem? (i := 13) rfl), rfl⟩
theorem ws_X5_readNumber : Cond.selects RX5 yX5_readNumber yX5_readNumber ∈ m_tbl := List.mem_filter.mpr ⟨List.mem_append_left _ (List.mem_of_getElem? (i := 14) rfl), rfl⟩
theorem ws_X5_readRecords : Cond.selects RX5 yX5_readRecords yX5_readRecords ∈ m_tbl := List.mem_filter.mpr ⟨List.mem_append_left _ (List.mem_of_getElem? (i := 15) rfl), rfl⟩
theorem ws_X7_carryOutOrder : Cond.selects RX7 yX7_carryOutOrder yX7_carryOutOrder ∈ m_tbl := List.mem_filter.mpr ⟨List.mem_append_left _ (List.mem_of_getElem? (i := 16) rfl), rfl⟩
theorem ws_X3_busyClients : Cond.selects RX3 yX3_busyClients yX3_busyClients ∈ m_tbl := List.mem_filter.mpr ⟨List.mem_append_left _ (List.mem_of_getElem? (i := 17) rfl), rfl⟩
theorem ws_X3_ticksToWritten : Cond.selects RX3 yX3_ticksToWritten yX3_ticksToWritten ∈ m_tbl := List.mem_filter.mpr ⟨List.mem_append_left _ (List.mem_of_getElem? (i := 18) rfl), rfl⟩
theorem ws_X3_ticksToEndOfWriting : Cond.selects RX3 yX3_ticksToEndOfWriting yX3_ticksToEndOfWriting ∈ m_tbl := List.mem_filter.mpr ⟨List.mem_append_left _ (List.mem_of_getElem? (i := 19) rfl), rfl⟩
theorem ws_X3_ticksToFreeDisk : Cond.selects RX3 yX3_ticksToFreeDisk yX3_ticksToFreeDisk ∈ m_tbl := List.mem_filter.mpr ⟨List.mem_append_left _ (List.mem_of_getElem? (i := 20) rfl), rfl⟩
theorem ws_X8_record : Cond.selects RX8 yX8_record yX8_record ∈ m_tbl := List.mem_filter.mpr ⟨List.mem_append_left _ (List.mem_of_getElem? (i := 21) rfl), rfl⟩
theorem ws_X8_whyNotSubmitted : Cond.selects RX8 yX8_whyNotSubmitted yX8_whyNotSubmitted ∈ m_tbl := List.mem_filter.mpr ⟨List.mem_append_left _ (List.mem_of_getElem? (i := 22) rfl), rfl⟩
theorem ws_X8_openOf : Cond.selects RX8 yX8_openOf yX8_openOf ∈ m_tbl := List.mem_filter.mpr ⟨List.mem_append_left _ (List.mem_of_getElem? (i := 23) rfl), rfl⟩
theorem ws_X8_of : Cond.selects RX8 yX8_of yX8_of ∈ m_tbl := List.mem_filter.mpr ⟨List.mem_append_left _ (List.mem_of_getElem? (i := 24) rfl), rfl⟩
theorem ws_X8_doesSubmit : Cond.selects RX8 yX8_doesSubmit yX8_doesSubmit ∈ m_tbl := List.mem_filter.mpr ⟨List.mem_append_left _ (List.mem_of_getElem? (i := 25) rfl), rfl⟩
theorem ws_X8_begin : Cond.selects RX8 yX8_begin yX8_begin ∈ m_tbl := List.mem_filter.mpr ⟨List.mem_append_left _ (List.mem_of_getElem? (i := 26) rfl), rfl⟩
theorem ws_X8_setGroup : Cond.selects RX8 yX8_setGroup yX8_setGroup ∈ m_tbl := List.mem_filter.mpr ⟨List.mem_append_left _ (List.mem_of_getElem? (i := 27) rfl), rfl⟩
theorem ws_X8_setOf : Cond.selects RX8 yX8_setOf yX8_setOf ∈ m_tbl := List.mem_filter.mpr ⟨List.mem_append_left _ (List.mem_of_getElem? (i := 28) rfl), rfl⟩
theorem ws_X8_recordsOf : Cond.selects RX8 yX8_recordsOf yX8_recordsOf ∈ m_tbl := List.mem_filter.mpr ⟨List.mem_append_left _ (List.mem_of_getElem? (i := 29) rfl), rfl⟩
theorem ws_X8_isIn : Cond.selects RX8 yX8_isIn yX8_isIn ∈ m_tbl := List.mem_filter.mpr ⟨List.mem_append_left _ (List.mem_of_getElem? (i := 30) rfl), rfl⟩
theorem ws_X8_isLate : Cond.selects RX8 yX8_isLate yX8_isLate ∈ m_tbl := List.mem_filter.mpr ⟨List.mem_append_left _ (List.mem_of_getElem? (i := 31) rfl), rfl⟩
theorem ws_X8_ofGroup : Cond.selects RX8 yX8_ofGroup yX8_ofGroup ∈ m_tbl := List.mem_filter.mpr ⟨List.mem_append_left _ (List.mem_of_getElem? (i := 32) rfl), rfl⟩
theorem ws_X8_close : Cond.selects RX8 yX8_close yX8_close ∈ m_tbl := List.mem_filter.mpr ⟨List.mem_append_left _ (List.mem_of_getElem? (i := 33) rfl), rfl⟩
theorem ws_X8_turnMembers : Cond.selects RX8 yX8_turnMembers yX8_turnMembers ∈ m_tbl := List.mem_filter.mpr ⟨List.mem_append_left _ (List.mem_of_getElem? (i := 34) rfl), rfl⟩
theorem ws_X8_members : Cond.selects RX8 yX8_members yX8_members ∈ m_tbl := List.mem_filter.mpr ⟨List.mem_append_left _ (List.mem_of_getElem? (i := 35) rfl), rfl⟩
theorem ws_X8_goOn : Cond.selects RX8 yX8_goOn yX8_goOn ∈ m_tbl := List.mem_filter.mpr ⟨List.mem_append_left _ (List.mem_of_getElem? (i := 36) rfl), rfl⟩
theorem ws_X8_queuedAt : Cond.selects RX8 yX8_queuedAt yX8_queuedAt ∈ m_tbl := List.mem_filter.mpr ⟨List.mem_append_left _ (List.mem_of_getElem? (i := 37) rfl), rfl⟩
theorem ws_X8_doesFail : Cond.selects RX8 yX8_doesFail yX8_doesFail ∈ m_tbl := List.mem_filter.mpr ⟨List.mem_append_left _ (List.mem_of_getElem? (i := 38) rfl), rfl⟩
theorem ws_X8_takeOut : Cond.selects RX8 yX8_takeOut yX8_takeOut ∈ m_tbl := List.mem_filter.mpr ⟨List.mem_append_left _ (List.mem_of_getElem? (i := 39) rfl), rfl⟩
theorem ws_X8_memberAt : Cond.selects RX8 yX8_memberAt yX8_memberAt ∈ m_tbl := List.mem_filter.mpr ⟨List.mem_append_left _ (List.mem_of_getElem? (i := 40) rfl), rfl⟩
theorem ws_X8_canWithdraw : Cond.selects RX8 yX8_canWithdraw yX8_canWithdraw ∈ m_tbl := List.mem_filter.mpr ⟨List.mem_append_left _ (List.mem_of_getElem? (i := 41) rfl), rfl⟩
theorem ws_X8_doesWithdraw : Cond.selects RX8 yX8_doesWithdraw yX8_doesWithdraw ∈ m_tbl := List.mem_filter.mpr ⟨List.mem_append_left _ (List.mem_of_getElem? (i := 42) rfl), rfl⟩
theorem ws_X8_doesCrash : Cond.selects RX8 yX8_doesCrash yX8_doesCrash ∈ m_tbl := List.mem_filter.mpr ⟨List.mem_append_left _ (List.mem_of_getElem? (i := 43) rfl), rfl⟩
theorem ws_X8_ticks : Cond.selects RX8 yX8_ticks yX8_ticks ∈ m_tbl := List.mem_filter.mpr ⟨List.mem_append_left _ (List.mem_of_getElem? (i := 44) rfl), rfl⟩
theorem ws_X8_tickOnce : Cond.selects RX8 yX8_tickOnce yX8_tickOnce ∈ m_tbl := List.mem_filter.mpr ⟨List.mem_append_left _ (List.mem_of_getElem? (i := 45) rfl), rfl⟩
theorem ws_X8_answerAll : Cond.selects RX8 yX8_answerAll yX8_answerAll ∈ m_tbl := List.mem_filter.mpr ⟨List.mem_append_left _ (List.mem_of_getElem? (i := 46) rfl), rfl⟩
theorem ws_X8_findFault : Cond.selects RX8 yX8_findFault yX8_findFault ∈ m_tbl := List.mem_filter.mpr ⟨List.mem_append_left _ (List.mem_of_getElem? (i := 47) rfl), rfl⟩
theorem ws_X8_readsOrder : Cond.selects RX8 yX8_readsOrder yX8_readsOrder ∈ m_tbl := List.mem_filter.mpr ⟨List.mem_append_left _ (List.mem_of_getElem? (i := 48) rfl), rfl⟩
theorem ws_X8_nextCharacter : Cond.selects RX8 yX8_nextCharacter yX8_nextCharacter ∈ m_tbl := List.mem_filter.mpr ⟨List.mem_append_left _ (List.mem_of_getElem? (i := 49) rfl), rfl⟩
theorem ws_X8_readsNumber : Cond.selects RX8 yX8_readsNumber yX8_readsNumber ∈ m_tbl := List.mem_filter.mpr ⟨List.mem_append_left _ (List.mem_of_getElem? (i := 50) rfl), rfl⟩
theorem ws_X8_readsSubmit : Cond.selects RX8 yX8_readsSubmit yX8_readsSubmit ∈ m_tbl := List.mem_filter.mpr ⟨List.mem_append_left _ (List.mem_of_getElem? (i := 51) rfl), rfl⟩
theorem ws_X8_takes : Cond.selects RX8 yX8_takes yX8_takes ∈ m_tbl := List.mem_filter.mpr ⟨List.mem_append_left _ (List.mem_of_getElem? (i := 52) rfl), rfl⟩
theorem ws_X8_doesOrder : Cond.selects RX8 yX8_doesOrder yX8_doesOrder ∈ m_tbl := List.mem_filter.mpr ⟨List.mem_append_left _ (List.mem_of_getElem? (i := 53) rfl), rfl⟩
theorem ws_X8_tellsGroup : Cond.selects RX8 yX8_tellsGroup yX8_tellsGroup ∈ m_tbl := List.mem_filter.mpr ⟨List.mem_append_left _ (List.mem_of_getElem? (i := 54) rfl), rfl⟩
theorem ws_X8_queuedMany : Cond.selects RX8 yX8_queuedMany yX8_queuedMany ∈ m_tbl := List.mem_filter.mpr ⟨List.mem_append_left _ (List.mem_of_getElem? (i := 55) rfl), rfl⟩
theorem ws_X8_busyMany : Cond.selects RX8 yX8_busyMany yX8_busyMany ∈ m_tbl := List.mem_filter.mpr ⟨List.mem_append_left _ (List.mem_of_getElem? (i := 56) rfl), rfl⟩
theorem ws_X8_putAside : Cond.selects RX8 yX8_putAside yX8_putAside ∈ m_tbl := List.mem_filter.mpr ⟨List.mem_append_left _ (List.mem_of_getElem? (i := 57) rfl), rfl⟩
theorem ws_X8_ticksFor : Cond.selects RX8 yX8_ticksFor yX8_ticksFor ∈ m_tbl := List.mem_filter.mpr ⟨List.mem_append_left _ (List.mem_of_getElem? (i := 58) rfl), rfl⟩
theorem ws_X8_takeBack : Cond.selects RX8 yX8_takeBack yX8_takeBack ∈ m_tbl := List.mem_filter.mpr ⟨List.mem_append_left _ (List.mem_of_getElem? (i := 59) rfl), rfl⟩
theorem ws_X8_lowestFree : Cond.selects RX8 yX8_lowestFree yX8_lowestFree ∈ m_tbl := List.mem_filter.mpr ⟨List.mem_append_left _ (List.mem_of_getElem? (i := 60) rfl), rfl⟩
theorem inX0 : ∀ w ∈ u_ws RX0 TX0 9, w ∈ m_tbl := by
  intro w hw
  obtain ⟨k, hk, rfl⟩ := List.mem_map.mp hw
  have hk := List.mem_range.mp hk
  match k, hk with
  | 0, _ => exact m_t1 (List.mem_of_getElem? (i := 41) rfl) rfl
  | 1, _ => exact m_t1 (List.mem_of_getElem? (i := 43) rfl) rfl
  | 2, _ => exact m_t1 (List.mem_of_getElem? (i := 45) rfl) rfl
  | 3, _ => exact m_t1 (List.mem_of_getElem? (i := 47) rfl) rfl
  | 4, _ => exact m_t1 (List.mem_of_getElem? (i := 49) rfl) rfl
  | 5, _ => exact m_t1 (List.mem_of_getElem? (i := 51) rfl) rfl
  | 6, _ => exact m_t1 (List.mem_of_getElem? (i := 53) rfl) rfl
  | 7, _ => exact m_t1 (List.mem_of_getElem? (i := 55) rfl) rfl
  | 8, _ => exact m_t1 (List.mem_of_getElem? (i := 57) rfl) rfl
theorem inX1 : ∀ w ∈ u_ws RX1 TX1 5, w ∈ m_tbl := by
  intro w hw
  obtain ⟨k, hk, rfl⟩ := List.mem_map.mp hw
  have hk := List.mem_range.mp hk
  match k, hk with
  | 0, _ => exact m_t1 (List.mem_of_getElem? (i := 73) rfl) rfl
  | 1, _ => exact m_t1 (List.mem_of_getElem? (i := 75) rfl) rfl
  | 2, _ => exact m_t1 (List.mem_of_getElem? (i := 77) rfl) rfl
  | 3, _ => exact m_t1 (List.mem_of_getElem? (i := 79) rfl) rfl
  | 4, _ => exact m_t1 (List.mem_of_getElem? (i := 81) rfl) rfl
theorem inX2 : ∀ w ∈ u_ws RX2 TX2 3, w ∈ m_tbl := by
  intro w hw
  obtain ⟨k, hk, rfl⟩ := List.mem_map.mp hw
  have hk := List.mem_range.mp hk
  match k, hk with
  | 0, _ => exact m_t1 (List.mem_of_getElem? (i := 164) rfl) rfl
  | 1, _ => exact m_t1 (List.mem_of_getElem? (i := 166) rfl) rfl
  | 2, _ => exact m_t1 (List.mem_of_getElem? (i := 168) rfl) rfl
theorem inX3 : ∀ w ∈ u_ws RX3 TX3 12, w ∈ m_tbl := by
  intro w hw
  obtain ⟨k, hk, rfl⟩ := List.mem_map.mp hw
  have hk := List.mem_range.mp hk
  match k, hk with
  | 0, _ => exact m_t1 (List.mem_of_getElem? (i := 127) rfl) rfl
  | 1, _ => exact m_t1 (List.mem_of_getElem? (i := 129) rfl) rfl
  | 2, _ => exact m_t1 (List.mem_of_getElem? (i := 131) rfl) rfl
  | 3, _ => exact m_t1 (List.mem_of_getElem? (i := 133) rfl) rfl
  | 4, _ => exact m_t1 (List.mem_of_getElem? (i := 135) rfl) rfl
  | 5, _ => exact m_t1 (List.mem_of_getElem? (i := 137) rfl) rfl
  | 6, _ => exact m_t1 (List.mem_of_getElem? (i := 139) rfl) rfl
  | 7, _ => exact m_t1 (List.mem_of_getElem? (i := 141) rfl) rfl
  | 8, _ => exact m_t1 (List.mem_of_getElem? (i := 143) rfl) rfl
  | 9, _ => exact m_t1 (List.mem_of_getElem? (i := 145) rfl) rfl
  | 10, _ => exact m_t1 (List.mem_of_getElem? (i := 147) rfl) rfl
  | 11, _ => exact m_t1 (List.mem_of_getElem? (i := 149) rfl) rfl
theorem inX4 : ∀ w ∈ u_ws RX4 TX4 3, w ∈ m_tbl := by
  intro w hw
  obtain ⟨k, hk, rfl⟩ := List.mem_map.mp hw
  have hk := List.mem_range.mp hk
  match k, hk with
  | 0, _ => exact m_t1 (List.mem_of_getElem? (i := 93) rfl) rfl
  | 1, _ => exact m_t1 (List.mem_of_getElem? (i := 95) rfl) rfl
  | 2, _ => exact m_t1 (List.mem_of_getElem? (i := 97) rfl) rfl
theorem inX5 : ∀ w ∈ u_ws RX5 TX5 7, w ∈ m_tbl := by
  intro w hw
  obtain ⟨k, hk, rfl⟩ := List.mem_map.mp hw
  have hk := List.mem_range.mp hk
  match k, hk with
  | 0, _ => exact m_t1 (List.mem_of_getElem? (i := 184) rfl) rfl
  | 1, _ => exact m_t1 (List.mem_of_getElem? (i := 186) rfl) rfl
  | 2, _ => exact m_t1 (List.mem_of_getElem? (i := 188) rfl) rfl
  | 3, _ => exact m_t1 (List.mem_of_getElem? (i := 190) rfl) rfl
  | 4, _ => exact m_t1 (List.mem_of_getElem? (i := 192) rfl) rfl
  | 5, _ => exact m_t1 (List.mem_of_getElem? (i := 194) rfl) rfl
  | 6, _ => exact m_t1 (List.mem_of_getElem? (i := 196) rfl) rfl
theorem inX6 : ∀ w ∈ u_ws RX6 TX6 1, w ∈ m_tbl := by
  intro w hw
  obtain ⟨k, hk, rfl⟩ := List.mem_map.mp hw
  have hk := List.mem_range.mp hk
  match k, hk with
  | 0, _ => exact m_t1 (List.mem_of_getElem? (i := 112) rfl) rfl
theorem inX7 : ∀ w ∈ u_ws RX7 TX7 5, w ∈ m_tbl := by
  intro w hw
  obtain ⟨k, hk, rfl⟩ := List.mem_map.mp hw
  have hk := List.mem_range.mp hk
  match k, hk with
  | 0, _ => exact m_t1 (List.mem_of_getElem? (i := 205) rfl) rfl
  | 1, _ => exact m_t1 (List.mem_of_getElem? (i := 207) rfl) rfl
  | 2, _ => exact m_t1 (List.mem_of_getElem? (i := 209) rfl) rfl
  | 3, _ => exact m_t1 (List.mem_of_getElem? (i := 211) rfl) rfl
  | 4, _ => exact m_t1 (List.mem_of_getElem? (i := 213) rfl) rfl
theorem inX8 : ∀ w ∈ u_ws RX8 TX8 13, w ∈ m_tbl := by
  intro w hw
  obtain ⟨k, hk, rfl⟩ := List.mem_map.mp hw
  have hk := List.mem_range.mp hk
  match k, hk with
  | 0, _ => exact m_t4 (List.mem_of_getElem? (i := 26) rfl) rfl
  | 1, _ => exact m_t4 (List.mem_of_getElem? (i := 28) rfl) rfl
  | 2, _ => exact m_t4 (List.mem_of_getElem? (i := 30) rfl) rfl
  | 3, _ => exact m_t4 (List.mem_of_getElem? (i := 32) rfl) rfl
  | 4, _ => exact m_t4 (List.mem_of_getElem? (i := 34) rfl) rfl
  | 5, _ => exact m_t4 (List.mem_of_getElem? (i := 36) rfl) rfl
  | 6, _ => exact m_t4 (List.mem_of_getElem? (i := 38) rfl) rfl
  | 7, _ => exact m_t4 (List.mem_of_getElem? (i := 40) rfl) rfl
  | 8, _ => exact m_t4 (List.mem_of_getElem? (i := 42) rfl) rfl
  | 9, _ => exact m_t4 (List.mem_of_getElem? (i := 44) rfl) rfl
  | 10, _ => exact m_t4 (List.mem_of_getElem? (i := 46) rfl) rfl
  | 11, _ => exact m_t4 (List.mem_of_getElem? (i := 48) rfl) rfl
  | 12, _ => exact m_t4 (List.mem_of_getElem? (i := 50) rfl) rfl
theorem hv_X0_init : yX0_init.cls = RX0 ∧ yX0_init.cls ≠ "java/lang/invoke/MethodHandle" ∧ yX0_init.cls ≠ "java/lang/invoke/VarHandle" ∧ (parseMethodDescriptor yX0_init.desc).map (fun d => d.parameters.length) = some 0 := by decide +kernel
theorem hy_X0_init : plainName yX0_init.cls = true := by decide +kernel
theorem hv_X0_copyFrom : yX0_copyFrom.cls = RX0 ∧ yX0_copyFrom.cls ≠ "java/lang/invoke/MethodHandle" ∧ yX0_copyFrom.cls ≠ "java/lang/invoke/VarHandle" ∧ (parseMethodDescriptor yX0_copyFrom.desc).map (fun d => d.parameters.length) = some 1 := by decide +kernel
theorem hy_X0_copyFrom : plainName yX0_copyFrom.cls = true := by decide +kernel
theorem hv_X0_has : yX0_has.cls = RX0 ∧ yX0_has.cls ≠ "java/lang/invoke/MethodHandle" ∧ yX0_has.cls ≠ "java/lang/invoke/VarHandle" ∧ (parseMethodDescriptor yX0_has.desc).map (fun d => d.parameters.length) = some 1 := by decide +kernel
theorem hy_X0_has : plainName yX0_has.cls = true := by decide +kernel
theorem hv_X0_isFull : yX0_isFull.cls = RX0 ∧ yX0_isFull.cls ≠ "java/lang/invoke/MethodHandle" ∧ yX0_isFull.cls ≠ "java/lang/invoke/VarHandle" ∧ (parseMethodDescriptor yX0_isFull.desc).map (fun d => d.parameters.length) = some 0 := by decide +kernel
theorem hy_X0_isFull : plainName yX0_isFull.cls = true := by decide +kernel
theorem hv_X0_add : yX0_add.cls = RX0 ∧ yX0_add.cls ≠ "java/lang/invoke/MethodHandle" ∧ yX0_add.cls ≠ "java/lang/invoke/VarHandle" ∧ (parseMethodDescriptor yX0_add.desc).map (fun d => d.parameters.length) = some 5 := by decide +kernel
theorem hy_X0_add : plainName yX0_add.cls = true := by decide +kernel
theorem hv_X0_clientOf : yX0_clientOf.cls = RX0 ∧ yX0_clientOf.cls ≠ "java/lang/invoke/MethodHandle" ∧ yX0_clientOf.cls ≠ "java/lang/invoke/VarHandle" ∧ (parseMethodDescriptor yX0_clientOf.desc).map (fun d => d.parameters.length) = some 1 := by decide +kernel
theorem hy_X0_clientOf : plainName yX0_clientOf.cls = true := by decide +kernel
theorem hv_X0_recordsOf : yX0_recordsOf.cls = RX0 ∧ yX0_recordsOf.cls ≠ "java/lang/invoke/MethodHandle" ∧ yX0_recordsOf.cls ≠ "java/lang/invoke/VarHandle" ∧ (parseMethodDescriptor yX0_recordsOf.desc).map (fun d => d.parameters.length) = some 1 := by decide +kernel
theorem hy_X0_recordsOf : plainName yX0_recordsOf.cls = true := by decide +kernel
theorem hv_X0_isUrgent : yX0_isUrgent.cls = RX0 ∧ yX0_isUrgent.cls ≠ "java/lang/invoke/MethodHandle" ∧ yX0_isUrgent.cls ≠ "java/lang/invoke/VarHandle" ∧ (parseMethodDescriptor yX0_isUrgent.desc).map (fun d => d.parameters.length) = some 1 := by decide +kernel
theorem hy_X0_isUrgent : plainName yX0_isUrgent.cls = true := by decide +kernel
theorem hv_X0_stateOf : yX0_stateOf.cls = RX0 ∧ yX0_stateOf.cls ≠ "java/lang/invoke/MethodHandle" ∧ yX0_stateOf.cls ≠ "java/lang/invoke/VarHandle" ∧ (parseMethodDescriptor yX0_stateOf.desc).map (fun d => d.parameters.length) = some 1 := by decide +kernel
theorem hy_X0_stateOf : plainName yX0_stateOf.cls = true := by decide +kernel
theorem hv_X0_setState : yX0_setState.cls = RX0 ∧ yX0_setState.cls ≠ "java/lang/invoke/MethodHandle" ∧ yX0_setState.cls ≠ "java/lang/invoke/VarHandle" ∧ (parseMethodDescriptor yX0_setState.desc).map (fun d => d.parameters.length) = some 2 := by decide +kernel
theorem hy_X0_setState : plainName yX0_setState.cls = true := by decide +kernel
theorem hv_X0_submitTimeOf : yX0_submitTimeOf.cls = RX0 ∧ yX0_submitTimeOf.cls ≠ "java/lang/invoke/MethodHandle" ∧ yX0_submitTimeOf.cls ≠ "java/lang/invoke/VarHandle" ∧ (parseMethodDescriptor yX0_submitTimeOf.desc).map (fun d => d.parameters.length) = some 1 := by decide +kernel
theorem hy_X0_submitTimeOf : plainName yX0_submitTimeOf.cls = true := by decide +kernel
theorem hv_X0_answerTimeOf : yX0_answerTimeOf.cls = RX0 ∧ yX0_answerTimeOf.cls ≠ "java/lang/invoke/MethodHandle" ∧ yX0_answerTimeOf.cls ≠ "java/lang/invoke/VarHandle" ∧ (parseMethodDescriptor yX0_answerTimeOf.desc).map (fun d => d.parameters.length) = some 1 := by decide +kernel
theorem hy_X0_answerTimeOf : plainName yX0_answerTimeOf.cls = true := by decide +kernel
theorem hv_X0_answer : yX0_answer.cls = RX0 ∧ yX0_answer.cls ≠ "java/lang/invoke/MethodHandle" ∧ yX0_answer.cls ≠ "java/lang/invoke/VarHandle" ∧ (parseMethodDescriptor yX0_answer.desc).map (fun d => d.parameters.length) = some 2 := by decide +kernel
theorem hy_X0_answer : plainName yX0_answer.cls = true := by decide +kernel
theorem hv_X0_groupOf : yX0_groupOf.cls = RX0 ∧ yX0_groupOf.cls ≠ "java/lang/invoke/MethodHandle" ∧ yX0_groupOf.cls ≠ "java/lang/invoke/VarHandle" ∧ (parseMethodDescriptor yX0_groupOf.desc).map (fun d => d.parameters.length) = some 1 := by decide +kernel
theorem hy_X0_groupOf : plainName yX0_groupOf.cls = true := by decide +kernel
theorem hv_X0_leaveGroup : yX0_leaveGroup.cls = RX0 ∧ yX0_leaveGroup.cls ≠ "java/lang/invoke/MethodHandle" ∧ yX0_leaveGroup.cls ≠ "java/lang/invoke/VarHandle" ∧ (parseMethodDescriptor yX0_leaveGroup.desc).map (fun d => d.parameters.length) = some 1 := by decide +kernel
theorem hy_X0_leaveGroup : plainName yX0_leaveGroup.cls = true := by decide +kernel
theorem hv_X0_memberAt : yX0_memberAt.cls = RX0 ∧ yX0_memberAt.cls ≠ "java/lang/invoke/MethodHandle" ∧ yX0_memberAt.cls ≠ "java/lang/invoke/VarHandle" ∧ (parseMethodDescriptor yX0_memberAt.desc).map (fun d => d.parameters.length) = some 2 := by decide +kernel
theorem hy_X0_memberAt : plainName yX0_memberAt.cls = true := by decide +kernel
theorem hv_X0_moveMembers : yX0_moveMembers.cls = RX0 ∧ yX0_moveMembers.cls ≠ "java/lang/invoke/MethodHandle" ∧ yX0_moveMembers.cls ≠ "java/lang/invoke/VarHandle" ∧ (parseMethodDescriptor yX0_moveMembers.desc).map (fun d => d.parameters.length) = some 3 := by decide +kernel
theorem hy_X0_moveMembers : plainName yX0_moveMembers.cls = true := by decide +kernel
theorem hv_X1_init : yX1_init.cls = RX1 ∧ yX1_init.cls ≠ "java/lang/invoke/MethodHandle" ∧ yX1_init.cls ≠ "java/lang/invoke/VarHandle" ∧ (parseMethodDescriptor yX1_init.desc).map (fun d => d.parameters.length) = some 0 := by decide +kernel
theorem hy_X1_init : plainName yX1_init.cls = true := by decide +kernel
theorem hv_X1_copyFrom : yX1_copyFrom.cls = RX1 ∧ yX1_copyFrom.cls ≠ "java/lang/invoke/MethodHandle" ∧ yX1_copyFrom.cls ≠ "java/lang/invoke/VarHandle" ∧ (parseMethodDescriptor yX1_copyFrom.desc).map (fun d => d.parameters.length) = some 1 := by decide +kernel
theorem hy_X1_copyFrom : plainName yX1_copyFrom.cls = true := by decide +kernel
theorem hv_X1_has : yX1_has.cls = RX1 ∧ yX1_has.cls ≠ "java/lang/invoke/MethodHandle" ∧ yX1_has.cls ≠ "java/lang/invoke/VarHandle" ∧ (parseMethodDescriptor yX1_has.desc).map (fun d => d.parameters.length) = some 1 := by decide +kernel
theorem hy_X1_has : plainName yX1_has.cls = true := by decide +kernel
theorem hv_X1_begin : yX1_begin.cls = RX1 ∧ yX1_begin.cls ≠ "java/lang/invoke/MethodHandle" ∧ yX1_begin.cls ≠ "java/lang/invoke/VarHandle" ∧ (parseMethodDescriptor yX1_begin.desc).map (fun d => d.parameters.length) = some 0 := by decide +kernel
theorem hy_X1_begin : plainName yX1_begin.cls = true := by decide +kernel
theorem hv_X1_join : yX1_join.cls = RX1 ∧ yX1_join.cls ≠ "java/lang/invoke/MethodHandle" ∧ yX1_join.cls ≠ "java/lang/invoke/VarHandle" ∧ (parseMethodDescriptor yX1_join.desc).map (fun d => d.parameters.length) = some 2 := by decide +kernel
theorem hy_X1_join : plainName yX1_join.cls = true := by decide +kernel
theorem hv_X1_leave : yX1_leave.cls = RX1 ∧ yX1_leave.cls ≠ "java/lang/invoke/MethodHandle" ∧ yX1_leave.cls ≠ "java/lang/invoke/VarHandle" ∧ (parseMethodDescriptor yX1_leave.desc).map (fun d => d.parameters.length) = some 2 := by decide +kernel
theorem hy_X1_leave : plainName yX1_leave.cls = true := by decide +kernel
theorem hv_X1_close : yX1_close.cls = RX1 ∧ yX1_close.cls ≠ "java/lang/invoke/MethodHandle" ∧ yX1_close.cls ≠ "java/lang/invoke/VarHandle" ∧ (parseMethodDescriptor yX1_close.desc).map (fun d => d.parameters.length) = some 2 := by decide +kernel
theorem hy_X1_close : plainName yX1_close.cls = true := by decide +kernel
theorem hv_X1_setState : yX1_setState.cls = RX1 ∧ yX1_setState.cls ≠ "java/lang/invoke/MethodHandle" ∧ yX1_setState.cls ≠ "java/lang/invoke/VarHandle" ∧ (parseMethodDescriptor yX1_setState.desc).map (fun d => d.parameters.length) = some 2 := by decide +kernel
theorem hy_X1_setState : plainName yX1_setState.cls = true := by decide +kernel
theorem hv_X1_stateOf : yX1_stateOf.cls = RX1 ∧ yX1_stateOf.cls ≠ "java/lang/invoke/MethodHandle" ∧ yX1_stateOf.cls ≠ "java/lang/invoke/VarHandle" ∧ (parseMethodDescriptor yX1_stateOf.desc).map (fun d => d.parameters.length) = some 1 := by decide +kernel
theorem hy_X1_stateOf : plainName yX1_stateOf.cls = true := by decide +kernel
theorem hv_X1_membersOf : yX1_membersOf.cls = RX1 ∧ yX1_membersOf.cls ≠ "java/lang/invoke/MethodHandle" ∧ yX1_membersOf.cls ≠ "java/lang/invoke/VarHandle" ∧ (parseMethodDescriptor yX1_membersOf.desc).map (fun d => d.parameters.length) = some 1 := by decide +kernel
theorem hy_X1_membersOf : plainName yX1_membersOf.cls = true := by decide +kernel
theorem hv_X1_recordsOf : yX1_recordsOf.cls = RX1 ∧ yX1_recordsOf.cls ≠ "java/lang/invoke/MethodHandle" ∧ yX1_recordsOf.cls ≠ "java/lang/invoke/VarHandle" ∧ (parseMethodDescriptor yX1_recordsOf.desc).map (fun d => d.parameters.length) = some 1 := by decide +kernel
theorem hy_X1_recordsOf : plainName yX1_recordsOf.cls = true := by decide +kernel
theorem hv_X1_reasonOf : yX1_reasonOf.cls = RX1 ∧ yX1_reasonOf.cls ≠ "java/lang/invoke/MethodHandle" ∧ yX1_reasonOf.cls ≠ "java/lang/invoke/VarHandle" ∧ (parseMethodDescriptor yX1_reasonOf.desc).map (fun d => d.parameters.length) = some 1 := by decide +kernel
theorem hy_X1_reasonOf : plainName yX1_reasonOf.cls = true := by decide +kernel
theorem hv_X2_init : yX2_init.cls = RX2 ∧ yX2_init.cls ≠ "java/lang/invoke/MethodHandle" ∧ yX2_init.cls ≠ "java/lang/invoke/VarHandle" ∧ (parseMethodDescriptor yX2_init.desc).map (fun d => d.parameters.length) = some 0 := by decide +kernel
theorem hy_X2_init : plainName yX2_init.cls = true := by decide +kernel
theorem hv_X2_size : yX2_size.cls = RX2 ∧ yX2_size.cls ≠ "java/lang/invoke/MethodHandle" ∧ yX2_size.cls ≠ "java/lang/invoke/VarHandle" ∧ (parseMethodDescriptor yX2_size.desc).map (fun d => d.parameters.length) = some 0 := by decide +kernel
theorem hy_X2_size : plainName yX2_size.cls = true := by decide +kernel
theorem hv_X2_push : yX2_push.cls = RX2 ∧ yX2_push.cls ≠ "java/lang/invoke/MethodHandle" ∧ yX2_push.cls ≠ "java/lang/invoke/VarHandle" ∧ (parseMethodDescriptor yX2_push.desc).map (fun d => d.parameters.length) = some 1 := by decide +kernel
theorem hy_X2_push : plainName yX2_push.cls = true := by decide +kernel
theorem hv_X2_stateAt : yX2_stateAt.cls = RX2 ∧ yX2_stateAt.cls ≠ "java/lang/invoke/MethodHandle" ∧ yX2_stateAt.cls ≠ "java/lang/invoke/VarHandle" ∧ (parseMethodDescriptor yX2_stateAt.desc).map (fun d => d.parameters.length) = some 1 := by decide +kernel
theorem hy_X2_stateAt : plainName yX2_stateAt.cls = true := by decide +kernel
theorem hv_X2_popInto : yX2_popInto.cls = RX2 ∧ yX2_popInto.cls ≠ "java/lang/invoke/MethodHandle" ∧ yX2_popInto.cls ≠ "java/lang/invoke/VarHandle" ∧ (parseMethodDescriptor yX2_popInto.desc).map (fun d => d.parameters.length) = some 1 := by decide +kernel
theorem hy_X2_popInto : plainName yX2_popInto.cls = true := by decide +kernel
theorem hv_X3_init : yX3_init.cls = RX3 ∧ yX3_init.cls ≠ "java/lang/invoke/MethodHandle" ∧ yX3_init.cls ≠ "java/lang/invoke/VarHandle" ∧ (parseMethodDescriptor yX3_init.desc).map (fun d => d.parameters.length) = some 0 := by decide +kernel
theorem hy_X3_init : plainName yX3_init.cls = true := by decide +kernel
theorem hv_X3_copyFrom : yX3_copyFrom.cls = RX3 ∧ yX3_copyFrom.cls ≠ "java/lang/invoke/MethodHandle" ∧ yX3_copyFrom.cls ≠ "java/lang/invoke/VarHandle" ∧ (parseMethodDescriptor yX3_copyFrom.desc).map (fun d => d.parameters.length) = some 1 := by decide +kernel
theorem hy_X3_copyFrom : plainName yX3_copyFrom.cls = true := by decide +kernel
theorem hv_X3_isClient : yX3_isClient.cls ≠ "java/lang/invoke/MethodHandle" ∧ yX3_isClient.cls ≠ "java/lang/invoke/VarHandle" ∧ (parseMethodDescriptor yX3_isClient.desc).map (fun d => d.parameters.length) = some 1 := by decide +kernel
theorem hy_X3_isClient : plainName yX3_isClient.cls = true := by decide +kernel
theorem hv_X3_openCommitOf : yX3_openCommitOf.cls = RX3 ∧ yX3_openCommitOf.cls ≠ "java/lang/invoke/MethodHandle" ∧ yX3_openCommitOf.cls ≠ "java/lang/invoke/VarHandle" ∧ (parseMethodDescriptor yX3_openCommitOf.desc).map (fun d => d.parameters.length) = some 1 := by decide +kernel
theorem hy_X3_openCommitOf : plainName yX3_openCommitOf.cls = true := by decide +kernel
theorem hv_X3_setOpenCommit : yX3_setOpenCommit.cls = RX3 ∧ yX3_setOpenCommit.cls ≠ "java/lang/invoke/MethodHandle" ∧ yX3_setOpenCommit.cls ≠ "java/lang/invoke/VarHandle" ∧ (parseMethodDescriptor yX3_setOpenCommit.desc).map (fun d => d.parameters.length) = some 2 := by decide +kernel
theorem hy_X3_setOpenCommit : plainName yX3_setOpenCommit.cls = true := by decide +kernel
theorem hv_X3_busyClients : yX3_busyClients.cls = RX3 ∧ yX3_busyClients.cls ≠ "java/lang/invoke/MethodHandle" ∧ yX3_busyClients.cls ≠ "java/lang/invoke/VarHandle" ∧ (parseMethodDescriptor yX3_busyClients.desc).map (fun d => d.parameters.length) = some 0 := by decide +kernel
theorem hy_X3_busyClients : plainName yX3_busyClients.cls = true := by decide +kernel
theorem hv_X3_isRecords : yX3_isRecords.cls ≠ "java/lang/invoke/MethodHandle" ∧ yX3_isRecords.cls ≠ "java/lang/invoke/VarHandle" ∧ (parseMethodDescriptor yX3_isRecords.desc).map (fun d => d.parameters.length) = some 1 := by decide +kernel
theorem hy_X3_isRecords : plainName yX3_isRecords.cls = true := by decide +kernel
theorem hv_X3_refusalToEnter : yX3_refusalToEnter.cls = RX3 ∧ yX3_refusalToEnter.cls ≠ "java/lang/invoke/MethodHandle" ∧ yX3_refusalToEnter.cls ≠ "java/lang/invoke/VarHandle" ∧ (parseMethodDescriptor yX3_refusalToEnter.desc).map (fun d => d.parameters.length) = some 2 := by decide +kernel
theorem hy_X3_refusalToEnter : plainName yX3_refusalToEnter.cls = true := by decide +kernel
theorem hv_X3_refusalOfAnyEntry : yX3_refusalOfAnyEntry.cls = RX3 ∧ yX3_refusalOfAnyEntry.cls ≠ "java/lang/invoke/MethodHandle" ∧ yX3_refusalOfAnyEntry.cls ≠ "java/lang/invoke/VarHandle" ∧ (parseMethodDescriptor yX3_refusalOfAnyEntry.desc).map (fun d => d.parameters.length) = some 1 := by decide +kernel
theorem hy_X3_refusalOfAnyEntry : plainName yX3_refusalOfAnyEntry.cls = true := by decide +kernel
theorem hv_X3_enter : yX3_enter.cls = RX3 ∧ yX3_enter.cls ≠ "java/lang/invoke/MethodHandle" ∧ yX3_enter.cls ≠ "java/lang/invoke/VarHandle" ∧ (parseMethodDescriptor yX3_enter.desc).map (fun d => d.parameters.length) = some 3 := by decide +kernel
theorem hy_X3_enter : plainName yX3_enter.cls = true := by decide +kernel
theorem hv_X3_loseClient : yX3_loseClient.cls = RX3 ∧ yX3_loseClient.cls ≠ "java/lang/invoke/MethodHandle" ∧ yX3_loseClient.cls ≠ "java/lang/invoke/VarHandle" ∧ (parseMethodDescriptor yX3_loseClient.desc).map (fun d => d.parameters.length) = some 1 := by decide +kernel
theorem hy_X3_loseClient : plainName yX3_loseClient.cls = true := by decide +kernel
theorem hv_X3_refusalToTakeBack : yX3_refusalToTakeBack.cls = RX3 ∧ yX3_refusalToTakeBack.cls ≠ "java/lang/invoke/MethodHandle" ∧ yX3_refusalToTakeBack.cls ≠ "java/lang/invoke/VarHandle" ∧ (parseMethodDescriptor yX3_refusalToTakeBack.desc).map (fun d => d.parameters.length) = some 1 := by decide +kernel
theorem hy_X3_refusalToTakeBack : plainName yX3_refusalToTakeBack.cls = true := by decide +kernel
theorem hv_X3_takeBack : yX3_takeBack.cls = RX3 ∧ yX3_takeBack.cls ≠ "java/lang/invoke/MethodHandle" ∧ yX3_takeBack.cls ≠ "java/lang/invoke/VarHandle" ∧ (parseMethodDescriptor yX3_takeBack.desc).map (fun d => d.parameters.length) = some 1 := by decide +kernel
theorem hy_X3_takeBack : plainName yX3_takeBack.cls = true := by decide +kernel
theorem hv_X3_endCommit : yX3_endCommit.cls = RX3 ∧ yX3_endCommit.cls ≠ "java/lang/invoke/MethodHandle" ∧ yX3_endCommit.cls ≠ "java/lang/invoke/VarHandle" ∧ (parseMethodDescriptor yX3_endCommit.desc).map (fun d => d.parameters.length) = some 2 := by decide +kernel
theorem hy_X3_endCommit : plainName yX3_endCommit.cls = true := by decide +kernel
theorem hv_X3_beginGroup : yX3_beginGroup.cls = RX3 ∧ yX3_beginGroup.cls ≠ "java/lang/invoke/MethodHandle" ∧ yX3_beginGroup.cls ≠ "java/lang/invoke/VarHandle" ∧ (parseMethodDescriptor yX3_beginGroup.desc).map (fun d => d.parameters.length) = some 0 := by decide +kernel
theorem hy_X3_beginGroup : plainName yX3_beginGroup.cls = true := by decide +kernel
theorem hv_X3_reasonToClose : yX3_reasonToClose.cls = RX3 ∧ yX3_reasonToClose.cls ≠ "java/lang/invoke/MethodHandle" ∧ yX3_reasonToClose.cls ≠ "java/lang/invoke/VarHandle" ∧ (parseMethodDescriptor yX3_reasonToClose.desc).map (fun d => d.parameters.length) = some 3 := by decide +kernel
theorem hy_X3_reasonToClose : plainName yX3_reasonToClose.cls = true := by decide +kernel
theorem hv_X3_closeGathering : yX3_closeGathering.cls = RX3 ∧ yX3_closeGathering.cls ≠ "java/lang/invoke/MethodHandle" ∧ yX3_closeGathering.cls ≠ "java/lang/invoke/VarHandle" ∧ (parseMethodDescriptor yX3_closeGathering.desc).map (fun d => d.parameters.length) = some 1 := by decide +kernel
theorem hy_X3_closeGathering : plainName yX3_closeGathering.cls = true := by decide +kernel
theorem hv_X3_learnWait : yX3_learnWait.cls = RX3 ∧ yX3_learnWait.cls ≠ "java/lang/invoke/MethodHandle" ∧ yX3_learnWait.cls ≠ "java/lang/invoke/VarHandle" ∧ (parseMethodDescriptor yX3_learnWait.desc).map (fun d => d.parameters.length) = some 1 := by decide +kernel
theorem hy_X3_learnWait : plainName yX3_learnWait.cls = true := by decide +kernel
theorem hv_X3_leaveGathering : yX3_leaveGathering.cls = RX3 ∧ yX3_leaveGathering.cls ≠ "java/lang/invoke/MethodHandle" ∧ yX3_leaveGathering.cls ≠ "java/lang/invoke/VarHandle" ∧ (parseMethodDescriptor yX3_leaveGathering.desc).map (fun d => d.parameters.length) = some 1 := by decide +kernel
theorem hy_X3_leaveGathering : plainName yX3_leaveGathering.cls = true := by decide +kernel
theorem hv_X3_ticksToWrite : yX3_ticksToWrite.cls = RX3 ∧ yX3_ticksToWrite.cls ≠ "java/lang/invoke/MethodHandle" ∧ yX3_ticksToWrite.cls ≠ "java/lang/invoke/VarHandle" ∧ (parseMethodDescriptor yX3_ticksToWrite.desc).map (fun d => d.parameters.length) = some 1 := by decide +kernel
theorem hy_X3_ticksToWrite : plainName yX3_ticksToWrite.cls = true := by decide +kernel
theorem hv_X3_startWriting : yX3_startWriting.cls = RX3 ∧ yX3_startWriting.cls ≠ "java/lang/invoke/MethodHandle" ∧ yX3_startWriting.cls ≠ "java/lang/invoke/VarHandle" ∧ (parseMethodDescriptor yX3_startWriting.desc).map (fun d => d.parameters.length) = some 0 := by decide +kernel
theorem hy_X3_startWriting : plainName yX3_startWriting.cls = true := by decide +kernel
theorem hv_X3_time : yX3_time.cls = RX3 ∧ yX3_time.cls ≠ "java/lang/invoke/MethodHandle" ∧ yX3_time.cls ≠ "java/lang/invoke/VarHandle" ∧ (parseMethodDescriptor yX3_time.desc).map (fun d => d.parameters.length) = some 0 := by decide +kernel
theorem hy_X3_time : plainName yX3_time.cls = true := by decide +kernel
theorem hv_X3_change : yX3_change.cls = RX3 ∧ yX3_change.cls ≠ "java/lang/invoke/MethodHandle" ∧ yX3_change.cls ≠ "java/lang/invoke/VarHandle" ∧ (parseMethodDescriptor yX3_change.desc).map (fun d => d.parameters.length) = some 2 := by decide +kernel
theorem hy_X3_change : plainName yX3_change.cls = true := by decide +kernel
theorem hv_X3_passTicks : yX3_passTicks.cls = RX3 ∧ yX3_passTicks.cls ≠ "java/lang/invoke/MethodHandle" ∧ yX3_passTicks.cls ≠ "java/lang/invoke/VarHandle" ∧ (parseMethodDescriptor yX3_passTicks.desc).map (fun d => d.parameters.length) = some 1 := by decide +kernel
theorem hy_X3_passTicks : plainName yX3_passTicks.cls = true := by decide +kernel
theorem hv_X3_passTick : yX3_passTick.cls = RX3 ∧ yX3_passTick.cls ≠ "java/lang/invoke/MethodHandle" ∧ yX3_passTick.cls ≠ "java/lang/invoke/VarHandle" ∧ (parseMethodDescriptor yX3_passTick.desc).map (fun d => d.parameters.length) = some 0 := by decide +kernel
theorem hy_X3_passTick : plainName yX3_passTick.cls = true := by decide +kernel
theorem hv_X3_finishWriting : yX3_finishWriting.cls = RX3 ∧ yX3_finishWriting.cls ≠ "java/lang/invoke/MethodHandle" ∧ yX3_finishWriting.cls ≠ "java/lang/invoke/VarHandle" ∧ (parseMethodDescriptor yX3_finishWriting.desc).map (fun d => d.parameters.length) = some 0 := by decide +kernel
theorem hy_X3_finishWriting : plainName yX3_finishWriting.cls = true := by decide +kernel
theorem hv_X3_loseAll : yX3_loseAll.cls = RX3 ∧ yX3_loseAll.cls ≠ "java/lang/invoke/MethodHandle" ∧ yX3_loseAll.cls ≠ "java/lang/invoke/VarHandle" ∧ (parseMethodDescriptor yX3_loseAll.desc).map (fun d => d.parameters.length) = some 0 := by decide +kernel
theorem hy_X3_loseAll : plainName yX3_loseAll.cls = true := by decide +kernel
theorem hv_X3_dropGroups : yX3_dropGroups.cls = RX3 ∧ yX3_dropGroups.cls ≠ "java/lang/invoke/MethodHandle" ∧ yX3_dropGroups.cls ≠ "java/lang/invoke/VarHandle" ∧ (parseMethodDescriptor yX3_dropGroups.desc).map (fun d => d.parameters.length) = some 0 := by decide +kernel
theorem hy_X3_dropGroups : plainName yX3_dropGroups.cls = true := by decide +kernel
theorem hv_X3_aboutCommit : yX3_aboutCommit.cls = RX3 ∧ yX3_aboutCommit.cls ≠ "java/lang/invoke/MethodHandle" ∧ yX3_aboutCommit.cls ≠ "java/lang/invoke/VarHandle" ∧ (parseMethodDescriptor yX3_aboutCommit.desc).map (fun d => d.parameters.length) = some 2 := by decide +kernel
theorem hy_X3_aboutCommit : plainName yX3_aboutCommit.cls = true := by decide +kernel
theorem hv_X3_aboutGroup : yX3_aboutGroup.cls = RX3 ∧ yX3_aboutGroup.cls ≠ "java/lang/invoke/MethodHandle" ∧ yX3_aboutGroup.cls ≠ "java/lang/invoke/VarHandle" ∧ (parseMethodDescriptor yX3_aboutGroup.desc).map (fun d => d.parameters.length) = some 2 := by decide +kernel
theorem hy_X3_aboutGroup : plainName yX3_aboutGroup.cls = true := by decide +kernel
theorem hv_X3_memberAt : yX3_memberAt.cls = RX3 ∧ yX3_memberAt.cls ≠ "java/lang/invoke/MethodHandle" ∧ yX3_memberAt.cls ≠ "java/lang/invoke/VarHandle" ∧ (parseMethodDescriptor yX3_memberAt.desc).map (fun d => d.parameters.length) = some 2 := by decide +kernel
theorem hy_X3_memberAt : plainName yX3_memberAt.cls = true := by decide +kernel
theorem hv_X3_queuedAt : yX3_queuedAt.cls = RX3 ∧ yX3_queuedAt.cls ≠ "java/lang/invoke/MethodHandle" ∧ yX3_queuedAt.cls ≠ "java/lang/invoke/VarHandle" ∧ (parseMethodDescriptor yX3_queuedAt.desc).map (fun d => d.parameters.length) = some 1 := by decide +kernel
theorem hy_X3_queuedAt : plainName yX3_queuedAt.cls = true := by decide +kernel
theorem hv_X3_aboutNow : yX3_aboutNow.cls = RX3 ∧ yX3_aboutNow.cls ≠ "java/lang/invoke/MethodHandle" ∧ yX3_aboutNow.cls ≠ "java/lang/invoke/VarHandle" ∧ (parseMethodDescriptor yX3_aboutNow.desc).map (fun d => d.parameters.length) = some 1 := by decide +kernel
theorem hy_X3_aboutNow : plainName yX3_aboutNow.cls = true := by decide +kernel
theorem hv_X3_totalOf : yX3_totalOf.cls = RX3 ∧ yX3_totalOf.cls ≠ "java/lang/invoke/MethodHandle" ∧ yX3_totalOf.cls ≠ "java/lang/invoke/VarHandle" ∧ (parseMethodDescriptor yX3_totalOf.desc).map (fun d => d.parameters.length) = some 1 := by decide +kernel
theorem hy_X3_totalOf : plainName yX3_totalOf.cls = true := by decide +kernel
theorem hv_X3_meanTicks : yX3_meanTicks.cls = RX3 ∧ yX3_meanTicks.cls ≠ "java/lang/invoke/MethodHandle" ∧ yX3_meanTicks.cls ≠ "java/lang/invoke/VarHandle" ∧ (parseMethodDescriptor yX3_meanTicks.desc).map (fun d => d.parameters.length) = some 0 := by decide +kernel
theorem hy_X3_meanTicks : plainName yX3_meanTicks.cls = true := by decide +kernel
theorem hv_X3_ticksToAnswer : yX3_ticksToAnswer.cls = RX3 ∧ yX3_ticksToAnswer.cls ≠ "java/lang/invoke/MethodHandle" ∧ yX3_ticksToAnswer.cls ≠ "java/lang/invoke/VarHandle" ∧ (parseMethodDescriptor yX3_ticksToAnswer.desc).map (fun d => d.parameters.length) = some 1 := by decide +kernel
theorem hy_X3_ticksToAnswer : plainName yX3_ticksToAnswer.cls = true := by decide +kernel
theorem hv_X3_ticksToWritten : yX3_ticksToWritten.cls = RX3 ∧ yX3_ticksToWritten.cls ≠ "java/lang/invoke/MethodHandle" ∧ yX3_ticksToWritten.cls ≠ "java/lang/invoke/VarHandle" ∧ (parseMethodDescriptor yX3_ticksToWritten.desc).map (fun d => d.parameters.length) = some 1 := by decide +kernel
theorem hy_X3_ticksToWritten : plainName yX3_ticksToWritten.cls = true := by decide +kernel
theorem hv_X3_ticksToEndOfWriting : yX3_ticksToEndOfWriting.cls = RX3 ∧ yX3_ticksToEndOfWriting.cls ≠ "java/lang/invoke/MethodHandle" ∧ yX3_ticksToEndOfWriting.cls ≠ "java/lang/invoke/VarHandle" ∧ (parseMethodDescriptor yX3_ticksToEndOfWriting.desc).map (fun d => d.parameters.length) = some 0 := by decide +kernel
theorem hy_X3_ticksToEndOfWriting : plainName yX3_ticksToEndOfWriting.cls = true := by decide +kernel
theorem hv_X3_ticksToFreeDisk : yX3_ticksToFreeDisk.cls = RX3 ∧ yX3_ticksToFreeDisk.cls ≠ "java/lang/invoke/MethodHandle" ∧ yX3_ticksToFreeDisk.cls ≠ "java/lang/invoke/VarHandle" ∧ (parseMethodDescriptor yX3_ticksToFreeDisk.desc).map (fun d => d.parameters.length) = some 0 := by decide +kernel
theorem hy_X3_ticksToFreeDisk : plainName yX3_ticksToFreeDisk.cls = true := by decide +kernel
theorem hv_X3_ticksIfEntered : yX3_ticksIfEntered.cls = RX3 ∧ yX3_ticksIfEntered.cls ≠ "java/lang/invoke/MethodHandle" ∧ yX3_ticksIfEntered.cls ≠ "java/lang/invoke/VarHandle" ∧ (parseMethodDescriptor yX3_ticksIfEntered.desc).map (fun d => d.parameters.length) = some 2 := by decide +kernel
theorem hy_X3_ticksIfEntered : plainName yX3_ticksIfEntered.cls = true := by decide +kernel
theorem hv_X3_ticksToIdle : yX3_ticksToIdle.cls = RX3 ∧ yX3_ticksToIdle.cls ≠ "java/lang/invoke/MethodHandle" ∧ yX3_ticksToIdle.cls ≠ "java/lang/invoke/VarHandle" ∧ (parseMethodDescriptor yX3_ticksToIdle.desc).map (fun d => d.parameters.length) = some 0 := by decide +kernel
theorem hy_X3_ticksToIdle : plainName yX3_ticksToIdle.cls = true := by decide +kernel
theorem hv_X4_init : yX4_init.cls = RX4 ∧ yX4_init.cls ≠ "java/lang/invoke/MethodHandle" ∧ yX4_init.cls ≠ "java/lang/invoke/VarHandle" ∧ (parseMethodDescriptor yX4_init.desc).map (fun d => d.parameters.length) = some 0 := by decide +kernel
theorem hy_X4_init : plainName yX4_init.cls = true := by decide +kernel
theorem hv_X4_copyFrom : yX4_copyFrom.cls = RX4 ∧ yX4_copyFrom.cls ≠ "java/lang/invoke/MethodHandle" ∧ yX4_copyFrom.cls ≠ "java/lang/invoke/VarHandle" ∧ (parseMethodDescriptor yX4_copyFrom.desc).map (fun d => d.parameters.length) = some 1 := by decide +kernel
theorem hy_X4_copyFrom : plainName yX4_copyFrom.cls = true := by decide +kernel
theorem hv_X4_size : yX4_size.cls = RX4 ∧ yX4_size.cls ≠ "java/lang/invoke/MethodHandle" ∧ yX4_size.cls ≠ "java/lang/invoke/VarHandle" ∧ (parseMethodDescriptor yX4_size.desc).map (fun d => d.parameters.length) = some 0 := by decide +kernel
theorem hy_X4_size : plainName yX4_size.cls = true := by decide +kernel
theorem hv_X4_add : yX4_add.cls = RX4 ∧ yX4_add.cls ≠ "java/lang/invoke/MethodHandle" ∧ yX4_add.cls ≠ "java/lang/invoke/VarHandle" ∧ (parseMethodDescriptor yX4_add.desc).map (fun d => d.parameters.length) = some 1 := by decide +kernel
theorem hy_X4_add : plainName yX4_add.cls = true := by decide +kernel
theorem hv_X4_at : yX4_at.cls = RX4 ∧ yX4_at.cls ≠ "java/lang/invoke/MethodHandle" ∧ yX4_at.cls ≠ "java/lang/invoke/VarHandle" ∧ (parseMethodDescriptor yX4_at.desc).map (fun d => d.parameters.length) = some 1 := by decide +kernel
theorem hy_X4_at : plainName yX4_at.cls = true := by decide +kernel
theorem hv_X4_takeFirst : yX4_takeFirst.cls = RX4 ∧ yX4_takeFirst.cls ≠ "java/lang/invoke/MethodHandle" ∧ yX4_takeFirst.cls ≠ "java/lang/invoke/VarHandle" ∧ (parseMethodDescriptor yX4_takeFirst.desc).map (fun d => d.parameters.length) = some 0 := by decide +kernel
theorem hy_X4_takeFirst : plainName yX4_takeFirst.cls = true := by decide +kernel
theorem hv_X5_init : yX5_init.cls = RX5 ∧ yX5_init.cls ≠ "java/lang/invoke/MethodHandle" ∧ yX5_init.cls ≠ "java/lang/invoke/VarHandle" ∧ (parseMethodDescriptor yX5_init.desc).map (fun d => d.parameters.length) = some 0 := by decide +kernel
theorem hy_X5_init : plainName yX5_init.cls = true := by decide +kernel
theorem hv_X5_length : yX5_length.cls = RX5 ∧ yX5_length.cls ≠ "java/lang/invoke/MethodHandle" ∧ yX5_length.cls ≠ "java/lang/invoke/VarHandle" ∧ (parseMethodDescriptor yX5_length.desc).map (fun d => d.parameters.length) = some 0 := by decide +kernel
theorem hy_X5_length : plainName yX5_length.cls = true := by decide +kernel
theorem hv_X5_add : yX5_add.cls = RX5 ∧ yX5_add.cls ≠ "java/lang/invoke/MethodHandle" ∧ yX5_add.cls ≠ "java/lang/invoke/VarHandle" ∧ (parseMethodDescriptor yX5_add.desc).map (fun d => d.parameters.length) = some 1 := by decide +kernel
theorem hy_X5_add : plainName yX5_add.cls = true := by decide +kernel
theorem hv_X5_empty : yX5_empty.cls = RX5 ∧ yX5_empty.cls ≠ "java/lang/invoke/MethodHandle" ∧ yX5_empty.cls ≠ "java/lang/invoke/VarHandle" ∧ (parseMethodDescriptor yX5_empty.desc).map (fun d => d.parameters.length) = some 0 := by decide +kernel
theorem hy_X5_empty : plainName yX5_empty.cls = true := by decide +kernel
theorem hv_X5_characterAt : yX5_characterAt.cls = RX5 ∧ yX5_characterAt.cls ≠ "java/lang/invoke/MethodHandle" ∧ yX5_characterAt.cls ≠ "java/lang/invoke/VarHandle" ∧ (parseMethodDescriptor yX5_characterAt.desc).map (fun d => d.parameters.length) = some 1 := by decide +kernel
theorem hy_X5_characterAt : plainName yX5_characterAt.cls = true := by decide +kernel
theorem hv_X5_firstFault : yX5_firstFault.cls = RX5 ∧ yX5_firstFault.cls ≠ "java/lang/invoke/MethodHandle" ∧ yX5_firstFault.cls ≠ "java/lang/invoke/VarHandle" ∧ (parseMethodDescriptor yX5_firstFault.desc).map (fun d => d.parameters.length) = some 0 := by decide +kernel
theorem hy_X5_firstFault : plainName yX5_firstFault.cls = true := by decide +kernel
theorem hv_X5_isComplete : yX5_isComplete.cls ≠ "java/lang/invoke/MethodHandle" ∧ yX5_isComplete.cls ≠ "java/lang/invoke/VarHandle" ∧ (parseMethodDescriptor yX5_isComplete.desc).map (fun d => d.parameters.length) = some 1 := by decide +kernel
theorem hy_X5_isComplete : plainName yX5_isComplete.cls = true := by decide +kernel
theorem hv_X5_after : yX5_after.cls ≠ "java/lang/invoke/MethodHandle" ∧ yX5_after.cls ≠ "java/lang/invoke/VarHandle" ∧ (parseMethodDescriptor yX5_after.desc).map (fun d => d.parameters.length) = some 2 := by decide +kernel
theorem hy_X5_after : plainName yX5_after.cls = true := by decide +kernel
theorem hv_X5_afterFirst : yX5_afterFirst.cls ≠ "java/lang/invoke/MethodHandle" ∧ yX5_afterFirst.cls ≠ "java/lang/invoke/VarHandle" ∧ (parseMethodDescriptor yX5_afterFirst.desc).map (fun d => d.parameters.length) = some 1 := by decide +kernel
theorem hy_X5_afterFirst : plainName yX5_afterFirst.cls = true := by decide +kernel
theorem hv_X5_isDigit : yX5_isDigit.cls ≠ "java/lang/invoke/MethodHandle" ∧ yX5_isDigit.cls ≠ "java/lang/invoke/VarHandle" ∧ (parseMethodDescriptor yX5_isDigit.desc).map (fun d => d.parameters.length) = some 1 := by decide +kernel
theorem hy_X5_isDigit : plainName yX5_isDigit.cls = true := by decide +kernel
theorem hv_X5_orders : yX5_orders.cls = RX5 ∧ yX5_orders.cls ≠ "java/lang/invoke/MethodHandle" ∧ yX5_orders.cls ≠ "java/lang/invoke/VarHandle" ∧ (parseMethodDescriptor yX5_orders.desc).map (fun d => d.parameters.length) = some 0 := by decide +kernel
theorem hy_X5_orders : plainName yX5_orders.cls = true := by decide +kernel
theorem hv_X5_goToStart : yX5_goToStart.cls = RX5 ∧ yX5_goToStart.cls ≠ "java/lang/invoke/MethodHandle" ∧ yX5_goToStart.cls ≠ "java/lang/invoke/VarHandle" ∧ (parseMethodDescriptor yX5_goToStart.desc).map (fun d => d.parameters.length) = some 0 := by decide +kernel
theorem hy_X5_goToStart : plainName yX5_goToStart.cls = true := by decide +kernel
theorem hv_X5_readOrder : yX5_readOrder.cls = RX5 ∧ yX5_readOrder.cls ≠ "java/lang/invoke/MethodHandle" ∧ yX5_readOrder.cls ≠ "java/lang/invoke/VarHandle" ∧ (parseMethodDescriptor yX5_readOrder.desc).map (fun d => d.parameters.length) = some 0 := by decide +kernel
theorem hy_X5_readOrder : plainName yX5_readOrder.cls = true := by decide +kernel
theorem hv_X5_kindOf : yX5_kindOf.cls ≠ "java/lang/invoke/MethodHandle" ∧ yX5_kindOf.cls ≠ "java/lang/invoke/VarHandle" ∧ (parseMethodDescriptor yX5_kindOf.desc).map (fun d => d.parameters.length) = some 1 := by decide +kernel
theorem hy_X5_kindOf : plainName yX5_kindOf.cls = true := by decide +kernel
theorem hv_X5_readNumber : yX5_readNumber.cls = RX5 ∧ yX5_readNumber.cls ≠ "java/lang/invoke/MethodHandle" ∧ yX5_readNumber.cls ≠ "java/lang/invoke/VarHandle" ∧ (parseMethodDescriptor yX5_readNumber.desc).map (fun d => d.parameters.length) = some 0 := by decide +kernel
theorem hy_X5_readNumber : plainName yX5_readNumber.cls = true := by decide +kernel
theorem hv_X5_readRecords : yX5_readRecords.cls = RX5 ∧ yX5_readRecords.cls ≠ "java/lang/invoke/MethodHandle" ∧ yX5_readRecords.cls ≠ "java/lang/invoke/VarHandle" ∧ (parseMethodDescriptor yX5_readRecords.desc).map (fun d => d.parameters.length) = some 0 := by decide +kernel
theorem hy_X5_readRecords : plainName yX5_readRecords.cls = true := by decide +kernel
theorem hv_X5_kind : yX5_kind.cls = RX5 ∧ yX5_kind.cls ≠ "java/lang/invoke/MethodHandle" ∧ yX5_kind.cls ≠ "java/lang/invoke/VarHandle" ∧ (parseMethodDescriptor yX5_kind.desc).map (fun d => d.parameters.length) = some 0 := by decide +kernel
theorem hy_X5_kind : plainName yX5_kind.cls = true := by decide +kernel
theorem hv_X5_number : yX5_number.cls = RX5 ∧ yX5_number.cls ≠ "java/lang/invoke/MethodHandle" ∧ yX5_number.cls ≠ "java/lang/invoke/VarHandle" ∧ (parseMethodDescriptor yX5_number.desc).map (fun d => d.parameters.length) = some 0 := by decide +kernel
theorem hy_X5_number : plainName yX5_number.cls = true := by decide +kernel
theorem hv_X5_records : yX5_records.cls = RX5 ∧ yX5_records.cls ≠ "java/lang/invoke/MethodHandle" ∧ yX5_records.cls ≠ "java/lang/invoke/VarHandle" ∧ (parseMethodDescriptor yX5_records.desc).map (fun d => d.parameters.length) = some 0 := by decide +kernel
theorem hy_X5_records : plainName yX5_records.cls = true := by decide +kernel
theorem hv_X5_isUrgent : yX5_isUrgent.cls = RX5 ∧ yX5_isUrgent.cls ≠ "java/lang/invoke/MethodHandle" ∧ yX5_isUrgent.cls ≠ "java/lang/invoke/VarHandle" ∧ (parseMethodDescriptor yX5_isUrgent.desc).map (fun d => d.parameters.length) = some 0 := by decide +kernel
theorem hy_X5_isUrgent : plainName yX5_isUrgent.cls = true := by decide +kernel
theorem hv_X6_init : yX6_init.cls = RX6 ∧ yX6_init.cls ≠ "java/lang/invoke/MethodHandle" ∧ yX6_init.cls ≠ "java/lang/invoke/VarHandle" ∧ (parseMethodDescriptor yX6_init.desc).map (fun d => d.parameters.length) = some 0 := by decide +kernel
theorem hy_X6_init : plainName yX6_init.cls = true := by decide +kernel
theorem hv_X6_copyFrom : yX6_copyFrom.cls = RX6 ∧ yX6_copyFrom.cls ≠ "java/lang/invoke/MethodHandle" ∧ yX6_copyFrom.cls ≠ "java/lang/invoke/VarHandle" ∧ (parseMethodDescriptor yX6_copyFrom.desc).map (fun d => d.parameters.length) = some 1 := by decide +kernel
theorem hy_X6_copyFrom : plainName yX6_copyFrom.cls = true := by decide +kernel
theorem hv_X6_refusal : yX6_refusal.cls ≠ "java/lang/invoke/MethodHandle" ∧ yX6_refusal.cls ≠ "java/lang/invoke/VarHandle" ∧ (parseMethodDescriptor yX6_refusal.desc).map (fun d => d.parameters.length) = some 2 := by decide +kernel
theorem hy_X6_refusal : plainName yX6_refusal.cls = true := by decide +kernel
theorem hv_X6_valueOf : yX6_valueOf.cls = RX6 ∧ yX6_valueOf.cls ≠ "java/lang/invoke/MethodHandle" ∧ yX6_valueOf.cls ≠ "java/lang/invoke/VarHandle" ∧ (parseMethodDescriptor yX6_valueOf.desc).map (fun d => d.parameters.length) = some 1 := by decide +kernel
theorem hy_X6_valueOf : plainName yX6_valueOf.cls = true := by decide +kernel
theorem hv_X6_change : yX6_change.cls = RX6 ∧ yX6_change.cls ≠ "java/lang/invoke/MethodHandle" ∧ yX6_change.cls ≠ "java/lang/invoke/VarHandle" ∧ (parseMethodDescriptor yX6_change.desc).map (fun d => d.parameters.length) = some 2 := by decide +kernel
theorem hy_X6_change : plainName yX6_change.cls = true := by decide +kernel
theorem hv_X7_init : yX7_init.cls = RX7 ∧ yX7_init.cls ≠ "java/lang/invoke/MethodHandle" ∧ yX7_init.cls ≠ "java/lang/invoke/VarHandle" ∧ (parseMethodDescriptor yX7_init.desc).map (fun d => d.parameters.length) = some 0 := by decide +kernel
theorem hy_X7_init : plainName yX7_init.cls = true := by decide +kernel
theorem hv_X7_submit : yX7_submit.cls = RX7 ∧ yX7_submit.cls ≠ "java/lang/invoke/MethodHandle" ∧ yX7_submit.cls ≠ "java/lang/invoke/VarHandle" ∧ (parseMethodDescriptor yX7_submit.desc).map (fun d => d.parameters.length) = some 3 := by decide +kernel
theorem hy_X7_submit : plainName yX7_submit.cls = true := by decide +kernel
theorem hv_X7_fail : yX7_fail.cls = RX7 ∧ yX7_fail.cls ≠ "java/lang/invoke/MethodHandle" ∧ yX7_fail.cls ≠ "java/lang/invoke/VarHandle" ∧ (parseMethodDescriptor yX7_fail.desc).map (fun d => d.parameters.length) = some 1 := by decide +kernel
theorem hy_X7_fail : plainName yX7_fail.cls = true := by decide +kernel
theorem hv_X7_withdraw : yX7_withdraw.cls = RX7 ∧ yX7_withdraw.cls ≠ "java/lang/invoke/MethodHandle" ∧ yX7_withdraw.cls ≠ "java/lang/invoke/VarHandle" ∧ (parseMethodDescriptor yX7_withdraw.desc).map (fun d => d.parameters.length) = some 1 := by decide +kernel
theorem hy_X7_withdraw : plainName yX7_withdraw.cls = true := by decide +kernel
theorem hv_X7_crash : yX7_crash.cls = RX7 ∧ yX7_crash.cls ≠ "java/lang/invoke/MethodHandle" ∧ yX7_crash.cls ≠ "java/lang/invoke/VarHandle" ∧ (parseMethodDescriptor yX7_crash.desc).map (fun d => d.parameters.length) = some 0 := by decide +kernel
theorem hy_X7_crash : plainName yX7_crash.cls = true := by decide +kernel
theorem hv_X7_tick : yX7_tick.cls = RX7 ∧ yX7_tick.cls ≠ "java/lang/invoke/MethodHandle" ∧ yX7_tick.cls ≠ "java/lang/invoke/VarHandle" ∧ (parseMethodDescriptor yX7_tick.desc).map (fun d => d.parameters.length) = some 1 := by decide +kernel
theorem hy_X7_tick : plainName yX7_tick.cls = true := by decide +kernel
theorem hv_X7_set : yX7_set.cls = RX7 ∧ yX7_set.cls ≠ "java/lang/invoke/MethodHandle" ∧ yX7_set.cls ≠ "java/lang/invoke/VarHandle" ∧ (parseMethodDescriptor yX7_set.desc).map (fun d => d.parameters.length) = some 2 := by decide +kernel
theorem hy_X7_set : plainName yX7_set.cls = true := by decide +kernel
theorem hv_X7_append : yX7_append.cls = RX7 ∧ yX7_append.cls ≠ "java/lang/invoke/MethodHandle" ∧ yX7_append.cls ≠ "java/lang/invoke/VarHandle" ∧ (parseMethodDescriptor yX7_append.desc).map (fun d => d.parameters.length) = some 1 := by decide +kernel
theorem hy_X7_append : plainName yX7_append.cls = true := by decide +kernel
theorem hv_X7_clearText : yX7_clearText.cls = RX7 ∧ yX7_clearText.cls ≠ "java/lang/invoke/MethodHandle" ∧ yX7_clearText.cls ≠ "java/lang/invoke/VarHandle" ∧ (parseMethodDescriptor yX7_clearText.desc).map (fun d => d.parameters.length) = some 0 := by decide +kernel
theorem hy_X7_clearText : plainName yX7_clearText.cls = true := by decide +kernel
theorem hv_X7_fault : yX7_fault.cls = RX7 ∧ yX7_fault.cls ≠ "java/lang/invoke/MethodHandle" ∧ yX7_fault.cls ≠ "java/lang/invoke/VarHandle" ∧ (parseMethodDescriptor yX7_fault.desc).map (fun d => d.parameters.length) = some 0 := by decide +kernel
theorem hy_X7_fault : plainName yX7_fault.cls = true := by decide +kernel
theorem hv_X7_run : yX7_run.cls = RX7 ∧ yX7_run.cls ≠ "java/lang/invoke/MethodHandle" ∧ yX7_run.cls ≠ "java/lang/invoke/VarHandle" ∧ (parseMethodDescriptor yX7_run.desc).map (fun d => d.parameters.length) = some 0 := by decide +kernel
theorem hy_X7_run : plainName yX7_run.cls = true := by decide +kernel
theorem hv_X7_carryOutOrder : yX7_carryOutOrder.cls = RX7 ∧ yX7_carryOutOrder.cls ≠ "java/lang/invoke/MethodHandle" ∧ yX7_carryOutOrder.cls ≠ "java/lang/invoke/VarHandle" ∧ (parseMethodDescriptor yX7_carryOutOrder.desc).map (fun d => d.parameters.length) = some 0 := by decide +kernel
theorem hy_X7_carryOutOrder : plainName yX7_carryOutOrder.cls = true := by decide +kernel
theorem hv_X7_undo : yX7_undo.cls = RX7 ∧ yX7_undo.cls ≠ "java/lang/invoke/MethodHandle" ∧ yX7_undo.cls ≠ "java/lang/invoke/VarHandle" ∧ (parseMethodDescriptor yX7_undo.desc).map (fun d => d.parameters.length) = some 0 := by decide +kernel
theorem hy_X7_undo : plainName yX7_undo.cls = true := by decide +kernel
theorem hv_X7_save : yX7_save.cls = RX7 ∧ yX7_save.cls ≠ "java/lang/invoke/MethodHandle" ∧ yX7_save.cls ≠ "java/lang/invoke/VarHandle" ∧ (parseMethodDescriptor yX7_save.desc).map (fun d => d.parameters.length) = some 0 := by decide +kernel
theorem hy_X7_save : plainName yX7_save.cls = true := by decide +kernel
theorem hv_X7_restore : yX7_restore.cls = RX7 ∧ yX7_restore.cls ≠ "java/lang/invoke/MethodHandle" ∧ yX7_restore.cls ≠ "java/lang/invoke/VarHandle" ∧ (parseMethodDescriptor yX7_restore.desc).map (fun d => d.parameters.length) = some 0 := by decide +kernel
theorem hy_X7_restore : plainName yX7_restore.cls = true := by decide +kernel
theorem hv_X7_commit : yX7_commit.cls = RX7 ∧ yX7_commit.cls ≠ "java/lang/invoke/MethodHandle" ∧ yX7_commit.cls ≠ "java/lang/invoke/VarHandle" ∧ (parseMethodDescriptor yX7_commit.desc).map (fun d => d.parameters.length) = some 2 := by decide +kernel
theorem hy_X7_commit : plainName yX7_commit.cls = true := by decide +kernel
theorem hv_X7_group : yX7_group.cls = RX7 ∧ yX7_group.cls ≠ "java/lang/invoke/MethodHandle" ∧ yX7_group.cls ≠ "java/lang/invoke/VarHandle" ∧ (parseMethodDescriptor yX7_group.desc).map (fun d => d.parameters.length) = some 2 := by decide +kernel
theorem hy_X7_group : plainName yX7_group.cls = true := by decide +kernel
theorem hv_X7_member : yX7_member.cls = RX7 ∧ yX7_member.cls ≠ "java/lang/invoke/MethodHandle" ∧ yX7_member.cls ≠ "java/lang/invoke/VarHandle" ∧ (parseMethodDescriptor yX7_member.desc).map (fun d => d.parameters.length) = some 2 := by decide +kernel
theorem hy_X7_member : plainName yX7_member.cls = true := by decide +kernel
theorem hv_X7_open : yX7_open.cls = RX7 ∧ yX7_open.cls ≠ "java/lang/invoke/MethodHandle" ∧ yX7_open.cls ≠ "java/lang/invoke/VarHandle" ∧ (parseMethodDescriptor yX7_open.desc).map (fun d => d.parameters.length) = some 1 := by decide +kernel
theorem hy_X7_open : plainName yX7_open.cls = true := by decide +kernel
theorem hv_X7_queued : yX7_queued.cls = RX7 ∧ yX7_queued.cls ≠ "java/lang/invoke/MethodHandle" ∧ yX7_queued.cls ≠ "java/lang/invoke/VarHandle" ∧ (parseMethodDescriptor yX7_queued.desc).map (fun d => d.parameters.length) = some 1 := by decide +kernel
theorem hy_X7_queued : plainName yX7_queued.cls = true := by decide +kernel
theorem hv_X7_count : yX7_count.cls = RX7 ∧ yX7_count.cls ≠ "java/lang/invoke/MethodHandle" ∧ yX7_count.cls ≠ "java/lang/invoke/VarHandle" ∧ (parseMethodDescriptor yX7_count.desc).map (fun d => d.parameters.length) = some 1 := by decide +kernel
theorem hy_X7_count : plainName yX7_count.cls = true := by decide +kernel
theorem hv_X7_total : yX7_total.cls = RX7 ∧ yX7_total.cls ≠ "java/lang/invoke/MethodHandle" ∧ yX7_total.cls ≠ "java/lang/invoke/VarHandle" ∧ (parseMethodDescriptor yX7_total.desc).map (fun d => d.parameters.length) = some 1 := by decide +kernel
theorem hy_X7_total : plainName yX7_total.cls = true := by decide +kernel
theorem hv_X7_answeredIn : yX7_answeredIn.cls = RX7 ∧ yX7_answeredIn.cls ≠ "java/lang/invoke/MethodHandle" ∧ yX7_answeredIn.cls ≠ "java/lang/invoke/VarHandle" ∧ (parseMethodDescriptor yX7_answeredIn.desc).map (fun d => d.parameters.length) = some 1 := by decide +kernel
theorem hy_X7_answeredIn : plainName yX7_answeredIn.cls = true := by decide +kernel
theorem hv_X7_ifSubmitted : yX7_ifSubmitted.cls = RX7 ∧ yX7_ifSubmitted.cls ≠ "java/lang/invoke/MethodHandle" ∧ yX7_ifSubmitted.cls ≠ "java/lang/invoke/VarHandle" ∧ (parseMethodDescriptor yX7_ifSubmitted.desc).map (fun d => d.parameters.length) = some 2 := by decide +kernel
theorem hy_X7_ifSubmitted : plainName yX7_ifSubmitted.cls = true := by decide +kernel
theorem hv_X7_idleIn : yX7_idleIn.cls = RX7 ∧ yX7_idleIn.cls ≠ "java/lang/invoke/MethodHandle" ∧ yX7_idleIn.cls ≠ "java/lang/invoke/VarHandle" ∧ (parseMethodDescriptor yX7_idleIn.desc).map (fun d => d.parameters.length) = some 0 := by decide +kernel
theorem hy_X7_idleIn : plainName yX7_idleIn.cls = true := by decide +kernel
theorem hv_X7_mean : yX7_mean.cls = RX7 ∧ yX7_mean.cls ≠ "java/lang/invoke/MethodHandle" ∧ yX7_mean.cls ≠ "java/lang/invoke/VarHandle" ∧ (parseMethodDescriptor yX7_mean.desc).map (fun d => d.parameters.length) = some 0 := by decide +kernel
theorem hy_X7_mean : plainName yX7_mean.cls = true := by decide +kernel
theorem hv_X8_init : yX8_init.cls = RX8 ∧ yX8_init.cls ≠ "java/lang/invoke/MethodHandle" ∧ yX8_init.cls ≠ "java/lang/invoke/VarHandle" ∧ (parseMethodDescriptor yX8_init.desc).map (fun d => d.parameters.length) = some 0 := by decide +kernel
theorem hy_X8_init : plainName yX8_init.cls = true := by decide +kernel
theorem hv_X8_within : yX8_within.cls ≠ "java/lang/invoke/MethodHandle" ∧ yX8_within.cls ≠ "java/lang/invoke/VarHandle" ∧ (parseMethodDescriptor yX8_within.desc).map (fun d => d.parameters.length) = some 3 := by decide +kernel
theorem hy_X8_within : plainName yX8_within.cls = true := by decide +kernel
theorem hv_X8_isClient : yX8_isClient.cls ≠ "java/lang/invoke/MethodHandle" ∧ yX8_isClient.cls ≠ "java/lang/invoke/VarHandle" ∧ (parseMethodDescriptor yX8_isClient.desc).map (fun d => d.parameters.length) = some 1 := by decide +kernel
theorem hy_X8_isClient : plainName yX8_isClient.cls = true := by decide +kernel
theorem hv_X8_of : yX8_of.cls = RX8 ∧ yX8_of.cls ≠ "java/lang/invoke/MethodHandle" ∧ yX8_of.cls ≠ "java/lang/invoke/VarHandle" ∧ (parseMethodDescriptor yX8_of.desc).map (fun d => d.parameters.length) = some 2 := by decide +kernel
theorem hy_X8_of : plainName yX8_of.cls = true := by decide +kernel
theorem hv_X8_setOf : yX8_setOf.cls = RX8 ∧ yX8_setOf.cls ≠ "java/lang/invoke/MethodHandle" ∧ yX8_setOf.cls ≠ "java/lang/invoke/VarHandle" ∧ (parseMethodDescriptor yX8_setOf.desc).map (fun d => d.parameters.length) = some 3 := by decide +kernel
theorem hy_X8_setOf : plainName yX8_setOf.cls = true := by decide +kernel
theorem hv_X8_ofGroup : yX8_ofGroup.cls = RX8 ∧ yX8_ofGroup.cls ≠ "java/lang/invoke/MethodHandle" ∧ yX8_ofGroup.cls ≠ "java/lang/invoke/VarHandle" ∧ (parseMethodDescriptor yX8_ofGroup.desc).map (fun d => d.parameters.length) = some 2 := by decide +kernel
theorem hy_X8_ofGroup : plainName yX8_ofGroup.cls = true := by decide +kernel
theorem hv_X8_setGroup : yX8_setGroup.cls = RX8 ∧ yX8_setGroup.cls ≠ "java/lang/invoke/MethodHandle" ∧ yX8_setGroup.cls ≠ "java/lang/invoke/VarHandle" ∧ (parseMethodDescriptor yX8_setGroup.desc).map (fun d => d.parameters.length) = some 3 := by decide +kernel
theorem hy_X8_setGroup : plainName yX8_setGroup.cls = true := by decide +kernel
theorem hv_X8_record : yX8_record.cls = RX8 ∧ yX8_record.cls ≠ "java/lang/invoke/MethodHandle" ∧ yX8_record.cls ≠ "java/lang/invoke/VarHandle" ∧ (parseMethodDescriptor yX8_record.desc).map (fun d => d.parameters.length) = some 0 := by decide +kernel
theorem hy_X8_record : plainName yX8_record.cls = true := by decide +kernel
theorem hv_X8_undo : yX8_undo.cls = RX8 ∧ yX8_undo.cls ≠ "java/lang/invoke/MethodHandle" ∧ yX8_undo.cls ≠ "java/lang/invoke/VarHandle" ∧ (parseMethodDescriptor yX8_undo.desc).map (fun d => d.parameters.length) = some 0 := by decide +kernel
theorem hy_X8_undo : plainName yX8_undo.cls = true := by decide +kernel
theorem hv_X8_save : yX8_save.cls = RX8 ∧ yX8_save.cls ≠ "java/lang/invoke/MethodHandle" ∧ yX8_save.cls ≠ "java/lang/invoke/VarHandle" ∧ (parseMethodDescriptor yX8_save.desc).map (fun d => d.parameters.length) = some 0 := by decide +kernel
theorem hy_X8_save : plainName yX8_save.cls = true := by decide +kernel
theorem hv_X8_restore : yX8_restore.cls = RX8 ∧ yX8_restore.cls ≠ "java/lang/invoke/MethodHandle" ∧ yX8_restore.cls ≠ "java/lang/invoke/VarHandle" ∧ (parseMethodDescriptor yX8_restore.desc).map (fun d => d.parameters.length) = some 0 := by decide +kernel
theorem hy_X8_restore : plainName yX8_restore.cls = true := by decide +kernel
theorem hv_X8_putAside : yX8_putAside.cls = RX8 ∧ yX8_putAside.cls ≠ "java/lang/invoke/MethodHandle" ∧ yX8_putAside.cls ≠ "java/lang/invoke/VarHandle" ∧ (parseMethodDescriptor yX8_putAside.desc).map (fun d => d.parameters.length) = some 0 := by decide +kernel
theorem hy_X8_putAside : plainName yX8_putAside.cls = true := by decide +kernel
theorem hv_X8_takeBack : yX8_takeBack.cls = RX8 ∧ yX8_takeBack.cls ≠ "java/lang/invoke/MethodHandle" ∧ yX8_takeBack.cls ≠ "java/lang/invoke/VarHandle" ∧ (parseMethodDescriptor yX8_takeBack.desc).map (fun d => d.parameters.length) = some 0 := by decide +kernel
theorem hy_X8_takeBack : plainName yX8_takeBack.cls = true := by decide +kernel
theorem hv_X8_isIn : yX8_isIn.cls = RX8 ∧ yX8_isIn.cls ≠ "java/lang/invoke/MethodHandle" ∧ yX8_isIn.cls ≠ "java/lang/invoke/VarHandle" ∧ (parseMethodDescriptor yX8_isIn.desc).map (fun d => d.parameters.length) = some 2 := by decide +kernel
theorem hy_X8_isIn : plainName yX8_isIn.cls = true := by decide +kernel
theorem hv_X8_members : yX8_members.cls = RX8 ∧ yX8_members.cls ≠ "java/lang/invoke/MethodHandle" ∧ yX8_members.cls ≠ "java/lang/invoke/VarHandle" ∧ (parseMethodDescriptor yX8_members.desc).map (fun d => d.parameters.length) = some 1 := by decide +kernel
theorem hy_X8_members : plainName yX8_members.cls = true := by decide +kernel
theorem hv_X8_recordsOf : yX8_recordsOf.cls = RX8 ∧ yX8_recordsOf.cls ≠ "java/lang/invoke/MethodHandle" ∧ yX8_recordsOf.cls ≠ "java/lang/invoke/VarHandle" ∧ (parseMethodDescriptor yX8_recordsOf.desc).map (fun d => d.parameters.length) = some 1 := by decide +kernel
theorem hy_X8_recordsOf : plainName yX8_recordsOf.cls = true := by decide +kernel
theorem hv_X8_memberAt : yX8_memberAt.cls = RX8 ∧ yX8_memberAt.cls ≠ "java/lang/invoke/MethodHandle" ∧ yX8_memberAt.cls ≠ "java/lang/invoke/VarHandle" ∧ (parseMethodDescriptor yX8_memberAt.desc).map (fun d => d.parameters.length) = some 2 := by decide +kernel
theorem hy_X8_memberAt : plainName yX8_memberAt.cls = true := by decide +kernel
theorem hv_X8_turnMembers : yX8_turnMembers.cls = RX8 ∧ yX8_turnMembers.cls ≠ "java/lang/invoke/MethodHandle" ∧ yX8_turnMembers.cls ≠ "java/lang/invoke/VarHandle" ∧ (parseMethodDescriptor yX8_turnMembers.desc).map (fun d => d.parameters.length) = some 2 := by decide +kernel
theorem hy_X8_turnMembers : plainName yX8_turnMembers.cls = true := by decide +kernel
theorem hv_X8_queuedAt : yX8_queuedAt.cls = RX8 ∧ yX8_queuedAt.cls ≠ "java/lang/invoke/MethodHandle" ∧ yX8_queuedAt.cls ≠ "java/lang/invoke/VarHandle" ∧ (parseMethodDescriptor yX8_queuedAt.desc).map (fun d => d.parameters.length) = some 1 := by decide +kernel
theorem hy_X8_queuedAt : plainName yX8_queuedAt.cls = true := by decide +kernel
theorem hv_X8_goOn : yX8_goOn.cls = RX8 ∧ yX8_goOn.cls ≠ "java/lang/invoke/MethodHandle" ∧ yX8_goOn.cls ≠ "java/lang/invoke/VarHandle" ∧ (parseMethodDescriptor yX8_goOn.desc).map (fun d => d.parameters.length) = some 0 := by decide +kernel
theorem hy_X8_goOn : plainName yX8_goOn.cls = true := by decide +kernel
theorem hv_X8_close : yX8_close.cls = RX8 ∧ yX8_close.cls ≠ "java/lang/invoke/MethodHandle" ∧ yX8_close.cls ≠ "java/lang/invoke/VarHandle" ∧ (parseMethodDescriptor yX8_close.desc).map (fun d => d.parameters.length) = some 1 := by decide +kernel
theorem hy_X8_close : plainName yX8_close.cls = true := by decide +kernel
theorem hv_X8_isLate : yX8_isLate.cls = RX8 ∧ yX8_isLate.cls ≠ "java/lang/invoke/MethodHandle" ∧ yX8_isLate.cls ≠ "java/lang/invoke/VarHandle" ∧ (parseMethodDescriptor yX8_isLate.desc).map (fun d => d.parameters.length) = some 0 := by decide +kernel
theorem hy_X8_isLate : plainName yX8_isLate.cls = true := by decide +kernel
theorem hv_X8_begin : yX8_begin.cls = RX8 ∧ yX8_begin.cls ≠ "java/lang/invoke/MethodHandle" ∧ yX8_begin.cls ≠ "java/lang/invoke/VarHandle" ∧ (parseMethodDescriptor yX8_begin.desc).map (fun d => d.parameters.length) = some 0 := by decide +kernel
theorem hy_X8_begin : plainName yX8_begin.cls = true := by decide +kernel
theorem hv_X8_answerAll : yX8_answerAll.cls = RX8 ∧ yX8_answerAll.cls ≠ "java/lang/invoke/MethodHandle" ∧ yX8_answerAll.cls ≠ "java/lang/invoke/VarHandle" ∧ (parseMethodDescriptor yX8_answerAll.desc).map (fun d => d.parameters.length) = some 1 := by decide +kernel
theorem hy_X8_answerAll : plainName yX8_answerAll.cls = true := by decide +kernel
theorem hv_X8_tickOnce : yX8_tickOnce.cls = RX8 ∧ yX8_tickOnce.cls ≠ "java/lang/invoke/MethodHandle" ∧ yX8_tickOnce.cls ≠ "java/lang/invoke/VarHandle" ∧ (parseMethodDescriptor yX8_tickOnce.desc).map (fun d => d.parameters.length) = some 0 := by decide +kernel
theorem hy_X8_tickOnce : plainName yX8_tickOnce.cls = true := by decide +kernel
theorem hv_X8_ticks : yX8_ticks.cls = RX8 ∧ yX8_ticks.cls ≠ "java/lang/invoke/MethodHandle" ∧ yX8_ticks.cls ≠ "java/lang/invoke/VarHandle" ∧ (parseMethodDescriptor yX8_ticks.desc).map (fun d => d.parameters.length) = some 1 := by decide +kernel
theorem hy_X8_ticks : plainName yX8_ticks.cls = true := by decide +kernel
theorem hv_X8_openOf : yX8_openOf.cls = RX8 ∧ yX8_openOf.cls ≠ "java/lang/invoke/MethodHandle" ∧ yX8_openOf.cls ≠ "java/lang/invoke/VarHandle" ∧ (parseMethodDescriptor yX8_openOf.desc).map (fun d => d.parameters.length) = some 1 := by decide +kernel
theorem hy_X8_openOf : plainName yX8_openOf.cls = true := by decide +kernel
theorem hv_X8_takeOut : yX8_takeOut.cls = RX8 ∧ yX8_takeOut.cls ≠ "java/lang/invoke/MethodHandle" ∧ yX8_takeOut.cls ≠ "java/lang/invoke/VarHandle" ∧ (parseMethodDescriptor yX8_takeOut.desc).map (fun d => d.parameters.length) = some 2 := by decide +kernel
theorem hy_X8_takeOut : plainName yX8_takeOut.cls = true := by decide +kernel
theorem hv_X8_whyNotSubmitted : yX8_whyNotSubmitted.cls = RX8 ∧ yX8_whyNotSubmitted.cls ≠ "java/lang/invoke/MethodHandle" ∧ yX8_whyNotSubmitted.cls ≠ "java/lang/invoke/VarHandle" ∧ (parseMethodDescriptor yX8_whyNotSubmitted.desc).map (fun d => d.parameters.length) = some 2 := by decide +kernel
theorem hy_X8_whyNotSubmitted : plainName yX8_whyNotSubmitted.cls = true := by decide +kernel
theorem hv_X8_doesSubmit : yX8_doesSubmit.cls = RX8 ∧ yX8_doesSubmit.cls ≠ "java/lang/invoke/MethodHandle" ∧ yX8_doesSubmit.cls ≠ "java/lang/invoke/VarHandle" ∧ (parseMethodDescriptor yX8_doesSubmit.desc).map (fun d => d.parameters.length) = some 3 := by decide +kernel
theorem hy_X8_doesSubmit : plainName yX8_doesSubmit.cls = true := by decide +kernel
theorem hv_X8_doesFail : yX8_doesFail.cls = RX8 ∧ yX8_doesFail.cls ≠ "java/lang/invoke/MethodHandle" ∧ yX8_doesFail.cls ≠ "java/lang/invoke/VarHandle" ∧ (parseMethodDescriptor yX8_doesFail.desc).map (fun d => d.parameters.length) = some 1 := by decide +kernel
theorem hy_X8_doesFail : plainName yX8_doesFail.cls = true := by decide +kernel
theorem hv_X8_canWithdraw : yX8_canWithdraw.cls = RX8 ∧ yX8_canWithdraw.cls ≠ "java/lang/invoke/MethodHandle" ∧ yX8_canWithdraw.cls ≠ "java/lang/invoke/VarHandle" ∧ (parseMethodDescriptor yX8_canWithdraw.desc).map (fun d => d.parameters.length) = some 1 := by decide +kernel
theorem hy_X8_canWithdraw : plainName yX8_canWithdraw.cls = true := by decide +kernel
theorem hv_X8_doesWithdraw : yX8_doesWithdraw.cls = RX8 ∧ yX8_doesWithdraw.cls ≠ "java/lang/invoke/MethodHandle" ∧ yX8_doesWithdraw.cls ≠ "java/lang/invoke/VarHandle" ∧ (parseMethodDescriptor yX8_doesWithdraw.desc).map (fun d => d.parameters.length) = some 1 := by decide +kernel
theorem hy_X8_doesWithdraw : plainName yX8_doesWithdraw.cls = true := by decide +kernel
theorem hv_X8_doesCrash : yX8_doesCrash.cls = RX8 ∧ yX8_doesCrash.cls ≠ "java/lang/invoke/MethodHandle" ∧ yX8_doesCrash.cls ≠ "java/lang/invoke/VarHandle" ∧ (parseMethodDescriptor yX8_doesCrash.desc).map (fun d => d.parameters.length) = some 0 := by decide +kernel
theorem hy_X8_doesCrash : plainName yX8_doesCrash.cls = true := by decide +kernel
theorem hv_X8_submit : yX8_submit.cls = RX8 ∧ yX8_submit.cls ≠ "java/lang/invoke/MethodHandle" ∧ yX8_submit.cls ≠ "java/lang/invoke/VarHandle" ∧ (parseMethodDescriptor yX8_submit.desc).map (fun d => d.parameters.length) = some 3 := by decide +kernel
theorem hy_X8_submit : plainName yX8_submit.cls = true := by decide +kernel
theorem hv_X8_fail : yX8_fail.cls = RX8 ∧ yX8_fail.cls ≠ "java/lang/invoke/MethodHandle" ∧ yX8_fail.cls ≠ "java/lang/invoke/VarHandle" ∧ (parseMethodDescriptor yX8_fail.desc).map (fun d => d.parameters.length) = some 1 := by decide +kernel
theorem hy_X8_fail : plainName yX8_fail.cls = true := by decide +kernel
theorem hv_X8_withdraw : yX8_withdraw.cls = RX8 ∧ yX8_withdraw.cls ≠ "java/lang/invoke/MethodHandle" ∧ yX8_withdraw.cls ≠ "java/lang/invoke/VarHandle" ∧ (parseMethodDescriptor yX8_withdraw.desc).map (fun d => d.parameters.length) = some 1 := by decide +kernel
theorem hy_X8_withdraw : plainName yX8_withdraw.cls = true := by decide +kernel
theorem hv_X8_crash : yX8_crash.cls = RX8 ∧ yX8_crash.cls ≠ "java/lang/invoke/MethodHandle" ∧ yX8_crash.cls ≠ "java/lang/invoke/VarHandle" ∧ (parseMethodDescriptor yX8_crash.desc).map (fun d => d.parameters.length) = some 0 := by decide +kernel
theorem hy_X8_crash : plainName yX8_crash.cls = true := by decide +kernel
theorem hv_X8_tick : yX8_tick.cls = RX8 ∧ yX8_tick.cls ≠ "java/lang/invoke/MethodHandle" ∧ yX8_tick.cls ≠ "java/lang/invoke/VarHandle" ∧ (parseMethodDescriptor yX8_tick.desc).map (fun d => d.parameters.length) = some 1 := by decide +kernel
theorem hy_X8_tick : plainName yX8_tick.cls = true := by decide +kernel
theorem hv_X8_leastOf : yX8_leastOf.cls ≠ "java/lang/invoke/MethodHandle" ∧ yX8_leastOf.cls ≠ "java/lang/invoke/VarHandle" ∧ (parseMethodDescriptor yX8_leastOf.desc).map (fun d => d.parameters.length) = some 1 := by decide +kernel
theorem hy_X8_leastOf : plainName yX8_leastOf.cls = true := by decide +kernel
theorem hv_X8_mostOf : yX8_mostOf.cls ≠ "java/lang/invoke/MethodHandle" ∧ yX8_mostOf.cls ≠ "java/lang/invoke/VarHandle" ∧ (parseMethodDescriptor yX8_mostOf.desc).map (fun d => d.parameters.length) = some 1 := by decide +kernel
theorem hy_X8_mostOf : plainName yX8_mostOf.cls = true := by decide +kernel
theorem hv_X8_set : yX8_set.cls = RX8 ∧ yX8_set.cls ≠ "java/lang/invoke/MethodHandle" ∧ yX8_set.cls ≠ "java/lang/invoke/VarHandle" ∧ (parseMethodDescriptor yX8_set.desc).map (fun d => d.parameters.length) = some 2 := by decide +kernel
theorem hy_X8_set : plainName yX8_set.cls = true := by decide +kernel
theorem hv_X8_append : yX8_append.cls = RX8 ∧ yX8_append.cls ≠ "java/lang/invoke/MethodHandle" ∧ yX8_append.cls ≠ "java/lang/invoke/VarHandle" ∧ (parseMethodDescriptor yX8_append.desc).map (fun d => d.parameters.length) = some 1 := by decide +kernel
theorem hy_X8_append : plainName yX8_append.cls = true := by decide +kernel
theorem hv_X8_clearText : yX8_clearText.cls = RX8 ∧ yX8_clearText.cls ≠ "java/lang/invoke/MethodHandle" ∧ yX8_clearText.cls ≠ "java/lang/invoke/VarHandle" ∧ (parseMethodDescriptor yX8_clearText.desc).map (fun d => d.parameters.length) = some 0 := by decide +kernel
theorem hy_X8_clearText : plainName yX8_clearText.cls = true := by decide +kernel
theorem hv_X8_nextCharacter : yX8_nextCharacter.cls = RX8 ∧ yX8_nextCharacter.cls ≠ "java/lang/invoke/MethodHandle" ∧ yX8_nextCharacter.cls ≠ "java/lang/invoke/VarHandle" ∧ (parseMethodDescriptor yX8_nextCharacter.desc).map (fun d => d.parameters.length) = some 0 := by decide +kernel
theorem hy_X8_nextCharacter : plainName yX8_nextCharacter.cls = true := by decide +kernel
theorem hv_X8_takes : yX8_takes.cls = RX8 ∧ yX8_takes.cls ≠ "java/lang/invoke/MethodHandle" ∧ yX8_takes.cls ≠ "java/lang/invoke/VarHandle" ∧ (parseMethodDescriptor yX8_takes.desc).map (fun d => d.parameters.length) = some 1 := by decide +kernel
theorem hy_X8_takes : plainName yX8_takes.cls = true := by decide +kernel
theorem hv_X8_readsNumber : yX8_readsNumber.cls = RX8 ∧ yX8_readsNumber.cls ≠ "java/lang/invoke/MethodHandle" ∧ yX8_readsNumber.cls ≠ "java/lang/invoke/VarHandle" ∧ (parseMethodDescriptor yX8_readsNumber.desc).map (fun d => d.parameters.length) = some 2 := by decide +kernel
theorem hy_X8_readsNumber : plainName yX8_readsNumber.cls = true := by decide +kernel
theorem hv_X8_readsSubmit : yX8_readsSubmit.cls = RX8 ∧ yX8_readsSubmit.cls ≠ "java/lang/invoke/MethodHandle" ∧ yX8_readsSubmit.cls ≠ "java/lang/invoke/VarHandle" ∧ (parseMethodDescriptor yX8_readsSubmit.desc).map (fun d => d.parameters.length) = some 0 := by decide +kernel
theorem hy_X8_readsSubmit : plainName yX8_readsSubmit.cls = true := by decide +kernel
theorem hv_X8_readsOrder : yX8_readsOrder.cls = RX8 ∧ yX8_readsOrder.cls ≠ "java/lang/invoke/MethodHandle" ∧ yX8_readsOrder.cls ≠ "java/lang/invoke/VarHandle" ∧ (parseMethodDescriptor yX8_readsOrder.desc).map (fun d => d.parameters.length) = some 0 := by decide +kernel
theorem hy_X8_readsOrder : plainName yX8_readsOrder.cls = true := by decide +kernel
theorem hv_X8_findFault : yX8_findFault.cls = RX8 ∧ yX8_findFault.cls ≠ "java/lang/invoke/MethodHandle" ∧ yX8_findFault.cls ≠ "java/lang/invoke/VarHandle" ∧ (parseMethodDescriptor yX8_findFault.desc).map (fun d => d.parameters.length) = some 0 := by decide +kernel
theorem hy_X8_findFault : plainName yX8_findFault.cls = true := by decide +kernel
theorem hv_X8_fault : yX8_fault.cls = RX8 ∧ yX8_fault.cls ≠ "java/lang/invoke/MethodHandle" ∧ yX8_fault.cls ≠ "java/lang/invoke/VarHandle" ∧ (parseMethodDescriptor yX8_fault.desc).map (fun d => d.parameters.length) = some 0 := by decide +kernel
theorem hy_X8_fault : plainName yX8_fault.cls = true := by decide +kernel
theorem hv_X8_doesOrder : yX8_doesOrder.cls = RX8 ∧ yX8_doesOrder.cls ≠ "java/lang/invoke/MethodHandle" ∧ yX8_doesOrder.cls ≠ "java/lang/invoke/VarHandle" ∧ (parseMethodDescriptor yX8_doesOrder.desc).map (fun d => d.parameters.length) = some 0 := by decide +kernel
theorem hy_X8_doesOrder : plainName yX8_doesOrder.cls = true := by decide +kernel
theorem hv_X8_run : yX8_run.cls = RX8 ∧ yX8_run.cls ≠ "java/lang/invoke/MethodHandle" ∧ yX8_run.cls ≠ "java/lang/invoke/VarHandle" ∧ (parseMethodDescriptor yX8_run.desc).map (fun d => d.parameters.length) = some 0 := by decide +kernel
theorem hy_X8_run : plainName yX8_run.cls = true := by decide +kernel
theorem hv_X8_commit : yX8_commit.cls = RX8 ∧ yX8_commit.cls ≠ "java/lang/invoke/MethodHandle" ∧ yX8_commit.cls ≠ "java/lang/invoke/VarHandle" ∧ (parseMethodDescriptor yX8_commit.desc).map (fun d => d.parameters.length) = some 2 := by decide +kernel
theorem hy_X8_commit : plainName yX8_commit.cls = true := by decide +kernel
theorem hv_X8_tellsGroup : yX8_tellsGroup.cls = RX8 ∧ yX8_tellsGroup.cls ≠ "java/lang/invoke/MethodHandle" ∧ yX8_tellsGroup.cls ≠ "java/lang/invoke/VarHandle" ∧ (parseMethodDescriptor yX8_tellsGroup.desc).map (fun d => d.parameters.length) = some 2 := by decide +kernel
theorem hy_X8_tellsGroup : plainName yX8_tellsGroup.cls = true := by decide +kernel
theorem hv_X8_group : yX8_group.cls = RX8 ∧ yX8_group.cls ≠ "java/lang/invoke/MethodHandle" ∧ yX8_group.cls ≠ "java/lang/invoke/VarHandle" ∧ (parseMethodDescriptor yX8_group.desc).map (fun d => d.parameters.length) = some 2 := by decide +kernel
theorem hy_X8_group : plainName yX8_group.cls = true := by decide +kernel
theorem hv_X8_member : yX8_member.cls = RX8 ∧ yX8_member.cls ≠ "java/lang/invoke/MethodHandle" ∧ yX8_member.cls ≠ "java/lang/invoke/VarHandle" ∧ (parseMethodDescriptor yX8_member.desc).map (fun d => d.parameters.length) = some 2 := by decide +kernel
theorem hy_X8_member : plainName yX8_member.cls = true := by decide +kernel
theorem hv_X8_open : yX8_open.cls = RX8 ∧ yX8_open.cls ≠ "java/lang/invoke/MethodHandle" ∧ yX8_open.cls ≠ "java/lang/invoke/VarHandle" ∧ (parseMethodDescriptor yX8_open.desc).map (fun d => d.parameters.length) = some 1 := by decide +kernel
theorem hy_X8_open : plainName yX8_open.cls = true := by decide +kernel
theorem hv_X8_queued : yX8_queued.cls = RX8 ∧ yX8_queued.cls ≠ "java/lang/invoke/MethodHandle" ∧ yX8_queued.cls ≠ "java/lang/invoke/VarHandle" ∧ (parseMethodDescriptor yX8_queued.desc).map (fun d => d.parameters.length) = some 1 := by decide +kernel
theorem hy_X8_queued : plainName yX8_queued.cls = true := by decide +kernel
theorem hv_X8_queuedMany : yX8_queuedMany.cls = RX8 ∧ yX8_queuedMany.cls ≠ "java/lang/invoke/MethodHandle" ∧ yX8_queuedMany.cls ≠ "java/lang/invoke/VarHandle" ∧ (parseMethodDescriptor yX8_queuedMany.desc).map (fun d => d.parameters.length) = some 0 := by decide +kernel
theorem hy_X8_queuedMany : plainName yX8_queuedMany.cls = true := by decide +kernel
theorem hv_X8_busyMany : yX8_busyMany.cls = RX8 ∧ yX8_busyMany.cls ≠ "java/lang/invoke/MethodHandle" ∧ yX8_busyMany.cls ≠ "java/lang/invoke/VarHandle" ∧ (parseMethodDescriptor yX8_busyMany.desc).map (fun d => d.parameters.length) = some 0 := by decide +kernel
theorem hy_X8_busyMany : plainName yX8_busyMany.cls = true := by decide +kernel
theorem hv_X8_count : yX8_count.cls = RX8 ∧ yX8_count.cls ≠ "java/lang/invoke/MethodHandle" ∧ yX8_count.cls ≠ "java/lang/invoke/VarHandle" ∧ (parseMethodDescriptor yX8_count.desc).map (fun d => d.parameters.length) = some 1 := by decide +kernel
theorem hy_X8_count : plainName yX8_count.cls = true := by decide +kernel
theorem hv_X8_total : yX8_total.cls = RX8 ∧ yX8_total.cls ≠ "java/lang/invoke/MethodHandle" ∧ yX8_total.cls ≠ "java/lang/invoke/VarHandle" ∧ (parseMethodDescriptor yX8_total.desc).map (fun d => d.parameters.length) = some 1 := by decide +kernel
theorem hy_X8_total : plainName yX8_total.cls = true := by decide +kernel
theorem hv_X8_ticksFor : yX8_ticksFor.cls = RX8 ∧ yX8_ticksFor.cls ≠ "java/lang/invoke/MethodHandle" ∧ yX8_ticksFor.cls ≠ "java/lang/invoke/VarHandle" ∧ (parseMethodDescriptor yX8_ticksFor.desc).map (fun d => d.parameters.length) = some 1 := by decide +kernel
theorem hy_X8_ticksFor : plainName yX8_ticksFor.cls = true := by decide +kernel
theorem hv_X8_answeredIn : yX8_answeredIn.cls = RX8 ∧ yX8_answeredIn.cls ≠ "java/lang/invoke/MethodHandle" ∧ yX8_answeredIn.cls ≠ "java/lang/invoke/VarHandle" ∧ (parseMethodDescriptor yX8_answeredIn.desc).map (fun d => d.parameters.length) = some 1 := by decide +kernel
theorem hy_X8_answeredIn : plainName yX8_answeredIn.cls = true := by decide +kernel
theorem hv_X8_lowestFree : yX8_lowestFree.cls = RX8 ∧ yX8_lowestFree.cls ≠ "java/lang/invoke/MethodHandle" ∧ yX8_lowestFree.cls ≠ "java/lang/invoke/VarHandle" ∧ (parseMethodDescriptor yX8_lowestFree.desc).map (fun d => d.parameters.length) = some 0 := by decide +kernel
theorem hy_X8_lowestFree : plainName yX8_lowestFree.cls = true := by decide +kernel
theorem hv_X8_ifSubmitted : yX8_ifSubmitted.cls = RX8 ∧ yX8_ifSubmitted.cls ≠ "java/lang/invoke/MethodHandle" ∧ yX8_ifSubmitted.cls ≠ "java/lang/invoke/VarHandle" ∧ (parseMethodDescriptor yX8_ifSubmitted.desc).map (fun d => d.parameters.length) = some 2 := by decide +kernel
theorem hy_X8_ifSubmitted : plainName yX8_ifSubmitted.cls = true := by decide +kernel
theorem hv_X8_idleIn : yX8_idleIn.cls = RX8 ∧ yX8_idleIn.cls ≠ "java/lang/invoke/MethodHandle" ∧ yX8_idleIn.cls ≠ "java/lang/invoke/VarHandle" ∧ (parseMethodDescriptor yX8_idleIn.desc).map (fun d => d.parameters.length) = some 0 := by decide +kernel
theorem hy_X8_idleIn : plainName yX8_idleIn.cls = true := by decide +kernel
theorem hv_X8_mean : yX8_mean.cls = RX8 ∧ yX8_mean.cls ≠ "java/lang/invoke/MethodHandle" ∧ yX8_mean.cls ≠ "java/lang/invoke/VarHandle" ∧ (parseMethodDescriptor yX8_mean.desc).map (fun d => d.parameters.length) = some 0 := by decide +kernel
theorem hy_X8_mean : plainName yX8_mean.cls = true := by decide +kernel
theorem hy_L_law : plainName yL_law.cls = true := by decide +kernel
