-- written by wip/gen/gen27.py
abbrev rm_L_isGroup : Room := { frames := 4, cells := 0, slots := 0, locals := 86 }
def f_L_isGroup_244 (N : Nat) (v1 : Int32) (v2 : Int32) (v11 : Int32) (u0 : Int32) (u1 : Int32) (X : XT) : Option (Int32 × XT) := if u1 = u0 then (m_bi (f_X7_member N v1 v2 X) fun r_80 X_80 => if r_80 = v11 then (some (1, X_80)) else (some (0, X_80))) else (some (0, X))
set_option maxHeartbeats 4000000 in
set_option maxRecDepth 100000 in
theorem w_L_isGroup_244 (l : Launch) (D : va_G) (a : Nat → Nat) (cy : Nat → ClassId) (hG : m_inj 138 a) (N : Nat) {p : Program} {e : Env} {s : State} {m : MethodId} {args : Array Value} {below : List Frame} {meth : Method} {c : Code} (C : m_Cx p s m args meth c cL_isGroup 14 RL (some .boolean) (Cond.code yL_isGroup cL_isGroup 14 (some .boolean)) D (m_tc cy) (m_AC a) (m_WC a cy) (m_ZC a)) {r0 : Int32} {X0 : XT} (v1 : Int32) (v2 : Int32) (v11 : Int32) (u0 : Int32) (u1 : Int32) (X : XT) (hf0 : f_L_isGroup_244 N v1 v2 v11 u0 u1 X = some (r0, X0)) : ∀ (H : Heap) (locs : List Loc) (ls : Array Slot), va_P D vwCl (m_WC a cy X) H → va_S (m_AC a) s.heap H locs → lv_has ls 14 [(0, .ref (a 126)), (1, .int v1), (2, .int v2), (11, .int v11)] → W p l e rm_L_isGroup s m args below meth c H locs 0 0 (MQ below (m_QI D (m_WC a cy) (m_AC a) r0 X0) args s 0 0 (m_AC a)) (F0 m 244 ls [.int u0, .int u1]) := by
  have hx := C.1.1
  have hb := C.1.2.1
  intro H locs ls hP hS hl
  unfold f_L_isGroup_244 at hf0
  refine lv_icmp_ne (tgt := 262) hx hb dL_isGroup_244 (by decide) (fun c_77 => ?_) (fun c_77 => ?_)
  · have hf78 := m_ie c_77 hf0
    clear hf0
    refine lv_iconst (v := 0) hx hb dL_isGroup_262 (by decide) ?_
    exact m_zret C hP hS dL_isGroup_263 (by decide) hf78
  · have hf79 := m_it c_77 hf0
    clear hf0
    refine lv_aload_n hx hb dL_isGroup_247 rfl (lv_at hl 0 rfl) ?_
    refine lv_iload_n hx hb dL_isGroup_248 rfl (lv_at hl 1 rfl) ?_
    refine lv_iload_n hx hb dL_isGroup_249 rfl (lv_at hl 2 rfl) ?_
    obtain ⟨r_80, X_80, h_80, hf81⟩ := m_bi_s hf79
    clear hf79
    refine m_callVi (q := (RX7, TX7, 5)) C [.int v1, .int v2] [] (c_X7_member l D a cy hG N _ _ _ h_80) (m_goodV wl_L_104 wi_X7_member ws_X7_member wn_X7 wc_X7_member) ⟨rfl, rfl⟩ hv_X7_member ⟨Nat.le_of_ble_eq_true rfl, Nat.le_of_ble_eq_true rfl⟩ rfl mC_126 hP hS rfl hl.1 rfl (Nat.le_of_ble_eq_true rfl) dL_isGroup_250 (fun H locs hP hS => ?_)
    refine lv_iload hx hb dL_isGroup_253 (lv_at hl 3 rfl) ?_
    refine lv_icmp_ne (tgt := 262) hx hb dL_isGroup_255 (by decide) (fun c_82 => ?_) (fun c_82 => ?_)
    · have hf83 := m_ie c_82 hf81
      clear hf81
      refine lv_iconst (v := 0) hx hb dL_isGroup_262 (by decide) ?_
      exact m_zret C hP hS dL_isGroup_263 (by decide) hf83
    · have hf84 := m_it c_82 hf81
      clear hf81
      refine lv_iconst (v := 1) hx hb dL_isGroup_258 (by decide) ?_
      refine lv_goto (tgt := 263) hx hb dL_isGroup_259 (by decide) ?_
      exact m_zret C hP hS dL_isGroup_263 (by decide) hf84
def f_L_isGroup_202 (N : Nat) (v1 : Int32) (v2 : Int32) (v11 : Int32) (u0 : Int32) (u1 : Int32) (X : XT) : Option (Int32 × XT) := if u1 = u0 then (m_bi (f_X7_group N v1 5 X) fun r_59 X_59 => m_gd (m_in v1 48) <| m_nm (X_59 136 (Int32.toNatClampNeg v1)) fun y_61 => m_nm (y_61 >>> ((3 : Int32) &&& 31)) fun y_64 => if r_59 = y_64 then (m_bi (f_X7_group N v1 6 X_59) fun r_69 X_69 => m_gd (m_in 9 17) <| m_nm (X_69 131 (Int32.toNatClampNeg 9)) fun y_71 => if y_71 = v1 then (m_gd (m_in 10 17) <| m_nm (X_69 131 (Int32.toNatClampNeg 10)) fun y_85 => f_L_isGroup_244 N v1 v2 v11 y_85 r_69 X_69) else (f_L_isGroup_244 N v1 v2 v11 (-5) r_69 X_69)) else (some (0, X_59))) else (some (0, X))
set_option maxHeartbeats 4000000 in
set_option maxRecDepth 100000 in
theorem w_L_isGroup_202 (l : Launch) (D : va_G) (a : Nat → Nat) (cy : Nat → ClassId) (hG : m_inj 138 a) (N : Nat) {p : Program} {e : Env} {s : State} {m : MethodId} {args : Array Value} {below : List Frame} {meth : Method} {c : Code} (C : m_Cx p s m args meth c cL_isGroup 14 RL (some .boolean) (Cond.code yL_isGroup cL_isGroup 14 (some .boolean)) D (m_tc cy) (m_AC a) (m_WC a cy) (m_ZC a)) {r0 : Int32} {X0 : XT} (v1 : Int32) (v2 : Int32) (v11 : Int32) (u0 : Int32) (u1 : Int32) (X : XT) (hf0 : f_L_isGroup_202 N v1 v2 v11 u0 u1 X = some (r0, X0)) : ∀ (H : Heap) (locs : List Loc) (ls : Array Slot), va_P D vwCl (m_WC a cy X) H → va_S (m_AC a) s.heap H locs → lv_has ls 14 [(0, .ref (a 126)), (1, .int v1), (2, .int v2), (3, .ref (a 131)), (6, .ref (a 136)), (11, .int v11)] → W p l e rm_L_isGroup s m args below meth c H locs 0 0 (MQ below (m_QI D (m_WC a cy) (m_AC a) r0 X0) args s 0 0 (m_AC a)) (F0 m 202 ls [.int u0, .int u1]) := by
  have hx := C.1.1
  have hb := C.1.2.1
  intro H locs ls hP hS hl
  unfold f_L_isGroup_202 at hf0
  refine lv_icmp_ne (tgt := 262) hx hb dL_isGroup_202 (by decide) (fun c_56 => ?_) (fun c_56 => ?_)
  · have hf57 := m_ie c_56 hf0
    clear hf0
    refine lv_iconst (v := 0) hx hb dL_isGroup_262 (by decide) ?_
    exact m_zret C hP hS dL_isGroup_263 (by decide) hf57
  · have hf58 := m_it c_56 hf0
    clear hf0
    refine lv_aload_n hx hb dL_isGroup_205 rfl (lv_at hl 0 rfl) ?_
    refine lv_iload_n hx hb dL_isGroup_206 rfl (lv_at hl 1 rfl) ?_
    refine lv_iconst (v := 5) hx hb dL_isGroup_207 (by decide) ?_
    obtain ⟨r_59, X_59, h_59, hf60⟩ := m_bi_s hf58
    clear hf58
    refine m_callVi (q := (RX7, TX7, 5)) C [.int v1, .int 5] [] (c_X7_group l D a cy hG N _ _ _ h_59) (m_goodV wl_L_101 wi_X7_group ws_X7_group wn_X7 wc_X7_group) ⟨rfl, rfl⟩ hv_X7_group ⟨Nat.le_of_ble_eq_true rfl, Nat.le_of_ble_eq_true rfl⟩ rfl mC_126 hP hS rfl hl.1 rfl (Nat.le_of_ble_eq_true rfl) dL_isGroup_208 (fun H locs hP hS => ?_)
    refine lv_aload hx hb dL_isGroup_211 (lv_at hl 4 rfl) ?_
    refine lv_iload_n hx hb dL_isGroup_213 rfl (lv_at hl 1 rfl) ?_
    obtain ⟨g_61, hf62⟩ := m_gd_s hf60
    clear hf60
    refine m_ild C hP mC_136 0 rfl g_61 dL_isGroup_214 (fun y_61 e_61 => ?_)
    have hf63 := m_nm_s e_61 hf62
    clear hf62
    refine lv_iconst (v := 3) hx hb dL_isGroup_215 (by decide) ?_
    refine lv_ishr hx hb dL_isGroup_216 ?_
    refine lv_topi (fun y_64 e_64 => ?_)
    have hf65 := m_nm_s e_64 hf63
    clear hf63
    refine lv_icmp_ne (tgt := 262) hx hb dL_isGroup_217 (by decide) (fun c_66 => ?_) (fun c_66 => ?_)
    · have hf67 := m_ie c_66 hf65
      clear hf65
      refine lv_iconst (v := 0) hx hb dL_isGroup_262 (by decide) ?_
      exact m_zret C hP hS dL_isGroup_263 (by decide) hf67
    · have hf68 := m_it c_66 hf65
      clear hf65
      refine lv_aload_n hx hb dL_isGroup_220 rfl (lv_at hl 0 rfl) ?_
      refine lv_iload_n hx hb dL_isGroup_221 rfl (lv_at hl 1 rfl) ?_
      refine lv_bipush (v := 6) hx hb dL_isGroup_222 (by decide) ?_
      obtain ⟨r_69, X_69, h_69, hf70⟩ := m_bi_s hf68
      clear hf68
      refine m_callVi (q := (RX7, TX7, 5)) C [.int v1, .int 6] [] (c_X7_group l D a cy hG N _ _ _ h_69) (m_goodV wl_L_101 wi_X7_group ws_X7_group wn_X7 wc_X7_group) ⟨rfl, rfl⟩ hv_X7_group ⟨Nat.le_of_ble_eq_true rfl, Nat.le_of_ble_eq_true rfl⟩ rfl mC_126 hP hS rfl hl.1 rfl (Nat.le_of_ble_eq_true rfl) dL_isGroup_224 (fun H locs hP hS => ?_)
      refine lv_aload_n hx hb dL_isGroup_227 rfl (lv_at hl 3 rfl) ?_
      refine lv_bipush (v := 9) hx hb dL_isGroup_228 (by decide) ?_
      obtain ⟨g_71, hf72⟩ := m_gd_s hf70
      clear hf70
      refine m_ild C hP mC_131 0 rfl g_71 dL_isGroup_230 (fun y_71 e_71 => ?_)
      have hf73 := m_nm_s e_71 hf72
      clear hf72
      refine lv_iload_n hx hb dL_isGroup_231 rfl (lv_at hl 1 rfl) ?_
      refine lv_icmp_ne (tgt := 242) hx hb dL_isGroup_232 (by decide) (fun c_74 => ?_) (fun c_74 => ?_)
      · have hf75 := m_ie c_74 hf73
        clear hf73
        refine lv_bipush (v := (-5)) hx hb dL_isGroup_242 (by decide) ?_
        exact w_L_isGroup_244 l D a cy hG N C _ _ _ _ _ _ hf75 H locs ls hP hS (lv_sub hl [0, 1, 2, 5] rfl)
      · have hf76 := m_it c_74 hf73
        clear hf73
        refine lv_aload_n hx hb dL_isGroup_235 rfl (lv_at hl 3 rfl) ?_
        refine lv_bipush (v := 10) hx hb dL_isGroup_236 (by decide) ?_
        obtain ⟨g_85, hf86⟩ := m_gd_s hf76
        clear hf76
        refine m_ild C hP mC_131 0 rfl g_85 dL_isGroup_238 (fun y_85 e_85 => ?_)
        have hf87 := m_nm_s e_85 hf86
        clear hf86
        refine lv_goto (tgt := 244) hx hb dL_isGroup_239 (by decide) ?_
        exact w_L_isGroup_244 l D a cy hG N C _ _ _ _ _ _ hf87 H locs ls hP hS (lv_sub hl [0, 1, 2, 5] rfl)
def f_L_isGroup_179 (N : Nat) (v1 : Int32) (v2 : Int32) (v10 : Int32) (v11 : Int32) (u0 : Int32) (u1 : Int32) (X : XT) : Option (Int32 × XT) := if u1 = u0 then (m_bi (f_X7_group N v1 4 X) fun r_51 X_51 => if v10 = 0 then (f_L_isGroup_202 N v1 v2 v11 (-5) r_51 X_51) else (m_gd (m_in v1 48) <| m_nm (X_51 137 (Int32.toNatClampNeg v1)) fun y_88 => f_L_isGroup_202 N v1 v2 v11 y_88 r_51 X_51)) else (some (0, X))
set_option maxHeartbeats 4000000 in
set_option maxRecDepth 100000 in
theorem w_L_isGroup_179 (l : Launch) (D : va_G) (a : Nat → Nat) (cy : Nat → ClassId) (hG : m_inj 138 a) (N : Nat) {p : Program} {e : Env} {s : State} {m : MethodId} {args : Array Value} {below : List Frame} {meth : Method} {c : Code} (C : m_Cx p s m args meth c cL_isGroup 14 RL (some .boolean) (Cond.code yL_isGroup cL_isGroup 14 (some .boolean)) D (m_tc cy) (m_AC a) (m_WC a cy) (m_ZC a)) {r0 : Int32} {X0 : XT} (v1 : Int32) (v2 : Int32) (v10 : Int32) (v11 : Int32) (u0 : Int32) (u1 : Int32) (X : XT) (hf0 : f_L_isGroup_179 N v1 v2 v10 v11 u0 u1 X = some (r0, X0)) : ∀ (H : Heap) (locs : List Loc) (ls : Array Slot), va_P D vwCl (m_WC a cy X) H → va_S (m_AC a) s.heap H locs → lv_has ls 14 [(0, .ref (a 126)), (1, .int v1), (2, .int v2), (3, .ref (a 131)), (6, .ref (a 136)), (7, .ref (a 137)), (10, .int v10), (11, .int v11)] → W p l e rm_L_isGroup s m args below meth c H locs 0 0 (MQ below (m_QI D (m_WC a cy) (m_AC a) r0 X0) args s 0 0 (m_AC a)) (F0 m 179 ls [.int u0, .int u1]) := by
  have hx := C.1.1
  have hb := C.1.2.1
  intro H locs ls hP hS hl
  unfold f_L_isGroup_179 at hf0
  refine lv_icmp_ne (tgt := 262) hx hb dL_isGroup_179 (by decide) (fun c_48 => ?_) (fun c_48 => ?_)
  · have hf49 := m_ie c_48 hf0
    clear hf0
    refine lv_iconst (v := 0) hx hb dL_isGroup_262 (by decide) ?_
    exact m_zret C hP hS dL_isGroup_263 (by decide) hf49
  · have hf50 := m_it c_48 hf0
    clear hf0
    refine lv_aload_n hx hb dL_isGroup_182 rfl (lv_at hl 0 rfl) ?_
    refine lv_iload_n hx hb dL_isGroup_183 rfl (lv_at hl 1 rfl) ?_
    refine lv_iconst (v := 4) hx hb dL_isGroup_184 (by decide) ?_
    obtain ⟨r_51, X_51, h_51, hf52⟩ := m_bi_s hf50
    clear hf50
    refine m_callVi (q := (RX7, TX7, 5)) C [.int v1, .int 4] [] (c_X7_group l D a cy hG N _ _ _ h_51) (m_goodV wl_L_101 wi_X7_group ws_X7_group wn_X7 wc_X7_group) ⟨rfl, rfl⟩ hv_X7_group ⟨Nat.le_of_ble_eq_true rfl, Nat.le_of_ble_eq_true rfl⟩ rfl mC_126 hP hS rfl hl.1 rfl (Nat.le_of_ble_eq_true rfl) dL_isGroup_185 (fun H locs hP hS => ?_)
    refine lv_iload hx hb dL_isGroup_188 (lv_at hl 6 rfl) ?_
    refine lv_if_eq (tgt := 200) hx hb dL_isGroup_190 (by decide) (fun c_53 => ?_) (fun c_53 => ?_)
    · have hf54 := m_it c_53 hf52
      clear hf52
      refine lv_bipush (v := (-5)) hx hb dL_isGroup_200 (by decide) ?_
      exact w_L_isGroup_202 l D a cy hG N C _ _ _ _ _ _ hf54 H locs ls hP hS (lv_sub hl [0, 1, 2, 3, 4, 7] rfl)
    · have hf55 := m_ie c_53 hf52
      clear hf52
      refine lv_aload hx hb dL_isGroup_193 (lv_at hl 5 rfl) ?_
      refine lv_iload_n hx hb dL_isGroup_195 rfl (lv_at hl 1 rfl) ?_
      obtain ⟨g_88, hf89⟩ := m_gd_s hf55
      clear hf55
      refine m_ild C hP mC_137 0 rfl g_88 dL_isGroup_196 (fun y_88 e_88 => ?_)
      have hf90 := m_nm_s e_88 hf89
      clear hf89
      refine lv_goto (tgt := 202) hx hb dL_isGroup_197 (by decide) ?_
      exact w_L_isGroup_202 l D a cy hG N C _ _ _ _ _ _ hf90 H locs ls hP hS (lv_sub hl [0, 1, 2, 3, 4, 7] rfl)
def f_L_isGroup_109 (N : Nat) (v1 : Int32) (v2 : Int32) (v8 : Int32) (v9 : Int32) (v10 : Int32) (v11 : Int32) (X : XT) : Option (Int32 × XT) := m_bi (f_X7_group N v1 0 X) fun r_19 X_19 => m_gd (m_in v1 48) <| m_nm (X_19 136 (Int32.toNatClampNeg v1)) fun y_21 => m_nm (y_21 &&& 7) fun y_24 => if r_19 = y_24 then (m_bi (f_X7_group N v1 1 X_19) fun r_29 X_29 => m_nm (v8 - v8 / 1000 * 1000) fun y_31 => if r_29 = y_31 then (m_bi (f_X7_group N v1 2 X_29) fun r_36 X_36 => m_nm (v8 / 1000) fun y_38 => if r_36 = y_38 then (m_bi (f_X7_group N v1 3 X_36) fun r_43 X_43 => if v10 = 0 then (f_L_isGroup_179 N v1 v2 v10 v11 (-5) r_43 X_43) else (m_gd (m_in v9 48) <| m_nm (X_43 132 (Int32.toNatClampNeg v9)) fun y_91 => m_nm (y_91 &&& 15) fun y_94 => f_L_isGroup_179 N v1 v2 v10 v11 y_94 r_43 X_43)) else (some (0, X_36))) else (some (0, X_29))) else (some (0, X_19))
set_option maxHeartbeats 4000000 in
set_option maxRecDepth 100000 in
theorem w_L_isGroup_109 (l : Launch) (D : va_G) (a : Nat → Nat) (cy : Nat → ClassId) (hG : m_inj 138 a) (N : Nat) {p : Program} {e : Env} {s : State} {m : MethodId} {args : Array Value} {below : List Frame} {meth : Method} {c : Code} (C : m_Cx p s m args meth c cL_isGroup 14 RL (some .boolean) (Cond.code yL_isGroup cL_isGroup 14 (some .boolean)) D (m_tc cy) (m_AC a) (m_WC a cy) (m_ZC a)) {r0 : Int32} {X0 : XT} (v1 : Int32) (v2 : Int32) (v8 : Int32) (v9 : Int32) (v10 : Int32) (v11 : Int32) (X : XT) (hf0 : f_L_isGroup_109 N v1 v2 v8 v9 v10 v11 X = some (r0, X0)) : ∀ (H : Heap) (locs : List Loc) (ls : Array Slot), va_P D vwCl (m_WC a cy X) H → va_S (m_AC a) s.heap H locs → lv_has ls 14 [(0, .ref (a 126)), (1, .int v1), (2, .int v2), (3, .ref (a 131)), (4, .ref (a 132)), (6, .ref (a 136)), (7, .ref (a 137)), (8, .int v8), (9, .int v9), (10, .int v10), (11, .int v11)] → W p l e rm_L_isGroup s m args below meth c H locs 0 0 (MQ below (m_QI D (m_WC a cy) (m_AC a) r0 X0) args s 0 0 (m_AC a)) (F0 m 109 ls []) := by
  have hx := C.1.1
  have hb := C.1.2.1
  intro H locs ls hP hS hl
  unfold f_L_isGroup_109 at hf0
  refine lv_aload_n hx hb dL_isGroup_109 rfl (lv_at hl 0 rfl) ?_
  refine lv_iload_n hx hb dL_isGroup_110 rfl (lv_at hl 1 rfl) ?_
  refine lv_iconst (v := 0) hx hb dL_isGroup_111 (by decide) ?_
  obtain ⟨r_19, X_19, h_19, hf20⟩ := m_bi_s hf0
  clear hf0
  refine m_callVi (q := (RX7, TX7, 5)) C [.int v1, .int 0] [] (c_X7_group l D a cy hG N _ _ _ h_19) (m_goodV wl_L_101 wi_X7_group ws_X7_group wn_X7 wc_X7_group) ⟨rfl, rfl⟩ hv_X7_group ⟨Nat.le_of_ble_eq_true rfl, Nat.le_of_ble_eq_true rfl⟩ rfl mC_126 hP hS rfl hl.1 rfl (Nat.le_of_ble_eq_true rfl) dL_isGroup_112 (fun H locs hP hS => ?_)
  refine lv_aload hx hb dL_isGroup_115 (lv_at hl 5 rfl) ?_
  refine lv_iload_n hx hb dL_isGroup_117 rfl (lv_at hl 1 rfl) ?_
  obtain ⟨g_21, hf22⟩ := m_gd_s hf20
  clear hf20
  refine m_ild C hP mC_136 0 rfl g_21 dL_isGroup_118 (fun y_21 e_21 => ?_)
  have hf23 := m_nm_s e_21 hf22
  clear hf22
  refine lv_bipush (v := 7) hx hb dL_isGroup_119 (by decide) ?_
  refine lv_iand hx hb dL_isGroup_121 ?_
  refine lv_topi (fun y_24 e_24 => ?_)
  have hf25 := m_nm_s e_24 hf23
  clear hf23
  refine lv_icmp_ne (tgt := 262) hx hb dL_isGroup_122 (by decide) (fun c_26 => ?_) (fun c_26 => ?_)
  · have hf27 := m_ie c_26 hf25
    clear hf25
    refine lv_iconst (v := 0) hx hb dL_isGroup_262 (by decide) ?_
    exact m_zret C hP hS dL_isGroup_263 (by decide) hf27
  · have hf28 := m_it c_26 hf25
    clear hf25
    refine lv_aload_n hx hb dL_isGroup_125 rfl (lv_at hl 0 rfl) ?_
    refine lv_iload_n hx hb dL_isGroup_126 rfl (lv_at hl 1 rfl) ?_
    refine lv_iconst (v := 1) hx hb dL_isGroup_127 (by decide) ?_
    obtain ⟨r_29, X_29, h_29, hf30⟩ := m_bi_s hf28
    clear hf28
    refine m_callVi (q := (RX7, TX7, 5)) C [.int v1, .int 1] [] (c_X7_group l D a cy hG N _ _ _ h_29) (m_goodV wl_L_101 wi_X7_group ws_X7_group wn_X7 wc_X7_group) ⟨rfl, rfl⟩ hv_X7_group ⟨Nat.le_of_ble_eq_true rfl, Nat.le_of_ble_eq_true rfl⟩ rfl mC_126 hP hS rfl hl.1 rfl (Nat.le_of_ble_eq_true rfl) dL_isGroup_128 (fun H locs hP hS => ?_)
    refine lv_iload hx hb dL_isGroup_131 (lv_at hl 7 rfl) ?_
    refine lv_sipush (v := 1000) hx hb dL_isGroup_133 (by decide) ?_
    refine lv_irem hx hb dL_isGroup_136 (by decide) ?_
    refine lv_topi (fun y_31 e_31 => ?_)
    have hf32 := m_nm_s e_31 hf30
    clear hf30
    refine lv_icmp_ne (tgt := 262) hx hb dL_isGroup_137 (by decide) (fun c_33 => ?_) (fun c_33 => ?_)
    · have hf34 := m_ie c_33 hf32
      clear hf32
      refine lv_iconst (v := 0) hx hb dL_isGroup_262 (by decide) ?_
      exact m_zret C hP hS dL_isGroup_263 (by decide) hf34
    · have hf35 := m_it c_33 hf32
      clear hf32
      refine lv_aload_n hx hb dL_isGroup_140 rfl (lv_at hl 0 rfl) ?_
      refine lv_iload_n hx hb dL_isGroup_141 rfl (lv_at hl 1 rfl) ?_
      refine lv_iconst (v := 2) hx hb dL_isGroup_142 (by decide) ?_
      obtain ⟨r_36, X_36, h_36, hf37⟩ := m_bi_s hf35
      clear hf35
      refine m_callVi (q := (RX7, TX7, 5)) C [.int v1, .int 2] [] (c_X7_group l D a cy hG N _ _ _ h_36) (m_goodV wl_L_101 wi_X7_group ws_X7_group wn_X7 wc_X7_group) ⟨rfl, rfl⟩ hv_X7_group ⟨Nat.le_of_ble_eq_true rfl, Nat.le_of_ble_eq_true rfl⟩ rfl mC_126 hP hS rfl hl.1 rfl (Nat.le_of_ble_eq_true rfl) dL_isGroup_143 (fun H locs hP hS => ?_)
      refine lv_iload hx hb dL_isGroup_146 (lv_at hl 7 rfl) ?_
      refine lv_sipush (v := 1000) hx hb dL_isGroup_148 (by decide) ?_
      refine lv_idiv hx hb dL_isGroup_151 (by decide) ?_
      refine lv_topi (fun y_38 e_38 => ?_)
      have hf39 := m_nm_s e_38 hf37
      clear hf37
      refine lv_icmp_ne (tgt := 262) hx hb dL_isGroup_152 (by decide) (fun c_40 => ?_) (fun c_40 => ?_)
      · have hf41 := m_ie c_40 hf39
        clear hf39
        refine lv_iconst (v := 0) hx hb dL_isGroup_262 (by decide) ?_
        exact m_zret C hP hS dL_isGroup_263 (by decide) hf41
      · have hf42 := m_it c_40 hf39
        clear hf39
        refine lv_aload_n hx hb dL_isGroup_155 rfl (lv_at hl 0 rfl) ?_
        refine lv_iload_n hx hb dL_isGroup_156 rfl (lv_at hl 1 rfl) ?_
        refine lv_iconst (v := 3) hx hb dL_isGroup_157 (by decide) ?_
        obtain ⟨r_43, X_43, h_43, hf44⟩ := m_bi_s hf42
        clear hf42
        refine m_callVi (q := (RX7, TX7, 5)) C [.int v1, .int 3] [] (c_X7_group l D a cy hG N _ _ _ h_43) (m_goodV wl_L_101 wi_X7_group ws_X7_group wn_X7 wc_X7_group) ⟨rfl, rfl⟩ hv_X7_group ⟨Nat.le_of_ble_eq_true rfl, Nat.le_of_ble_eq_true rfl⟩ rfl mC_126 hP hS rfl hl.1 rfl (Nat.le_of_ble_eq_true rfl) dL_isGroup_158 (fun H locs hP hS => ?_)
        refine lv_iload hx hb dL_isGroup_161 (lv_at hl 9 rfl) ?_
        refine lv_if_eq (tgt := 177) hx hb dL_isGroup_163 (by decide) (fun c_45 => ?_) (fun c_45 => ?_)
        · have hf46 := m_it c_45 hf44
          clear hf44
          refine lv_bipush (v := (-5)) hx hb dL_isGroup_177 (by decide) ?_
          exact w_L_isGroup_179 l D a cy hG N C _ _ _ _ _ _ _ hf46 H locs ls hP hS (lv_sub hl [0, 1, 2, 3, 5, 6, 9, 10] rfl)
        · have hf47 := m_ie c_45 hf44
          clear hf44
          refine lv_aload hx hb dL_isGroup_166 (lv_at hl 4 rfl) ?_
          refine lv_iload hx hb dL_isGroup_168 (lv_at hl 8 rfl) ?_
          obtain ⟨g_91, hf92⟩ := m_gd_s hf47
          clear hf47
          refine m_ild C hP mC_132 0 rfl g_91 dL_isGroup_170 (fun y_91 e_91 => ?_)
          have hf93 := m_nm_s e_91 hf92
          clear hf92
          refine lv_bipush (v := 15) hx hb dL_isGroup_171 (by decide) ?_
          refine lv_iand hx hb dL_isGroup_173 ?_
          refine lv_topi (fun y_94 e_94 => ?_)
          have hf95 := m_nm_s e_94 hf93
          clear hf93
          refine lv_goto (tgt := 179) hx hb dL_isGroup_174 (by decide) ?_
          exact w_L_isGroup_179 l D a cy hG N C _ _ _ _ _ _ _ hf95 H locs ls hP hS (lv_sub hl [0, 1, 2, 3, 5, 6, 9, 10] rfl)
def f_L_isGroup_48 (N : Nat) : Nat → Int32 → Int32 → Int32 → Int32 → Int32 → Int32 → Int32 → Int32 → XT → Option (Int32 × XT)
  | 0, _, _, _, _, _, _, _, _, _ => none
  | n + 1, v1, v2, v8, v9, v10, v11, v12, v13, X => m_gd (m_in 6 17) <| m_nm (X 131 (Int32.toNatClampNeg 6)) fun y_13 => if y_13 ≤ v13 then (f_L_isGroup_109 N v1 v2 v8 v9 v10 v11 X) else (m_gd (m_in v13 48) <| m_nm (X 135 (Int32.toNatClampNeg v13)) fun y_96 => m_nm ((2 : Int32) * v1) fun y_99 => if y_96 = y_99 then (if v12 = 0 then (m_gd (m_in v13 48) <| m_nm (X 135 (Int32.toNatClampNeg v13)) fun y_139 => m_nm ((2 : Int32) * v1) fun y_142 => if y_139 = y_142 then (m_nm (v12 - 1) fun y_151 => m_nm (v13 + 1) fun y_153 => f_L_isGroup_48 N n v1 v2 v8 v9 v10 v13 y_151 y_153 X) else (m_nm (v12 - 0) fun y_147 => m_nm (v13 + 1) fun y_149 => f_L_isGroup_48 N n v1 v2 v8 v9 v10 v13 y_147 y_149 X)) else (m_gd (m_in v13 48) <| m_nm (X 135 (Int32.toNatClampNeg v13)) fun y_123 => m_nm ((2 : Int32) * v1) fun y_126 => if y_123 = y_126 then (m_nm (v12 - 1) fun y_135 => m_nm (v13 + 1) fun y_137 => f_L_isGroup_48 N n v1 v2 v8 v9 v10 v11 y_135 y_137 X) else (m_nm (v12 - 0) fun y_131 => m_nm (v13 + 1) fun y_133 => f_L_isGroup_48 N n v1 v2 v8 v9 v10 v11 y_131 y_133 X))) else (m_gd (m_in v13 48) <| m_nm (X 135 (Int32.toNatClampNeg v13)) fun y_104 => m_nm ((2 : Int32) * v1) fun y_107 => if y_104 = y_107 then (m_nm (v12 - 1) fun y_116 => m_nm (v13 + 1) fun y_118 => f_L_isGroup_48 N n v1 v2 v8 v9 v10 v11 y_116 y_118 X) else (m_nm (v12 - 0) fun y_112 => m_nm (v13 + 1) fun y_114 => f_L_isGroup_48 N n v1 v2 v8 v9 v10 v11 y_112 y_114 X)))
set_option maxHeartbeats 4000000 in
set_option maxRecDepth 100000 in
theorem w_L_isGroup_48 (l : Launch) (D : va_G) (a : Nat → Nat) (cy : Nat → ClassId) (hG : m_inj 138 a) (N : Nat) {p : Program} {e : Env} {s : State} {m : MethodId} {args : Array Value} {below : List Frame} {meth : Method} {c : Code} (C : m_Cx p s m args meth c cL_isGroup 14 RL (some .boolean) (Cond.code yL_isGroup cL_isGroup 14 (some .boolean)) D (m_tc cy) (m_AC a) (m_WC a cy) (m_ZC a)) {r0 : Int32} {X0 : XT} : ∀ (n : Nat) (v1 : Int32) (v2 : Int32) (v8 : Int32) (v9 : Int32) (v10 : Int32) (v11 : Int32) (v12 : Int32) (v13 : Int32) (X : XT), f_L_isGroup_48 N n v1 v2 v8 v9 v10 v11 v12 v13 X = some (r0, X0) → ∀ (H : Heap) (locs : List Loc) (ls : Array Slot), va_P D vwCl (m_WC a cy X) H → va_S (m_AC a) s.heap H locs → lv_has ls 14 [(0, .ref (a 126)), (1, .int v1), (2, .int v2), (3, .ref (a 131)), (4, .ref (a 132)), (5, .ref (a 135)), (6, .ref (a 136)), (7, .ref (a 137)), (8, .int v8), (9, .int v9), (10, .int v10), (11, .int v11), (12, .int v12), (13, .int v13)] → W p l e rm_L_isGroup s m args below meth c H locs 0 0 (MQ below (m_QI D (m_WC a cy) (m_AC a) r0 X0) args s 0 0 (m_AC a)) (F0 m 48 ls []) := by
  have hx := C.1.1
  have hb := C.1.2.1
  intro n
  induction n with
  | zero => intro v1 v2 v8 v9 v10 v11 v12 v13 X hf0; rw [f_L_isGroup_48] at hf0; cases hf0
  | succ n ih =>
    intro v1 v2 v8 v9 v10 v11 v12 v13 X hf0 H locs ls hP hS hl
    rw [f_L_isGroup_48] at hf0
    refine lv_iload hx hb dL_isGroup_48 (lv_at hl 13 rfl) ?_
    refine lv_aload_n hx hb dL_isGroup_50 rfl (lv_at hl 3 rfl) ?_
    refine lv_bipush (v := 6) hx hb dL_isGroup_51 (by decide) ?_
    obtain ⟨g_13, hf14⟩ := m_gd_s hf0
    clear hf0
    refine m_ild C hP mC_131 0 rfl g_13 dL_isGroup_53 (fun y_13 e_13 => ?_)
    have hf15 := m_nm_s e_13 hf14
    clear hf14
    refine lv_icmp_ge (tgt := 109) hx hb dL_isGroup_54 (by decide) (fun c_16 => ?_) (fun c_16 => ?_)
    · have hf17 := m_it c_16 hf15
      clear hf15
      exact w_L_isGroup_109 l D a cy hG N C _ _ _ _ _ _ _ hf17 H locs ls hP hS (lv_sub hl [0, 1, 2, 3, 4, 6, 7, 8, 9, 10, 11] rfl)
    · have hf18 := m_ie c_16 hf15
      clear hf15
      refine lv_aload hx hb dL_isGroup_57 (lv_at hl 5 rfl) ?_
      refine lv_iload hx hb dL_isGroup_59 (lv_at hl 13 rfl) ?_
      obtain ⟨g_96, hf97⟩ := m_gd_s hf18
      clear hf18
      refine m_ild C hP mC_135 0 rfl g_96 dL_isGroup_61 (fun y_96 e_96 => ?_)
      have hf98 := m_nm_s e_96 hf97
      clear hf97
      refine lv_iconst (v := 2) hx hb dL_isGroup_62 (by decide) ?_
      refine lv_iload_n hx hb dL_isGroup_63 rfl (lv_at hl 1 rfl) ?_
      refine lv_imul hx hb dL_isGroup_64 ?_
      refine lv_topi (fun y_99 e_99 => ?_)
      have hf100 := m_nm_s e_99 hf98
      clear hf98
      refine lv_icmp_ne (tgt := 78) hx hb dL_isGroup_65 (by decide) (fun c_101 => ?_) (fun c_101 => ?_)
      · have hf102 := m_ie c_101 hf100
        clear hf100
        refine lv_iload hx hb dL_isGroup_78 (lv_at hl 11 rfl) ?_
        refine lv_istore (lv' := [(11, .int v11), (0, .ref (a 126)), (1, .int v1), (2, .int v2), (3, .ref (a 131)), (4, .ref (a 132)), (5, .ref (a 135)), (6, .ref (a 136)), (7, .ref (a 137)), (8, .int v8), (9, .int v9), (10, .int v10), (12, .int v12), (13, .int v13)]) hx hb dL_isGroup_80 hl (by decide) rfl (fun ls hl => ?_)
        refine lv_iload hx hb dL_isGroup_82 (lv_at hl 12 rfl) ?_
        refine lv_aload hx hb dL_isGroup_84 (lv_at hl 6 rfl) ?_
        refine lv_iload hx hb dL_isGroup_86 (lv_at hl 13 rfl) ?_
        obtain ⟨g_104, hf105⟩ := m_gd_s hf102
        clear hf102
        refine m_ild C hP mC_135 0 rfl g_104 dL_isGroup_88 (fun y_104 e_104 => ?_)
        have hf106 := m_nm_s e_104 hf105
        clear hf105
        refine lv_iconst (v := 2) hx hb dL_isGroup_89 (by decide) ?_
        refine lv_iload_n hx hb dL_isGroup_90 rfl (lv_at hl 2 rfl) ?_
        refine lv_imul hx hb dL_isGroup_91 ?_
        refine lv_topi (fun y_107 e_107 => ?_)
        have hf108 := m_nm_s e_107 hf106
        clear hf106
        refine lv_icmp_ne (tgt := 99) hx hb dL_isGroup_92 (by decide) (fun c_109 => ?_) (fun c_109 => ?_)
        · have hf110 := m_ie c_109 hf108
          clear hf108
          refine lv_iconst (v := 0) hx hb dL_isGroup_99 (by decide) ?_
          refine lv_isub hx hb dL_isGroup_100 ?_
          refine lv_topi (fun y_112 e_112 => ?_)
          have hf113 := m_nm_s e_112 hf110
          clear hf110
          refine lv_istore (lv' := [(12, .int y_112), (11, .int v11), (0, .ref (a 126)), (1, .int v1), (2, .int v2), (3, .ref (a 131)), (4, .ref (a 132)), (5, .ref (a 135)), (6, .ref (a 136)), (7, .ref (a 137)), (8, .int v8), (9, .int v9), (10, .int v10), (13, .int v13)]) hx hb dL_isGroup_101 hl (by decide) rfl (fun ls hl => ?_)
          obtain ⟨y_114, e_114⟩ : ∃ y : Int32, y = v13 + 1 := ⟨_, rfl⟩
          refine lv_iinc (v := y_114) (lv' := [(13, .int y_114), (12, .int y_112), (11, .int v11), (0, .ref (a 126)), (1, .int v1), (2, .int v2), (3, .ref (a 131)), (4, .ref (a 132)), (5, .ref (a 135)), (6, .ref (a 136)), (7, .ref (a 137)), (8, .int v8), (9, .int v9), (10, .int v10)]) hx hb dL_isGroup_103 hl (k := 13) rfl (by rw [e_114]; rfl) (by decide) rfl (fun ls hl => ?_)
          have hf115 := m_nm_s e_114 hf113
          clear hf113
          refine lv_goto (tgt := 48) hx hb dL_isGroup_106 (by decide) ?_
          exact ih _ _ _ _ _ _ _ _ _ hf115 H locs ls hP hS (lv_sub hl [3, 4, 5, 6, 7, 8, 9, 10, 11, 12, 13, 2, 1, 0] rfl)
        · have hf111 := m_it c_109 hf108
          clear hf108
          refine lv_iconst (v := 1) hx hb dL_isGroup_95 (by decide) ?_
          refine lv_goto (tgt := 100) hx hb dL_isGroup_96 (by decide) ?_
          refine lv_isub hx hb dL_isGroup_100 ?_
          refine lv_topi (fun y_116 e_116 => ?_)
          have hf117 := m_nm_s e_116 hf111
          clear hf111
          refine lv_istore (lv' := [(12, .int y_116), (11, .int v11), (0, .ref (a 126)), (1, .int v1), (2, .int v2), (3, .ref (a 131)), (4, .ref (a 132)), (5, .ref (a 135)), (6, .ref (a 136)), (7, .ref (a 137)), (8, .int v8), (9, .int v9), (10, .int v10), (13, .int v13)]) hx hb dL_isGroup_101 hl (by decide) rfl (fun ls hl => ?_)
          obtain ⟨y_118, e_118⟩ : ∃ y : Int32, y = v13 + 1 := ⟨_, rfl⟩
          refine lv_iinc (v := y_118) (lv' := [(13, .int y_118), (12, .int y_116), (11, .int v11), (0, .ref (a 126)), (1, .int v1), (2, .int v2), (3, .ref (a 131)), (4, .ref (a 132)), (5, .ref (a 135)), (6, .ref (a 136)), (7, .ref (a 137)), (8, .int v8), (9, .int v9), (10, .int v10)]) hx hb dL_isGroup_103 hl (k := 13) rfl (by rw [e_118]; rfl) (by decide) rfl (fun ls hl => ?_)
          have hf119 := m_nm_s e_118 hf117
          clear hf117
          refine lv_goto (tgt := 48) hx hb dL_isGroup_106 (by decide) ?_
          exact ih _ _ _ _ _ _ _ _ _ hf119 H locs ls hP hS (lv_sub hl [3, 4, 5, 6, 7, 8, 9, 10, 11, 12, 13, 2, 1, 0] rfl)
      · have hf103 := m_it c_101 hf100
        clear hf100
        refine lv_iload hx hb dL_isGroup_68 (lv_at hl 12 rfl) ?_
        refine lv_if_ne (tgt := 78) hx hb dL_isGroup_70 (by decide) (fun c_120 => ?_) (fun c_120 => ?_)
        · have hf121 := m_ie c_120 hf103
          clear hf103
          refine lv_iload hx hb dL_isGroup_78 (lv_at hl 11 rfl) ?_
          refine lv_istore (lv' := [(11, .int v11), (0, .ref (a 126)), (1, .int v1), (2, .int v2), (3, .ref (a 131)), (4, .ref (a 132)), (5, .ref (a 135)), (6, .ref (a 136)), (7, .ref (a 137)), (8, .int v8), (9, .int v9), (10, .int v10), (12, .int v12), (13, .int v13)]) hx hb dL_isGroup_80 hl (by decide) rfl (fun ls hl => ?_)
          refine lv_iload hx hb dL_isGroup_82 (lv_at hl 12 rfl) ?_
          refine lv_aload hx hb dL_isGroup_84 (lv_at hl 6 rfl) ?_
          refine lv_iload hx hb dL_isGroup_86 (lv_at hl 13 rfl) ?_
          obtain ⟨g_123, hf124⟩ := m_gd_s hf121
          clear hf121
          refine m_ild C hP mC_135 0 rfl g_123 dL_isGroup_88 (fun y_123 e_123 => ?_)
          have hf125 := m_nm_s e_123 hf124
          clear hf124
          refine lv_iconst (v := 2) hx hb dL_isGroup_89 (by decide) ?_
          refine lv_iload_n hx hb dL_isGroup_90 rfl (lv_at hl 2 rfl) ?_
          refine lv_imul hx hb dL_isGroup_91 ?_
          refine lv_topi (fun y_126 e_126 => ?_)
          have hf127 := m_nm_s e_126 hf125
          clear hf125
          refine lv_icmp_ne (tgt := 99) hx hb dL_isGroup_92 (by decide) (fun c_128 => ?_) (fun c_128 => ?_)
          · have hf129 := m_ie c_128 hf127
            clear hf127
            refine lv_iconst (v := 0) hx hb dL_isGroup_99 (by decide) ?_
            refine lv_isub hx hb dL_isGroup_100 ?_
            refine lv_topi (fun y_131 e_131 => ?_)
            have hf132 := m_nm_s e_131 hf129
            clear hf129
            refine lv_istore (lv' := [(12, .int y_131), (11, .int v11), (0, .ref (a 126)), (1, .int v1), (2, .int v2), (3, .ref (a 131)), (4, .ref (a 132)), (5, .ref (a 135)), (6, .ref (a 136)), (7, .ref (a 137)), (8, .int v8), (9, .int v9), (10, .int v10), (13, .int v13)]) hx hb dL_isGroup_101 hl (by decide) rfl (fun ls hl => ?_)
            obtain ⟨y_133, e_133⟩ : ∃ y : Int32, y = v13 + 1 := ⟨_, rfl⟩
            refine lv_iinc (v := y_133) (lv' := [(13, .int y_133), (12, .int y_131), (11, .int v11), (0, .ref (a 126)), (1, .int v1), (2, .int v2), (3, .ref (a 131)), (4, .ref (a 132)), (5, .ref (a 135)), (6, .ref (a 136)), (7, .ref (a 137)), (8, .int v8), (9, .int v9), (10, .int v10)]) hx hb dL_isGroup_103 hl (k := 13) rfl (by rw [e_133]; rfl) (by decide) rfl (fun ls hl => ?_)
            have hf134 := m_nm_s e_133 hf132
            clear hf132
            refine lv_goto (tgt := 48) hx hb dL_isGroup_106 (by decide) ?_
            exact ih _ _ _ _ _ _ _ _ _ hf134 H locs ls hP hS (lv_sub hl [3, 4, 5, 6, 7, 8, 9, 10, 11, 12, 13, 2, 1, 0] rfl)
          · have hf130 := m_it c_128 hf127
            clear hf127
            refine lv_iconst (v := 1) hx hb dL_isGroup_95 (by decide) ?_
            refine lv_goto (tgt := 100) hx hb dL_isGroup_96 (by decide) ?_
            refine lv_isub hx hb dL_isGroup_100 ?_
            refine lv_topi (fun y_135 e_135 => ?_)
            have hf136 := m_nm_s e_135 hf130
            clear hf130
            refine lv_istore (lv' := [(12, .int y_135), (11, .int v11), (0, .ref (a 126)), (1, .int v1), (2, .int v2), (3, .ref (a 131)), (4, .ref (a 132)), (5, .ref (a 135)), (6, .ref (a 136)), (7, .ref (a 137)), (8, .int v8), (9, .int v9), (10, .int v10), (13, .int v13)]) hx hb dL_isGroup_101 hl (by decide) rfl (fun ls hl => ?_)
            obtain ⟨y_137, e_137⟩ : ∃ y : Int32, y = v13 + 1 := ⟨_, rfl⟩
            refine lv_iinc (v := y_137) (lv' := [(13, .int y_137), (12, .int y_135), (11, .int v11), (0, .ref (a 126)), (1, .int v1), (2, .int v2), (3, .ref (a 131)), (4, .ref (a 132)), (5, .ref (a 135)), (6, .ref (a 136)), (7, .ref (a 137)), (8, .int v8), (9, .int v9), (10, .int v10)]) hx hb dL_isGroup_103 hl (k := 13) rfl (by rw [e_137]; rfl) (by decide) rfl (fun ls hl => ?_)
            have hf138 := m_nm_s e_137 hf136
            clear hf136
            refine lv_goto (tgt := 48) hx hb dL_isGroup_106 (by decide) ?_
            exact ih _ _ _ _ _ _ _ _ _ hf138 H locs ls hP hS (lv_sub hl [3, 4, 5, 6, 7, 8, 9, 10, 11, 12, 13, 2, 1, 0] rfl)
        · have hf122 := m_it c_120 hf103
          clear hf103
          refine lv_iload hx hb dL_isGroup_73 (lv_at hl 13 rfl) ?_
          refine lv_goto (tgt := 80) hx hb dL_isGroup_75 (by decide) ?_
          refine lv_istore (lv' := [(11, .int v13), (0, .ref (a 126)), (1, .int v1), (2, .int v2), (3, .ref (a 131)), (4, .ref (a 132)), (5, .ref (a 135)), (6, .ref (a 136)), (7, .ref (a 137)), (8, .int v8), (9, .int v9), (10, .int v10), (12, .int v12), (13, .int v13)]) hx hb dL_isGroup_80 hl (by decide) rfl (fun ls hl => ?_)
          refine lv_iload hx hb dL_isGroup_82 (lv_at hl 12 rfl) ?_
          refine lv_aload hx hb dL_isGroup_84 (lv_at hl 6 rfl) ?_
          refine lv_iload hx hb dL_isGroup_86 (lv_at hl 13 rfl) ?_
          obtain ⟨g_139, hf140⟩ := m_gd_s hf122
          clear hf122
          refine m_ild C hP mC_135 0 rfl g_139 dL_isGroup_88 (fun y_139 e_139 => ?_)
          have hf141 := m_nm_s e_139 hf140
          clear hf140
          refine lv_iconst (v := 2) hx hb dL_isGroup_89 (by decide) ?_
          refine lv_iload_n hx hb dL_isGroup_90 rfl (lv_at hl 2 rfl) ?_
          refine lv_imul hx hb dL_isGroup_91 ?_
          refine lv_topi (fun y_142 e_142 => ?_)
          have hf143 := m_nm_s e_142 hf141
          clear hf141
          refine lv_icmp_ne (tgt := 99) hx hb dL_isGroup_92 (by decide) (fun c_144 => ?_) (fun c_144 => ?_)
          · have hf145 := m_ie c_144 hf143
            clear hf143
            refine lv_iconst (v := 0) hx hb dL_isGroup_99 (by decide) ?_
            refine lv_isub hx hb dL_isGroup_100 ?_
            refine lv_topi (fun y_147 e_147 => ?_)
            have hf148 := m_nm_s e_147 hf145
            clear hf145
            refine lv_istore (lv' := [(12, .int y_147), (11, .int v13), (0, .ref (a 126)), (1, .int v1), (2, .int v2), (3, .ref (a 131)), (4, .ref (a 132)), (5, .ref (a 135)), (6, .ref (a 136)), (7, .ref (a 137)), (8, .int v8), (9, .int v9), (10, .int v10), (13, .int v13)]) hx hb dL_isGroup_101 hl (by decide) rfl (fun ls hl => ?_)
            obtain ⟨y_149, e_149⟩ : ∃ y : Int32, y = v13 + 1 := ⟨_, rfl⟩
            refine lv_iinc (v := y_149) (lv' := [(13, .int y_149), (12, .int y_147), (11, .int v13), (0, .ref (a 126)), (1, .int v1), (2, .int v2), (3, .ref (a 131)), (4, .ref (a 132)), (5, .ref (a 135)), (6, .ref (a 136)), (7, .ref (a 137)), (8, .int v8), (9, .int v9), (10, .int v10)]) hx hb dL_isGroup_103 hl (k := 13) rfl (by rw [e_149]; rfl) (by decide) rfl (fun ls hl => ?_)
            have hf150 := m_nm_s e_149 hf148
            clear hf148
            refine lv_goto (tgt := 48) hx hb dL_isGroup_106 (by decide) ?_
            exact ih _ _ _ _ _ _ _ _ _ hf150 H locs ls hP hS (lv_sub hl [3, 4, 5, 6, 7, 8, 9, 10, 11, 12, 13, 2, 1, 0] rfl)
          · have hf146 := m_it c_144 hf143
            clear hf143
            refine lv_iconst (v := 1) hx hb dL_isGroup_95 (by decide) ?_
            refine lv_goto (tgt := 100) hx hb dL_isGroup_96 (by decide) ?_
            refine lv_isub hx hb dL_isGroup_100 ?_
            refine lv_topi (fun y_151 e_151 => ?_)
            have hf152 := m_nm_s e_151 hf146
            clear hf146
            refine lv_istore (lv' := [(12, .int y_151), (11, .int v13), (0, .ref (a 126)), (1, .int v1), (2, .int v2), (3, .ref (a 131)), (4, .ref (a 132)), (5, .ref (a 135)), (6, .ref (a 136)), (7, .ref (a 137)), (8, .int v8), (9, .int v9), (10, .int v10), (13, .int v13)]) hx hb dL_isGroup_101 hl (by decide) rfl (fun ls hl => ?_)
            obtain ⟨y_153, e_153⟩ : ∃ y : Int32, y = v13 + 1 := ⟨_, rfl⟩
            refine lv_iinc (v := y_153) (lv' := [(13, .int y_153), (12, .int y_151), (11, .int v13), (0, .ref (a 126)), (1, .int v1), (2, .int v2), (3, .ref (a 131)), (4, .ref (a 132)), (5, .ref (a 135)), (6, .ref (a 136)), (7, .ref (a 137)), (8, .int v8), (9, .int v9), (10, .int v10)]) hx hb dL_isGroup_103 hl (k := 13) rfl (by rw [e_153]; rfl) (by decide) rfl (fun ls hl => ?_)
            have hf154 := m_nm_s e_153 hf152
            clear hf152
            refine lv_goto (tgt := 48) hx hb dL_isGroup_106 (by decide) ?_
            exact ih _ _ _ _ _ _ _ _ _ hf154 H locs ls hP hS (lv_sub hl [3, 4, 5, 6, 7, 8, 9, 10, 11, 12, 13, 2, 1, 0] rfl)
def f_L_isGroup_36 (N : Nat) (v1 : Int32) (v2 : Int32) (v8 : Int32) (v9 : Int32) (u0 : Int32) (X : XT) : Option (Int32 × XT) := f_L_isGroup_48 N N v1 v2 v8 v9 u0 (-5) v2 0 X
set_option maxHeartbeats 4000000 in
set_option maxRecDepth 100000 in
theorem w_L_isGroup_36 (l : Launch) (D : va_G) (a : Nat → Nat) (cy : Nat → ClassId) (hG : m_inj 138 a) (N : Nat) {p : Program} {e : Env} {s : State} {m : MethodId} {args : Array Value} {below : List Frame} {meth : Method} {c : Code} (C : m_Cx p s m args meth c cL_isGroup 14 RL (some .boolean) (Cond.code yL_isGroup cL_isGroup 14 (some .boolean)) D (m_tc cy) (m_AC a) (m_WC a cy) (m_ZC a)) {r0 : Int32} {X0 : XT} (v1 : Int32) (v2 : Int32) (v8 : Int32) (v9 : Int32) (u0 : Int32) (X : XT) (hf0 : f_L_isGroup_36 N v1 v2 v8 v9 u0 X = some (r0, X0)) : ∀ (H : Heap) (locs : List Loc) (ls : Array Slot), va_P D vwCl (m_WC a cy X) H → va_S (m_AC a) s.heap H locs → lv_has ls 14 [(0, .ref (a 126)), (1, .int v1), (2, .int v2), (3, .ref (a 131)), (4, .ref (a 132)), (5, .ref (a 135)), (6, .ref (a 136)), (7, .ref (a 137)), (8, .int v8), (9, .int v9)] → W p l e rm_L_isGroup s m args below meth c H locs 0 0 (MQ below (m_QI D (m_WC a cy) (m_AC a) r0 X0) args s 0 0 (m_AC a)) (F0 m 36 ls [.int u0]) := by
  have hx := C.1.1
  have hb := C.1.2.1
  intro H locs ls hP hS hl
  unfold f_L_isGroup_36 at hf0
  refine lv_istore (lv' := [(10, .int u0), (0, .ref (a 126)), (1, .int v1), (2, .int v2), (3, .ref (a 131)), (4, .ref (a 132)), (5, .ref (a 135)), (6, .ref (a 136)), (7, .ref (a 137)), (8, .int v8), (9, .int v9)]) hx hb dL_isGroup_36 hl (by decide) rfl (fun ls hl => ?_)
  refine lv_bipush (v := (-5)) hx hb dL_isGroup_38 (by decide) ?_
  refine lv_istore (lv' := [(11, .int (-5)), (10, .int u0), (0, .ref (a 126)), (1, .int v1), (2, .int v2), (3, .ref (a 131)), (4, .ref (a 132)), (5, .ref (a 135)), (6, .ref (a 136)), (7, .ref (a 137)), (8, .int v8), (9, .int v9)]) hx hb dL_isGroup_40 hl (by decide) rfl (fun ls hl => ?_)
  refine lv_iload_n hx hb dL_isGroup_42 rfl (lv_at hl 4 rfl) ?_
  refine lv_istore (lv' := [(12, .int v2), (11, .int (-5)), (10, .int u0), (0, .ref (a 126)), (1, .int v1), (2, .int v2), (3, .ref (a 131)), (4, .ref (a 132)), (5, .ref (a 135)), (6, .ref (a 136)), (7, .ref (a 137)), (8, .int v8), (9, .int v9)]) hx hb dL_isGroup_43 hl (by decide) rfl (fun ls hl => ?_)
  refine lv_iconst (v := 0) hx hb dL_isGroup_45 (by decide) ?_
  refine lv_istore (lv' := [(13, .int 0), (12, .int v2), (11, .int (-5)), (10, .int u0), (0, .ref (a 126)), (1, .int v1), (2, .int v2), (3, .ref (a 131)), (4, .ref (a 132)), (5, .ref (a 135)), (6, .ref (a 136)), (7, .ref (a 137)), (8, .int v8), (9, .int v9)]) hx hb dL_isGroup_46 hl (by decide) rfl (fun ls hl => ?_)
  exact w_L_isGroup_48 l D a cy hG N C _ _ _ _ _ _ _ _ _ _ hf0 H locs ls hP hS (lv_sub hl [4, 5, 6, 7, 8, 9, 10, 11, 12, 13, 3, 2, 1, 0] rfl)
def f_L_isGroup (N : Nat) (v1 : Int32) (v2 : Int32) (X : XT) : Option (Int32 × XT) := m_bi (f_L_members N v1 X) fun r_1 X_1 => m_bi (f_L_firstOf N v1 X_1) fun r_3 X_3 => m_gd (m_in v1 48) <| m_nm (X_3 136 (Int32.toNatClampNeg v1)) fun y_5 => m_nm (y_5 &&& 7) fun y_8 => if y_8 = 1 then (f_L_isGroup_36 N v1 v2 r_1 r_3 1 X_3) else (f_L_isGroup_36 N v1 v2 r_1 r_3 0 X_3)
set_option maxHeartbeats 4000000 in
set_option maxRecDepth 100000 in
theorem c_L_isGroup (l : Launch) (D : va_G) (a : Nat → Nat) (cy : Nat → ClassId) (hG : m_inj 138 a) (N : Nat) (v1 : Int32) (v2 : Int32) (X : XT) {r0 : Int32} {X0 : XT} (hf0 : f_L_isGroup N v1 v2 X = some (r0, X0)) : Met l yL_isGroup (Cond.code yL_isGroup cL_isGroup 14 (some .boolean) :: m_tbl) rm_L_isGroup (va_Pc [.ref (a 126), .int v1, .int v2, .ref (a 131), .ref (a 132), .ref (a 135), .ref (a 136), .ref (a 137)] (m_PX D (m_tc cy) (m_WC a cy) (m_ZC a) X)) (m_QI D (m_WC a cy) (m_AC a) r0 X0) 0 0 (m_AC a) := by
  refine m_met (own := RL) hy_L_isGroup rfl (Nat.le_of_ble_eq_true rfl) (m_wl_D hG _) m_ZC_keep ?_
  intro p e s m args below meth c C ls hl hP hS
  have hx := C.1.1
  have hb := C.1.2.1
  have hl : lv_has ls 14 [(0, .ref (a 126)), (1, .int v1), (2, .int v2), (3, .ref (a 131)), (4, .ref (a 132)), (5, .ref (a 135)), (6, .ref (a 136)), (7, .ref (a 137))] := hl
  unfold f_L_isGroup at hf0
  suffices K : ∀ (H : Heap) (locs : List Loc), va_P D vwCl (m_WC a cy X) H → va_S (m_AC a) s.heap H locs → W p l e rm_L_isGroup s m args below meth c H locs 0 0 (MQ below (m_QI D (m_WC a cy) (m_AC a) r0 X0) args s 0 0 (m_AC a)) (F0 m 0 ls []) from K _ _ hP hS
  clear hP hS
  intro H locs hP hS
  refine lv_iload_n hx hb dL_isGroup_0 rfl (lv_at hl 1 rfl) ?_
  refine lv_aload_n hx hb dL_isGroup_1 rfl (lv_at hl 3 rfl) ?_
  refine lv_aload hx hb dL_isGroup_2 (lv_at hl 4 rfl) ?_
  refine lv_aload hx hb dL_isGroup_4 (lv_at hl 5 rfl) ?_
  obtain ⟨r_1, X_1, h_1, hf2⟩ := m_bi_s hf0
  clear hf0
  refine m_callSi C [.int v1, .ref (a 131), .ref (a 132), .ref (a 135)] [] (c_L_members l D a cy hG N _ _ h_1) (m_goodS wl_L_23 wst_L_members wn_L wc_L_members) ⟨rfl, rfl⟩ hv_L_members ⟨Nat.le_of_ble_eq_true rfl, Nat.le_of_ble_eq_true rfl⟩ hP hS rfl hl.1 rfl (Nat.le_of_ble_eq_true rfl) dL_isGroup_6 (fun H locs hP hS => ?_)
  refine lv_istore (lv' := [(8, .int r_1), (0, .ref (a 126)), (1, .int v1), (2, .int v2), (3, .ref (a 131)), (4, .ref (a 132)), (5, .ref (a 135)), (6, .ref (a 136)), (7, .ref (a 137))]) hx hb dL_isGroup_9 hl (by decide) rfl (fun ls hl => ?_)
  refine lv_iload_n hx hb dL_isGroup_11 rfl (lv_at hl 2 rfl) ?_
  refine lv_aload_n hx hb dL_isGroup_12 rfl (lv_at hl 4 rfl) ?_
  refine lv_aload hx hb dL_isGroup_13 (lv_at hl 6 rfl) ?_
  obtain ⟨r_3, X_3, h_3, hf4⟩ := m_bi_s hf2
  clear hf2
  refine m_callSi C [.int v1, .ref (a 131), .ref (a 135)] [] (c_L_firstOf l D a cy hG N _ _ h_3) (m_goodS wl_L_43 wst_L_firstOf wn_L wc_L_firstOf) ⟨rfl, rfl⟩ hv_L_firstOf ⟨Nat.le_of_ble_eq_true rfl, Nat.le_of_ble_eq_true rfl⟩ hP hS rfl hl.1 rfl (Nat.le_of_ble_eq_true rfl) dL_isGroup_15 (fun H locs hP hS => ?_)
  refine lv_istore (lv' := [(9, .int r_3), (8, .int r_1), (0, .ref (a 126)), (1, .int v1), (2, .int v2), (3, .ref (a 131)), (4, .ref (a 132)), (5, .ref (a 135)), (6, .ref (a 136)), (7, .ref (a 137))]) hx hb dL_isGroup_18 hl (by decide) rfl (fun ls hl => ?_)
  refine lv_aload hx hb dL_isGroup_20 (lv_at hl 8 rfl) ?_
  refine lv_iload_n hx hb dL_isGroup_22 rfl (lv_at hl 3 rfl) ?_
  obtain ⟨g_5, hf6⟩ := m_gd_s hf4
  clear hf4
  refine m_ild C hP mC_136 0 rfl g_5 dL_isGroup_23 (fun y_5 e_5 => ?_)
  have hf7 := m_nm_s e_5 hf6
  clear hf6
  refine lv_bipush (v := 7) hx hb dL_isGroup_24 (by decide) ?_
  refine lv_iand hx hb dL_isGroup_26 ?_
  refine lv_topi (fun y_8 e_8 => ?_)
  have hf9 := m_nm_s e_8 hf7
  clear hf7
  refine lv_iconst (v := 1) hx hb dL_isGroup_27 (by decide) ?_
  refine lv_icmp_ne (tgt := 35) hx hb dL_isGroup_28 (by decide) (fun c_10 => ?_) (fun c_10 => ?_)
  · have hf11 := m_ie c_10 hf9
    clear hf9
    refine lv_iconst (v := 0) hx hb dL_isGroup_35 (by decide) ?_
    exact w_L_isGroup_36 l D a cy hG N C _ _ _ _ _ _ hf11 H locs ls hP hS (lv_sub hl [2, 3, 4, 5, 6, 7, 8, 9, 1, 0] rfl)
  · have hf12 := m_it c_10 hf9
    clear hf9
    refine lv_iconst (v := 1) hx hb dL_isGroup_31 (by decide) ?_
    refine lv_goto (tgt := 36) hx hb dL_isGroup_32 (by decide) ?_
    exact w_L_isGroup_36 l D a cy hG N C _ _ _ _ _ _ hf12 H locs ls hP hS (lv_sub hl [2, 3, 4, 5, 6, 7, 8, 9, 1, 0] rfl)
abbrev rm_L_isSo : Room := { frames := 5, cells := 0, slots := 0, locals := 119 }
def f_L_isSo_468 (N : Nat) (v9 : Int32) (X : XT) : Option (Int32 × XT) := m_gd (v9 = 0 ∨ v9 = 1) <| some (v9, X)
set_option maxHeartbeats 4000000 in
set_option maxRecDepth 100000 in
theorem w_L_isSo_468 (l : Launch) (D : va_G) (a : Nat → Nat) (cy : Nat → ClassId) (hG : m_inj 138 a) (N : Nat) {p : Program} {e : Env} {s : State} {m : MethodId} {args : Array Value} {below : List Frame} {meth : Method} {c : Code} {d0 : Drawn} (hd0 : s.drawn.sameBut d0 lw_cs) (C0 : m_Cx p s m args meth c cL_isSo 16 RL (some .boolean) (Cond.code yL_isSo cL_isSo 16 (some .boolean)) D (m_tc cy) (m_AC a) (m_WC a cy) (m_ZC a)) {r0 : Int32} {X0 : XT} (v9 : Int32) (X : XT) (hf0 : f_L_isSo_468 N v9 X = some (r0, X0)) : ∀ (H : Heap) (locs : List Loc) (ls : Array Slot), va_P D vwCl (m_WC a cy X) H → va_S (m_AC a) s.heap H locs → lv_has ls 16 [(9, .int v9)] → W p l e rm_L_isSo (s.setDrawn d0) m args below meth c H locs 0 0 (MQD lw_cs below (m_QI D (m_WC a cy) (m_AC a) r0 X0) args s 0 0 (m_AC a)) (F0 m 468 ls []) := by
  have C := m_Cx_draw C0 d0
  have hx := C.1.1
  have hb := C.1.2.1
  intro H locs ls hP hS hl
  unfold f_L_isSo_468 at hf0
  refine lv_iload hx hb dL_isSo_468 (lv_at hl 0 rfl) ?_
  obtain ⟨g_39, hf40⟩ := m_gd_s hf0
  clear hf0
  exact m_zretD hd0 C0 hP hS dL_isSo_470 (m_bool g_39).1 hf40
def f_L_isSo_454 (N : Nat) (v1 : Int32) (u0 : Int32) (X : XT) : Option (Int32 × XT) := if u0 = 0 then (f_L_isSo_468 N u0 X) else (m_gd (m_in 6 17) <| m_nm (X 131 (Int32.toNatClampNeg 6)) fun y_41 => if y_41 = 0 then (f_L_isSo_468 N u0 X) else (m_nm (v1 >>> ((6 : Int32) &&& 31)) fun y_47 => m_gd (m_in 6 17) <| m_nm (X 131 (Int32.toNatClampNeg 6)) fun y_49 => m_bi (f_L_low N y_47 y_49 X) fun r_52 X_52 => m_bi (f_X7_commit N r_52 0 X_52) fun r_54 X_54 => m_gd (m_in r_52 48) <| m_nm (X_54 132 (Int32.toNatClampNeg r_52)) fun y_56 => m_nm (y_56 &&& 15) fun y_59 => if r_54 = y_59 then (m_bi (f_X7_commit N r_52 1 X_54) fun r_97 X_97 => m_bi (f_L_records N r_52 X_97) fun r_99 X_99 => if r_97 = r_99 then (m_bi (f_X7_commit N r_52 2 X_99) fun r_137 X_137 => m_gd (m_in r_52 48) <| m_nm (X_137 132 (Int32.toNatClampNeg r_52)) fun y_139 => m_nm (y_139 >>> ((8 : Int32) &&& 31)) fun y_142 => m_nm (y_142 &&& 1) fun y_144 => if r_137 = y_144 then (m_bi (f_X7_commit N r_52 3 X_137) fun r_182 X_182 => m_bi (f_L_what N r_52 X_182) fun r_184 X_184 => if r_182 = r_184 then (m_bi (f_X7_commit N r_52 4 X_184) fun r_222 X_222 => m_gd (m_in r_52 48) <| m_nm (X_222 133 (Int32.toNatClampNeg r_52)) fun y_224 => if r_222 = y_224 then (m_bi (f_X7_commit N r_52 5 X_222) fun r_263 X_263 => m_gd (m_in r_52 48) <| m_nm (X_263 134 (Int32.toNatClampNeg r_52)) fun y_265 => if r_263 = y_265 then (m_bi (f_X7_commit N r_52 6 X_263) fun r_304 X_304 => m_gd (m_in r_52 48) <| m_nm (X_304 135 (Int32.toNatClampNeg r_52)) fun y_306 => m_nm (y_306 / 2) fun y_309 => if r_304 = y_309 then (if (1 : Int32) = 0 then (some (0, X_304)) else (m_nm (v1 >>> ((12 : Int32) &&& 31)) fun y_350 => m_gd (m_in 7 17) <| m_nm (X_304 131 (Int32.toNatClampNeg 7)) fun y_352 => m_bi (f_L_low N y_350 y_352 X_304) fun r_355 X_355 => m_nm (v1 >>> ((18 : Int32) &&& 31)) fun y_357 => m_bi (f_L_low N y_357 4 X_355) fun r_359 X_359 => m_bi (f_L_isGroup N r_355 r_359 X_359) fun r_361 X_361 => if r_361 = 0 then (some (0, X_361)) else (m_gd (m_in 7 17) <| m_nm (X_361 131 (Int32.toNatClampNeg 7)) fun y_366 => m_nm (y_366 - 1) fun y_369 => m_nm (v1 >>> ((20 : Int32) &&& 31)) fun y_371 => m_bi (f_L_low N y_371 3 X_361) fun r_373 X_373 => m_bi (f_L_isGroup N y_369 r_373 X_373) fun r_375 X_375 => if r_375 = 0 then (some (0, X_375)) else (some (1, X_375))))) else (if (0 : Int32) = 0 then (some (0, X_304)) else (m_nm (v1 >>> ((12 : Int32) &&& 31)) fun y_317 => m_gd (m_in 7 17) <| m_nm (X_304 131 (Int32.toNatClampNeg 7)) fun y_319 => m_bi (f_L_low N y_317 y_319 X_304) fun r_322 X_322 => m_nm (v1 >>> ((18 : Int32) &&& 31)) fun y_324 => m_bi (f_L_low N y_324 4 X_322) fun r_326 X_326 => m_bi (f_L_isGroup N r_322 r_326 X_326) fun r_328 X_328 => if r_328 = 0 then (some (0, X_328)) else (m_gd (m_in 7 17) <| m_nm (X_328 131 (Int32.toNatClampNeg 7)) fun y_333 => m_nm (y_333 - 1) fun y_336 => m_nm (v1 >>> ((20 : Int32) &&& 31)) fun y_338 => m_bi (f_L_low N y_338 3 X_328) fun r_340 X_340 => m_bi (f_L_isGroup N y_336 r_340 X_340) fun r_342 X_342 => if r_342 = 0 then (some (0, X_342)) else (some (1, X_342)))))) else (if (0 : Int32) = 0 then (some (0, X_263)) else (m_nm (v1 >>> ((12 : Int32) &&& 31)) fun y_274 => m_gd (m_in 7 17) <| m_nm (X_263 131 (Int32.toNatClampNeg 7)) fun y_276 => m_bi (f_L_low N y_274 y_276 X_263) fun r_279 X_279 => m_nm (v1 >>> ((18 : Int32) &&& 31)) fun y_281 => m_bi (f_L_low N y_281 4 X_279) fun r_283 X_283 => m_bi (f_L_isGroup N r_279 r_283 X_283) fun r_285 X_285 => if r_285 = 0 then (some (0, X_285)) else (m_gd (m_in 7 17) <| m_nm (X_285 131 (Int32.toNatClampNeg 7)) fun y_290 => m_nm (y_290 - 1) fun y_293 => m_nm (v1 >>> ((20 : Int32) &&& 31)) fun y_295 => m_bi (f_L_low N y_295 3 X_285) fun r_297 X_297 => m_bi (f_L_isGroup N y_293 r_297 X_297) fun r_299 X_299 => if r_299 = 0 then (some (0, X_299)) else (some (1, X_299)))))) else (if (0 : Int32) = 0 then (some (0, X_222)) else (m_nm (v1 >>> ((12 : Int32) &&& 31)) fun y_233 => m_gd (m_in 7 17) <| m_nm (X_222 131 (Int32.toNatClampNeg 7)) fun y_235 => m_bi (f_L_low N y_233 y_235 X_222) fun r_238 X_238 => m_nm (v1 >>> ((18 : Int32) &&& 31)) fun y_240 => m_bi (f_L_low N y_240 4 X_238) fun r_242 X_242 => m_bi (f_L_isGroup N r_238 r_242 X_242) fun r_244 X_244 => if r_244 = 0 then (some (0, X_244)) else (m_gd (m_in 7 17) <| m_nm (X_244 131 (Int32.toNatClampNeg 7)) fun y_249 => m_nm (y_249 - 1) fun y_252 => m_nm (v1 >>> ((20 : Int32) &&& 31)) fun y_254 => m_bi (f_L_low N y_254 3 X_244) fun r_256 X_256 => m_bi (f_L_isGroup N y_252 r_256 X_256) fun r_258 X_258 => if r_258 = 0 then (some (0, X_258)) else (some (1, X_258)))))) else (if (0 : Int32) = 0 then (some (0, X_184)) else (m_nm (v1 >>> ((12 : Int32) &&& 31)) fun y_192 => m_gd (m_in 7 17) <| m_nm (X_184 131 (Int32.toNatClampNeg 7)) fun y_194 => m_bi (f_L_low N y_192 y_194 X_184) fun r_197 X_197 => m_nm (v1 >>> ((18 : Int32) &&& 31)) fun y_199 => m_bi (f_L_low N y_199 4 X_197) fun r_201 X_201 => m_bi (f_L_isGroup N r_197 r_201 X_201) fun r_203 X_203 => if r_203 = 0 then (some (0, X_203)) else (m_gd (m_in 7 17) <| m_nm (X_203 131 (Int32.toNatClampNeg 7)) fun y_208 => m_nm (y_208 - 1) fun y_211 => m_nm (v1 >>> ((20 : Int32) &&& 31)) fun y_213 => m_bi (f_L_low N y_213 3 X_203) fun r_215 X_215 => m_bi (f_L_isGroup N y_211 r_215 X_215) fun r_217 X_217 => if r_217 = 0 then (some (0, X_217)) else (some (1, X_217)))))) else (if (0 : Int32) = 0 then (some (0, X_137)) else (m_nm (v1 >>> ((12 : Int32) &&& 31)) fun y_152 => m_gd (m_in 7 17) <| m_nm (X_137 131 (Int32.toNatClampNeg 7)) fun y_154 => m_bi (f_L_low N y_152 y_154 X_137) fun r_157 X_157 => m_nm (v1 >>> ((18 : Int32) &&& 31)) fun y_159 => m_bi (f_L_low N y_159 4 X_157) fun r_161 X_161 => m_bi (f_L_isGroup N r_157 r_161 X_161) fun r_163 X_163 => if r_163 = 0 then (some (0, X_163)) else (m_gd (m_in 7 17) <| m_nm (X_163 131 (Int32.toNatClampNeg 7)) fun y_168 => m_nm (y_168 - 1) fun y_171 => m_nm (v1 >>> ((20 : Int32) &&& 31)) fun y_173 => m_bi (f_L_low N y_173 3 X_163) fun r_175 X_175 => m_bi (f_L_isGroup N y_171 r_175 X_175) fun r_177 X_177 => if r_177 = 0 then (some (0, X_177)) else (some (1, X_177)))))) else (if (0 : Int32) = 0 then (some (0, X_99)) else (m_nm (v1 >>> ((12 : Int32) &&& 31)) fun y_107 => m_gd (m_in 7 17) <| m_nm (X_99 131 (Int32.toNatClampNeg 7)) fun y_109 => m_bi (f_L_low N y_107 y_109 X_99) fun r_112 X_112 => m_nm (v1 >>> ((18 : Int32) &&& 31)) fun y_114 => m_bi (f_L_low N y_114 4 X_112) fun r_116 X_116 => m_bi (f_L_isGroup N r_112 r_116 X_116) fun r_118 X_118 => if r_118 = 0 then (some (0, X_118)) else (m_gd (m_in 7 17) <| m_nm (X_118 131 (Int32.toNatClampNeg 7)) fun y_123 => m_nm (y_123 - 1) fun y_126 => m_nm (v1 >>> ((20 : Int32) &&& 31)) fun y_128 => m_bi (f_L_low N y_128 3 X_118) fun r_130 X_130 => m_bi (f_L_isGroup N y_126 r_130 X_130) fun r_132 X_132 => if r_132 = 0 then (some (0, X_132)) else (some (1, X_132)))))) else (if (0 : Int32) = 0 then (some (0, X_54)) else (m_nm (v1 >>> ((12 : Int32) &&& 31)) fun y_67 => m_gd (m_in 7 17) <| m_nm (X_54 131 (Int32.toNatClampNeg 7)) fun y_69 => m_bi (f_L_low N y_67 y_69 X_54) fun r_72 X_72 => m_nm (v1 >>> ((18 : Int32) &&& 31)) fun y_74 => m_bi (f_L_low N y_74 4 X_72) fun r_76 X_76 => m_bi (f_L_isGroup N r_72 r_76 X_76) fun r_78 X_78 => if r_78 = 0 then (some (0, X_78)) else (m_gd (m_in 7 17) <| m_nm (X_78 131 (Int32.toNatClampNeg 7)) fun y_83 => m_nm (y_83 - 1) fun y_86 => m_nm (v1 >>> ((20 : Int32) &&& 31)) fun y_88 => m_bi (f_L_low N y_88 3 X_78) fun r_90 X_90 => m_bi (f_L_isGroup N y_86 r_90 X_90) fun r_92 X_92 => if r_92 = 0 then (some (0, X_92)) else (some (1, X_92)))))))
set_option maxHeartbeats 4000000 in
set_option maxRecDepth 100000 in
theorem w_L_isSo_454 (l : Launch) (D : va_G) (a : Nat → Nat) (cy : Nat → ClassId) (hG : m_inj 138 a) (N : Nat) {p : Program} {e : Env} {s : State} {m : MethodId} {args : Array Value} {below : List Frame} {meth : Method} {c : Code} {d0 : Drawn} (hd0 : s.drawn.sameBut d0 lw_cs) (C0 : m_Cx p s m args meth c cL_isSo 16 RL (some .boolean) (Cond.code yL_isSo cL_isSo 16 (some .boolean)) D (m_tc cy) (m_AC a) (m_WC a cy) (m_ZC a)) {r0 : Int32} {X0 : XT} (v1 : Int32) (u0 : Int32) (X : XT) (hf0 : f_L_isSo_454 N v1 u0 X = some (r0, X0)) : ∀ (H : Heap) (locs : List Loc) (ls : Array Slot), va_P D vwCl (m_WC a cy X) H → va_S (m_AC a) s.heap H locs → lv_has ls 16 [(0, .ref (a 126)), (1, .int v1), (2, .ref (a 131)), (3, .ref (a 132)), (4, .ref (a 133)), (5, .ref (a 134)), (6, .ref (a 135)), (7, .ref (a 136)), (8, .ref (a 137))] → W p l e rm_L_isSo (s.setDrawn d0) m args below meth c H locs 0 0 (MQD lw_cs below (m_QI D (m_WC a cy) (m_AC a) r0 X0) args s 0 0 (m_AC a)) (F0 m 454 ls [.int u0]) := by
  have C := m_Cx_draw C0 d0
  have hx := C.1.1
  have hb := C.1.2.1
  intro H locs ls hP hS hl
  unfold f_L_isSo_454 at hf0
  refine lv_istore (lv' := [(9, .int u0), (0, .ref (a 126)), (1, .int v1), (2, .ref (a 131)), (3, .ref (a 132)), (4, .ref (a 133)), (5, .ref (a 134)), (6, .ref (a 135)), (7, .ref (a 136)), (8, .ref (a 137))]) hx hb dL_isSo_454 hl (by decide) rfl (fun ls hl => ?_)
  refine lv_iload hx hb dL_isSo_456 (lv_at hl 0 rfl) ?_
  refine lv_if_eq (tgt := 468) hx hb dL_isSo_458 (by decide) (fun c_36 => ?_) (fun c_36 => ?_)
  · have hf37 := m_it c_36 hf0
    clear hf0
    exact w_L_isSo_468 l D a cy hG N hd0 C0 _ _ hf37 H locs ls hP hS (lv_sub hl [0] rfl)
  · have hf38 := m_ie c_36 hf0
    clear hf0
    refine lv_aload_n hx hb dL_isSo_461 rfl (lv_at hl 3 rfl) ?_
    refine lv_bipush (v := 6) hx hb dL_isSo_462 (by decide) ?_
    obtain ⟨g_41, hf42⟩ := m_gd_s hf38
    clear hf38
    refine m_ild C hP mC_131 0 rfl g_41 dL_isSo_464 (fun y_41 e_41 => ?_)
    have hf43 := m_nm_s e_41 hf42
    clear hf42
    refine lv_if_ne (tgt := 471) hx hb dL_isSo_465 (by decide) (fun c_44 => ?_) (fun c_44 => ?_)
    · have hf45 := m_ie c_44 hf43
      clear hf43
      refine lv_iload_n hx hb dL_isSo_471 rfl (lv_at hl 2 rfl) ?_
      refine lv_bipush (v := 6) hx hb dL_isSo_472 (by decide) ?_
      refine lv_ishr hx hb dL_isSo_474 ?_
      refine lv_topi (fun y_47 e_47 => ?_)
      have hf48 := m_nm_s e_47 hf45
      clear hf45
      refine lv_aload_n hx hb dL_isSo_475 rfl (lv_at hl 3 rfl) ?_
      refine lv_bipush (v := 6) hx hb dL_isSo_476 (by decide) ?_
      obtain ⟨g_49, hf50⟩ := m_gd_s hf48
      clear hf48
      refine m_ild C hP mC_131 0 rfl g_49 dL_isSo_478 (fun y_49 e_49 => ?_)
      have hf51 := m_nm_s e_49 hf50
      clear hf50
      obtain ⟨r_52, X_52, h_52, hf53⟩ := m_bi_s hf51
      clear hf51
      refine m_callSi C [.int y_47, .int y_49] [] (c_L_low l D a cy hG N _ _ _ h_52) (m_goodS wl_L_107 wst_L_low wn_L wc_L_low) ⟨rfl, rfl⟩ hv_L_low ⟨Nat.le_of_ble_eq_true rfl, Nat.le_of_ble_eq_true rfl⟩ hP hS rfl hl.1 rfl (Nat.le_of_ble_eq_true rfl) dL_isSo_479 (fun H locs hP hS => ?_)
      refine lv_istore (lv' := [(15, .int r_52), (9, .int u0), (0, .ref (a 126)), (1, .int v1), (2, .ref (a 131)), (3, .ref (a 132)), (4, .ref (a 133)), (5, .ref (a 134)), (6, .ref (a 135)), (7, .ref (a 136)), (8, .ref (a 137))]) hx hb dL_isSo_482 hl (by decide) rfl (fun ls hl => ?_)
      refine lv_aload_n hx hb dL_isSo_484 rfl (lv_at hl 2 rfl) ?_
      refine lv_iload hx hb dL_isSo_485 (lv_at hl 0 rfl) ?_
      refine lv_iconst (v := 0) hx hb dL_isSo_487 (by decide) ?_
      obtain ⟨r_54, X_54, h_54, hf55⟩ := m_bi_s hf53
      clear hf53
      refine m_callVi (q := (RX7, TX7, 5)) C [.int r_52, .int 0] [] (c_X7_commit l D a cy hG N _ _ _ h_54) (m_goodV wl_L_94 wi_X7_commit ws_X7_commit wn_X7 wc_X7_commit) ⟨rfl, rfl⟩ hv_X7_commit ⟨Nat.le_of_ble_eq_true rfl, Nat.le_of_ble_eq_true rfl⟩ rfl mC_126 hP hS rfl hl.1 rfl (Nat.le_of_ble_eq_true rfl) dL_isSo_488 (fun H locs hP hS => ?_)
      refine lv_aload_n hx hb dL_isSo_491 rfl (lv_at hl 5 rfl) ?_
      refine lv_iload hx hb dL_isSo_492 (lv_at hl 0 rfl) ?_
      obtain ⟨g_56, hf57⟩ := m_gd_s hf55
      clear hf55
      refine m_ild C hP mC_132 0 rfl g_56 dL_isSo_494 (fun y_56 e_56 => ?_)
      have hf58 := m_nm_s e_56 hf57
      clear hf57
      refine lv_bipush (v := 15) hx hb dL_isSo_495 (by decide) ?_
      refine lv_iand hx hb dL_isSo_497 ?_
      refine lv_topi (fun y_59 e_59 => ?_)
      have hf60 := m_nm_s e_59 hf58
      clear hf58
      refine lv_icmp_ne (tgt := 604) hx hb dL_isSo_498 (by decide) (fun c_61 => ?_) (fun c_61 => ?_)
      · have hf62 := m_ie c_61 hf60
        clear hf60
        refine lv_iconst (v := 0) hx hb dL_isSo_604 (by decide) ?_
        refine lv_istore (lv' := [(9, .int 0), (15, .int r_52), (0, .ref (a 126)), (1, .int v1), (2, .ref (a 131)), (3, .ref (a 132)), (4, .ref (a 133)), (5, .ref (a 134)), (6, .ref (a 135)), (7, .ref (a 136)), (8, .ref (a 137))]) hx hb dL_isSo_605 hl (by decide) rfl (fun ls hl => ?_)
        refine lv_iload hx hb dL_isSo_607 (lv_at hl 0 rfl) ?_
        refine lv_if_eq (tgt := 679) hx hb dL_isSo_609 (by decide) (fun c_64 => ?_) (fun c_64 => ?_)
        · have hf65 := m_it c_64 hf62
          clear hf62
          refine lv_iconst (v := 0) hx hb dL_isSo_679 (by decide) ?_
          exact m_zretD hd0 C0 hP hS dL_isSo_680 (by decide) hf65
        · have hf66 := m_ie c_64 hf62
          clear hf62
          refine lv_aload_n hx hb dL_isSo_612 rfl (lv_at hl 2 rfl) ?_
          refine lv_iload_n hx hb dL_isSo_613 rfl (lv_at hl 3 rfl) ?_
          refine lv_bipush (v := 12) hx hb dL_isSo_614 (by decide) ?_
          refine lv_ishr hx hb dL_isSo_616 ?_
          refine lv_topi (fun y_67 e_67 => ?_)
          have hf68 := m_nm_s e_67 hf66
          clear hf66
          refine lv_aload_n hx hb dL_isSo_617 rfl (lv_at hl 4 rfl) ?_
          refine lv_bipush (v := 7) hx hb dL_isSo_618 (by decide) ?_
          obtain ⟨g_69, hf70⟩ := m_gd_s hf68
          clear hf68
          refine m_ild C hP mC_131 0 rfl g_69 dL_isSo_620 (fun y_69 e_69 => ?_)
          have hf71 := m_nm_s e_69 hf70
          clear hf70
          obtain ⟨r_72, X_72, h_72, hf73⟩ := m_bi_s hf71
          clear hf71
          refine m_callSi C [.int y_67, .int y_69] [.ref (a 126)] (c_L_low l D a cy hG N _ _ _ h_72) (m_goodS wl_L_107 wst_L_low wn_L wc_L_low) ⟨rfl, rfl⟩ hv_L_low ⟨Nat.le_of_ble_eq_true rfl, Nat.le_of_ble_eq_true rfl⟩ hP hS rfl hl.1 rfl (Nat.le_of_ble_eq_true rfl) dL_isSo_621 (fun H locs hP hS => ?_)
          refine lv_iload_n hx hb dL_isSo_624 rfl (lv_at hl 3 rfl) ?_
          refine lv_bipush (v := 18) hx hb dL_isSo_625 (by decide) ?_
          refine lv_ishr hx hb dL_isSo_627 ?_
          refine lv_topi (fun y_74 e_74 => ?_)
          have hf75 := m_nm_s e_74 hf73
          clear hf73
          refine lv_iconst (v := 4) hx hb dL_isSo_628 (by decide) ?_
          obtain ⟨r_76, X_76, h_76, hf77⟩ := m_bi_s hf75
          clear hf75
          refine m_callSi C [.int y_74, .int 4] [.int r_72, .ref (a 126)] (c_L_low l D a cy hG N _ _ _ h_76) (m_goodS wl_L_107 wst_L_low wn_L wc_L_low) ⟨rfl, rfl⟩ hv_L_low ⟨Nat.le_of_ble_eq_true rfl, Nat.le_of_ble_eq_true rfl⟩ hP hS rfl hl.1 rfl (Nat.le_of_ble_eq_true rfl) dL_isSo_629 (fun H locs hP hS => ?_)
          refine lv_aload_n hx hb dL_isSo_632 rfl (lv_at hl 4 rfl) ?_
          refine lv_aload_n hx hb dL_isSo_633 rfl (lv_at hl 5 rfl) ?_
          refine lv_aload hx hb dL_isSo_634 (lv_at hl 8 rfl) ?_
          refine lv_aload hx hb dL_isSo_636 (lv_at hl 9 rfl) ?_
          refine lv_aload hx hb dL_isSo_638 (lv_at hl 10 rfl) ?_
          obtain ⟨r_78, X_78, h_78, hf79⟩ := m_bi_s hf77
          clear hf77
          refine m_callSi C [.ref (a 126), .int r_72, .int r_76, .ref (a 131), .ref (a 132), .ref (a 135), .ref (a 136), .ref (a 137)] [] (c_L_isGroup l D a cy hG N _ _ _ h_78) (m_goodS wl_L_119 wst_L_isGroup wn_L wc_L_isGroup) ⟨rfl, rfl⟩ hv_L_isGroup ⟨Nat.le_of_ble_eq_true rfl, Nat.le_of_ble_eq_true rfl⟩ hP hS rfl hl.1 rfl (Nat.le_of_ble_eq_true rfl) dL_isSo_640 (fun H locs hP hS => ?_)
          refine lv_if_eq (tgt := 679) hx hb dL_isSo_643 (by decide) (fun c_80 => ?_) (fun c_80 => ?_)
          · have hf81 := m_it c_80 hf79
            clear hf79
            refine lv_iconst (v := 0) hx hb dL_isSo_679 (by decide) ?_
            exact m_zretD hd0 C0 hP hS dL_isSo_680 (by decide) hf81
          · have hf82 := m_ie c_80 hf79
            clear hf79
            refine lv_aload_n hx hb dL_isSo_646 rfl (lv_at hl 2 rfl) ?_
            refine lv_aload_n hx hb dL_isSo_647 rfl (lv_at hl 4 rfl) ?_
            refine lv_bipush (v := 7) hx hb dL_isSo_648 (by decide) ?_
            obtain ⟨g_83, hf84⟩ := m_gd_s hf82
            clear hf82
            refine m_ild C hP mC_131 0 rfl g_83 dL_isSo_650 (fun y_83 e_83 => ?_)
            have hf85 := m_nm_s e_83 hf84
            clear hf84
            refine lv_iconst (v := 1) hx hb dL_isSo_651 (by decide) ?_
            refine lv_isub hx hb dL_isSo_652 ?_
            refine lv_topi (fun y_86 e_86 => ?_)
            have hf87 := m_nm_s e_86 hf85
            clear hf85
            refine lv_iload_n hx hb dL_isSo_653 rfl (lv_at hl 3 rfl) ?_
            refine lv_bipush (v := 20) hx hb dL_isSo_654 (by decide) ?_
            refine lv_ishr hx hb dL_isSo_656 ?_
            refine lv_topi (fun y_88 e_88 => ?_)
            have hf89 := m_nm_s e_88 hf87
            clear hf87
            refine lv_iconst (v := 3) hx hb dL_isSo_657 (by decide) ?_
            obtain ⟨r_90, X_90, h_90, hf91⟩ := m_bi_s hf89
            clear hf89
            refine m_callSi C [.int y_88, .int 3] [.int y_86, .ref (a 126)] (c_L_low l D a cy hG N _ _ _ h_90) (m_goodS wl_L_107 wst_L_low wn_L wc_L_low) ⟨rfl, rfl⟩ hv_L_low ⟨Nat.le_of_ble_eq_true rfl, Nat.le_of_ble_eq_true rfl⟩ hP hS rfl hl.1 rfl (Nat.le_of_ble_eq_true rfl) dL_isSo_658 (fun H locs hP hS => ?_)
            refine lv_aload_n hx hb dL_isSo_661 rfl (lv_at hl 4 rfl) ?_
            refine lv_aload_n hx hb dL_isSo_662 rfl (lv_at hl 5 rfl) ?_
            refine lv_aload hx hb dL_isSo_663 (lv_at hl 8 rfl) ?_
            refine lv_aload hx hb dL_isSo_665 (lv_at hl 9 rfl) ?_
            refine lv_aload hx hb dL_isSo_667 (lv_at hl 10 rfl) ?_
            obtain ⟨r_92, X_92, h_92, hf93⟩ := m_bi_s hf91
            clear hf91
            refine m_callSi C [.ref (a 126), .int y_86, .int r_90, .ref (a 131), .ref (a 132), .ref (a 135), .ref (a 136), .ref (a 137)] [] (c_L_isGroup l D a cy hG N _ _ _ h_92) (m_goodS wl_L_119 wst_L_isGroup wn_L wc_L_isGroup) ⟨rfl, rfl⟩ hv_L_isGroup ⟨Nat.le_of_ble_eq_true rfl, Nat.le_of_ble_eq_true rfl⟩ hP hS rfl hl.1 rfl (Nat.le_of_ble_eq_true rfl) dL_isSo_669 (fun H locs hP hS => ?_)
            refine lv_if_eq (tgt := 679) hx hb dL_isSo_672 (by decide) (fun c_94 => ?_) (fun c_94 => ?_)
            · have hf95 := m_it c_94 hf93
              clear hf93
              refine lv_iconst (v := 0) hx hb dL_isSo_679 (by decide) ?_
              exact m_zretD hd0 C0 hP hS dL_isSo_680 (by decide) hf95
            · have hf96 := m_ie c_94 hf93
              clear hf93
              refine lv_iconst (v := 1) hx hb dL_isSo_675 (by decide) ?_
              refine lv_goto (tgt := 680) hx hb dL_isSo_676 (by decide) ?_
              exact m_zretD hd0 C0 hP hS dL_isSo_680 (by decide) hf96
      · have hf63 := m_it c_61 hf60
        clear hf60
        refine lv_aload_n hx hb dL_isSo_501 rfl (lv_at hl 2 rfl) ?_
        refine lv_iload hx hb dL_isSo_502 (lv_at hl 0 rfl) ?_
        refine lv_iconst (v := 1) hx hb dL_isSo_504 (by decide) ?_
        obtain ⟨r_97, X_97, h_97, hf98⟩ := m_bi_s hf63
        clear hf63
        refine m_callVi (q := (RX7, TX7, 5)) C [.int r_52, .int 1] [] (c_X7_commit l D a cy hG N _ _ _ h_97) (m_goodV wl_L_94 wi_X7_commit ws_X7_commit wn_X7 wc_X7_commit) ⟨rfl, rfl⟩ hv_X7_commit ⟨Nat.le_of_ble_eq_true rfl, Nat.le_of_ble_eq_true rfl⟩ rfl mC_126 hP hS rfl hl.1 rfl (Nat.le_of_ble_eq_true rfl) dL_isSo_505 (fun H locs hP hS => ?_)
        refine lv_iload hx hb dL_isSo_508 (lv_at hl 0 rfl) ?_
        refine lv_aload_n hx hb dL_isSo_510 rfl (lv_at hl 5 rfl) ?_
        obtain ⟨r_99, X_99, h_99, hf100⟩ := m_bi_s hf98
        clear hf98
        refine m_callSi C [.int r_52, .ref (a 132)] [.int r_97] (c_L_records l D a cy hG N _ _ h_99) (m_goodS wl_L_10 wst_L_records wn_L wc_L_records) ⟨rfl, rfl⟩ hv_L_records ⟨Nat.le_of_ble_eq_true rfl, Nat.le_of_ble_eq_true rfl⟩ hP hS rfl hl.1 rfl (Nat.le_of_ble_eq_true rfl) dL_isSo_511 (fun H locs hP hS => ?_)
        refine lv_icmp_ne (tgt := 604) hx hb dL_isSo_514 (by decide) (fun c_101 => ?_) (fun c_101 => ?_)
        · have hf102 := m_ie c_101 hf100
          clear hf100
          refine lv_iconst (v := 0) hx hb dL_isSo_604 (by decide) ?_
          refine lv_istore (lv' := [(9, .int 0), (15, .int r_52), (0, .ref (a 126)), (1, .int v1), (2, .ref (a 131)), (3, .ref (a 132)), (4, .ref (a 133)), (5, .ref (a 134)), (6, .ref (a 135)), (7, .ref (a 136)), (8, .ref (a 137))]) hx hb dL_isSo_605 hl (by decide) rfl (fun ls hl => ?_)
          refine lv_iload hx hb dL_isSo_607 (lv_at hl 0 rfl) ?_
          refine lv_if_eq (tgt := 679) hx hb dL_isSo_609 (by decide) (fun c_104 => ?_) (fun c_104 => ?_)
          · have hf105 := m_it c_104 hf102
            clear hf102
            refine lv_iconst (v := 0) hx hb dL_isSo_679 (by decide) ?_
            exact m_zretD hd0 C0 hP hS dL_isSo_680 (by decide) hf105
          · have hf106 := m_ie c_104 hf102
            clear hf102
            refine lv_aload_n hx hb dL_isSo_612 rfl (lv_at hl 2 rfl) ?_
            refine lv_iload_n hx hb dL_isSo_613 rfl (lv_at hl 3 rfl) ?_
            refine lv_bipush (v := 12) hx hb dL_isSo_614 (by decide) ?_
            refine lv_ishr hx hb dL_isSo_616 ?_
            refine lv_topi (fun y_107 e_107 => ?_)
            have hf108 := m_nm_s e_107 hf106
            clear hf106
            refine lv_aload_n hx hb dL_isSo_617 rfl (lv_at hl 4 rfl) ?_
            refine lv_bipush (v := 7) hx hb dL_isSo_618 (by decide) ?_
            obtain ⟨g_109, hf110⟩ := m_gd_s hf108
            clear hf108
            refine m_ild C hP mC_131 0 rfl g_109 dL_isSo_620 (fun y_109 e_109 => ?_)
            have hf111 := m_nm_s e_109 hf110
            clear hf110
            obtain ⟨r_112, X_112, h_112, hf113⟩ := m_bi_s hf111
            clear hf111
            refine m_callSi C [.int y_107, .int y_109] [.ref (a 126)] (c_L_low l D a cy hG N _ _ _ h_112) (m_goodS wl_L_107 wst_L_low wn_L wc_L_low) ⟨rfl, rfl⟩ hv_L_low ⟨Nat.le_of_ble_eq_true rfl, Nat.le_of_ble_eq_true rfl⟩ hP hS rfl hl.1 rfl (Nat.le_of_ble_eq_true rfl) dL_isSo_621 (fun H locs hP hS => ?_)
            refine lv_iload_n hx hb dL_isSo_624 rfl (lv_at hl 3 rfl) ?_
            refine lv_bipush (v := 18) hx hb dL_isSo_625 (by decide) ?_
            refine lv_ishr hx hb dL_isSo_627 ?_
            refine lv_topi (fun y_114 e_114 => ?_)
            have hf115 := m_nm_s e_114 hf113
            clear hf113
            refine lv_iconst (v := 4) hx hb dL_isSo_628 (by decide) ?_
            obtain ⟨r_116, X_116, h_116, hf117⟩ := m_bi_s hf115
            clear hf115
            refine m_callSi C [.int y_114, .int 4] [.int r_112, .ref (a 126)] (c_L_low l D a cy hG N _ _ _ h_116) (m_goodS wl_L_107 wst_L_low wn_L wc_L_low) ⟨rfl, rfl⟩ hv_L_low ⟨Nat.le_of_ble_eq_true rfl, Nat.le_of_ble_eq_true rfl⟩ hP hS rfl hl.1 rfl (Nat.le_of_ble_eq_true rfl) dL_isSo_629 (fun H locs hP hS => ?_)
            refine lv_aload_n hx hb dL_isSo_632 rfl (lv_at hl 4 rfl) ?_
            refine lv_aload_n hx hb dL_isSo_633 rfl (lv_at hl 5 rfl) ?_
            refine lv_aload hx hb dL_isSo_634 (lv_at hl 8 rfl) ?_
            refine lv_aload hx hb dL_isSo_636 (lv_at hl 9 rfl) ?_
            refine lv_aload hx hb dL_isSo_638 (lv_at hl 10 rfl) ?_
            obtain ⟨r_118, X_118, h_118, hf119⟩ := m_bi_s hf117
            clear hf117
            refine m_callSi C [.ref (a 126), .int r_112, .int r_116, .ref (a 131), .ref (a 132), .ref (a 135), .ref (a 136), .ref (a 137)] [] (c_L_isGroup l D a cy hG N _ _ _ h_118) (m_goodS wl_L_119 wst_L_isGroup wn_L wc_L_isGroup) ⟨rfl, rfl⟩ hv_L_isGroup ⟨Nat.le_of_ble_eq_true rfl, Nat.le_of_ble_eq_true rfl⟩ hP hS rfl hl.1 rfl (Nat.le_of_ble_eq_true rfl) dL_isSo_640 (fun H locs hP hS => ?_)
            refine lv_if_eq (tgt := 679) hx hb dL_isSo_643 (by decide) (fun c_120 => ?_) (fun c_120 => ?_)
            · have hf121 := m_it c_120 hf119
              clear hf119
              refine lv_iconst (v := 0) hx hb dL_isSo_679 (by decide) ?_
              exact m_zretD hd0 C0 hP hS dL_isSo_680 (by decide) hf121
            · have hf122 := m_ie c_120 hf119
              clear hf119
              refine lv_aload_n hx hb dL_isSo_646 rfl (lv_at hl 2 rfl) ?_
              refine lv_aload_n hx hb dL_isSo_647 rfl (lv_at hl 4 rfl) ?_
              refine lv_bipush (v := 7) hx hb dL_isSo_648 (by decide) ?_
              obtain ⟨g_123, hf124⟩ := m_gd_s hf122
              clear hf122
              refine m_ild C hP mC_131 0 rfl g_123 dL_isSo_650 (fun y_123 e_123 => ?_)
              have hf125 := m_nm_s e_123 hf124
              clear hf124
              refine lv_iconst (v := 1) hx hb dL_isSo_651 (by decide) ?_
              refine lv_isub hx hb dL_isSo_652 ?_
              refine lv_topi (fun y_126 e_126 => ?_)
              have hf127 := m_nm_s e_126 hf125
              clear hf125
              refine lv_iload_n hx hb dL_isSo_653 rfl (lv_at hl 3 rfl) ?_
              refine lv_bipush (v := 20) hx hb dL_isSo_654 (by decide) ?_
              refine lv_ishr hx hb dL_isSo_656 ?_
              refine lv_topi (fun y_128 e_128 => ?_)
              have hf129 := m_nm_s e_128 hf127
              clear hf127
              refine lv_iconst (v := 3) hx hb dL_isSo_657 (by decide) ?_
              obtain ⟨r_130, X_130, h_130, hf131⟩ := m_bi_s hf129
              clear hf129
              refine m_callSi C [.int y_128, .int 3] [.int y_126, .ref (a 126)] (c_L_low l D a cy hG N _ _ _ h_130) (m_goodS wl_L_107 wst_L_low wn_L wc_L_low) ⟨rfl, rfl⟩ hv_L_low ⟨Nat.le_of_ble_eq_true rfl, Nat.le_of_ble_eq_true rfl⟩ hP hS rfl hl.1 rfl (Nat.le_of_ble_eq_true rfl) dL_isSo_658 (fun H locs hP hS => ?_)
              refine lv_aload_n hx hb dL_isSo_661 rfl (lv_at hl 4 rfl) ?_
              refine lv_aload_n hx hb dL_isSo_662 rfl (lv_at hl 5 rfl) ?_
              refine lv_aload hx hb dL_isSo_663 (lv_at hl 8 rfl) ?_
              refine lv_aload hx hb dL_isSo_665 (lv_at hl 9 rfl) ?_
              refine lv_aload hx hb dL_isSo_667 (lv_at hl 10 rfl) ?_
              obtain ⟨r_132, X_132, h_132, hf133⟩ := m_bi_s hf131
              clear hf131
              refine m_callSi C [.ref (a 126), .int y_126, .int r_130, .ref (a 131), .ref (a 132), .ref (a 135), .ref (a 136), .ref (a 137)] [] (c_L_isGroup l D a cy hG N _ _ _ h_132) (m_goodS wl_L_119 wst_L_isGroup wn_L wc_L_isGroup) ⟨rfl, rfl⟩ hv_L_isGroup ⟨Nat.le_of_ble_eq_true rfl, Nat.le_of_ble_eq_true rfl⟩ hP hS rfl hl.1 rfl (Nat.le_of_ble_eq_true rfl) dL_isSo_669 (fun H locs hP hS => ?_)
              refine lv_if_eq (tgt := 679) hx hb dL_isSo_672 (by decide) (fun c_134 => ?_) (fun c_134 => ?_)
              · have hf135 := m_it c_134 hf133
                clear hf133
                refine lv_iconst (v := 0) hx hb dL_isSo_679 (by decide) ?_
                exact m_zretD hd0 C0 hP hS dL_isSo_680 (by decide) hf135
              · have hf136 := m_ie c_134 hf133
                clear hf133
                refine lv_iconst (v := 1) hx hb dL_isSo_675 (by decide) ?_
                refine lv_goto (tgt := 680) hx hb dL_isSo_676 (by decide) ?_
                exact m_zretD hd0 C0 hP hS dL_isSo_680 (by decide) hf136
        · have hf103 := m_it c_101 hf100
          clear hf100
          refine lv_aload_n hx hb dL_isSo_517 rfl (lv_at hl 2 rfl) ?_
          refine lv_iload hx hb dL_isSo_518 (lv_at hl 0 rfl) ?_
          refine lv_iconst (v := 2) hx hb dL_isSo_520 (by decide) ?_
          obtain ⟨r_137, X_137, h_137, hf138⟩ := m_bi_s hf103
          clear hf103
          refine m_callVi (q := (RX7, TX7, 5)) C [.int r_52, .int 2] [] (c_X7_commit l D a cy hG N _ _ _ h_137) (m_goodV wl_L_94 wi_X7_commit ws_X7_commit wn_X7 wc_X7_commit) ⟨rfl, rfl⟩ hv_X7_commit ⟨Nat.le_of_ble_eq_true rfl, Nat.le_of_ble_eq_true rfl⟩ rfl mC_126 hP hS rfl hl.1 rfl (Nat.le_of_ble_eq_true rfl) dL_isSo_521 (fun H locs hP hS => ?_)
          refine lv_aload_n hx hb dL_isSo_524 rfl (lv_at hl 5 rfl) ?_
          refine lv_iload hx hb dL_isSo_525 (lv_at hl 0 rfl) ?_
          obtain ⟨g_139, hf140⟩ := m_gd_s hf138
          clear hf138
          refine m_ild C hP mC_132 0 rfl g_139 dL_isSo_527 (fun y_139 e_139 => ?_)
          have hf141 := m_nm_s e_139 hf140
          clear hf140
          refine lv_bipush (v := 8) hx hb dL_isSo_528 (by decide) ?_
          refine lv_ishr hx hb dL_isSo_530 ?_
          refine lv_topi (fun y_142 e_142 => ?_)
          have hf143 := m_nm_s e_142 hf141
          clear hf141
          refine lv_iconst (v := 1) hx hb dL_isSo_531 (by decide) ?_
          refine lv_iand hx hb dL_isSo_532 ?_
          refine lv_topi (fun y_144 e_144 => ?_)
          have hf145 := m_nm_s e_144 hf143
          clear hf143
          refine lv_icmp_ne (tgt := 604) hx hb dL_isSo_533 (by decide) (fun c_146 => ?_) (fun c_146 => ?_)
          · have hf147 := m_ie c_146 hf145
            clear hf145
            refine lv_iconst (v := 0) hx hb dL_isSo_604 (by decide) ?_
            refine lv_istore (lv' := [(9, .int 0), (15, .int r_52), (0, .ref (a 126)), (1, .int v1), (2, .ref (a 131)), (3, .ref (a 132)), (4, .ref (a 133)), (5, .ref (a 134)), (6, .ref (a 135)), (7, .ref (a 136)), (8, .ref (a 137))]) hx hb dL_isSo_605 hl (by decide) rfl (fun ls hl => ?_)
            refine lv_iload hx hb dL_isSo_607 (lv_at hl 0 rfl) ?_
            refine lv_if_eq (tgt := 679) hx hb dL_isSo_609 (by decide) (fun c_149 => ?_) (fun c_149 => ?_)
            · have hf150 := m_it c_149 hf147
              clear hf147
              refine lv_iconst (v := 0) hx hb dL_isSo_679 (by decide) ?_
              exact m_zretD hd0 C0 hP hS dL_isSo_680 (by decide) hf150
            · have hf151 := m_ie c_149 hf147
              clear hf147
              refine lv_aload_n hx hb dL_isSo_612 rfl (lv_at hl 2 rfl) ?_
              refine lv_iload_n hx hb dL_isSo_613 rfl (lv_at hl 3 rfl) ?_
              refine lv_bipush (v := 12) hx hb dL_isSo_614 (by decide) ?_
              refine lv_ishr hx hb dL_isSo_616 ?_
              refine lv_topi (fun y_152 e_152 => ?_)
              have hf153 := m_nm_s e_152 hf151
              clear hf151
              refine lv_aload_n hx hb dL_isSo_617 rfl (lv_at hl 4 rfl) ?_
              refine lv_bipush (v := 7) hx hb dL_isSo_618 (by decide) ?_
              obtain ⟨g_154, hf155⟩ := m_gd_s hf153
              clear hf153
              refine m_ild C hP mC_131 0 rfl g_154 dL_isSo_620 (fun y_154 e_154 => ?_)
              have hf156 := m_nm_s e_154 hf155
              clear hf155
              obtain ⟨r_157, X_157, h_157, hf158⟩ := m_bi_s hf156
              clear hf156
              refine m_callSi C [.int y_152, .int y_154] [.ref (a 126)] (c_L_low l D a cy hG N _ _ _ h_157) (m_goodS wl_L_107 wst_L_low wn_L wc_L_low) ⟨rfl, rfl⟩ hv_L_low ⟨Nat.le_of_ble_eq_true rfl, Nat.le_of_ble_eq_true rfl⟩ hP hS rfl hl.1 rfl (Nat.le_of_ble_eq_true rfl) dL_isSo_621 (fun H locs hP hS => ?_)
              refine lv_iload_n hx hb dL_isSo_624 rfl (lv_at hl 3 rfl) ?_
              refine lv_bipush (v := 18) hx hb dL_isSo_625 (by decide) ?_
              refine lv_ishr hx hb dL_isSo_627 ?_
              refine lv_topi (fun y_159 e_159 => ?_)
              have hf160 := m_nm_s e_159 hf158
              clear hf158
              refine lv_iconst (v := 4) hx hb dL_isSo_628 (by decide) ?_
              obtain ⟨r_161, X_161, h_161, hf162⟩ := m_bi_s hf160
              clear hf160
              refine m_callSi C [.int y_159, .int 4] [.int r_157, .ref (a 126)] (c_L_low l D a cy hG N _ _ _ h_161) (m_goodS wl_L_107 wst_L_low wn_L wc_L_low) ⟨rfl, rfl⟩ hv_L_low ⟨Nat.le_of_ble_eq_true rfl, Nat.le_of_ble_eq_true rfl⟩ hP hS rfl hl.1 rfl (Nat.le_of_ble_eq_true rfl) dL_isSo_629 (fun H locs hP hS => ?_)
              refine lv_aload_n hx hb dL_isSo_632 rfl (lv_at hl 4 rfl) ?_
              refine lv_aload_n hx hb dL_isSo_633 rfl (lv_at hl 5 rfl) ?_
              refine lv_aload hx hb dL_isSo_634 (lv_at hl 8 rfl) ?_
              refine lv_aload hx hb dL_isSo_636 (lv_at hl 9 rfl) ?_
              refine lv_aload hx hb dL_isSo_638 (lv_at hl 10 rfl) ?_
              obtain ⟨r_163, X_163, h_163, hf164⟩ := m_bi_s hf162
              clear hf162
              refine m_callSi C [.ref (a 126), .int r_157, .int r_161, .ref (a 131), .ref (a 132), .ref (a 135), .ref (a 136), .ref (a 137)] [] (c_L_isGroup l D a cy hG N _ _ _ h_163) (m_goodS wl_L_119 wst_L_isGroup wn_L wc_L_isGroup) ⟨rfl, rfl⟩ hv_L_isGroup ⟨Nat.le_of_ble_eq_true rfl, Nat.le_of_ble_eq_true rfl⟩ hP hS rfl hl.1 rfl (Nat.le_of_ble_eq_true rfl) dL_isSo_640 (fun H locs hP hS => ?_)
              refine lv_if_eq (tgt := 679) hx hb dL_isSo_643 (by decide) (fun c_165 => ?_) (fun c_165 => ?_)
              · have hf166 := m_it c_165 hf164
                clear hf164
                refine lv_iconst (v := 0) hx hb dL_isSo_679 (by decide) ?_
                exact m_zretD hd0 C0 hP hS dL_isSo_680 (by decide) hf166
              · have hf167 := m_ie c_165 hf164
                clear hf164
                refine lv_aload_n hx hb dL_isSo_646 rfl (lv_at hl 2 rfl) ?_
                refine lv_aload_n hx hb dL_isSo_647 rfl (lv_at hl 4 rfl) ?_
                refine lv_bipush (v := 7) hx hb dL_isSo_648 (by decide) ?_
                obtain ⟨g_168, hf169⟩ := m_gd_s hf167
                clear hf167
                refine m_ild C hP mC_131 0 rfl g_168 dL_isSo_650 (fun y_168 e_168 => ?_)
                have hf170 := m_nm_s e_168 hf169
                clear hf169
                refine lv_iconst (v := 1) hx hb dL_isSo_651 (by decide) ?_
                refine lv_isub hx hb dL_isSo_652 ?_
                refine lv_topi (fun y_171 e_171 => ?_)
                have hf172 := m_nm_s e_171 hf170
                clear hf170
                refine lv_iload_n hx hb dL_isSo_653 rfl (lv_at hl 3 rfl) ?_
                refine lv_bipush (v := 20) hx hb dL_isSo_654 (by decide) ?_
                refine lv_ishr hx hb dL_isSo_656 ?_
                refine lv_topi (fun y_173 e_173 => ?_)
                have hf174 := m_nm_s e_173 hf172
                clear hf172
                refine lv_iconst (v := 3) hx hb dL_isSo_657 (by decide) ?_
                obtain ⟨r_175, X_175, h_175, hf176⟩ := m_bi_s hf174
                clear hf174
                refine m_callSi C [.int y_173, .int 3] [.int y_171, .ref (a 126)] (c_L_low l D a cy hG N _ _ _ h_175) (m_goodS wl_L_107 wst_L_low wn_L wc_L_low) ⟨rfl, rfl⟩ hv_L_low ⟨Nat.le_of_ble_eq_true rfl, Nat.le_of_ble_eq_true rfl⟩ hP hS rfl hl.1 rfl (Nat.le_of_ble_eq_true rfl) dL_isSo_658 (fun H locs hP hS => ?_)
                refine lv_aload_n hx hb dL_isSo_661 rfl (lv_at hl 4 rfl) ?_
                refine lv_aload_n hx hb dL_isSo_662 rfl (lv_at hl 5 rfl) ?_
                refine lv_aload hx hb dL_isSo_663 (lv_at hl 8 rfl) ?_
                refine lv_aload hx hb dL_isSo_665 (lv_at hl 9 rfl) ?_
                refine lv_aload hx hb dL_isSo_667 (lv_at hl 10 rfl) ?_
                obtain ⟨r_177, X_177, h_177, hf178⟩ := m_bi_s hf176
                clear hf176
                refine m_callSi C [.ref (a 126), .int y_171, .int r_175, .ref (a 131), .ref (a 132), .ref (a 135), .ref (a 136), .ref (a 137)] [] (c_L_isGroup l D a cy hG N _ _ _ h_177) (m_goodS wl_L_119 wst_L_isGroup wn_L wc_L_isGroup) ⟨rfl, rfl⟩ hv_L_isGroup ⟨Nat.le_of_ble_eq_true rfl, Nat.le_of_ble_eq_true rfl⟩ hP hS rfl hl.1 rfl (Nat.le_of_ble_eq_true rfl) dL_isSo_669 (fun H locs hP hS => ?_)
                refine lv_if_eq (tgt := 679) hx hb dL_isSo_672 (by decide) (fun c_179 => ?_) (fun c_179 => ?_)
                · have hf180 := m_it c_179 hf178
                  clear hf178
                  refine lv_iconst (v := 0) hx hb dL_isSo_679 (by decide) ?_
                  exact m_zretD hd0 C0 hP hS dL_isSo_680 (by decide) hf180
                · have hf181 := m_ie c_179 hf178
                  clear hf178
                  refine lv_iconst (v := 1) hx hb dL_isSo_675 (by decide) ?_
                  refine lv_goto (tgt := 680) hx hb dL_isSo_676 (by decide) ?_
                  exact m_zretD hd0 C0 hP hS dL_isSo_680 (by decide) hf181
          · have hf148 := m_it c_146 hf145
            clear hf145
            refine lv_aload_n hx hb dL_isSo_536 rfl (lv_at hl 2 rfl) ?_
            refine lv_iload hx hb dL_isSo_537 (lv_at hl 0 rfl) ?_
            refine lv_iconst (v := 3) hx hb dL_isSo_539 (by decide) ?_
            obtain ⟨r_182, X_182, h_182, hf183⟩ := m_bi_s hf148
            clear hf148
            refine m_callVi (q := (RX7, TX7, 5)) C [.int r_52, .int 3] [] (c_X7_commit l D a cy hG N _ _ _ h_182) (m_goodV wl_L_94 wi_X7_commit ws_X7_commit wn_X7 wc_X7_commit) ⟨rfl, rfl⟩ hv_X7_commit ⟨Nat.le_of_ble_eq_true rfl, Nat.le_of_ble_eq_true rfl⟩ rfl mC_126 hP hS rfl hl.1 rfl (Nat.le_of_ble_eq_true rfl) dL_isSo_540 (fun H locs hP hS => ?_)
            refine lv_iload hx hb dL_isSo_543 (lv_at hl 0 rfl) ?_
            refine lv_aload_n hx hb dL_isSo_545 rfl (lv_at hl 5 rfl) ?_
            obtain ⟨r_184, X_184, h_184, hf185⟩ := m_bi_s hf183
            clear hf183
            refine m_callSi C [.int r_52, .ref (a 132)] [.int r_182] (c_L_what l D a cy hG N _ _ h_184) (m_goodS wl_L_16 wst_L_what wn_L wc_L_what) ⟨rfl, rfl⟩ hv_L_what ⟨Nat.le_of_ble_eq_true rfl, Nat.le_of_ble_eq_true rfl⟩ hP hS rfl hl.1 rfl (Nat.le_of_ble_eq_true rfl) dL_isSo_546 (fun H locs hP hS => ?_)
            refine lv_icmp_ne (tgt := 604) hx hb dL_isSo_549 (by decide) (fun c_186 => ?_) (fun c_186 => ?_)
            · have hf187 := m_ie c_186 hf185
              clear hf185
              refine lv_iconst (v := 0) hx hb dL_isSo_604 (by decide) ?_
              refine lv_istore (lv' := [(9, .int 0), (15, .int r_52), (0, .ref (a 126)), (1, .int v1), (2, .ref (a 131)), (3, .ref (a 132)), (4, .ref (a 133)), (5, .ref (a 134)), (6, .ref (a 135)), (7, .ref (a 136)), (8, .ref (a 137))]) hx hb dL_isSo_605 hl (by decide) rfl (fun ls hl => ?_)
              refine lv_iload hx hb dL_isSo_607 (lv_at hl 0 rfl) ?_
              refine lv_if_eq (tgt := 679) hx hb dL_isSo_609 (by decide) (fun c_189 => ?_) (fun c_189 => ?_)
              · have hf190 := m_it c_189 hf187
                clear hf187
                refine lv_iconst (v := 0) hx hb dL_isSo_679 (by decide) ?_
                exact m_zretD hd0 C0 hP hS dL_isSo_680 (by decide) hf190
              · have hf191 := m_ie c_189 hf187
                clear hf187
                refine lv_aload_n hx hb dL_isSo_612 rfl (lv_at hl 2 rfl) ?_
                refine lv_iload_n hx hb dL_isSo_613 rfl (lv_at hl 3 rfl) ?_
                refine lv_bipush (v := 12) hx hb dL_isSo_614 (by decide) ?_
                refine lv_ishr hx hb dL_isSo_616 ?_
                refine lv_topi (fun y_192 e_192 => ?_)
                have hf193 := m_nm_s e_192 hf191
                clear hf191
                refine lv_aload_n hx hb dL_isSo_617 rfl (lv_at hl 4 rfl) ?_
                refine lv_bipush (v := 7) hx hb dL_isSo_618 (by decide) ?_
                obtain ⟨g_194, hf195⟩ := m_gd_s hf193
                clear hf193
                refine m_ild C hP mC_131 0 rfl g_194 dL_isSo_620 (fun y_194 e_194 => ?_)
                have hf196 := m_nm_s e_194 hf195
                clear hf195
                obtain ⟨r_197, X_197, h_197, hf198⟩ := m_bi_s hf196
                clear hf196
                refine m_callSi C [.int y_192, .int y_194] [.ref (a 126)] (c_L_low l D a cy hG N _ _ _ h_197) (m_goodS wl_L_107 wst_L_low wn_L wc_L_low) ⟨rfl, rfl⟩ hv_L_low ⟨Nat.le_of_ble_eq_true rfl, Nat.le_of_ble_eq_true rfl⟩ hP hS rfl hl.1 rfl (Nat.le_of_ble_eq_true rfl) dL_isSo_621 (fun H locs hP hS => ?_)
                refine lv_iload_n hx hb dL_isSo_624 rfl (lv_at hl 3 rfl) ?_
                refine lv_bipush (v := 18) hx hb dL_isSo_625 (by decide) ?_
                refine lv_ishr hx hb dL_isSo_627 ?_
                refine lv_topi (fun y_199 e_199 => ?_)
                have hf200 := m_nm_s e_199 hf198
                clear hf198
                refine lv_iconst (v := 4) hx hb dL_isSo_628 (by decide) ?_
                obtain ⟨r_201, X_201, h_201, hf202⟩ := m_bi_s hf200
                clear hf200
                refine m_callSi C [.int y_199, .int 4] [.int r_197, .ref (a 126)] (c_L_low l D a cy hG N _ _ _ h_201) (m_goodS wl_L_107 wst_L_low wn_L wc_L_low) ⟨rfl, rfl⟩ hv_L_low ⟨Nat.le_of_ble_eq_true rfl, Nat.le_of_ble_eq_true rfl⟩ hP hS rfl hl.1 rfl (Nat.le_of_ble_eq_true rfl) dL_isSo_629 (fun H locs hP hS => ?_)
                refine lv_aload_n hx hb dL_isSo_632 rfl (lv_at hl 4 rfl) ?_
                refine lv_aload_n hx hb dL_isSo_633 rfl (lv_at hl 5 rfl) ?_
                refine lv_aload hx hb dL_isSo_634 (lv_at hl 8 rfl) ?_
                refine lv_aload hx hb dL_isSo_636 (lv_at hl 9 rfl) ?_
                refine lv_aload hx hb dL_isSo_638 (lv_at hl 10 rfl) ?_
                obtain ⟨r_203, X_203, h_203, hf204⟩ := m_bi_s hf202
                clear hf202
                refine m_callSi C [.ref (a 126), .int r_197, .int r_201, .ref (a 131), .ref (a 132), .ref (a 135), .ref (a 136), .ref (a 137)] [] (c_L_isGroup l D a cy hG N _ _ _ h_203) (m_goodS wl_L_119 wst_L_isGroup wn_L wc_L_isGroup) ⟨rfl, rfl⟩ hv_L_isGroup ⟨Nat.le_of_ble_eq_true rfl, Nat.le_of_ble_eq_true rfl⟩ hP hS rfl hl.1 rfl (Nat.le_of_ble_eq_true rfl) dL_isSo_640 (fun H locs hP hS => ?_)
                refine lv_if_eq (tgt := 679) hx hb dL_isSo_643 (by decide) (fun c_205 => ?_) (fun c_205 => ?_)
                · have hf206 := m_it c_205 hf204
                  clear hf204
                  refine lv_iconst (v := 0) hx hb dL_isSo_679 (by decide) ?_
                  exact m_zretD hd0 C0 hP hS dL_isSo_680 (by decide) hf206
                · have hf207 := m_ie c_205 hf204
                  clear hf204
                  refine lv_aload_n hx hb dL_isSo_646 rfl (lv_at hl 2 rfl) ?_
                  refine lv_aload_n hx hb dL_isSo_647 rfl (lv_at hl 4 rfl) ?_
                  refine lv_bipush (v := 7) hx hb dL_isSo_648 (by decide) ?_
                  obtain ⟨g_208, hf209⟩ := m_gd_s hf207
                  clear hf207
                  refine m_ild C hP mC_131 0 rfl g_208 dL_isSo_650 (fun y_208 e_208 => ?_)
                  have hf210 := m_nm_s e_208 hf209
                  clear hf209
                  refine lv_iconst (v := 1) hx hb dL_isSo_651 (by decide) ?_
                  refine lv_isub hx hb dL_isSo_652 ?_
                  refine lv_topi (fun y_211 e_211 => ?_)
                  have hf212 := m_nm_s e_211 hf210
                  clear hf210
                  refine lv_iload_n hx hb dL_isSo_653 rfl (lv_at hl 3 rfl) ?_
                  refine lv_bipush (v := 20) hx hb dL_isSo_654 (by decide) ?_
                  refine lv_ishr hx hb dL_isSo_656 ?_
                  refine lv_topi (fun y_213 e_213 => ?_)
                  have hf214 := m_nm_s e_213 hf212
                  clear hf212
                  refine lv_iconst (v := 3) hx hb dL_isSo_657 (by decide) ?_
                  obtain ⟨r_215, X_215, h_215, hf216⟩ := m_bi_s hf214
                  clear hf214
                  refine m_callSi C [.int y_213, .int 3] [.int y_211, .ref (a 126)] (c_L_low l D a cy hG N _ _ _ h_215) (m_goodS wl_L_107 wst_L_low wn_L wc_L_low) ⟨rfl, rfl⟩ hv_L_low ⟨Nat.le_of_ble_eq_true rfl, Nat.le_of_ble_eq_true rfl⟩ hP hS rfl hl.1 rfl (Nat.le_of_ble_eq_true rfl) dL_isSo_658 (fun H locs hP hS => ?_)
                  refine lv_aload_n hx hb dL_isSo_661 rfl (lv_at hl 4 rfl) ?_
                  refine lv_aload_n hx hb dL_isSo_662 rfl (lv_at hl 5 rfl) ?_
                  refine lv_aload hx hb dL_isSo_663 (lv_at hl 8 rfl) ?_
                  refine lv_aload hx hb dL_isSo_665 (lv_at hl 9 rfl) ?_
                  refine lv_aload hx hb dL_isSo_667 (lv_at hl 10 rfl) ?_
                  obtain ⟨r_217, X_217, h_217, hf218⟩ := m_bi_s hf216
                  clear hf216
                  refine m_callSi C [.ref (a 126), .int y_211, .int r_215, .ref (a 131), .ref (a 132), .ref (a 135), .ref (a 136), .ref (a 137)] [] (c_L_isGroup l D a cy hG N _ _ _ h_217) (m_goodS wl_L_119 wst_L_isGroup wn_L wc_L_isGroup) ⟨rfl, rfl⟩ hv_L_isGroup ⟨Nat.le_of_ble_eq_true rfl, Nat.le_of_ble_eq_true rfl⟩ hP hS rfl hl.1 rfl (Nat.le_of_ble_eq_true rfl) dL_isSo_669 (fun H locs hP hS => ?_)
                  refine lv_if_eq (tgt := 679) hx hb dL_isSo_672 (by decide) (fun c_219 => ?_) (fun c_219 => ?_)
                  · have hf220 := m_it c_219 hf218
                    clear hf218
                    refine lv_iconst (v := 0) hx hb dL_isSo_679 (by decide) ?_
                    exact m_zretD hd0 C0 hP hS dL_isSo_680 (by decide) hf220
                  · have hf221 := m_ie c_219 hf218
                    clear hf218
                    refine lv_iconst (v := 1) hx hb dL_isSo_675 (by decide) ?_
                    refine lv_goto (tgt := 680) hx hb dL_isSo_676 (by decide) ?_
                    exact m_zretD hd0 C0 hP hS dL_isSo_680 (by decide) hf221
            · have hf188 := m_it c_186 hf185
              clear hf185
              refine lv_aload_n hx hb dL_isSo_552 rfl (lv_at hl 2 rfl) ?_
              refine lv_iload hx hb dL_isSo_553 (lv_at hl 0 rfl) ?_
              refine lv_iconst (v := 4) hx hb dL_isSo_555 (by decide) ?_
              obtain ⟨r_222, X_222, h_222, hf223⟩ := m_bi_s hf188
              clear hf188
              refine m_callVi (q := (RX7, TX7, 5)) C [.int r_52, .int 4] [] (c_X7_commit l D a cy hG N _ _ _ h_222) (m_goodV wl_L_94 wi_X7_commit ws_X7_commit wn_X7 wc_X7_commit) ⟨rfl, rfl⟩ hv_X7_commit ⟨Nat.le_of_ble_eq_true rfl, Nat.le_of_ble_eq_true rfl⟩ rfl mC_126 hP hS rfl hl.1 rfl (Nat.le_of_ble_eq_true rfl) dL_isSo_556 (fun H locs hP hS => ?_)
              refine lv_aload hx hb dL_isSo_559 (lv_at hl 6 rfl) ?_
              refine lv_iload hx hb dL_isSo_561 (lv_at hl 0 rfl) ?_
              obtain ⟨g_224, hf225⟩ := m_gd_s hf223
              clear hf223
              refine m_ild C hP mC_133 0 rfl g_224 dL_isSo_563 (fun y_224 e_224 => ?_)
              have hf226 := m_nm_s e_224 hf225
              clear hf225
              refine lv_icmp_ne (tgt := 604) hx hb dL_isSo_564 (by decide) (fun c_227 => ?_) (fun c_227 => ?_)
              · have hf228 := m_ie c_227 hf226
                clear hf226
                refine lv_iconst (v := 0) hx hb dL_isSo_604 (by decide) ?_
                refine lv_istore (lv' := [(9, .int 0), (15, .int r_52), (0, .ref (a 126)), (1, .int v1), (2, .ref (a 131)), (3, .ref (a 132)), (4, .ref (a 133)), (5, .ref (a 134)), (6, .ref (a 135)), (7, .ref (a 136)), (8, .ref (a 137))]) hx hb dL_isSo_605 hl (by decide) rfl (fun ls hl => ?_)
                refine lv_iload hx hb dL_isSo_607 (lv_at hl 0 rfl) ?_
                refine lv_if_eq (tgt := 679) hx hb dL_isSo_609 (by decide) (fun c_230 => ?_) (fun c_230 => ?_)
                · have hf231 := m_it c_230 hf228
                  clear hf228
                  refine lv_iconst (v := 0) hx hb dL_isSo_679 (by decide) ?_
                  exact m_zretD hd0 C0 hP hS dL_isSo_680 (by decide) hf231
                · have hf232 := m_ie c_230 hf228
                  clear hf228
                  refine lv_aload_n hx hb dL_isSo_612 rfl (lv_at hl 2 rfl) ?_
                  refine lv_iload_n hx hb dL_isSo_613 rfl (lv_at hl 3 rfl) ?_
                  refine lv_bipush (v := 12) hx hb dL_isSo_614 (by decide) ?_
                  refine lv_ishr hx hb dL_isSo_616 ?_
                  refine lv_topi (fun y_233 e_233 => ?_)
                  have hf234 := m_nm_s e_233 hf232
                  clear hf232
                  refine lv_aload_n hx hb dL_isSo_617 rfl (lv_at hl 4 rfl) ?_
                  refine lv_bipush (v := 7) hx hb dL_isSo_618 (by decide) ?_
                  obtain ⟨g_235, hf236⟩ := m_gd_s hf234
                  clear hf234
                  refine m_ild C hP mC_131 0 rfl g_235 dL_isSo_620 (fun y_235 e_235 => ?_)
                  have hf237 := m_nm_s e_235 hf236
                  clear hf236
                  obtain ⟨r_238, X_238, h_238, hf239⟩ := m_bi_s hf237
                  clear hf237
                  refine m_callSi C [.int y_233, .int y_235] [.ref (a 126)] (c_L_low l D a cy hG N _ _ _ h_238) (m_goodS wl_L_107 wst_L_low wn_L wc_L_low) ⟨rfl, rfl⟩ hv_L_low ⟨Nat.le_of_ble_eq_true rfl, Nat.le_of_ble_eq_true rfl⟩ hP hS rfl hl.1 rfl (Nat.le_of_ble_eq_true rfl) dL_isSo_621 (fun H locs hP hS => ?_)
                  refine lv_iload_n hx hb dL_isSo_624 rfl (lv_at hl 3 rfl) ?_
                  refine lv_bipush (v := 18) hx hb dL_isSo_625 (by decide) ?_
                  refine lv_ishr hx hb dL_isSo_627 ?_
                  refine lv_topi (fun y_240 e_240 => ?_)
                  have hf241 := m_nm_s e_240 hf239
                  clear hf239
                  refine lv_iconst (v := 4) hx hb dL_isSo_628 (by decide) ?_
                  obtain ⟨r_242, X_242, h_242, hf243⟩ := m_bi_s hf241
                  clear hf241
                  refine m_callSi C [.int y_240, .int 4] [.int r_238, .ref (a 126)] (c_L_low l D a cy hG N _ _ _ h_242) (m_goodS wl_L_107 wst_L_low wn_L wc_L_low) ⟨rfl, rfl⟩ hv_L_low ⟨Nat.le_of_ble_eq_true rfl, Nat.le_of_ble_eq_true rfl⟩ hP hS rfl hl.1 rfl (Nat.le_of_ble_eq_true rfl) dL_isSo_629 (fun H locs hP hS => ?_)
                  refine lv_aload_n hx hb dL_isSo_632 rfl (lv_at hl 4 rfl) ?_
                  refine lv_aload_n hx hb dL_isSo_633 rfl (lv_at hl 5 rfl) ?_
                  refine lv_aload hx hb dL_isSo_634 (lv_at hl 8 rfl) ?_
                  refine lv_aload hx hb dL_isSo_636 (lv_at hl 9 rfl) ?_
                  refine lv_aload hx hb dL_isSo_638 (lv_at hl 10 rfl) ?_
                  obtain ⟨r_244, X_244, h_244, hf245⟩ := m_bi_s hf243
                  clear hf243
                  refine m_callSi C [.ref (a 126), .int r_238, .int r_242, .ref (a 131), .ref (a 132), .ref (a 135), .ref (a 136), .ref (a 137)] [] (c_L_isGroup l D a cy hG N _ _ _ h_244) (m_goodS wl_L_119 wst_L_isGroup wn_L wc_L_isGroup) ⟨rfl, rfl⟩ hv_L_isGroup ⟨Nat.le_of_ble_eq_true rfl, Nat.le_of_ble_eq_true rfl⟩ hP hS rfl hl.1 rfl (Nat.le_of_ble_eq_true rfl) dL_isSo_640 (fun H locs hP hS => ?_)
                  refine lv_if_eq (tgt := 679) hx hb dL_isSo_643 (by decide) (fun c_246 => ?_) (fun c_246 => ?_)
                  · have hf247 := m_it c_246 hf245
                    clear hf245
                    refine lv_iconst (v := 0) hx hb dL_isSo_679 (by decide) ?_
                    exact m_zretD hd0 C0 hP hS dL_isSo_680 (by decide) hf247
                  · have hf248 := m_ie c_246 hf245
                    clear hf245
                    refine lv_aload_n hx hb dL_isSo_646 rfl (lv_at hl 2 rfl) ?_
                    refine lv_aload_n hx hb dL_isSo_647 rfl (lv_at hl 4 rfl) ?_
                    refine lv_bipush (v := 7) hx hb dL_isSo_648 (by decide) ?_
                    obtain ⟨g_249, hf250⟩ := m_gd_s hf248
                    clear hf248
                    refine m_ild C hP mC_131 0 rfl g_249 dL_isSo_650 (fun y_249 e_249 => ?_)
                    have hf251 := m_nm_s e_249 hf250
                    clear hf250
                    refine lv_iconst (v := 1) hx hb dL_isSo_651 (by decide) ?_
                    refine lv_isub hx hb dL_isSo_652 ?_
                    refine lv_topi (fun y_252 e_252 => ?_)
                    have hf253 := m_nm_s e_252 hf251
                    clear hf251
                    refine lv_iload_n hx hb dL_isSo_653 rfl (lv_at hl 3 rfl) ?_
                    refine lv_bipush (v := 20) hx hb dL_isSo_654 (by decide) ?_
                    refine lv_ishr hx hb dL_isSo_656 ?_
                    refine lv_topi (fun y_254 e_254 => ?_)
                    have hf255 := m_nm_s e_254 hf253
                    clear hf253
                    refine lv_iconst (v := 3) hx hb dL_isSo_657 (by decide) ?_
                    obtain ⟨r_256, X_256, h_256, hf257⟩ := m_bi_s hf255
                    clear hf255
                    refine m_callSi C [.int y_254, .int 3] [.int y_252, .ref (a 126)] (c_L_low l D a cy hG N _ _ _ h_256) (m_goodS wl_L_107 wst_L_low wn_L wc_L_low) ⟨rfl, rfl⟩ hv_L_low ⟨Nat.le_of_ble_eq_true rfl, Nat.le_of_ble_eq_true rfl⟩ hP hS rfl hl.1 rfl (Nat.le_of_ble_eq_true rfl) dL_isSo_658 (fun H locs hP hS => ?_)
                    refine lv_aload_n hx hb dL_isSo_661 rfl (lv_at hl 4 rfl) ?_
                    refine lv_aload_n hx hb dL_isSo_662 rfl (lv_at hl 5 rfl) ?_
                    refine lv_aload hx hb dL_isSo_663 (lv_at hl 8 rfl) ?_
                    refine lv_aload hx hb dL_isSo_665 (lv_at hl 9 rfl) ?_
                    refine lv_aload hx hb dL_isSo_667 (lv_at hl 10 rfl) ?_
                    obtain ⟨r_258, X_258, h_258, hf259⟩ := m_bi_s hf257
                    clear hf257
                    refine m_callSi C [.ref (a 126), .int y_252, .int r_256, .ref (a 131), .ref (a 132), .ref (a 135), .ref (a 136), .ref (a 137)] [] (c_L_isGroup l D a cy hG N _ _ _ h_258) (m_goodS wl_L_119 wst_L_isGroup wn_L wc_L_isGroup) ⟨rfl, rfl⟩ hv_L_isGroup ⟨Nat.le_of_ble_eq_true rfl, Nat.le_of_ble_eq_true rfl⟩ hP hS rfl hl.1 rfl (Nat.le_of_ble_eq_true rfl) dL_isSo_669 (fun H locs hP hS => ?_)
                    refine lv_if_eq (tgt := 679) hx hb dL_isSo_672 (by decide) (fun c_260 => ?_) (fun c_260 => ?_)
                    · have hf261 := m_it c_260 hf259
                      clear hf259
                      refine lv_iconst (v := 0) hx hb dL_isSo_679 (by decide) ?_
                      exact m_zretD hd0 C0 hP hS dL_isSo_680 (by decide) hf261
                    · have hf262 := m_ie c_260 hf259
                      clear hf259
                      refine lv_iconst (v := 1) hx hb dL_isSo_675 (by decide) ?_
                      refine lv_goto (tgt := 680) hx hb dL_isSo_676 (by decide) ?_
                      exact m_zretD hd0 C0 hP hS dL_isSo_680 (by decide) hf262
              · have hf229 := m_it c_227 hf226
                clear hf226
                refine lv_aload_n hx hb dL_isSo_567 rfl (lv_at hl 2 rfl) ?_
                refine lv_iload hx hb dL_isSo_568 (lv_at hl 0 rfl) ?_
                refine lv_iconst (v := 5) hx hb dL_isSo_570 (by decide) ?_
                obtain ⟨r_263, X_263, h_263, hf264⟩ := m_bi_s hf229
                clear hf229
                refine m_callVi (q := (RX7, TX7, 5)) C [.int r_52, .int 5] [] (c_X7_commit l D a cy hG N _ _ _ h_263) (m_goodV wl_L_94 wi_X7_commit ws_X7_commit wn_X7 wc_X7_commit) ⟨rfl, rfl⟩ hv_X7_commit ⟨Nat.le_of_ble_eq_true rfl, Nat.le_of_ble_eq_true rfl⟩ rfl mC_126 hP hS rfl hl.1 rfl (Nat.le_of_ble_eq_true rfl) dL_isSo_571 (fun H locs hP hS => ?_)
                refine lv_aload hx hb dL_isSo_574 (lv_at hl 7 rfl) ?_
                refine lv_iload hx hb dL_isSo_576 (lv_at hl 0 rfl) ?_
                obtain ⟨g_265, hf266⟩ := m_gd_s hf264
                clear hf264
                refine m_ild C hP mC_134 0 rfl g_265 dL_isSo_578 (fun y_265 e_265 => ?_)
                have hf267 := m_nm_s e_265 hf266
                clear hf266
                refine lv_icmp_ne (tgt := 604) hx hb dL_isSo_579 (by decide) (fun c_268 => ?_) (fun c_268 => ?_)
                · have hf269 := m_ie c_268 hf267
                  clear hf267
                  refine lv_iconst (v := 0) hx hb dL_isSo_604 (by decide) ?_
                  refine lv_istore (lv' := [(9, .int 0), (15, .int r_52), (0, .ref (a 126)), (1, .int v1), (2, .ref (a 131)), (3, .ref (a 132)), (4, .ref (a 133)), (5, .ref (a 134)), (6, .ref (a 135)), (7, .ref (a 136)), (8, .ref (a 137))]) hx hb dL_isSo_605 hl (by decide) rfl (fun ls hl => ?_)
                  refine lv_iload hx hb dL_isSo_607 (lv_at hl 0 rfl) ?_
                  refine lv_if_eq (tgt := 679) hx hb dL_isSo_609 (by decide) (fun c_271 => ?_) (fun c_271 => ?_)
                  · have hf272 := m_it c_271 hf269
                    clear hf269
                    refine lv_iconst (v := 0) hx hb dL_isSo_679 (by decide) ?_
                    exact m_zretD hd0 C0 hP hS dL_isSo_680 (by decide) hf272
                  · have hf273 := m_ie c_271 hf269
                    clear hf269
                    refine lv_aload_n hx hb dL_isSo_612 rfl (lv_at hl 2 rfl) ?_
                    refine lv_iload_n hx hb dL_isSo_613 rfl (lv_at hl 3 rfl) ?_
                    refine lv_bipush (v := 12) hx hb dL_isSo_614 (by decide) ?_
                    refine lv_ishr hx hb dL_isSo_616 ?_
                    refine lv_topi (fun y_274 e_274 => ?_)
                    have hf275 := m_nm_s e_274 hf273
                    clear hf273
                    refine lv_aload_n hx hb dL_isSo_617 rfl (lv_at hl 4 rfl) ?_
                    refine lv_bipush (v := 7) hx hb dL_isSo_618 (by decide) ?_
                    obtain ⟨g_276, hf277⟩ := m_gd_s hf275
                    clear hf275
                    refine m_ild C hP mC_131 0 rfl g_276 dL_isSo_620 (fun y_276 e_276 => ?_)
                    have hf278 := m_nm_s e_276 hf277
                    clear hf277
                    obtain ⟨r_279, X_279, h_279, hf280⟩ := m_bi_s hf278
                    clear hf278
                    refine m_callSi C [.int y_274, .int y_276] [.ref (a 126)] (c_L_low l D a cy hG N _ _ _ h_279) (m_goodS wl_L_107 wst_L_low wn_L wc_L_low) ⟨rfl, rfl⟩ hv_L_low ⟨Nat.le_of_ble_eq_true rfl, Nat.le_of_ble_eq_true rfl⟩ hP hS rfl hl.1 rfl (Nat.le_of_ble_eq_true rfl) dL_isSo_621 (fun H locs hP hS => ?_)
                    refine lv_iload_n hx hb dL_isSo_624 rfl (lv_at hl 3 rfl) ?_
                    refine lv_bipush (v := 18) hx hb dL_isSo_625 (by decide) ?_
                    refine lv_ishr hx hb dL_isSo_627 ?_
                    refine lv_topi (fun y_281 e_281 => ?_)
                    have hf282 := m_nm_s e_281 hf280
                    clear hf280
                    refine lv_iconst (v := 4) hx hb dL_isSo_628 (by decide) ?_
                    obtain ⟨r_283, X_283, h_283, hf284⟩ := m_bi_s hf282
                    clear hf282
                    refine m_callSi C [.int y_281, .int 4] [.int r_279, .ref (a 126)] (c_L_low l D a cy hG N _ _ _ h_283) (m_goodS wl_L_107 wst_L_low wn_L wc_L_low) ⟨rfl, rfl⟩ hv_L_low ⟨Nat.le_of_ble_eq_true rfl, Nat.le_of_ble_eq_true rfl⟩ hP hS rfl hl.1 rfl (Nat.le_of_ble_eq_true rfl) dL_isSo_629 (fun H locs hP hS => ?_)
                    refine lv_aload_n hx hb dL_isSo_632 rfl (lv_at hl 4 rfl) ?_
                    refine lv_aload_n hx hb dL_isSo_633 rfl (lv_at hl 5 rfl) ?_
                    refine lv_aload hx hb dL_isSo_634 (lv_at hl 8 rfl) ?_
                    refine lv_aload hx hb dL_isSo_636 (lv_at hl 9 rfl) ?_
                    refine lv_aload hx hb dL_isSo_638 (lv_at hl 10 rfl) ?_
                    obtain ⟨r_285, X_285, h_285, hf286⟩ := m_bi_s hf284
                    clear hf284
                    refine m_callSi C [.ref (a 126), .int r_279, .int r_283, .ref (a 131), .ref (a 132), .ref (a 135), .ref (a 136), .ref (a 137)] [] (c_L_isGroup l D a cy hG N _ _ _ h_285) (m_goodS wl_L_119 wst_L_isGroup wn_L wc_L_isGroup) ⟨rfl, rfl⟩ hv_L_isGroup ⟨Nat.le_of_ble_eq_true rfl, Nat.le_of_ble_eq_true rfl⟩ hP hS rfl hl.1 rfl (Nat.le_of_ble_eq_true rfl) dL_isSo_640 (fun H locs hP hS => ?_)
                    refine lv_if_eq (tgt := 679) hx hb dL_isSo_643 (by decide) (fun c_287 => ?_) (fun c_287 => ?_)
                    · have hf288 := m_it c_287 hf286
                      clear hf286
                      refine lv_iconst (v := 0) hx hb dL_isSo_679 (by decide) ?_
                      exact m_zretD hd0 C0 hP hS dL_isSo_680 (by decide) hf288
                    · have hf289 := m_ie c_287 hf286
                      clear hf286
                      refine lv_aload_n hx hb dL_isSo_646 rfl (lv_at hl 2 rfl) ?_
                      refine lv_aload_n hx hb dL_isSo_647 rfl (lv_at hl 4 rfl) ?_
                      refine lv_bipush (v := 7) hx hb dL_isSo_648 (by decide) ?_
                      obtain ⟨g_290, hf291⟩ := m_gd_s hf289
                      clear hf289
                      refine m_ild C hP mC_131 0 rfl g_290 dL_isSo_650 (fun y_290 e_290 => ?_)
                      have hf292 := m_nm_s e_290 hf291
                      clear hf291
                      refine lv_iconst (v := 1) hx hb dL_isSo_651 (by decide) ?_
                      refine lv_isub hx hb dL_isSo_652 ?_
                      refine lv_topi (fun y_293 e_293 => ?_)
                      have hf294 := m_nm_s e_293 hf292
                      clear hf292
                      refine lv_iload_n hx hb dL_isSo_653 rfl (lv_at hl 3 rfl) ?_
                      refine lv_bipush (v := 20) hx hb dL_isSo_654 (by decide) ?_
                      refine lv_ishr hx hb dL_isSo_656 ?_
                      refine lv_topi (fun y_295 e_295 => ?_)
                      have hf296 := m_nm_s e_295 hf294
                      clear hf294
                      refine lv_iconst (v := 3) hx hb dL_isSo_657 (by decide) ?_
                      obtain ⟨r_297, X_297, h_297, hf298⟩ := m_bi_s hf296
                      clear hf296
                      refine m_callSi C [.int y_295, .int 3] [.int y_293, .ref (a 126)] (c_L_low l D a cy hG N _ _ _ h_297) (m_goodS wl_L_107 wst_L_low wn_L wc_L_low) ⟨rfl, rfl⟩ hv_L_low ⟨Nat.le_of_ble_eq_true rfl, Nat.le_of_ble_eq_true rfl⟩ hP hS rfl hl.1 rfl (Nat.le_of_ble_eq_true rfl) dL_isSo_658 (fun H locs hP hS => ?_)
                      refine lv_aload_n hx hb dL_isSo_661 rfl (lv_at hl 4 rfl) ?_
                      refine lv_aload_n hx hb dL_isSo_662 rfl (lv_at hl 5 rfl) ?_
                      refine lv_aload hx hb dL_isSo_663 (lv_at hl 8 rfl) ?_
                      refine lv_aload hx hb dL_isSo_665 (lv_at hl 9 rfl) ?_
                      refine lv_aload hx hb dL_isSo_667 (lv_at hl 10 rfl) ?_
                      obtain ⟨r_299, X_299, h_299, hf300⟩ := m_bi_s hf298
                      clear hf298
                      refine m_callSi C [.ref (a 126), .int y_293, .int r_297, .ref (a 131), .ref (a 132), .ref (a 135), .ref (a 136), .ref (a 137)] [] (c_L_isGroup l D a cy hG N _ _ _ h_299) (m_goodS wl_L_119 wst_L_isGroup wn_L wc_L_isGroup) ⟨rfl, rfl⟩ hv_L_isGroup ⟨Nat.le_of_ble_eq_true rfl, Nat.le_of_ble_eq_true rfl⟩ hP hS rfl hl.1 rfl (Nat.le_of_ble_eq_true rfl) dL_isSo_669 (fun H locs hP hS => ?_)
                      refine lv_if_eq (tgt := 679) hx hb dL_isSo_672 (by decide) (fun c_301 => ?_) (fun c_301 => ?_)
                      · have hf302 := m_it c_301 hf300
                        clear hf300
                        refine lv_iconst (v := 0) hx hb dL_isSo_679 (by decide) ?_
                        exact m_zretD hd0 C0 hP hS dL_isSo_680 (by decide) hf302
                      · have hf303 := m_ie c_301 hf300
                        clear hf300
                        refine lv_iconst (v := 1) hx hb dL_isSo_675 (by decide) ?_
                        refine lv_goto (tgt := 680) hx hb dL_isSo_676 (by decide) ?_
                        exact m_zretD hd0 C0 hP hS dL_isSo_680 (by decide) hf303
                · have hf270 := m_it c_268 hf267
                  clear hf267
                  refine lv_aload_n hx hb dL_isSo_582 rfl (lv_at hl 2 rfl) ?_
                  refine lv_iload hx hb dL_isSo_583 (lv_at hl 0 rfl) ?_
                  refine lv_bipush (v := 6) hx hb dL_isSo_585 (by decide) ?_
                  obtain ⟨r_304, X_304, h_304, hf305⟩ := m_bi_s hf270
                  clear hf270
                  refine m_callVi (q := (RX7, TX7, 5)) C [.int r_52, .int 6] [] (c_X7_commit l D a cy hG N _ _ _ h_304) (m_goodV wl_L_94 wi_X7_commit ws_X7_commit wn_X7 wc_X7_commit) ⟨rfl, rfl⟩ hv_X7_commit ⟨Nat.le_of_ble_eq_true rfl, Nat.le_of_ble_eq_true rfl⟩ rfl mC_126 hP hS rfl hl.1 rfl (Nat.le_of_ble_eq_true rfl) dL_isSo_587 (fun H locs hP hS => ?_)
                  refine lv_aload hx hb dL_isSo_590 (lv_at hl 8 rfl) ?_
                  refine lv_iload hx hb dL_isSo_592 (lv_at hl 0 rfl) ?_
                  obtain ⟨g_306, hf307⟩ := m_gd_s hf305
                  clear hf305
                  refine m_ild C hP mC_135 0 rfl g_306 dL_isSo_594 (fun y_306 e_306 => ?_)
                  have hf308 := m_nm_s e_306 hf307
                  clear hf307
                  refine lv_iconst (v := 2) hx hb dL_isSo_595 (by decide) ?_
                  refine lv_idiv hx hb dL_isSo_596 (by decide) ?_
                  refine lv_topi (fun y_309 e_309 => ?_)
                  have hf310 := m_nm_s e_309 hf308
                  clear hf308
                  refine lv_icmp_ne (tgt := 604) hx hb dL_isSo_597 (by decide) (fun c_311 => ?_) (fun c_311 => ?_)
                  · have hf312 := m_ie c_311 hf310
                    clear hf310
                    refine lv_iconst (v := 0) hx hb dL_isSo_604 (by decide) ?_
                    refine lv_istore (lv' := [(9, .int 0), (15, .int r_52), (0, .ref (a 126)), (1, .int v1), (2, .ref (a 131)), (3, .ref (a 132)), (4, .ref (a 133)), (5, .ref (a 134)), (6, .ref (a 135)), (7, .ref (a 136)), (8, .ref (a 137))]) hx hb dL_isSo_605 hl (by decide) rfl (fun ls hl => ?_)
                    refine lv_iload hx hb dL_isSo_607 (lv_at hl 0 rfl) ?_
                    refine lv_if_eq (tgt := 679) hx hb dL_isSo_609 (by decide) (fun c_314 => ?_) (fun c_314 => ?_)
                    · have hf315 := m_it c_314 hf312
                      clear hf312
                      refine lv_iconst (v := 0) hx hb dL_isSo_679 (by decide) ?_
                      exact m_zretD hd0 C0 hP hS dL_isSo_680 (by decide) hf315
                    · have hf316 := m_ie c_314 hf312
                      clear hf312
                      refine lv_aload_n hx hb dL_isSo_612 rfl (lv_at hl 2 rfl) ?_
                      refine lv_iload_n hx hb dL_isSo_613 rfl (lv_at hl 3 rfl) ?_
                      refine lv_bipush (v := 12) hx hb dL_isSo_614 (by decide) ?_
                      refine lv_ishr hx hb dL_isSo_616 ?_
                      refine lv_topi (fun y_317 e_317 => ?_)
                      have hf318 := m_nm_s e_317 hf316
                      clear hf316
                      refine lv_aload_n hx hb dL_isSo_617 rfl (lv_at hl 4 rfl) ?_
                      refine lv_bipush (v := 7) hx hb dL_isSo_618 (by decide) ?_
                      obtain ⟨g_319, hf320⟩ := m_gd_s hf318
                      clear hf318
                      refine m_ild C hP mC_131 0 rfl g_319 dL_isSo_620 (fun y_319 e_319 => ?_)
                      have hf321 := m_nm_s e_319 hf320
                      clear hf320
                      obtain ⟨r_322, X_322, h_322, hf323⟩ := m_bi_s hf321
                      clear hf321
                      refine m_callSi C [.int y_317, .int y_319] [.ref (a 126)] (c_L_low l D a cy hG N _ _ _ h_322) (m_goodS wl_L_107 wst_L_low wn_L wc_L_low) ⟨rfl, rfl⟩ hv_L_low ⟨Nat.le_of_ble_eq_true rfl, Nat.le_of_ble_eq_true rfl⟩ hP hS rfl hl.1 rfl (Nat.le_of_ble_eq_true rfl) dL_isSo_621 (fun H locs hP hS => ?_)
                      refine lv_iload_n hx hb dL_isSo_624 rfl (lv_at hl 3 rfl) ?_
                      refine lv_bipush (v := 18) hx hb dL_isSo_625 (by decide) ?_
                      refine lv_ishr hx hb dL_isSo_627 ?_
                      refine lv_topi (fun y_324 e_324 => ?_)
                      have hf325 := m_nm_s e_324 hf323
                      clear hf323
                      refine lv_iconst (v := 4) hx hb dL_isSo_628 (by decide) ?_
                      obtain ⟨r_326, X_326, h_326, hf327⟩ := m_bi_s hf325
                      clear hf325
                      refine m_callSi C [.int y_324, .int 4] [.int r_322, .ref (a 126)] (c_L_low l D a cy hG N _ _ _ h_326) (m_goodS wl_L_107 wst_L_low wn_L wc_L_low) ⟨rfl, rfl⟩ hv_L_low ⟨Nat.le_of_ble_eq_true rfl, Nat.le_of_ble_eq_true rfl⟩ hP hS rfl hl.1 rfl (Nat.le_of_ble_eq_true rfl) dL_isSo_629 (fun H locs hP hS => ?_)
                      refine lv_aload_n hx hb dL_isSo_632 rfl (lv_at hl 4 rfl) ?_
                      refine lv_aload_n hx hb dL_isSo_633 rfl (lv_at hl 5 rfl) ?_
                      refine lv_aload hx hb dL_isSo_634 (lv_at hl 8 rfl) ?_
                      refine lv_aload hx hb dL_isSo_636 (lv_at hl 9 rfl) ?_
                      refine lv_aload hx hb dL_isSo_638 (lv_at hl 10 rfl) ?_
                      obtain ⟨r_328, X_328, h_328, hf329⟩ := m_bi_s hf327
                      clear hf327
                      refine m_callSi C [.ref (a 126), .int r_322, .int r_326, .ref (a 131), .ref (a 132), .ref (a 135), .ref (a 136), .ref (a 137)] [] (c_L_isGroup l D a cy hG N _ _ _ h_328) (m_goodS wl_L_119 wst_L_isGroup wn_L wc_L_isGroup) ⟨rfl, rfl⟩ hv_L_isGroup ⟨Nat.le_of_ble_eq_true rfl, Nat.le_of_ble_eq_true rfl⟩ hP hS rfl hl.1 rfl (Nat.le_of_ble_eq_true rfl) dL_isSo_640 (fun H locs hP hS => ?_)
                      refine lv_if_eq (tgt := 679) hx hb dL_isSo_643 (by decide) (fun c_330 => ?_) (fun c_330 => ?_)
                      · have hf331 := m_it c_330 hf329
                        clear hf329
                        refine lv_iconst (v := 0) hx hb dL_isSo_679 (by decide) ?_
                        exact m_zretD hd0 C0 hP hS dL_isSo_680 (by decide) hf331
                      · have hf332 := m_ie c_330 hf329
                        clear hf329
                        refine lv_aload_n hx hb dL_isSo_646 rfl (lv_at hl 2 rfl) ?_
                        refine lv_aload_n hx hb dL_isSo_647 rfl (lv_at hl 4 rfl) ?_
                        refine lv_bipush (v := 7) hx hb dL_isSo_648 (by decide) ?_
                        obtain ⟨g_333, hf334⟩ := m_gd_s hf332
                        clear hf332
                        refine m_ild C hP mC_131 0 rfl g_333 dL_isSo_650 (fun y_333 e_333 => ?_)
                        have hf335 := m_nm_s e_333 hf334
                        clear hf334
                        refine lv_iconst (v := 1) hx hb dL_isSo_651 (by decide) ?_
                        refine lv_isub hx hb dL_isSo_652 ?_
                        refine lv_topi (fun y_336 e_336 => ?_)
                        have hf337 := m_nm_s e_336 hf335
                        clear hf335
                        refine lv_iload_n hx hb dL_isSo_653 rfl (lv_at hl 3 rfl) ?_
                        refine lv_bipush (v := 20) hx hb dL_isSo_654 (by decide) ?_
                        refine lv_ishr hx hb dL_isSo_656 ?_
                        refine lv_topi (fun y_338 e_338 => ?_)
                        have hf339 := m_nm_s e_338 hf337
                        clear hf337
                        refine lv_iconst (v := 3) hx hb dL_isSo_657 (by decide) ?_
                        obtain ⟨r_340, X_340, h_340, hf341⟩ := m_bi_s hf339
                        clear hf339
                        refine m_callSi C [.int y_338, .int 3] [.int y_336, .ref (a 126)] (c_L_low l D a cy hG N _ _ _ h_340) (m_goodS wl_L_107 wst_L_low wn_L wc_L_low) ⟨rfl, rfl⟩ hv_L_low ⟨Nat.le_of_ble_eq_true rfl, Nat.le_of_ble_eq_true rfl⟩ hP hS rfl hl.1 rfl (Nat.le_of_ble_eq_true rfl) dL_isSo_658 (fun H locs hP hS => ?_)
                        refine lv_aload_n hx hb dL_isSo_661 rfl (lv_at hl 4 rfl) ?_
                        refine lv_aload_n hx hb dL_isSo_662 rfl (lv_at hl 5 rfl) ?_
                        refine lv_aload hx hb dL_isSo_663 (lv_at hl 8 rfl) ?_
                        refine lv_aload hx hb dL_isSo_665 (lv_at hl 9 rfl) ?_
                        refine lv_aload hx hb dL_isSo_667 (lv_at hl 10 rfl) ?_
                        obtain ⟨r_342, X_342, h_342, hf343⟩ := m_bi_s hf341
                        clear hf341
                        refine m_callSi C [.ref (a 126), .int y_336, .int r_340, .ref (a 131), .ref (a 132), .ref (a 135), .ref (a 136), .ref (a 137)] [] (c_L_isGroup l D a cy hG N _ _ _ h_342) (m_goodS wl_L_119 wst_L_isGroup wn_L wc_L_isGroup) ⟨rfl, rfl⟩ hv_L_isGroup ⟨Nat.le_of_ble_eq_true rfl, Nat.le_of_ble_eq_true rfl⟩ hP hS rfl hl.1 rfl (Nat.le_of_ble_eq_true rfl) dL_isSo_669 (fun H locs hP hS => ?_)
                        refine lv_if_eq (tgt := 679) hx hb dL_isSo_672 (by decide) (fun c_344 => ?_) (fun c_344 => ?_)
                        · have hf345 := m_it c_344 hf343
                          clear hf343
                          refine lv_iconst (v := 0) hx hb dL_isSo_679 (by decide) ?_
                          exact m_zretD hd0 C0 hP hS dL_isSo_680 (by decide) hf345
                        · have hf346 := m_ie c_344 hf343
                          clear hf343
                          refine lv_iconst (v := 1) hx hb dL_isSo_675 (by decide) ?_
                          refine lv_goto (tgt := 680) hx hb dL_isSo_676 (by decide) ?_
                          exact m_zretD hd0 C0 hP hS dL_isSo_680 (by decide) hf346
                  · have hf313 := m_it c_311 hf310
                    clear hf310
                    refine lv_iconst (v := 1) hx hb dL_isSo_600 (by decide) ?_
                    refine lv_goto (tgt := 605) hx hb dL_isSo_601 (by decide) ?_
                    refine lv_istore (lv' := [(9, .int 1), (15, .int r_52), (0, .ref (a 126)), (1, .int v1), (2, .ref (a 131)), (3, .ref (a 132)), (4, .ref (a 133)), (5, .ref (a 134)), (6, .ref (a 135)), (7, .ref (a 136)), (8, .ref (a 137))]) hx hb dL_isSo_605 hl (by decide) rfl (fun ls hl => ?_)
                    refine lv_iload hx hb dL_isSo_607 (lv_at hl 0 rfl) ?_
                    refine lv_if_eq (tgt := 679) hx hb dL_isSo_609 (by decide) (fun c_347 => ?_) (fun c_347 => ?_)
                    · have hf348 := m_it c_347 hf313
                      clear hf313
                      refine lv_iconst (v := 0) hx hb dL_isSo_679 (by decide) ?_
                      exact m_zretD hd0 C0 hP hS dL_isSo_680 (by decide) hf348
                    · have hf349 := m_ie c_347 hf313
                      clear hf313
                      refine lv_aload_n hx hb dL_isSo_612 rfl (lv_at hl 2 rfl) ?_
                      refine lv_iload_n hx hb dL_isSo_613 rfl (lv_at hl 3 rfl) ?_
                      refine lv_bipush (v := 12) hx hb dL_isSo_614 (by decide) ?_
                      refine lv_ishr hx hb dL_isSo_616 ?_
                      refine lv_topi (fun y_350 e_350 => ?_)
                      have hf351 := m_nm_s e_350 hf349
                      clear hf349
                      refine lv_aload_n hx hb dL_isSo_617 rfl (lv_at hl 4 rfl) ?_
                      refine lv_bipush (v := 7) hx hb dL_isSo_618 (by decide) ?_
                      obtain ⟨g_352, hf353⟩ := m_gd_s hf351
                      clear hf351
                      refine m_ild C hP mC_131 0 rfl g_352 dL_isSo_620 (fun y_352 e_352 => ?_)
                      have hf354 := m_nm_s e_352 hf353
                      clear hf353
                      obtain ⟨r_355, X_355, h_355, hf356⟩ := m_bi_s hf354
                      clear hf354
                      refine m_callSi C [.int y_350, .int y_352] [.ref (a 126)] (c_L_low l D a cy hG N _ _ _ h_355) (m_goodS wl_L_107 wst_L_low wn_L wc_L_low) ⟨rfl, rfl⟩ hv_L_low ⟨Nat.le_of_ble_eq_true rfl, Nat.le_of_ble_eq_true rfl⟩ hP hS rfl hl.1 rfl (Nat.le_of_ble_eq_true rfl) dL_isSo_621 (fun H locs hP hS => ?_)
                      refine lv_iload_n hx hb dL_isSo_624 rfl (lv_at hl 3 rfl) ?_
                      refine lv_bipush (v := 18) hx hb dL_isSo_625 (by decide) ?_
                      refine lv_ishr hx hb dL_isSo_627 ?_
                      refine lv_topi (fun y_357 e_357 => ?_)
                      have hf358 := m_nm_s e_357 hf356
                      clear hf356
                      refine lv_iconst (v := 4) hx hb dL_isSo_628 (by decide) ?_
                      obtain ⟨r_359, X_359, h_359, hf360⟩ := m_bi_s hf358
                      clear hf358
                      refine m_callSi C [.int y_357, .int 4] [.int r_355, .ref (a 126)] (c_L_low l D a cy hG N _ _ _ h_359) (m_goodS wl_L_107 wst_L_low wn_L wc_L_low) ⟨rfl, rfl⟩ hv_L_low ⟨Nat.le_of_ble_eq_true rfl, Nat.le_of_ble_eq_true rfl⟩ hP hS rfl hl.1 rfl (Nat.le_of_ble_eq_true rfl) dL_isSo_629 (fun H locs hP hS => ?_)
                      refine lv_aload_n hx hb dL_isSo_632 rfl (lv_at hl 4 rfl) ?_
                      refine lv_aload_n hx hb dL_isSo_633 rfl (lv_at hl 5 rfl) ?_
                      refine lv_aload hx hb dL_isSo_634 (lv_at hl 8 rfl) ?_
                      refine lv_aload hx hb dL_isSo_636 (lv_at hl 9 rfl) ?_
                      refine lv_aload hx hb dL_isSo_638 (lv_at hl 10 rfl) ?_
                      obtain ⟨r_361, X_361, h_361, hf362⟩ := m_bi_s hf360
                      clear hf360
                      refine m_callSi C [.ref (a 126), .int r_355, .int r_359, .ref (a 131), .ref (a 132), .ref (a 135), .ref (a 136), .ref (a 137)] [] (c_L_isGroup l D a cy hG N _ _ _ h_361) (m_goodS wl_L_119 wst_L_isGroup wn_L wc_L_isGroup) ⟨rfl, rfl⟩ hv_L_isGroup ⟨Nat.le_of_ble_eq_true rfl, Nat.le_of_ble_eq_true rfl⟩ hP hS rfl hl.1 rfl (Nat.le_of_ble_eq_true rfl) dL_isSo_640 (fun H locs hP hS => ?_)
                      refine lv_if_eq (tgt := 679) hx hb dL_isSo_643 (by decide) (fun c_363 => ?_) (fun c_363 => ?_)
                      · have hf364 := m_it c_363 hf362
                        clear hf362
                        refine lv_iconst (v := 0) hx hb dL_isSo_679 (by decide) ?_
                        exact m_zretD hd0 C0 hP hS dL_isSo_680 (by decide) hf364
                      · have hf365 := m_ie c_363 hf362
                        clear hf362
                        refine lv_aload_n hx hb dL_isSo_646 rfl (lv_at hl 2 rfl) ?_
                        refine lv_aload_n hx hb dL_isSo_647 rfl (lv_at hl 4 rfl) ?_
                        refine lv_bipush (v := 7) hx hb dL_isSo_648 (by decide) ?_
                        obtain ⟨g_366, hf367⟩ := m_gd_s hf365
                        clear hf365
                        refine m_ild C hP mC_131 0 rfl g_366 dL_isSo_650 (fun y_366 e_366 => ?_)
                        have hf368 := m_nm_s e_366 hf367
                        clear hf367
                        refine lv_iconst (v := 1) hx hb dL_isSo_651 (by decide) ?_
                        refine lv_isub hx hb dL_isSo_652 ?_
                        refine lv_topi (fun y_369 e_369 => ?_)
                        have hf370 := m_nm_s e_369 hf368
                        clear hf368
                        refine lv_iload_n hx hb dL_isSo_653 rfl (lv_at hl 3 rfl) ?_
                        refine lv_bipush (v := 20) hx hb dL_isSo_654 (by decide) ?_
                        refine lv_ishr hx hb dL_isSo_656 ?_
                        refine lv_topi (fun y_371 e_371 => ?_)
                        have hf372 := m_nm_s e_371 hf370
                        clear hf370
                        refine lv_iconst (v := 3) hx hb dL_isSo_657 (by decide) ?_
                        obtain ⟨r_373, X_373, h_373, hf374⟩ := m_bi_s hf372
                        clear hf372
                        refine m_callSi C [.int y_371, .int 3] [.int y_369, .ref (a 126)] (c_L_low l D a cy hG N _ _ _ h_373) (m_goodS wl_L_107 wst_L_low wn_L wc_L_low) ⟨rfl, rfl⟩ hv_L_low ⟨Nat.le_of_ble_eq_true rfl, Nat.le_of_ble_eq_true rfl⟩ hP hS rfl hl.1 rfl (Nat.le_of_ble_eq_true rfl) dL_isSo_658 (fun H locs hP hS => ?_)
                        refine lv_aload_n hx hb dL_isSo_661 rfl (lv_at hl 4 rfl) ?_
                        refine lv_aload_n hx hb dL_isSo_662 rfl (lv_at hl 5 rfl) ?_
                        refine lv_aload hx hb dL_isSo_663 (lv_at hl 8 rfl) ?_
                        refine lv_aload hx hb dL_isSo_665 (lv_at hl 9 rfl) ?_
                        refine lv_aload hx hb dL_isSo_667 (lv_at hl 10 rfl) ?_
                        obtain ⟨r_375, X_375, h_375, hf376⟩ := m_bi_s hf374
                        clear hf374
                        refine m_callSi C [.ref (a 126), .int y_369, .int r_373, .ref (a 131), .ref (a 132), .ref (a 135), .ref (a 136), .ref (a 137)] [] (c_L_isGroup l D a cy hG N _ _ _ h_375) (m_goodS wl_L_119 wst_L_isGroup wn_L wc_L_isGroup) ⟨rfl, rfl⟩ hv_L_isGroup ⟨Nat.le_of_ble_eq_true rfl, Nat.le_of_ble_eq_true rfl⟩ hP hS rfl hl.1 rfl (Nat.le_of_ble_eq_true rfl) dL_isSo_669 (fun H locs hP hS => ?_)
                        refine lv_if_eq (tgt := 679) hx hb dL_isSo_672 (by decide) (fun c_377 => ?_) (fun c_377 => ?_)
                        · have hf378 := m_it c_377 hf376
                          clear hf376
                          refine lv_iconst (v := 0) hx hb dL_isSo_679 (by decide) ?_
                          exact m_zretD hd0 C0 hP hS dL_isSo_680 (by decide) hf378
                        · have hf379 := m_ie c_377 hf376
                          clear hf376
                          refine lv_iconst (v := 1) hx hb dL_isSo_675 (by decide) ?_
                          refine lv_goto (tgt := 680) hx hb dL_isSo_676 (by decide) ?_
                          exact m_zretD hd0 C0 hP hS dL_isSo_680 (by decide) hf379
    · have hf46 := m_it c_44 hf43
      clear hf43
      exact w_L_isSo_468 l D a cy hG N hd0 C0 _ _ hf46 H locs ls hP hS (lv_sub hl [0] rfl)
def f_L_isSo_453 (N : Nat) (v1 : Int32) (X : XT) : Option (Int32 × XT) := f_L_isSo_454 N v1 0 X
set_option maxHeartbeats 4000000 in
set_option maxRecDepth 100000 in
theorem w_L_isSo_453 (l : Launch) (D : va_G) (a : Nat → Nat) (cy : Nat → ClassId) (hG : m_inj 138 a) (N : Nat) {p : Program} {e : Env} {s : State} {m : MethodId} {args : Array Value} {below : List Frame} {meth : Method} {c : Code} {d0 : Drawn} (hd0 : s.drawn.sameBut d0 lw_cs) (C0 : m_Cx p s m args meth c cL_isSo 16 RL (some .boolean) (Cond.code yL_isSo cL_isSo 16 (some .boolean)) D (m_tc cy) (m_AC a) (m_WC a cy) (m_ZC a)) {r0 : Int32} {X0 : XT} (v1 : Int32) (X : XT) (hf0 : f_L_isSo_453 N v1 X = some (r0, X0)) : ∀ (H : Heap) (locs : List Loc) (ls : Array Slot), va_P D vwCl (m_WC a cy X) H → va_S (m_AC a) s.heap H locs → lv_has ls 16 [(0, .ref (a 126)), (1, .int v1), (2, .ref (a 131)), (3, .ref (a 132)), (4, .ref (a 133)), (5, .ref (a 134)), (6, .ref (a 135)), (7, .ref (a 136)), (8, .ref (a 137))] → W p l e rm_L_isSo (s.setDrawn d0) m args below meth c H locs 0 0 (MQD lw_cs below (m_QI D (m_WC a cy) (m_AC a) r0 X0) args s 0 0 (m_AC a)) (F0 m 453 ls []) := by
  have C := m_Cx_draw C0 d0
  have hx := C.1.1
  have hb := C.1.2.1
  intro H locs ls hP hS hl
  unfold f_L_isSo_453 at hf0
  refine lv_iconst (v := 0) hx hb dL_isSo_453 (by decide) ?_
  exact w_L_isSo_454 l D a cy hG N hd0 C0 _ _ _ hf0 H locs ls hP hS (lv_sub hl [0, 1, 2, 3, 4, 5, 6, 7, 8] rfl)
def f_L_isSo_392 (N : Nat) (v1 : Int32) (v9 : Int32) (X : XT) : Option (Int32 × XT) := m_nm (v1 >>> ((2 : Int32) &&& 31)) fun y_29 => m_bi (f_L_low N y_29 12 X) fun r_31 X_31 => if v9 = 0 then (f_L_isSo_453 N v1 X_31) else (m_bi (f_X7_open N r_31 X_31) fun r_380 X_380 => m_bi (f_L_open N r_31 X_380) fun r_382 X_382 => if r_380 = r_382 then (m_gd (m_in 6 17) <| m_nm (X_382 131 (Int32.toNatClampNeg 6)) fun y_387 => m_bi (f_X7_commit N y_387 0 X_382) fun r_390 X_390 => if r_390 = (-1) then (m_gd (m_in 7 17) <| m_nm (X_390 131 (Int32.toNatClampNeg 7)) fun y_395 => m_bi (f_X7_group N y_395 0 X_390) fun r_398 X_398 => if r_398 = (-1) then (f_L_isSo_454 N v1 1 X_398) else (f_L_isSo_453 N v1 X_398)) else (f_L_isSo_453 N v1 X_390)) else (f_L_isSo_453 N v1 X_382))
set_option maxHeartbeats 4000000 in
set_option maxRecDepth 100000 in
theorem w_L_isSo_392 (l : Launch) (D : va_G) (a : Nat → Nat) (cy : Nat → ClassId) (hG : m_inj 138 a) (N : Nat) {p : Program} {e : Env} {s : State} {m : MethodId} {args : Array Value} {below : List Frame} {meth : Method} {c : Code} {d0 : Drawn} (hd0 : s.drawn.sameBut d0 lw_cs) (C0 : m_Cx p s m args meth c cL_isSo 16 RL (some .boolean) (Cond.code yL_isSo cL_isSo 16 (some .boolean)) D (m_tc cy) (m_AC a) (m_WC a cy) (m_ZC a)) {r0 : Int32} {X0 : XT} (v1 : Int32) (v9 : Int32) (X : XT) (hf0 : f_L_isSo_392 N v1 v9 X = some (r0, X0)) : ∀ (H : Heap) (locs : List Loc) (ls : Array Slot), va_P D vwCl (m_WC a cy X) H → va_S (m_AC a) s.heap H locs → lv_has ls 16 [(0, .ref (a 126)), (1, .int v1), (2, .ref (a 131)), (3, .ref (a 132)), (4, .ref (a 133)), (5, .ref (a 134)), (6, .ref (a 135)), (7, .ref (a 136)), (8, .ref (a 137)), (9, .int v9)] → W p l e rm_L_isSo (s.setDrawn d0) m args below meth c H locs 0 0 (MQD lw_cs below (m_QI D (m_WC a cy) (m_AC a) r0 X0) args s 0 0 (m_AC a)) (F0 m 392 ls []) := by
  have C := m_Cx_draw C0 d0
  have hx := C.1.1
  have hb := C.1.2.1
  intro H locs ls hP hS hl
  unfold f_L_isSo_392 at hf0
  refine lv_iload_n hx hb dL_isSo_392 rfl (lv_at hl 1 rfl) ?_
  refine lv_iconst (v := 2) hx hb dL_isSo_393 (by decide) ?_
  refine lv_ishr hx hb dL_isSo_394 ?_
  refine lv_topi (fun y_29 e_29 => ?_)
  have hf30 := m_nm_s e_29 hf0
  clear hf0
  refine lv_bipush (v := 12) hx hb dL_isSo_395 (by decide) ?_
  obtain ⟨r_31, X_31, h_31, hf32⟩ := m_bi_s hf30
  clear hf30
  refine m_callSi C [.int y_29, .int 12] [] (c_L_low l D a cy hG N _ _ _ h_31) (m_goodS wl_L_107 wst_L_low wn_L wc_L_low) ⟨rfl, rfl⟩ hv_L_low ⟨Nat.le_of_ble_eq_true rfl, Nat.le_of_ble_eq_true rfl⟩ hP hS rfl hl.1 rfl (Nat.le_of_ble_eq_true rfl) dL_isSo_397 (fun H locs hP hS => ?_)
  refine lv_istore (lv' := [(14, .int r_31), (0, .ref (a 126)), (1, .int v1), (2, .ref (a 131)), (3, .ref (a 132)), (4, .ref (a 133)), (5, .ref (a 134)), (6, .ref (a 135)), (7, .ref (a 136)), (8, .ref (a 137)), (9, .int v9)]) hx hb dL_isSo_400 hl (by decide) rfl (fun ls hl => ?_)
  refine lv_iload hx hb dL_isSo_402 (lv_at hl 10 rfl) ?_
  refine lv_if_eq (tgt := 453) hx hb dL_isSo_404 (by decide) (fun c_33 => ?_) (fun c_33 => ?_)
  · have hf34 := m_it c_33 hf32
    clear hf32
    exact w_L_isSo_453 l D a cy hG N hd0 C0 _ _ hf34 H locs ls hP hS (lv_sub hl [1, 2, 3, 4, 5, 6, 7, 8, 9] rfl)
  · have hf35 := m_ie c_33 hf32
    clear hf32
    refine lv_aload_n hx hb dL_isSo_407 rfl (lv_at hl 1 rfl) ?_
    refine lv_iload hx hb dL_isSo_408 (lv_at hl 0 rfl) ?_
    obtain ⟨r_380, X_380, h_380, hf381⟩ := m_bi_s hf35
    clear hf35
    refine m_callVi (q := (RX7, TX7, 5)) C [.int r_31] [] (c_X7_open l D a cy hG N _ _ h_380) (m_goodV wl_L_117 wi_X7_open ws_X7_open wn_X7 wc_X7_open) ⟨rfl, rfl⟩ hv_X7_open ⟨Nat.le_of_ble_eq_true rfl, Nat.le_of_ble_eq_true rfl⟩ rfl mC_126 hP hS rfl hl.1 rfl (Nat.le_of_ble_eq_true rfl) dL_isSo_410 (fun H locs hP hS => ?_)
    refine lv_iload hx hb dL_isSo_413 (lv_at hl 0 rfl) ?_
    refine lv_aload_n hx hb dL_isSo_415 rfl (lv_at hl 3 rfl) ?_
    refine lv_aload_n hx hb dL_isSo_416 rfl (lv_at hl 4 rfl) ?_
    obtain ⟨r_382, X_382, h_382, hf383⟩ := m_bi_s hf381
    clear hf381
    refine m_callSi C [.int r_31, .ref (a 131), .ref (a 132)] [.int r_380] (c_L_open l D a cy hG N _ _ h_382) (m_goodS wl_L_39 wst_L_open wn_L wc_L_open) ⟨rfl, rfl⟩ hv_L_open ⟨Nat.le_of_ble_eq_true rfl, Nat.le_of_ble_eq_true rfl⟩ hP hS rfl hl.1 rfl (Nat.le_of_ble_eq_true rfl) dL_isSo_417 (fun H locs hP hS => ?_)
    refine lv_icmp_ne (tgt := 453) hx hb dL_isSo_420 (by decide) (fun c_384 => ?_) (fun c_384 => ?_)
    · have hf385 := m_ie c_384 hf383
      clear hf383
      exact w_L_isSo_453 l D a cy hG N hd0 C0 _ _ hf385 H locs ls hP hS (lv_sub hl [1, 2, 3, 4, 5, 6, 7, 8, 9] rfl)
    · have hf386 := m_it c_384 hf383
      clear hf383
      refine lv_aload_n hx hb dL_isSo_423 rfl (lv_at hl 1 rfl) ?_
      refine lv_aload_n hx hb dL_isSo_424 rfl (lv_at hl 3 rfl) ?_
      refine lv_bipush (v := 6) hx hb dL_isSo_425 (by decide) ?_
      obtain ⟨g_387, hf388⟩ := m_gd_s hf386
      clear hf386
      refine m_ild C hP mC_131 0 rfl g_387 dL_isSo_427 (fun y_387 e_387 => ?_)
      have hf389 := m_nm_s e_387 hf388
      clear hf388
      refine lv_iconst (v := 0) hx hb dL_isSo_428 (by decide) ?_
      obtain ⟨r_390, X_390, h_390, hf391⟩ := m_bi_s hf389
      clear hf389
      refine m_callVi (q := (RX7, TX7, 5)) C [.int y_387, .int 0] [] (c_X7_commit l D a cy hG N _ _ _ h_390) (m_goodV wl_L_94 wi_X7_commit ws_X7_commit wn_X7 wc_X7_commit) ⟨rfl, rfl⟩ hv_X7_commit ⟨Nat.le_of_ble_eq_true rfl, Nat.le_of_ble_eq_true rfl⟩ rfl mC_126 hP hS rfl hl.1 rfl (Nat.le_of_ble_eq_true rfl) dL_isSo_429 (fun H locs hP hS => ?_)
      refine lv_iconst (v := (-1)) hx hb dL_isSo_432 (by decide) ?_
      refine lv_icmp_ne (tgt := 453) hx hb dL_isSo_433 (by decide) (fun c_392 => ?_) (fun c_392 => ?_)
      · have hf393 := m_ie c_392 hf391
        clear hf391
        exact w_L_isSo_453 l D a cy hG N hd0 C0 _ _ hf393 H locs ls hP hS (lv_sub hl [1, 2, 3, 4, 5, 6, 7, 8, 9] rfl)
      · have hf394 := m_it c_392 hf391
        clear hf391
        refine lv_aload_n hx hb dL_isSo_436 rfl (lv_at hl 1 rfl) ?_
        refine lv_aload_n hx hb dL_isSo_437 rfl (lv_at hl 3 rfl) ?_
        refine lv_bipush (v := 7) hx hb dL_isSo_438 (by decide) ?_
        obtain ⟨g_395, hf396⟩ := m_gd_s hf394
        clear hf394
        refine m_ild C hP mC_131 0 rfl g_395 dL_isSo_440 (fun y_395 e_395 => ?_)
        have hf397 := m_nm_s e_395 hf396
        clear hf396
        refine lv_iconst (v := 0) hx hb dL_isSo_441 (by decide) ?_
        obtain ⟨r_398, X_398, h_398, hf399⟩ := m_bi_s hf397
        clear hf397
        refine m_callVi (q := (RX7, TX7, 5)) C [.int y_395, .int 0] [] (c_X7_group l D a cy hG N _ _ _ h_398) (m_goodV wl_L_101 wi_X7_group ws_X7_group wn_X7 wc_X7_group) ⟨rfl, rfl⟩ hv_X7_group ⟨Nat.le_of_ble_eq_true rfl, Nat.le_of_ble_eq_true rfl⟩ rfl mC_126 hP hS rfl hl.1 rfl (Nat.le_of_ble_eq_true rfl) dL_isSo_442 (fun H locs hP hS => ?_)
        refine lv_iconst (v := (-1)) hx hb dL_isSo_445 (by decide) ?_
        refine lv_icmp_ne (tgt := 453) hx hb dL_isSo_446 (by decide) (fun c_400 => ?_) (fun c_400 => ?_)
        · have hf401 := m_ie c_400 hf399
          clear hf399
          exact w_L_isSo_453 l D a cy hG N hd0 C0 _ _ hf401 H locs ls hP hS (lv_sub hl [1, 2, 3, 4, 5, 6, 7, 8, 9] rfl)
        · have hf402 := m_it c_400 hf399
          clear hf399
          refine lv_iconst (v := 1) hx hb dL_isSo_449 (by decide) ?_
          refine lv_goto (tgt := 454) hx hb dL_isSo_450 (by decide) ?_
          exact w_L_isSo_454 l D a cy hG N hd0 C0 _ _ _ hf402 H locs ls hP hS (lv_sub hl [1, 2, 3, 4, 5, 6, 7, 8, 9] rfl)
def f_L_isSo_390 (N : Nat) (v1 : Int32) (u0 : Int32) (X : XT) : Option (Int32 × XT) := f_L_isSo_392 N v1 u0 X
set_option maxHeartbeats 4000000 in
set_option maxRecDepth 100000 in
theorem w_L_isSo_390 (l : Launch) (D : va_G) (a : Nat → Nat) (cy : Nat → ClassId) (hG : m_inj 138 a) (N : Nat) {p : Program} {e : Env} {s : State} {m : MethodId} {args : Array Value} {below : List Frame} {meth : Method} {c : Code} {d0 : Drawn} (hd0 : s.drawn.sameBut d0 lw_cs) (C0 : m_Cx p s m args meth c cL_isSo 16 RL (some .boolean) (Cond.code yL_isSo cL_isSo 16 (some .boolean)) D (m_tc cy) (m_AC a) (m_WC a cy) (m_ZC a)) {r0 : Int32} {X0 : XT} (v1 : Int32) (u0 : Int32) (X : XT) (hf0 : f_L_isSo_390 N v1 u0 X = some (r0, X0)) : ∀ (H : Heap) (locs : List Loc) (ls : Array Slot), va_P D vwCl (m_WC a cy X) H → va_S (m_AC a) s.heap H locs → lv_has ls 16 [(0, .ref (a 126)), (1, .int v1), (2, .ref (a 131)), (3, .ref (a 132)), (4, .ref (a 133)), (5, .ref (a 134)), (6, .ref (a 135)), (7, .ref (a 136)), (8, .ref (a 137))] → W p l e rm_L_isSo (s.setDrawn d0) m args below meth c H locs 0 0 (MQD lw_cs below (m_QI D (m_WC a cy) (m_AC a) r0 X0) args s 0 0 (m_AC a)) (F0 m 390 ls [.int u0]) := by
  have C := m_Cx_draw C0 d0
  have hx := C.1.1
  have hb := C.1.2.1
  intro H locs ls hP hS hl
  unfold f_L_isSo_390 at hf0
  refine lv_istore (lv' := [(9, .int u0), (0, .ref (a 126)), (1, .int v1), (2, .ref (a 131)), (3, .ref (a 132)), (4, .ref (a 133)), (5, .ref (a 134)), (6, .ref (a 135)), (7, .ref (a 136)), (8, .ref (a 137))]) hx hb dL_isSo_390 hl (by decide) rfl (fun ls hl => ?_)
  exact w_L_isSo_392 l D a cy hG N hd0 C0 _ _ _ hf0 H locs ls hP hS (lv_sub hl [1, 2, 3, 4, 5, 6, 7, 8, 9, 0] rfl)
def f_L_isSo_389 (N : Nat) (v1 : Int32) (X : XT) : Option (Int32 × XT) := f_L_isSo_390 N v1 0 X
set_option maxHeartbeats 4000000 in
set_option maxRecDepth 100000 in
theorem w_L_isSo_389 (l : Launch) (D : va_G) (a : Nat → Nat) (cy : Nat → ClassId) (hG : m_inj 138 a) (N : Nat) {p : Program} {e : Env} {s : State} {m : MethodId} {args : Array Value} {below : List Frame} {meth : Method} {c : Code} {d0 : Drawn} (hd0 : s.drawn.sameBut d0 lw_cs) (C0 : m_Cx p s m args meth c cL_isSo 16 RL (some .boolean) (Cond.code yL_isSo cL_isSo 16 (some .boolean)) D (m_tc cy) (m_AC a) (m_WC a cy) (m_ZC a)) {r0 : Int32} {X0 : XT} (v1 : Int32) (X : XT) (hf0 : f_L_isSo_389 N v1 X = some (r0, X0)) : ∀ (H : Heap) (locs : List Loc) (ls : Array Slot), va_P D vwCl (m_WC a cy X) H → va_S (m_AC a) s.heap H locs → lv_has ls 16 [(0, .ref (a 126)), (1, .int v1), (2, .ref (a 131)), (3, .ref (a 132)), (4, .ref (a 133)), (5, .ref (a 134)), (6, .ref (a 135)), (7, .ref (a 136)), (8, .ref (a 137))] → W p l e rm_L_isSo (s.setDrawn d0) m args below meth c H locs 0 0 (MQD lw_cs below (m_QI D (m_WC a cy) (m_AC a) r0 X0) args s 0 0 (m_AC a)) (F0 m 389 ls []) := by
  have C := m_Cx_draw C0 d0
  have hx := C.1.1
  have hb := C.1.2.1
  intro H locs ls hP hS hl
  unfold f_L_isSo_389 at hf0
  refine lv_iconst (v := 0) hx hb dL_isSo_389 (by decide) ?_
  exact w_L_isSo_390 l D a cy hG N hd0 C0 _ _ _ hf0 H locs ls hP hS (lv_sub hl [0, 1, 2, 3, 4, 5, 6, 7, 8] rfl)
def f_L_isSo_221 (N : Nat) (v1 : Int32) (v9 : Int32) (v10 : Int32) (v11 : Int32) (v12 : Int32) (v13 : Int32) (X : XT) : Option (Int32 × XT) := if v9 = 0 then (f_L_isSo_389 N v1 X) else (m_bi (f_X7_count N 4 X) fun r_403 X_403 => if r_403 = v11 then (m_bi (f_X7_count N 5 X_403) fun r_408 X_408 => if r_408 = v10 then (m_bi (f_X7_queued N v13 X_408) fun r_413 X_413 => if r_413 = v12 then (m_bi (f_X7_total N 0 X_413) fun r_418 X_418 => m_gd (m_in 6 17) <| m_nm (X_418 131 (Int32.toNatClampNeg 6)) fun y_420 => if r_418 = y_420 then (m_bi (f_X7_total N 1 X_418) fun r_426 X_426 => m_gd (m_in 11 17) <| m_nm (X_426 131 (Int32.toNatClampNeg 11)) fun y_428 => if r_426 = y_428 then (m_bi (f_X7_total N 2 X_426) fun r_434 X_434 => m_gd (m_in 12 17) <| m_nm (X_434 131 (Int32.toNatClampNeg 12)) fun y_436 => if r_434 = y_436 then (m_bi (f_X7_total N 3 X_434) fun r_442 X_442 => m_gd (m_in 13 17) <| m_nm (X_442 131 (Int32.toNatClampNeg 13)) fun y_444 => if r_442 = y_444 then (m_bi (f_X7_total N 4 X_442) fun r_450 X_450 => m_gd (m_in 7 17) <| m_nm (X_450 131 (Int32.toNatClampNeg 7)) fun y_452 => if r_450 = y_452 then (m_bi (f_X7_total N 5 X_450) fun r_458 X_458 => m_gd (m_in 14 17) <| m_nm (X_458 131 (Int32.toNatClampNeg 14)) fun y_460 => if r_458 = y_460 then (m_bi (f_X7_total N 6 X_458) fun r_466 X_466 => m_gd (m_in 15 17) <| m_nm (X_466 131 (Int32.toNatClampNeg 15)) fun y_468 => if r_466 = y_468 then (m_bi (f_X7_total N 7 X_466) fun r_474 X_474 => m_gd (m_in 16 17) <| m_nm (X_474 131 (Int32.toNatClampNeg 16)) fun y_476 => if r_474 = y_476 then (m_gd (X_474 19 7 = X_474 131 16 ∧ X_474 19 1 = X_474 131 11) <| f_L_isSo_390 N v1 1 X_474) else (f_L_isSo_389 N v1 X_474)) else (f_L_isSo_389 N v1 X_466)) else (f_L_isSo_389 N v1 X_458)) else (f_L_isSo_389 N v1 X_450)) else (f_L_isSo_389 N v1 X_442)) else (f_L_isSo_389 N v1 X_434)) else (f_L_isSo_389 N v1 X_426)) else (f_L_isSo_389 N v1 X_418)) else (f_L_isSo_389 N v1 X_413)) else (f_L_isSo_389 N v1 X_408)) else (f_L_isSo_389 N v1 X_403))
set_option maxHeartbeats 4000000 in
set_option maxRecDepth 100000 in
theorem w_L_isSo_221 (l : Launch) (D : va_G) (a : Nat → Nat) (cy : Nat → ClassId) (hG : m_inj 138 a) (N : Nat) {p : Program} {e : Env} {s : State} {m : MethodId} {args : Array Value} {below : List Frame} {meth : Method} {c : Code} {d0 : Drawn} (hd0 : s.drawn.sameBut d0 lw_cs) (C0 : m_Cx p s m args meth c cL_isSo 16 RL (some .boolean) (Cond.code yL_isSo cL_isSo 16 (some .boolean)) D (m_tc cy) (m_AC a) (m_WC a cy) (m_ZC a)) {r0 : Int32} {X0 : XT} (v1 : Int32) (v9 : Int32) (v10 : Int32) (v11 : Int32) (v12 : Int32) (v13 : Int32) (X : XT) (hf0 : f_L_isSo_221 N v1 v9 v10 v11 v12 v13 X = some (r0, X0)) : ∀ (H : Heap) (locs : List Loc) (ls : Array Slot), va_P D vwCl (m_WC a cy X) H → va_S (m_AC a) s.heap H locs → lv_has ls 16 [(0, .ref (a 126)), (1, .int v1), (2, .ref (a 131)), (3, .ref (a 132)), (4, .ref (a 133)), (5, .ref (a 134)), (6, .ref (a 135)), (7, .ref (a 136)), (8, .ref (a 137)), (9, .int v9), (10, .int v10), (11, .int v11), (12, .int v12), (13, .int v13)] → W p l e rm_L_isSo (s.setDrawn d0) m args below meth c H locs 0 0 (MQD lw_cs below (m_QI D (m_WC a cy) (m_AC a) r0 X0) args s 0 0 (m_AC a)) (F0 m 221 ls []) := by
  have C := m_Cx_draw C0 d0
  have hx := C.1.1
  have hb := C.1.2.1
  intro H locs ls hP hS hl
  unfold f_L_isSo_221 at hf0
  refine lv_iload hx hb dL_isSo_221 (lv_at hl 9 rfl) ?_
  refine lv_if_eq (tgt := 389) hx hb dL_isSo_223 (by decide) (fun c_26 => ?_) (fun c_26 => ?_)
  · have hf27 := m_it c_26 hf0
    clear hf0
    exact w_L_isSo_389 l D a cy hG N hd0 C0 _ _ hf27 H locs ls hP hS (lv_sub hl [0, 1, 2, 3, 4, 5, 6, 7, 8] rfl)
  · have hf28 := m_ie c_26 hf0
    clear hf0
    refine lv_aload_n hx hb dL_isSo_226 rfl (lv_at hl 0 rfl) ?_
    refine lv_iconst (v := 4) hx hb dL_isSo_227 (by decide) ?_
    obtain ⟨r_403, X_403, h_403, hf404⟩ := m_bi_s hf28
    clear hf28
    refine m_callVi (q := (RX7, TX7, 5)) C [.int 4] [] (c_X7_count l D a cy hG N _ _ h_403) (m_goodV wl_L_86 wi_X7_count ws_X7_count wn_X7 wc_X7_count) ⟨rfl, rfl⟩ hv_X7_count ⟨Nat.le_of_ble_eq_true rfl, Nat.le_of_ble_eq_true rfl⟩ rfl mC_126 hP hS rfl hl.1 rfl (Nat.le_of_ble_eq_true rfl) dL_isSo_228 (fun H locs hP hS => ?_)
    refine lv_iload hx hb dL_isSo_231 (lv_at hl 11 rfl) ?_
    refine lv_icmp_ne (tgt := 389) hx hb dL_isSo_233 (by decide) (fun c_405 => ?_) (fun c_405 => ?_)
    · have hf406 := m_ie c_405 hf404
      clear hf404
      exact w_L_isSo_389 l D a cy hG N hd0 C0 _ _ hf406 H locs ls hP hS (lv_sub hl [0, 1, 2, 3, 4, 5, 6, 7, 8] rfl)
    · have hf407 := m_it c_405 hf404
      clear hf404
      refine lv_aload_n hx hb dL_isSo_236 rfl (lv_at hl 0 rfl) ?_
      refine lv_iconst (v := 5) hx hb dL_isSo_237 (by decide) ?_
      obtain ⟨r_408, X_408, h_408, hf409⟩ := m_bi_s hf407
      clear hf407
      refine m_callVi (q := (RX7, TX7, 5)) C [.int 5] [] (c_X7_count l D a cy hG N _ _ h_408) (m_goodV wl_L_86 wi_X7_count ws_X7_count wn_X7 wc_X7_count) ⟨rfl, rfl⟩ hv_X7_count ⟨Nat.le_of_ble_eq_true rfl, Nat.le_of_ble_eq_true rfl⟩ rfl mC_126 hP hS rfl hl.1 rfl (Nat.le_of_ble_eq_true rfl) dL_isSo_238 (fun H locs hP hS => ?_)
      refine lv_iload hx hb dL_isSo_241 (lv_at hl 10 rfl) ?_
      refine lv_icmp_ne (tgt := 389) hx hb dL_isSo_243 (by decide) (fun c_410 => ?_) (fun c_410 => ?_)
      · have hf411 := m_ie c_410 hf409
        clear hf409
        exact w_L_isSo_389 l D a cy hG N hd0 C0 _ _ hf411 H locs ls hP hS (lv_sub hl [0, 1, 2, 3, 4, 5, 6, 7, 8] rfl)
      · have hf412 := m_it c_410 hf409
        clear hf409
        refine lv_aload_n hx hb dL_isSo_246 rfl (lv_at hl 0 rfl) ?_
        refine lv_iload hx hb dL_isSo_247 (lv_at hl 13 rfl) ?_
        obtain ⟨r_413, X_413, h_413, hf414⟩ := m_bi_s hf412
        clear hf412
        refine m_callVi (q := (RX7, TX7, 5)) C [.int v13] [] (c_X7_queued l D a cy hG N _ _ h_413) (m_goodV wl_L_110 wi_X7_queued ws_X7_queued wn_X7 wc_X7_queued) ⟨rfl, rfl⟩ hv_X7_queued ⟨Nat.le_of_ble_eq_true rfl, Nat.le_of_ble_eq_true rfl⟩ rfl mC_126 hP hS rfl hl.1 rfl (Nat.le_of_ble_eq_true rfl) dL_isSo_249 (fun H locs hP hS => ?_)
        refine lv_iload hx hb dL_isSo_252 (lv_at hl 12 rfl) ?_
        refine lv_icmp_ne (tgt := 389) hx hb dL_isSo_254 (by decide) (fun c_415 => ?_) (fun c_415 => ?_)
        · have hf416 := m_ie c_415 hf414
          clear hf414
          exact w_L_isSo_389 l D a cy hG N hd0 C0 _ _ hf416 H locs ls hP hS (lv_sub hl [0, 1, 2, 3, 4, 5, 6, 7, 8] rfl)
        · have hf417 := m_it c_415 hf414
          clear hf414
          refine lv_aload_n hx hb dL_isSo_257 rfl (lv_at hl 0 rfl) ?_
          refine lv_iconst (v := 0) hx hb dL_isSo_258 (by decide) ?_
          obtain ⟨r_418, X_418, h_418, hf419⟩ := m_bi_s hf417
          clear hf417
          refine m_callVi (q := (RX7, TX7, 5)) C [.int 0] [] (c_X7_total l D a cy hG N _ _ h_418) (m_goodV wl_L_89 wi_X7_total ws_X7_total wn_X7 wc_X7_total) ⟨rfl, rfl⟩ hv_X7_total ⟨Nat.le_of_ble_eq_true rfl, Nat.le_of_ble_eq_true rfl⟩ rfl mC_126 hP hS rfl hl.1 rfl (Nat.le_of_ble_eq_true rfl) dL_isSo_259 (fun H locs hP hS => ?_)
          refine lv_aload_n hx hb dL_isSo_262 rfl (lv_at hl 2 rfl) ?_
          refine lv_bipush (v := 6) hx hb dL_isSo_263 (by decide) ?_
          obtain ⟨g_420, hf421⟩ := m_gd_s hf419
          clear hf419
          refine m_ild C hP mC_131 0 rfl g_420 dL_isSo_265 (fun y_420 e_420 => ?_)
          have hf422 := m_nm_s e_420 hf421
          clear hf421
          refine lv_icmp_ne (tgt := 389) hx hb dL_isSo_266 (by decide) (fun c_423 => ?_) (fun c_423 => ?_)
          · have hf424 := m_ie c_423 hf422
            clear hf422
            exact w_L_isSo_389 l D a cy hG N hd0 C0 _ _ hf424 H locs ls hP hS (lv_sub hl [0, 1, 2, 3, 4, 5, 6, 7, 8] rfl)
          · have hf425 := m_it c_423 hf422
            clear hf422
            refine lv_aload_n hx hb dL_isSo_269 rfl (lv_at hl 0 rfl) ?_
            refine lv_iconst (v := 1) hx hb dL_isSo_270 (by decide) ?_
            obtain ⟨r_426, X_426, h_426, hf427⟩ := m_bi_s hf425
            clear hf425
            refine m_callVi (q := (RX7, TX7, 5)) C [.int 1] [] (c_X7_total l D a cy hG N _ _ h_426) (m_goodV wl_L_89 wi_X7_total ws_X7_total wn_X7 wc_X7_total) ⟨rfl, rfl⟩ hv_X7_total ⟨Nat.le_of_ble_eq_true rfl, Nat.le_of_ble_eq_true rfl⟩ rfl mC_126 hP hS rfl hl.1 rfl (Nat.le_of_ble_eq_true rfl) dL_isSo_271 (fun H locs hP hS => ?_)
            refine lv_aload_n hx hb dL_isSo_274 rfl (lv_at hl 2 rfl) ?_
            refine lv_bipush (v := 11) hx hb dL_isSo_275 (by decide) ?_
            obtain ⟨g_428, hf429⟩ := m_gd_s hf427
            clear hf427
            refine m_ild C hP mC_131 0 rfl g_428 dL_isSo_277 (fun y_428 e_428 => ?_)
            have hf430 := m_nm_s e_428 hf429
            clear hf429
            refine lv_icmp_ne (tgt := 389) hx hb dL_isSo_278 (by decide) (fun c_431 => ?_) (fun c_431 => ?_)
            · have hf432 := m_ie c_431 hf430
              clear hf430
              exact w_L_isSo_389 l D a cy hG N hd0 C0 _ _ hf432 H locs ls hP hS (lv_sub hl [0, 1, 2, 3, 4, 5, 6, 7, 8] rfl)
            · have hf433 := m_it c_431 hf430
              clear hf430
              refine lv_aload_n hx hb dL_isSo_281 rfl (lv_at hl 0 rfl) ?_
              refine lv_iconst (v := 2) hx hb dL_isSo_282 (by decide) ?_
              obtain ⟨r_434, X_434, h_434, hf435⟩ := m_bi_s hf433
              clear hf433
              refine m_callVi (q := (RX7, TX7, 5)) C [.int 2] [] (c_X7_total l D a cy hG N _ _ h_434) (m_goodV wl_L_89 wi_X7_total ws_X7_total wn_X7 wc_X7_total) ⟨rfl, rfl⟩ hv_X7_total ⟨Nat.le_of_ble_eq_true rfl, Nat.le_of_ble_eq_true rfl⟩ rfl mC_126 hP hS rfl hl.1 rfl (Nat.le_of_ble_eq_true rfl) dL_isSo_283 (fun H locs hP hS => ?_)
              refine lv_aload_n hx hb dL_isSo_286 rfl (lv_at hl 2 rfl) ?_
              refine lv_bipush (v := 12) hx hb dL_isSo_287 (by decide) ?_
              obtain ⟨g_436, hf437⟩ := m_gd_s hf435
              clear hf435
              refine m_ild C hP mC_131 0 rfl g_436 dL_isSo_289 (fun y_436 e_436 => ?_)
              have hf438 := m_nm_s e_436 hf437
              clear hf437
              refine lv_icmp_ne (tgt := 389) hx hb dL_isSo_290 (by decide) (fun c_439 => ?_) (fun c_439 => ?_)
              · have hf440 := m_ie c_439 hf438
                clear hf438
                exact w_L_isSo_389 l D a cy hG N hd0 C0 _ _ hf440 H locs ls hP hS (lv_sub hl [0, 1, 2, 3, 4, 5, 6, 7, 8] rfl)
              · have hf441 := m_it c_439 hf438
                clear hf438
                refine lv_aload_n hx hb dL_isSo_293 rfl (lv_at hl 0 rfl) ?_
                refine lv_iconst (v := 3) hx hb dL_isSo_294 (by decide) ?_
                obtain ⟨r_442, X_442, h_442, hf443⟩ := m_bi_s hf441
                clear hf441
                refine m_callVi (q := (RX7, TX7, 5)) C [.int 3] [] (c_X7_total l D a cy hG N _ _ h_442) (m_goodV wl_L_89 wi_X7_total ws_X7_total wn_X7 wc_X7_total) ⟨rfl, rfl⟩ hv_X7_total ⟨Nat.le_of_ble_eq_true rfl, Nat.le_of_ble_eq_true rfl⟩ rfl mC_126 hP hS rfl hl.1 rfl (Nat.le_of_ble_eq_true rfl) dL_isSo_295 (fun H locs hP hS => ?_)
                refine lv_aload_n hx hb dL_isSo_298 rfl (lv_at hl 2 rfl) ?_
                refine lv_bipush (v := 13) hx hb dL_isSo_299 (by decide) ?_
                obtain ⟨g_444, hf445⟩ := m_gd_s hf443
                clear hf443
                refine m_ild C hP mC_131 0 rfl g_444 dL_isSo_301 (fun y_444 e_444 => ?_)
                have hf446 := m_nm_s e_444 hf445
                clear hf445
                refine lv_icmp_ne (tgt := 389) hx hb dL_isSo_302 (by decide) (fun c_447 => ?_) (fun c_447 => ?_)
                · have hf448 := m_ie c_447 hf446
                  clear hf446
                  exact w_L_isSo_389 l D a cy hG N hd0 C0 _ _ hf448 H locs ls hP hS (lv_sub hl [0, 1, 2, 3, 4, 5, 6, 7, 8] rfl)
                · have hf449 := m_it c_447 hf446
                  clear hf446
                  refine lv_aload_n hx hb dL_isSo_305 rfl (lv_at hl 0 rfl) ?_
                  refine lv_iconst (v := 4) hx hb dL_isSo_306 (by decide) ?_
                  obtain ⟨r_450, X_450, h_450, hf451⟩ := m_bi_s hf449
                  clear hf449
                  refine m_callVi (q := (RX7, TX7, 5)) C [.int 4] [] (c_X7_total l D a cy hG N _ _ h_450) (m_goodV wl_L_89 wi_X7_total ws_X7_total wn_X7 wc_X7_total) ⟨rfl, rfl⟩ hv_X7_total ⟨Nat.le_of_ble_eq_true rfl, Nat.le_of_ble_eq_true rfl⟩ rfl mC_126 hP hS rfl hl.1 rfl (Nat.le_of_ble_eq_true rfl) dL_isSo_307 (fun H locs hP hS => ?_)
                  refine lv_aload_n hx hb dL_isSo_310 rfl (lv_at hl 2 rfl) ?_
                  refine lv_bipush (v := 7) hx hb dL_isSo_311 (by decide) ?_
                  obtain ⟨g_452, hf453⟩ := m_gd_s hf451
                  clear hf451
                  refine m_ild C hP mC_131 0 rfl g_452 dL_isSo_313 (fun y_452 e_452 => ?_)
                  have hf454 := m_nm_s e_452 hf453
                  clear hf453
                  refine lv_icmp_ne (tgt := 389) hx hb dL_isSo_314 (by decide) (fun c_455 => ?_) (fun c_455 => ?_)
                  · have hf456 := m_ie c_455 hf454
                    clear hf454
                    exact w_L_isSo_389 l D a cy hG N hd0 C0 _ _ hf456 H locs ls hP hS (lv_sub hl [0, 1, 2, 3, 4, 5, 6, 7, 8] rfl)
                  · have hf457 := m_it c_455 hf454
                    clear hf454
                    refine lv_aload_n hx hb dL_isSo_317 rfl (lv_at hl 0 rfl) ?_
                    refine lv_iconst (v := 5) hx hb dL_isSo_318 (by decide) ?_
                    obtain ⟨r_458, X_458, h_458, hf459⟩ := m_bi_s hf457
                    clear hf457
                    refine m_callVi (q := (RX7, TX7, 5)) C [.int 5] [] (c_X7_total l D a cy hG N _ _ h_458) (m_goodV wl_L_89 wi_X7_total ws_X7_total wn_X7 wc_X7_total) ⟨rfl, rfl⟩ hv_X7_total ⟨Nat.le_of_ble_eq_true rfl, Nat.le_of_ble_eq_true rfl⟩ rfl mC_126 hP hS rfl hl.1 rfl (Nat.le_of_ble_eq_true rfl) dL_isSo_319 (fun H locs hP hS => ?_)
                    refine lv_aload_n hx hb dL_isSo_322 rfl (lv_at hl 2 rfl) ?_
                    refine lv_bipush (v := 14) hx hb dL_isSo_323 (by decide) ?_
                    obtain ⟨g_460, hf461⟩ := m_gd_s hf459
                    clear hf459
                    refine m_ild C hP mC_131 0 rfl g_460 dL_isSo_325 (fun y_460 e_460 => ?_)
                    have hf462 := m_nm_s e_460 hf461
                    clear hf461
                    refine lv_icmp_ne (tgt := 389) hx hb dL_isSo_326 (by decide) (fun c_463 => ?_) (fun c_463 => ?_)
                    · have hf464 := m_ie c_463 hf462
                      clear hf462
                      exact w_L_isSo_389 l D a cy hG N hd0 C0 _ _ hf464 H locs ls hP hS (lv_sub hl [0, 1, 2, 3, 4, 5, 6, 7, 8] rfl)
                    · have hf465 := m_it c_463 hf462
                      clear hf462
                      refine lv_aload_n hx hb dL_isSo_329 rfl (lv_at hl 0 rfl) ?_
                      refine lv_bipush (v := 6) hx hb dL_isSo_330 (by decide) ?_
                      obtain ⟨r_466, X_466, h_466, hf467⟩ := m_bi_s hf465
                      clear hf465
                      refine m_callVi (q := (RX7, TX7, 5)) C [.int 6] [] (c_X7_total l D a cy hG N _ _ h_466) (m_goodV wl_L_89 wi_X7_total ws_X7_total wn_X7 wc_X7_total) ⟨rfl, rfl⟩ hv_X7_total ⟨Nat.le_of_ble_eq_true rfl, Nat.le_of_ble_eq_true rfl⟩ rfl mC_126 hP hS rfl hl.1 rfl (Nat.le_of_ble_eq_true rfl) dL_isSo_332 (fun H locs hP hS => ?_)
                      refine lv_aload_n hx hb dL_isSo_335 rfl (lv_at hl 2 rfl) ?_
                      refine lv_bipush (v := 15) hx hb dL_isSo_336 (by decide) ?_
                      obtain ⟨g_468, hf469⟩ := m_gd_s hf467
                      clear hf467
                      refine m_ild C hP mC_131 0 rfl g_468 dL_isSo_338 (fun y_468 e_468 => ?_)
                      have hf470 := m_nm_s e_468 hf469
                      clear hf469
                      refine lv_icmp_ne (tgt := 389) hx hb dL_isSo_339 (by decide) (fun c_471 => ?_) (fun c_471 => ?_)
                      · have hf472 := m_ie c_471 hf470
                        clear hf470
                        exact w_L_isSo_389 l D a cy hG N hd0 C0 _ _ hf472 H locs ls hP hS (lv_sub hl [0, 1, 2, 3, 4, 5, 6, 7, 8] rfl)
                      · have hf473 := m_it c_471 hf470
                        clear hf470
                        refine lv_aload_n hx hb dL_isSo_342 rfl (lv_at hl 0 rfl) ?_
                        refine lv_bipush (v := 7) hx hb dL_isSo_343 (by decide) ?_
                        obtain ⟨r_474, X_474, h_474, hf475⟩ := m_bi_s hf473
                        clear hf473
                        refine m_callVi (q := (RX7, TX7, 5)) C [.int 7] [] (c_X7_total l D a cy hG N _ _ h_474) (m_goodV wl_L_89 wi_X7_total ws_X7_total wn_X7 wc_X7_total) ⟨rfl, rfl⟩ hv_X7_total ⟨Nat.le_of_ble_eq_true rfl, Nat.le_of_ble_eq_true rfl⟩ rfl mC_126 hP hS rfl hl.1 rfl (Nat.le_of_ble_eq_true rfl) dL_isSo_345 (fun H locs hP hS => ?_)
                        refine lv_aload_n hx hb dL_isSo_348 rfl (lv_at hl 2 rfl) ?_
                        refine lv_bipush (v := 16) hx hb dL_isSo_349 (by decide) ?_
                        obtain ⟨g_476, hf477⟩ := m_gd_s hf475
                        clear hf475
                        refine m_ild C hP mC_131 0 rfl g_476 dL_isSo_351 (fun y_476 e_476 => ?_)
                        have hf478 := m_nm_s e_476 hf477
                        clear hf477
                        refine lv_icmp_ne (tgt := 389) hx hb dL_isSo_352 (by decide) (fun c_479 => ?_) (fun c_479 => ?_)
                        · have hf480 := m_ie c_479 hf478
                          clear hf478
                          exact w_L_isSo_389 l D a cy hG N hd0 C0 _ _ hf480 H locs ls hP hS (lv_sub hl [0, 1, 2, 3, 4, 5, 6, 7, 8] rfl)
                        · have hf481 := m_it c_479 hf478
                          clear hf478
                          refine lv_aload_n hx hb dL_isSo_355 rfl (lv_at hl 0 rfl) ?_
                          obtain ⟨g_482, hf483⟩ := m_gd_s hf481
                          clear hf481
                          refine m_soMean hG ⟨Nat.le_of_ble_eq_true rfl, Nat.le_of_ble_eq_true rfl⟩ hd0 C0 hl hP hS g_482 (lv_at hl 2 rfl) (fun d0 hd0 H locs hP hS => ?_)
                          have C := m_Cx_draw C0 d0
                          refine lv_iconst (v := 1) hx hb dL_isSo_385 (by decide) ?_
                          refine lv_goto (tgt := 390) hx hb dL_isSo_386 (by decide) ?_
                          exact w_L_isSo_390 l D a cy hG N hd0 C0 _ _ _ hf483 H locs ls hP hS (lv_sub hl [0, 1, 2, 3, 4, 5, 6, 7, 8] rfl)
def f_L_isSo_179 (N : Nat) : Nat → Int32 → Int32 → Int32 → Int32 → Int32 → Int32 → Int32 → XT → Option (Int32 × XT)
  | 0, _, _, _, _, _, _, _, _ => none
  | n + 1, v1, v9, v10, v11, v12, v13, v14, X => if 4 ≤ v14 then (f_L_isSo_221 N v1 v9 v10 v11 v12 v13 X) else (if v9 = 0 then (m_nm (v14 + 1) fun y_488 => f_L_isSo_179 N n v1 0 v10 v11 v12 v13 y_488 X) else (m_nm ((6 : Int32) + v14) fun y_490 => m_bi (f_X7_count N y_490 X) fun r_492 X_492 => m_nm ((2 : Int32) + v14) fun y_494 => m_gd (m_in y_494 17) <| m_nm (X_492 131 (Int32.toNatClampNeg y_494)) fun y_496 => if r_492 = y_496 then (m_nm (v14 + 1) fun y_504 => f_L_isSo_179 N n v1 1 v10 v11 v12 v13 y_504 X_492) else (m_nm (v14 + 1) fun y_502 => f_L_isSo_179 N n v1 0 v10 v11 v12 v13 y_502 X_492)))
set_option maxHeartbeats 4000000 in
set_option maxRecDepth 100000 in
theorem w_L_isSo_179 (l : Launch) (D : va_G) (a : Nat → Nat) (cy : Nat → ClassId) (hG : m_inj 138 a) (N : Nat) {p : Program} {e : Env} {s : State} {m : MethodId} {args : Array Value} {below : List Frame} {meth : Method} {c : Code} {d0 : Drawn} (hd0 : s.drawn.sameBut d0 lw_cs) (C0 : m_Cx p s m args meth c cL_isSo 16 RL (some .boolean) (Cond.code yL_isSo cL_isSo 16 (some .boolean)) D (m_tc cy) (m_AC a) (m_WC a cy) (m_ZC a)) {r0 : Int32} {X0 : XT} : ∀ (n : Nat) (v1 : Int32) (v9 : Int32) (v10 : Int32) (v11 : Int32) (v12 : Int32) (v13 : Int32) (v14 : Int32) (X : XT), f_L_isSo_179 N n v1 v9 v10 v11 v12 v13 v14 X = some (r0, X0) → ∀ (H : Heap) (locs : List Loc) (ls : Array Slot), va_P D vwCl (m_WC a cy X) H → va_S (m_AC a) s.heap H locs → lv_has ls 16 [(0, .ref (a 126)), (1, .int v1), (2, .ref (a 131)), (3, .ref (a 132)), (4, .ref (a 133)), (5, .ref (a 134)), (6, .ref (a 135)), (7, .ref (a 136)), (8, .ref (a 137)), (9, .int v9), (10, .int v10), (11, .int v11), (12, .int v12), (13, .int v13), (14, .int v14)] → W p l e rm_L_isSo (s.setDrawn d0) m args below meth c H locs 0 0 (MQD lw_cs below (m_QI D (m_WC a cy) (m_AC a) r0 X0) args s 0 0 (m_AC a)) (F0 m 179 ls []) := by
  have C := m_Cx_draw C0 d0
  have hx := C.1.1
  have hb := C.1.2.1
  intro n
  induction n with
  | zero => intro v1 v9 v10 v11 v12 v13 v14 X hf0; rw [f_L_isSo_179] at hf0; cases hf0
  | succ n ih =>
    intro v1 v9 v10 v11 v12 v13 v14 X hf0 H locs ls hP hS hl
    rw [f_L_isSo_179] at hf0
    refine lv_iload hx hb dL_isSo_179 (lv_at hl 14 rfl) ?_
    refine lv_iconst (v := 4) hx hb dL_isSo_181 (by decide) ?_
    refine lv_icmp_ge (tgt := 221) hx hb dL_isSo_182 (by decide) (fun c_23 => ?_) (fun c_23 => ?_)
    · have hf24 := m_it c_23 hf0
      clear hf0
      exact w_L_isSo_221 l D a cy hG N hd0 C0 _ _ _ _ _ _ _ hf24 H locs ls hP hS (lv_sub hl [0, 1, 2, 3, 4, 5, 6, 7, 8, 9, 10, 11, 12, 13] rfl)
    · have hf25 := m_ie c_23 hf0
      clear hf0
      refine lv_iload hx hb dL_isSo_185 (lv_at hl 9 rfl) ?_
      refine lv_if_eq (tgt := 212) hx hb dL_isSo_187 (by decide) (fun c_485 => ?_) (fun c_485 => ?_)
      · have hf486 := m_it c_485 hf25
        clear hf25
        refine lv_iconst (v := 0) hx hb dL_isSo_212 (by decide) ?_
        refine lv_istore (lv' := [(9, .int 0), (0, .ref (a 126)), (1, .int v1), (2, .ref (a 131)), (3, .ref (a 132)), (4, .ref (a 133)), (5, .ref (a 134)), (6, .ref (a 135)), (7, .ref (a 136)), (8, .ref (a 137)), (10, .int v10), (11, .int v11), (12, .int v12), (13, .int v13), (14, .int v14)]) hx hb dL_isSo_213 hl (by decide) rfl (fun ls hl => ?_)
        obtain ⟨y_488, e_488⟩ : ∃ y : Int32, y = v14 + 1 := ⟨_, rfl⟩
        refine lv_iinc (v := y_488) (lv' := [(14, .int y_488), (9, .int 0), (0, .ref (a 126)), (1, .int v1), (2, .ref (a 131)), (3, .ref (a 132)), (4, .ref (a 133)), (5, .ref (a 134)), (6, .ref (a 135)), (7, .ref (a 136)), (8, .ref (a 137)), (10, .int v10), (11, .int v11), (12, .int v12), (13, .int v13)]) hx hb dL_isSo_215 hl (k := 14) rfl (by rw [e_488]; rfl) (by decide) rfl (fun ls hl => ?_)
        have hf489 := m_nm_s e_488 hf486
        clear hf486
        refine lv_goto (tgt := 179) hx hb dL_isSo_218 (by decide) ?_
        exact ih _ _ _ _ _ _ _ _ hf489 H locs ls hP hS (lv_sub hl [2, 3, 4, 5, 6, 7, 8, 9, 10, 1, 11, 12, 13, 14, 0] rfl)
      · have hf487 := m_ie c_485 hf25
        clear hf25
        refine lv_aload_n hx hb dL_isSo_190 rfl (lv_at hl 0 rfl) ?_
        refine lv_bipush (v := 6) hx hb dL_isSo_191 (by decide) ?_
        refine lv_iload hx hb dL_isSo_193 (lv_at hl 14 rfl) ?_
        refine lv_iadd hx hb dL_isSo_195 ?_
        refine lv_topi (fun y_490 e_490 => ?_)
        have hf491 := m_nm_s e_490 hf487
        clear hf487
        obtain ⟨r_492, X_492, h_492, hf493⟩ := m_bi_s hf491
        clear hf491
        refine m_callVi (q := (RX7, TX7, 5)) C [.int y_490] [] (c_X7_count l D a cy hG N _ _ h_492) (m_goodV wl_L_86 wi_X7_count ws_X7_count wn_X7 wc_X7_count) ⟨rfl, rfl⟩ hv_X7_count ⟨Nat.le_of_ble_eq_true rfl, Nat.le_of_ble_eq_true rfl⟩ rfl mC_126 hP hS rfl hl.1 rfl (Nat.le_of_ble_eq_true rfl) dL_isSo_196 (fun H locs hP hS => ?_)
        refine lv_aload_n hx hb dL_isSo_199 rfl (lv_at hl 2 rfl) ?_
        refine lv_iconst (v := 2) hx hb dL_isSo_200 (by decide) ?_
        refine lv_iload hx hb dL_isSo_201 (lv_at hl 14 rfl) ?_
        refine lv_iadd hx hb dL_isSo_203 ?_
        refine lv_topi (fun y_494 e_494 => ?_)
        have hf495 := m_nm_s e_494 hf493
        clear hf493
        obtain ⟨g_496, hf497⟩ := m_gd_s hf495
        clear hf495
        refine m_ild C hP mC_131 0 rfl g_496 dL_isSo_204 (fun y_496 e_496 => ?_)
        have hf498 := m_nm_s e_496 hf497
        clear hf497
        refine lv_icmp_ne (tgt := 212) hx hb dL_isSo_205 (by decide) (fun c_499 => ?_) (fun c_499 => ?_)
        · have hf500 := m_ie c_499 hf498
          clear hf498
          refine lv_iconst (v := 0) hx hb dL_isSo_212 (by decide) ?_
          refine lv_istore (lv' := [(9, .int 0), (0, .ref (a 126)), (1, .int v1), (2, .ref (a 131)), (3, .ref (a 132)), (4, .ref (a 133)), (5, .ref (a 134)), (6, .ref (a 135)), (7, .ref (a 136)), (8, .ref (a 137)), (10, .int v10), (11, .int v11), (12, .int v12), (13, .int v13), (14, .int v14)]) hx hb dL_isSo_213 hl (by decide) rfl (fun ls hl => ?_)
          obtain ⟨y_502, e_502⟩ : ∃ y : Int32, y = v14 + 1 := ⟨_, rfl⟩
          refine lv_iinc (v := y_502) (lv' := [(14, .int y_502), (9, .int 0), (0, .ref (a 126)), (1, .int v1), (2, .ref (a 131)), (3, .ref (a 132)), (4, .ref (a 133)), (5, .ref (a 134)), (6, .ref (a 135)), (7, .ref (a 136)), (8, .ref (a 137)), (10, .int v10), (11, .int v11), (12, .int v12), (13, .int v13)]) hx hb dL_isSo_215 hl (k := 14) rfl (by rw [e_502]; rfl) (by decide) rfl (fun ls hl => ?_)
          have hf503 := m_nm_s e_502 hf500
          clear hf500
          refine lv_goto (tgt := 179) hx hb dL_isSo_218 (by decide) ?_
          exact ih _ _ _ _ _ _ _ _ hf503 H locs ls hP hS (lv_sub hl [2, 3, 4, 5, 6, 7, 8, 9, 10, 1, 11, 12, 13, 14, 0] rfl)
        · have hf501 := m_it c_499 hf498
          clear hf498
          refine lv_iconst (v := 1) hx hb dL_isSo_208 (by decide) ?_
          refine lv_goto (tgt := 213) hx hb dL_isSo_209 (by decide) ?_
          refine lv_istore (lv' := [(9, .int 1), (0, .ref (a 126)), (1, .int v1), (2, .ref (a 131)), (3, .ref (a 132)), (4, .ref (a 133)), (5, .ref (a 134)), (6, .ref (a 135)), (7, .ref (a 136)), (8, .ref (a 137)), (10, .int v10), (11, .int v11), (12, .int v12), (13, .int v13), (14, .int v14)]) hx hb dL_isSo_213 hl (by decide) rfl (fun ls hl => ?_)
          obtain ⟨y_504, e_504⟩ : ∃ y : Int32, y = v14 + 1 := ⟨_, rfl⟩
          refine lv_iinc (v := y_504) (lv' := [(14, .int y_504), (9, .int 1), (0, .ref (a 126)), (1, .int v1), (2, .ref (a 131)), (3, .ref (a 132)), (4, .ref (a 133)), (5, .ref (a 134)), (6, .ref (a 135)), (7, .ref (a 136)), (8, .ref (a 137)), (10, .int v10), (11, .int v11), (12, .int v12), (13, .int v13)]) hx hb dL_isSo_215 hl (k := 14) rfl (by rw [e_504]; rfl) (by decide) rfl (fun ls hl => ?_)
          have hf505 := m_nm_s e_504 hf501
          clear hf501
          refine lv_goto (tgt := 179) hx hb dL_isSo_218 (by decide) ?_
          exact ih _ _ _ _ _ _ _ _ hf505 H locs ls hP hS (lv_sub hl [2, 3, 4, 5, 6, 7, 8, 9, 10, 1, 11, 12, 13, 14, 0] rfl)
def f_L_isSo_176 (N : Nat) (v1 : Int32) (v9 : Int32) (v10 : Int32) (v11 : Int32) (v12 : Int32) (v13 : Int32) (X : XT) : Option (Int32 × XT) := f_L_isSo_179 N N v1 v9 v10 v11 v12 v13 0 X
set_option maxHeartbeats 4000000 in
set_option maxRecDepth 100000 in
theorem w_L_isSo_176 (l : Launch) (D : va_G) (a : Nat → Nat) (cy : Nat → ClassId) (hG : m_inj 138 a) (N : Nat) {p : Program} {e : Env} {s : State} {m : MethodId} {args : Array Value} {below : List Frame} {meth : Method} {c : Code} {d0 : Drawn} (hd0 : s.drawn.sameBut d0 lw_cs) (C0 : m_Cx p s m args meth c cL_isSo 16 RL (some .boolean) (Cond.code yL_isSo cL_isSo 16 (some .boolean)) D (m_tc cy) (m_AC a) (m_WC a cy) (m_ZC a)) {r0 : Int32} {X0 : XT} (v1 : Int32) (v9 : Int32) (v10 : Int32) (v11 : Int32) (v12 : Int32) (v13 : Int32) (X : XT) (hf0 : f_L_isSo_176 N v1 v9 v10 v11 v12 v13 X = some (r0, X0)) : ∀ (H : Heap) (locs : List Loc) (ls : Array Slot), va_P D vwCl (m_WC a cy X) H → va_S (m_AC a) s.heap H locs → lv_has ls 16 [(0, .ref (a 126)), (1, .int v1), (2, .ref (a 131)), (3, .ref (a 132)), (4, .ref (a 133)), (5, .ref (a 134)), (6, .ref (a 135)), (7, .ref (a 136)), (8, .ref (a 137)), (9, .int v9), (10, .int v10), (11, .int v11), (12, .int v12), (13, .int v13)] → W p l e rm_L_isSo (s.setDrawn d0) m args below meth c H locs 0 0 (MQD lw_cs below (m_QI D (m_WC a cy) (m_AC a) r0 X0) args s 0 0 (m_AC a)) (F0 m 176 ls []) := by
  have C := m_Cx_draw C0 d0
  have hx := C.1.1
  have hb := C.1.2.1
  intro H locs ls hP hS hl
  unfold f_L_isSo_176 at hf0
  refine lv_iconst (v := 0) hx hb dL_isSo_176 (by decide) ?_
  refine lv_istore (lv' := [(14, .int 0), (0, .ref (a 126)), (1, .int v1), (2, .ref (a 131)), (3, .ref (a 132)), (4, .ref (a 133)), (5, .ref (a 134)), (6, .ref (a 135)), (7, .ref (a 136)), (8, .ref (a 137)), (9, .int v9), (10, .int v10), (11, .int v11), (12, .int v12), (13, .int v13)]) hx hb dL_isSo_177 hl (by decide) rfl (fun ls hl => ?_)
  exact w_L_isSo_179 l D a cy hG N hd0 C0 _ _ _ _ _ _ _ _ _ hf0 H locs ls hP hS (lv_sub hl [1, 2, 3, 4, 5, 6, 7, 8, 9, 10, 11, 12, 13, 14, 0] rfl)
def f_L_isSo_111 (N : Nat) : Nat → Int32 → Int32 → Int32 → Int32 → Int32 → Int32 → Int32 → XT → Option (Int32 × XT)
  | 0, _, _, _, _, _, _, _, _ => none
  | n + 1, v1, v9, v10, v11, v12, v13, v14, X => m_gd (m_in 7 17) <| m_nm (X 131 (Int32.toNatClampNeg 7)) fun y_17 => if y_17 ≤ v14 then (f_L_isSo_176 N v1 v9 v10 v11 v12 v13 X) else (m_gd (m_in v14 48) <| m_nm (X 136 (Int32.toNatClampNeg v14)) fun y_506 => m_nm (y_506 &&& 7) fun y_509 => if y_509 = 2 then (if v11 = v13 then (m_gd (m_in v14 48) <| m_nm (X 136 (Int32.toNatClampNeg v14)) fun y_549 => m_nm (y_549 &&& 7) fun y_552 => if y_552 = 2 then (m_nm (v11 + 1) fun y_561 => m_nm (v14 + 1) fun y_563 => f_L_isSo_111 N n v1 v9 v10 y_561 v14 v13 y_563 X) else (m_nm (v11 + 0) fun y_557 => m_nm (v14 + 1) fun y_559 => f_L_isSo_111 N n v1 v9 v10 y_557 v14 v13 y_559 X)) else (m_gd (m_in v14 48) <| m_nm (X 136 (Int32.toNatClampNeg v14)) fun y_533 => m_nm (y_533 &&& 7) fun y_536 => if y_536 = 2 then (m_nm (v11 + 1) fun y_545 => m_nm (v14 + 1) fun y_547 => f_L_isSo_111 N n v1 v9 v10 y_545 v12 v13 y_547 X) else (m_nm (v11 + 0) fun y_541 => m_nm (v14 + 1) fun y_543 => f_L_isSo_111 N n v1 v9 v10 y_541 v12 v13 y_543 X))) else (m_gd (m_in v14 48) <| m_nm (X 136 (Int32.toNatClampNeg v14)) fun y_514 => m_nm (y_514 &&& 7) fun y_517 => if y_517 = 2 then (m_nm (v11 + 1) fun y_526 => m_nm (v14 + 1) fun y_528 => f_L_isSo_111 N n v1 v9 v10 y_526 v12 v13 y_528 X) else (m_nm (v11 + 0) fun y_522 => m_nm (v14 + 1) fun y_524 => f_L_isSo_111 N n v1 v9 v10 y_522 v12 v13 y_524 X)))
set_option maxHeartbeats 4000000 in
set_option maxRecDepth 100000 in
theorem w_L_isSo_111 (l : Launch) (D : va_G) (a : Nat → Nat) (cy : Nat → ClassId) (hG : m_inj 138 a) (N : Nat) {p : Program} {e : Env} {s : State} {m : MethodId} {args : Array Value} {below : List Frame} {meth : Method} {c : Code} {d0 : Drawn} (hd0 : s.drawn.sameBut d0 lw_cs) (C0 : m_Cx p s m args meth c cL_isSo 16 RL (some .boolean) (Cond.code yL_isSo cL_isSo 16 (some .boolean)) D (m_tc cy) (m_AC a) (m_WC a cy) (m_ZC a)) {r0 : Int32} {X0 : XT} : ∀ (n : Nat) (v1 : Int32) (v9 : Int32) (v10 : Int32) (v11 : Int32) (v12 : Int32) (v13 : Int32) (v14 : Int32) (X : XT), f_L_isSo_111 N n v1 v9 v10 v11 v12 v13 v14 X = some (r0, X0) → ∀ (H : Heap) (locs : List Loc) (ls : Array Slot), va_P D vwCl (m_WC a cy X) H → va_S (m_AC a) s.heap H locs → lv_has ls 16 [(0, .ref (a 126)), (1, .int v1), (2, .ref (a 131)), (3, .ref (a 132)), (4, .ref (a 133)), (5, .ref (a 134)), (6, .ref (a 135)), (7, .ref (a 136)), (8, .ref (a 137)), (9, .int v9), (10, .int v10), (11, .int v11), (12, .int v12), (13, .int v13), (14, .int v14)] → W p l e rm_L_isSo (s.setDrawn d0) m args below meth c H locs 0 0 (MQD lw_cs below (m_QI D (m_WC a cy) (m_AC a) r0 X0) args s 0 0 (m_AC a)) (F0 m 111 ls []) := by
  have C := m_Cx_draw C0 d0
  have hx := C.1.1
  have hb := C.1.2.1
  intro n
  induction n with
  | zero => intro v1 v9 v10 v11 v12 v13 v14 X hf0; rw [f_L_isSo_111] at hf0; cases hf0
  | succ n ih =>
    intro v1 v9 v10 v11 v12 v13 v14 X hf0 H locs ls hP hS hl
    rw [f_L_isSo_111] at hf0
    refine lv_iload hx hb dL_isSo_111 (lv_at hl 14 rfl) ?_
    refine lv_aload_n hx hb dL_isSo_113 rfl (lv_at hl 2 rfl) ?_
    refine lv_bipush (v := 7) hx hb dL_isSo_114 (by decide) ?_
    obtain ⟨g_17, hf18⟩ := m_gd_s hf0
    clear hf0
    refine m_ild C hP mC_131 0 rfl g_17 dL_isSo_116 (fun y_17 e_17 => ?_)
    have hf19 := m_nm_s e_17 hf18
    clear hf18
    refine lv_icmp_ge (tgt := 176) hx hb dL_isSo_117 (by decide) (fun c_20 => ?_) (fun c_20 => ?_)
    · have hf21 := m_it c_20 hf19
      clear hf19
      exact w_L_isSo_176 l D a cy hG N hd0 C0 _ _ _ _ _ _ _ hf21 H locs ls hP hS (lv_sub hl [0, 1, 2, 3, 4, 5, 6, 7, 8, 9, 10, 11, 12, 13] rfl)
    · have hf22 := m_ie c_20 hf19
      clear hf19
      refine lv_aload hx hb dL_isSo_120 (lv_at hl 7 rfl) ?_
      refine lv_iload hx hb dL_isSo_122 (lv_at hl 14 rfl) ?_
      obtain ⟨g_506, hf507⟩ := m_gd_s hf22
      clear hf22
      refine m_ild C hP mC_136 0 rfl g_506 dL_isSo_124 (fun y_506 e_506 => ?_)
      have hf508 := m_nm_s e_506 hf507
      clear hf507
      refine lv_bipush (v := 7) hx hb dL_isSo_125 (by decide) ?_
      refine lv_iand hx hb dL_isSo_127 ?_
      refine lv_topi (fun y_509 e_509 => ?_)
      have hf510 := m_nm_s e_509 hf508
      clear hf508
      refine lv_iconst (v := 2) hx hb dL_isSo_128 (by decide) ?_
      refine lv_icmp_ne (tgt := 144) hx hb dL_isSo_129 (by decide) (fun c_511 => ?_) (fun c_511 => ?_)
      · have hf512 := m_ie c_511 hf510
        clear hf510
        refine lv_iload hx hb dL_isSo_144 (lv_at hl 12 rfl) ?_
        refine lv_istore (lv' := [(12, .int v12), (0, .ref (a 126)), (1, .int v1), (2, .ref (a 131)), (3, .ref (a 132)), (4, .ref (a 133)), (5, .ref (a 134)), (6, .ref (a 135)), (7, .ref (a 136)), (8, .ref (a 137)), (9, .int v9), (10, .int v10), (11, .int v11), (13, .int v13), (14, .int v14)]) hx hb dL_isSo_146 hl (by decide) rfl (fun ls hl => ?_)
        refine lv_iload hx hb dL_isSo_148 (lv_at hl 12 rfl) ?_
        refine lv_aload hx hb dL_isSo_150 (lv_at hl 8 rfl) ?_
        refine lv_iload hx hb dL_isSo_152 (lv_at hl 14 rfl) ?_
        obtain ⟨g_514, hf515⟩ := m_gd_s hf512
        clear hf512
        refine m_ild C hP mC_136 0 rfl g_514 dL_isSo_154 (fun y_514 e_514 => ?_)
        have hf516 := m_nm_s e_514 hf515
        clear hf515
        refine lv_bipush (v := 7) hx hb dL_isSo_155 (by decide) ?_
        refine lv_iand hx hb dL_isSo_157 ?_
        refine lv_topi (fun y_517 e_517 => ?_)
        have hf518 := m_nm_s e_517 hf516
        clear hf516
        refine lv_iconst (v := 2) hx hb dL_isSo_158 (by decide) ?_
        refine lv_icmp_ne (tgt := 166) hx hb dL_isSo_159 (by decide) (fun c_519 => ?_) (fun c_519 => ?_)
        · have hf520 := m_ie c_519 hf518
          clear hf518
          refine lv_iconst (v := 0) hx hb dL_isSo_166 (by decide) ?_
          refine lv_iadd hx hb dL_isSo_167 ?_
          refine lv_topi (fun y_522 e_522 => ?_)
          have hf523 := m_nm_s e_522 hf520
          clear hf520
          refine lv_istore (lv' := [(11, .int y_522), (12, .int v12), (0, .ref (a 126)), (1, .int v1), (2, .ref (a 131)), (3, .ref (a 132)), (4, .ref (a 133)), (5, .ref (a 134)), (6, .ref (a 135)), (7, .ref (a 136)), (8, .ref (a 137)), (9, .int v9), (10, .int v10), (13, .int v13), (14, .int v14)]) hx hb dL_isSo_168 hl (by decide) rfl (fun ls hl => ?_)
          obtain ⟨y_524, e_524⟩ : ∃ y : Int32, y = v14 + 1 := ⟨_, rfl⟩
          refine lv_iinc (v := y_524) (lv' := [(14, .int y_524), (11, .int y_522), (12, .int v12), (0, .ref (a 126)), (1, .int v1), (2, .ref (a 131)), (3, .ref (a 132)), (4, .ref (a 133)), (5, .ref (a 134)), (6, .ref (a 135)), (7, .ref (a 136)), (8, .ref (a 137)), (9, .int v9), (10, .int v10), (13, .int v13)]) hx hb dL_isSo_170 hl (k := 14) rfl (by rw [e_524]; rfl) (by decide) rfl (fun ls hl => ?_)
          have hf525 := m_nm_s e_524 hf523
          clear hf523
          refine lv_goto (tgt := 111) hx hb dL_isSo_173 (by decide) ?_
          exact ih _ _ _ _ _ _ _ _ hf525 H locs ls hP hS (lv_sub hl [3, 4, 5, 6, 7, 8, 9, 10, 11, 12, 13, 1, 2, 14, 0] rfl)
        · have hf521 := m_it c_519 hf518
          clear hf518
          refine lv_iconst (v := 1) hx hb dL_isSo_162 (by decide) ?_
          refine lv_goto (tgt := 167) hx hb dL_isSo_163 (by decide) ?_
          refine lv_iadd hx hb dL_isSo_167 ?_
          refine lv_topi (fun y_526 e_526 => ?_)
          have hf527 := m_nm_s e_526 hf521
          clear hf521
          refine lv_istore (lv' := [(11, .int y_526), (12, .int v12), (0, .ref (a 126)), (1, .int v1), (2, .ref (a 131)), (3, .ref (a 132)), (4, .ref (a 133)), (5, .ref (a 134)), (6, .ref (a 135)), (7, .ref (a 136)), (8, .ref (a 137)), (9, .int v9), (10, .int v10), (13, .int v13), (14, .int v14)]) hx hb dL_isSo_168 hl (by decide) rfl (fun ls hl => ?_)
          obtain ⟨y_528, e_528⟩ : ∃ y : Int32, y = v14 + 1 := ⟨_, rfl⟩
          refine lv_iinc (v := y_528) (lv' := [(14, .int y_528), (11, .int y_526), (12, .int v12), (0, .ref (a 126)), (1, .int v1), (2, .ref (a 131)), (3, .ref (a 132)), (4, .ref (a 133)), (5, .ref (a 134)), (6, .ref (a 135)), (7, .ref (a 136)), (8, .ref (a 137)), (9, .int v9), (10, .int v10), (13, .int v13)]) hx hb dL_isSo_170 hl (k := 14) rfl (by rw [e_528]; rfl) (by decide) rfl (fun ls hl => ?_)
          have hf529 := m_nm_s e_528 hf527
          clear hf527
          refine lv_goto (tgt := 111) hx hb dL_isSo_173 (by decide) ?_
          exact ih _ _ _ _ _ _ _ _ hf529 H locs ls hP hS (lv_sub hl [3, 4, 5, 6, 7, 8, 9, 10, 11, 12, 13, 1, 2, 14, 0] rfl)
      · have hf513 := m_it c_511 hf510
        clear hf510
        refine lv_iload hx hb dL_isSo_132 (lv_at hl 11 rfl) ?_
        refine lv_iload hx hb dL_isSo_134 (lv_at hl 13 rfl) ?_
        refine lv_icmp_ne (tgt := 144) hx hb dL_isSo_136 (by decide) (fun c_530 => ?_) (fun c_530 => ?_)
        · have hf531 := m_ie c_530 hf513
          clear hf513
          refine lv_iload hx hb dL_isSo_144 (lv_at hl 12 rfl) ?_
          refine lv_istore (lv' := [(12, .int v12), (0, .ref (a 126)), (1, .int v1), (2, .ref (a 131)), (3, .ref (a 132)), (4, .ref (a 133)), (5, .ref (a 134)), (6, .ref (a 135)), (7, .ref (a 136)), (8, .ref (a 137)), (9, .int v9), (10, .int v10), (11, .int v11), (13, .int v13), (14, .int v14)]) hx hb dL_isSo_146 hl (by decide) rfl (fun ls hl => ?_)
          refine lv_iload hx hb dL_isSo_148 (lv_at hl 12 rfl) ?_
          refine lv_aload hx hb dL_isSo_150 (lv_at hl 8 rfl) ?_
          refine lv_iload hx hb dL_isSo_152 (lv_at hl 14 rfl) ?_
          obtain ⟨g_533, hf534⟩ := m_gd_s hf531
          clear hf531
          refine m_ild C hP mC_136 0 rfl g_533 dL_isSo_154 (fun y_533 e_533 => ?_)
          have hf535 := m_nm_s e_533 hf534
          clear hf534
          refine lv_bipush (v := 7) hx hb dL_isSo_155 (by decide) ?_
          refine lv_iand hx hb dL_isSo_157 ?_
          refine lv_topi (fun y_536 e_536 => ?_)
          have hf537 := m_nm_s e_536 hf535
          clear hf535
          refine lv_iconst (v := 2) hx hb dL_isSo_158 (by decide) ?_
          refine lv_icmp_ne (tgt := 166) hx hb dL_isSo_159 (by decide) (fun c_538 => ?_) (fun c_538 => ?_)
          · have hf539 := m_ie c_538 hf537
            clear hf537
            refine lv_iconst (v := 0) hx hb dL_isSo_166 (by decide) ?_
            refine lv_iadd hx hb dL_isSo_167 ?_
            refine lv_topi (fun y_541 e_541 => ?_)
            have hf542 := m_nm_s e_541 hf539
            clear hf539
            refine lv_istore (lv' := [(11, .int y_541), (12, .int v12), (0, .ref (a 126)), (1, .int v1), (2, .ref (a 131)), (3, .ref (a 132)), (4, .ref (a 133)), (5, .ref (a 134)), (6, .ref (a 135)), (7, .ref (a 136)), (8, .ref (a 137)), (9, .int v9), (10, .int v10), (13, .int v13), (14, .int v14)]) hx hb dL_isSo_168 hl (by decide) rfl (fun ls hl => ?_)
            obtain ⟨y_543, e_543⟩ : ∃ y : Int32, y = v14 + 1 := ⟨_, rfl⟩
            refine lv_iinc (v := y_543) (lv' := [(14, .int y_543), (11, .int y_541), (12, .int v12), (0, .ref (a 126)), (1, .int v1), (2, .ref (a 131)), (3, .ref (a 132)), (4, .ref (a 133)), (5, .ref (a 134)), (6, .ref (a 135)), (7, .ref (a 136)), (8, .ref (a 137)), (9, .int v9), (10, .int v10), (13, .int v13)]) hx hb dL_isSo_170 hl (k := 14) rfl (by rw [e_543]; rfl) (by decide) rfl (fun ls hl => ?_)
            have hf544 := m_nm_s e_543 hf542
            clear hf542
            refine lv_goto (tgt := 111) hx hb dL_isSo_173 (by decide) ?_
            exact ih _ _ _ _ _ _ _ _ hf544 H locs ls hP hS (lv_sub hl [3, 4, 5, 6, 7, 8, 9, 10, 11, 12, 13, 1, 2, 14, 0] rfl)
          · have hf540 := m_it c_538 hf537
            clear hf537
            refine lv_iconst (v := 1) hx hb dL_isSo_162 (by decide) ?_
            refine lv_goto (tgt := 167) hx hb dL_isSo_163 (by decide) ?_
            refine lv_iadd hx hb dL_isSo_167 ?_
            refine lv_topi (fun y_545 e_545 => ?_)
            have hf546 := m_nm_s e_545 hf540
            clear hf540
            refine lv_istore (lv' := [(11, .int y_545), (12, .int v12), (0, .ref (a 126)), (1, .int v1), (2, .ref (a 131)), (3, .ref (a 132)), (4, .ref (a 133)), (5, .ref (a 134)), (6, .ref (a 135)), (7, .ref (a 136)), (8, .ref (a 137)), (9, .int v9), (10, .int v10), (13, .int v13), (14, .int v14)]) hx hb dL_isSo_168 hl (by decide) rfl (fun ls hl => ?_)
            obtain ⟨y_547, e_547⟩ : ∃ y : Int32, y = v14 + 1 := ⟨_, rfl⟩
            refine lv_iinc (v := y_547) (lv' := [(14, .int y_547), (11, .int y_545), (12, .int v12), (0, .ref (a 126)), (1, .int v1), (2, .ref (a 131)), (3, .ref (a 132)), (4, .ref (a 133)), (5, .ref (a 134)), (6, .ref (a 135)), (7, .ref (a 136)), (8, .ref (a 137)), (9, .int v9), (10, .int v10), (13, .int v13)]) hx hb dL_isSo_170 hl (k := 14) rfl (by rw [e_547]; rfl) (by decide) rfl (fun ls hl => ?_)
            have hf548 := m_nm_s e_547 hf546
            clear hf546
            refine lv_goto (tgt := 111) hx hb dL_isSo_173 (by decide) ?_
            exact ih _ _ _ _ _ _ _ _ hf548 H locs ls hP hS (lv_sub hl [3, 4, 5, 6, 7, 8, 9, 10, 11, 12, 13, 1, 2, 14, 0] rfl)
        · have hf532 := m_it c_530 hf513
          clear hf513
          refine lv_iload hx hb dL_isSo_139 (lv_at hl 14 rfl) ?_
          refine lv_goto (tgt := 146) hx hb dL_isSo_141 (by decide) ?_
          refine lv_istore (lv' := [(12, .int v14), (0, .ref (a 126)), (1, .int v1), (2, .ref (a 131)), (3, .ref (a 132)), (4, .ref (a 133)), (5, .ref (a 134)), (6, .ref (a 135)), (7, .ref (a 136)), (8, .ref (a 137)), (9, .int v9), (10, .int v10), (11, .int v11), (13, .int v13), (14, .int v14)]) hx hb dL_isSo_146 hl (by decide) rfl (fun ls hl => ?_)
          refine lv_iload hx hb dL_isSo_148 (lv_at hl 12 rfl) ?_
          refine lv_aload hx hb dL_isSo_150 (lv_at hl 8 rfl) ?_
          refine lv_iload hx hb dL_isSo_152 (lv_at hl 14 rfl) ?_
          obtain ⟨g_549, hf550⟩ := m_gd_s hf532
          clear hf532
          refine m_ild C hP mC_136 0 rfl g_549 dL_isSo_154 (fun y_549 e_549 => ?_)
          have hf551 := m_nm_s e_549 hf550
          clear hf550
          refine lv_bipush (v := 7) hx hb dL_isSo_155 (by decide) ?_
          refine lv_iand hx hb dL_isSo_157 ?_
          refine lv_topi (fun y_552 e_552 => ?_)
          have hf553 := m_nm_s e_552 hf551
          clear hf551
          refine lv_iconst (v := 2) hx hb dL_isSo_158 (by decide) ?_
          refine lv_icmp_ne (tgt := 166) hx hb dL_isSo_159 (by decide) (fun c_554 => ?_) (fun c_554 => ?_)
          · have hf555 := m_ie c_554 hf553
            clear hf553
            refine lv_iconst (v := 0) hx hb dL_isSo_166 (by decide) ?_
            refine lv_iadd hx hb dL_isSo_167 ?_
            refine lv_topi (fun y_557 e_557 => ?_)
            have hf558 := m_nm_s e_557 hf555
            clear hf555
            refine lv_istore (lv' := [(11, .int y_557), (12, .int v14), (0, .ref (a 126)), (1, .int v1), (2, .ref (a 131)), (3, .ref (a 132)), (4, .ref (a 133)), (5, .ref (a 134)), (6, .ref (a 135)), (7, .ref (a 136)), (8, .ref (a 137)), (9, .int v9), (10, .int v10), (13, .int v13), (14, .int v14)]) hx hb dL_isSo_168 hl (by decide) rfl (fun ls hl => ?_)
            obtain ⟨y_559, e_559⟩ : ∃ y : Int32, y = v14 + 1 := ⟨_, rfl⟩
            refine lv_iinc (v := y_559) (lv' := [(14, .int y_559), (11, .int y_557), (12, .int v14), (0, .ref (a 126)), (1, .int v1), (2, .ref (a 131)), (3, .ref (a 132)), (4, .ref (a 133)), (5, .ref (a 134)), (6, .ref (a 135)), (7, .ref (a 136)), (8, .ref (a 137)), (9, .int v9), (10, .int v10), (13, .int v13)]) hx hb dL_isSo_170 hl (k := 14) rfl (by rw [e_559]; rfl) (by decide) rfl (fun ls hl => ?_)
            have hf560 := m_nm_s e_559 hf558
            clear hf558
            refine lv_goto (tgt := 111) hx hb dL_isSo_173 (by decide) ?_
            exact ih _ _ _ _ _ _ _ _ hf560 H locs ls hP hS (lv_sub hl [3, 4, 5, 6, 7, 8, 9, 10, 11, 12, 13, 1, 2, 14, 0] rfl)
          · have hf556 := m_it c_554 hf553
            clear hf553
            refine lv_iconst (v := 1) hx hb dL_isSo_162 (by decide) ?_
            refine lv_goto (tgt := 167) hx hb dL_isSo_163 (by decide) ?_
            refine lv_iadd hx hb dL_isSo_167 ?_
            refine lv_topi (fun y_561 e_561 => ?_)
            have hf562 := m_nm_s e_561 hf556
            clear hf556
            refine lv_istore (lv' := [(11, .int y_561), (12, .int v14), (0, .ref (a 126)), (1, .int v1), (2, .ref (a 131)), (3, .ref (a 132)), (4, .ref (a 133)), (5, .ref (a 134)), (6, .ref (a 135)), (7, .ref (a 136)), (8, .ref (a 137)), (9, .int v9), (10, .int v10), (13, .int v13), (14, .int v14)]) hx hb dL_isSo_168 hl (by decide) rfl (fun ls hl => ?_)
            obtain ⟨y_563, e_563⟩ : ∃ y : Int32, y = v14 + 1 := ⟨_, rfl⟩
            refine lv_iinc (v := y_563) (lv' := [(14, .int y_563), (11, .int y_561), (12, .int v14), (0, .ref (a 126)), (1, .int v1), (2, .ref (a 131)), (3, .ref (a 132)), (4, .ref (a 133)), (5, .ref (a 134)), (6, .ref (a 135)), (7, .ref (a 136)), (8, .ref (a 137)), (9, .int v9), (10, .int v10), (13, .int v13)]) hx hb dL_isSo_170 hl (k := 14) rfl (by rw [e_563]; rfl) (by decide) rfl (fun ls hl => ?_)
            have hf564 := m_nm_s e_563 hf562
            clear hf562
            refine lv_goto (tgt := 111) hx hb dL_isSo_173 (by decide) ?_
            exact ih _ _ _ _ _ _ _ _ hf564 H locs ls hP hS (lv_sub hl [3, 4, 5, 6, 7, 8, 9, 10, 11, 12, 13, 1, 2, 14, 0] rfl)
def f_L_isSo_108 (N : Nat) (v1 : Int32) (v9 : Int32) (v10 : Int32) (v11 : Int32) (v12 : Int32) (v13 : Int32) (X : XT) : Option (Int32 × XT) := f_L_isSo_111 N N v1 v9 v10 v11 v12 v13 0 X
set_option maxHeartbeats 4000000 in
set_option maxRecDepth 100000 in
theorem w_L_isSo_108 (l : Launch) (D : va_G) (a : Nat → Nat) (cy : Nat → ClassId) (hG : m_inj 138 a) (N : Nat) {p : Program} {e : Env} {s : State} {m : MethodId} {args : Array Value} {below : List Frame} {meth : Method} {c : Code} {d0 : Drawn} (hd0 : s.drawn.sameBut d0 lw_cs) (C0 : m_Cx p s m args meth c cL_isSo 16 RL (some .boolean) (Cond.code yL_isSo cL_isSo 16 (some .boolean)) D (m_tc cy) (m_AC a) (m_WC a cy) (m_ZC a)) {r0 : Int32} {X0 : XT} (v1 : Int32) (v9 : Int32) (v10 : Int32) (v11 : Int32) (v12 : Int32) (v13 : Int32) (X : XT) (hf0 : f_L_isSo_108 N v1 v9 v10 v11 v12 v13 X = some (r0, X0)) : ∀ (H : Heap) (locs : List Loc) (ls : Array Slot), va_P D vwCl (m_WC a cy X) H → va_S (m_AC a) s.heap H locs → lv_has ls 16 [(0, .ref (a 126)), (1, .int v1), (2, .ref (a 131)), (3, .ref (a 132)), (4, .ref (a 133)), (5, .ref (a 134)), (6, .ref (a 135)), (7, .ref (a 136)), (8, .ref (a 137)), (9, .int v9), (10, .int v10), (11, .int v11), (12, .int v12), (13, .int v13)] → W p l e rm_L_isSo (s.setDrawn d0) m args below meth c H locs 0 0 (MQD lw_cs below (m_QI D (m_WC a cy) (m_AC a) r0 X0) args s 0 0 (m_AC a)) (F0 m 108 ls []) := by
  have C := m_Cx_draw C0 d0
  have hx := C.1.1
  have hb := C.1.2.1
  intro H locs ls hP hS hl
  unfold f_L_isSo_108 at hf0
  refine lv_iconst (v := 0) hx hb dL_isSo_108 (by decide) ?_
  refine lv_istore (lv' := [(14, .int 0), (0, .ref (a 126)), (1, .int v1), (2, .ref (a 131)), (3, .ref (a 132)), (4, .ref (a 133)), (5, .ref (a 134)), (6, .ref (a 135)), (7, .ref (a 136)), (8, .ref (a 137)), (9, .int v9), (10, .int v10), (11, .int v11), (12, .int v12), (13, .int v13)]) hx hb dL_isSo_109 hl (by decide) rfl (fun ls hl => ?_)
  exact w_L_isSo_111 l D a cy hG N hd0 C0 _ _ _ _ _ _ _ _ _ hf0 H locs ls hP hS (lv_sub hl [1, 2, 3, 4, 5, 6, 7, 8, 9, 10, 11, 12, 13, 14, 0] rfl)
def f_L_isSo_73 (N : Nat) : Nat → Int32 → Int32 → Int32 → Int32 → Int32 → Int32 → Int32 → XT → Option (Int32 × XT)
  | 0, _, _, _, _, _, _, _, _ => none
  | n + 1, v1, v9, v10, v11, v12, v13, v14, X => m_gd (m_in 6 17) <| m_nm (X 131 (Int32.toNatClampNeg 6)) fun y_11 => if y_11 ≤ v14 then (f_L_isSo_108 N v1 v9 v10 v11 v12 v13 X) else (m_bi (f_L_what N v14 X) fun r_565 X_565 => if 4 ≤ r_565 then (m_nm (v10 + 0) fun y_570 => m_nm (v14 + 1) fun y_572 => f_L_isSo_73 N n v1 v9 y_570 v11 v12 v13 y_572 X_565) else (m_nm (v10 + 1) fun y_574 => m_nm (v14 + 1) fun y_576 => f_L_isSo_73 N n v1 v9 y_574 v11 v12 v13 y_576 X_565))
set_option maxHeartbeats 4000000 in
set_option maxRecDepth 100000 in
theorem w_L_isSo_73 (l : Launch) (D : va_G) (a : Nat → Nat) (cy : Nat → ClassId) (hG : m_inj 138 a) (N : Nat) {p : Program} {e : Env} {s : State} {m : MethodId} {args : Array Value} {below : List Frame} {meth : Method} {c : Code} {d0 : Drawn} (hd0 : s.drawn.sameBut d0 lw_cs) (C0 : m_Cx p s m args meth c cL_isSo 16 RL (some .boolean) (Cond.code yL_isSo cL_isSo 16 (some .boolean)) D (m_tc cy) (m_AC a) (m_WC a cy) (m_ZC a)) {r0 : Int32} {X0 : XT} : ∀ (n : Nat) (v1 : Int32) (v9 : Int32) (v10 : Int32) (v11 : Int32) (v12 : Int32) (v13 : Int32) (v14 : Int32) (X : XT), f_L_isSo_73 N n v1 v9 v10 v11 v12 v13 v14 X = some (r0, X0) → ∀ (H : Heap) (locs : List Loc) (ls : Array Slot), va_P D vwCl (m_WC a cy X) H → va_S (m_AC a) s.heap H locs → lv_has ls 16 [(0, .ref (a 126)), (1, .int v1), (2, .ref (a 131)), (3, .ref (a 132)), (4, .ref (a 133)), (5, .ref (a 134)), (6, .ref (a 135)), (7, .ref (a 136)), (8, .ref (a 137)), (9, .int v9), (10, .int v10), (11, .int v11), (12, .int v12), (13, .int v13), (14, .int v14)] → W p l e rm_L_isSo (s.setDrawn d0) m args below meth c H locs 0 0 (MQD lw_cs below (m_QI D (m_WC a cy) (m_AC a) r0 X0) args s 0 0 (m_AC a)) (F0 m 73 ls []) := by
  have C := m_Cx_draw C0 d0
  have hx := C.1.1
  have hb := C.1.2.1
  intro n
  induction n with
  | zero => intro v1 v9 v10 v11 v12 v13 v14 X hf0; rw [f_L_isSo_73] at hf0; cases hf0
  | succ n ih =>
    intro v1 v9 v10 v11 v12 v13 v14 X hf0 H locs ls hP hS hl
    rw [f_L_isSo_73] at hf0
    refine lv_iload hx hb dL_isSo_73 (lv_at hl 14 rfl) ?_
    refine lv_aload_n hx hb dL_isSo_75 rfl (lv_at hl 2 rfl) ?_
    refine lv_bipush (v := 6) hx hb dL_isSo_76 (by decide) ?_
    obtain ⟨g_11, hf12⟩ := m_gd_s hf0
    clear hf0
    refine m_ild C hP mC_131 0 rfl g_11 dL_isSo_78 (fun y_11 e_11 => ?_)
    have hf13 := m_nm_s e_11 hf12
    clear hf12
    refine lv_icmp_ge (tgt := 108) hx hb dL_isSo_79 (by decide) (fun c_14 => ?_) (fun c_14 => ?_)
    · have hf15 := m_it c_14 hf13
      clear hf13
      exact w_L_isSo_108 l D a cy hG N hd0 C0 _ _ _ _ _ _ _ hf15 H locs ls hP hS (lv_sub hl [0, 1, 2, 3, 4, 5, 6, 7, 8, 9, 10, 11, 12, 13] rfl)
    · have hf16 := m_ie c_14 hf13
      clear hf13
      refine lv_iload hx hb dL_isSo_82 (lv_at hl 10 rfl) ?_
      refine lv_iload hx hb dL_isSo_84 (lv_at hl 14 rfl) ?_
      refine lv_aload_n hx hb dL_isSo_86 rfl (lv_at hl 3 rfl) ?_
      obtain ⟨r_565, X_565, h_565, hf566⟩ := m_bi_s hf16
      clear hf16
      refine m_callSi C [.int v14, .ref (a 132)] [.int v10] (c_L_what l D a cy hG N _ _ h_565) (m_goodS wl_L_16 wst_L_what wn_L wc_L_what) ⟨rfl, rfl⟩ hv_L_what ⟨Nat.le_of_ble_eq_true rfl, Nat.le_of_ble_eq_true rfl⟩ hP hS rfl hl.1 rfl (Nat.le_of_ble_eq_true rfl) dL_isSo_87 (fun H locs hP hS => ?_)
      refine lv_iconst (v := 4) hx hb dL_isSo_90 (by decide) ?_
      refine lv_icmp_ge (tgt := 98) hx hb dL_isSo_91 (by decide) (fun c_567 => ?_) (fun c_567 => ?_)
      · have hf568 := m_it c_567 hf566
        clear hf566
        refine lv_iconst (v := 0) hx hb dL_isSo_98 (by decide) ?_
        refine lv_iadd hx hb dL_isSo_99 ?_
        refine lv_topi (fun y_570 e_570 => ?_)
        have hf571 := m_nm_s e_570 hf568
        clear hf568
        refine lv_istore (lv' := [(10, .int y_570), (0, .ref (a 126)), (1, .int v1), (2, .ref (a 131)), (3, .ref (a 132)), (4, .ref (a 133)), (5, .ref (a 134)), (6, .ref (a 135)), (7, .ref (a 136)), (8, .ref (a 137)), (9, .int v9), (11, .int v11), (12, .int v12), (13, .int v13), (14, .int v14)]) hx hb dL_isSo_100 hl (by decide) rfl (fun ls hl => ?_)
        obtain ⟨y_572, e_572⟩ : ∃ y : Int32, y = v14 + 1 := ⟨_, rfl⟩
        refine lv_iinc (v := y_572) (lv' := [(14, .int y_572), (10, .int y_570), (0, .ref (a 126)), (1, .int v1), (2, .ref (a 131)), (3, .ref (a 132)), (4, .ref (a 133)), (5, .ref (a 134)), (6, .ref (a 135)), (7, .ref (a 136)), (8, .ref (a 137)), (9, .int v9), (11, .int v11), (12, .int v12), (13, .int v13)]) hx hb dL_isSo_102 hl (k := 14) rfl (by rw [e_572]; rfl) (by decide) rfl (fun ls hl => ?_)
        have hf573 := m_nm_s e_572 hf571
        clear hf571
        refine lv_goto (tgt := 73) hx hb dL_isSo_105 (by decide) ?_
        exact ih _ _ _ _ _ _ _ _ hf573 H locs ls hP hS (lv_sub hl [2, 3, 4, 5, 6, 7, 8, 9, 10, 11, 1, 12, 13, 14, 0] rfl)
      · have hf569 := m_ie c_567 hf566
        clear hf566
        refine lv_iconst (v := 1) hx hb dL_isSo_94 (by decide) ?_
        refine lv_goto (tgt := 99) hx hb dL_isSo_95 (by decide) ?_
        refine lv_iadd hx hb dL_isSo_99 ?_
        refine lv_topi (fun y_574 e_574 => ?_)
        have hf575 := m_nm_s e_574 hf569
        clear hf569
        refine lv_istore (lv' := [(10, .int y_574), (0, .ref (a 126)), (1, .int v1), (2, .ref (a 131)), (3, .ref (a 132)), (4, .ref (a 133)), (5, .ref (a 134)), (6, .ref (a 135)), (7, .ref (a 136)), (8, .ref (a 137)), (9, .int v9), (11, .int v11), (12, .int v12), (13, .int v13), (14, .int v14)]) hx hb dL_isSo_100 hl (by decide) rfl (fun ls hl => ?_)
        obtain ⟨y_576, e_576⟩ : ∃ y : Int32, y = v14 + 1 := ⟨_, rfl⟩
        refine lv_iinc (v := y_576) (lv' := [(14, .int y_576), (10, .int y_574), (0, .ref (a 126)), (1, .int v1), (2, .ref (a 131)), (3, .ref (a 132)), (4, .ref (a 133)), (5, .ref (a 134)), (6, .ref (a 135)), (7, .ref (a 136)), (8, .ref (a 137)), (9, .int v9), (11, .int v11), (12, .int v12), (13, .int v13)]) hx hb dL_isSo_102 hl (k := 14) rfl (by rw [e_576]; rfl) (by decide) rfl (fun ls hl => ?_)
        have hf577 := m_nm_s e_576 hf575
        clear hf575
        refine lv_goto (tgt := 73) hx hb dL_isSo_105 (by decide) ?_
        exact ih _ _ _ _ _ _ _ _ hf577 H locs ls hP hS (lv_sub hl [2, 3, 4, 5, 6, 7, 8, 9, 10, 11, 1, 12, 13, 14, 0] rfl)
def f_L_isSo_51 (N : Nat) (v1 : Int32) (u0 : Int32) (X : XT) : Option (Int32 × XT) := m_bi (f_L_low N v1 3 X) fun r_9 X_9 => f_L_isSo_73 N N v1 u0 0 0 (-5) r_9 0 X_9
set_option maxHeartbeats 4000000 in
set_option maxRecDepth 100000 in
theorem w_L_isSo_51 (l : Launch) (D : va_G) (a : Nat → Nat) (cy : Nat → ClassId) (hG : m_inj 138 a) (N : Nat) {p : Program} {e : Env} {s : State} {m : MethodId} {args : Array Value} {below : List Frame} {meth : Method} {c : Code} {d0 : Drawn} (hd0 : s.drawn.sameBut d0 lw_cs) (C0 : m_Cx p s m args meth c cL_isSo 16 RL (some .boolean) (Cond.code yL_isSo cL_isSo 16 (some .boolean)) D (m_tc cy) (m_AC a) (m_WC a cy) (m_ZC a)) {r0 : Int32} {X0 : XT} (v1 : Int32) (u0 : Int32) (X : XT) (hf0 : f_L_isSo_51 N v1 u0 X = some (r0, X0)) : ∀ (H : Heap) (locs : List Loc) (ls : Array Slot), va_P D vwCl (m_WC a cy X) H → va_S (m_AC a) s.heap H locs → lv_has ls 16 [(0, .ref (a 126)), (1, .int v1), (2, .ref (a 131)), (3, .ref (a 132)), (4, .ref (a 133)), (5, .ref (a 134)), (6, .ref (a 135)), (7, .ref (a 136)), (8, .ref (a 137))] → W p l e rm_L_isSo (s.setDrawn d0) m args below meth c H locs 0 0 (MQD lw_cs below (m_QI D (m_WC a cy) (m_AC a) r0 X0) args s 0 0 (m_AC a)) (F0 m 51 ls [.int u0]) := by
  have C := m_Cx_draw C0 d0
  have hx := C.1.1
  have hb := C.1.2.1
  intro H locs ls hP hS hl
  unfold f_L_isSo_51 at hf0
  refine lv_istore (lv' := [(9, .int u0), (0, .ref (a 126)), (1, .int v1), (2, .ref (a 131)), (3, .ref (a 132)), (4, .ref (a 133)), (5, .ref (a 134)), (6, .ref (a 135)), (7, .ref (a 136)), (8, .ref (a 137))]) hx hb dL_isSo_51 hl (by decide) rfl (fun ls hl => ?_)
  refine lv_iconst (v := 0) hx hb dL_isSo_53 (by decide) ?_
  refine lv_istore (lv' := [(10, .int 0), (9, .int u0), (0, .ref (a 126)), (1, .int v1), (2, .ref (a 131)), (3, .ref (a 132)), (4, .ref (a 133)), (5, .ref (a 134)), (6, .ref (a 135)), (7, .ref (a 136)), (8, .ref (a 137))]) hx hb dL_isSo_54 hl (by decide) rfl (fun ls hl => ?_)
  refine lv_iconst (v := 0) hx hb dL_isSo_56 (by decide) ?_
  refine lv_istore (lv' := [(11, .int 0), (10, .int 0), (9, .int u0), (0, .ref (a 126)), (1, .int v1), (2, .ref (a 131)), (3, .ref (a 132)), (4, .ref (a 133)), (5, .ref (a 134)), (6, .ref (a 135)), (7, .ref (a 136)), (8, .ref (a 137))]) hx hb dL_isSo_57 hl (by decide) rfl (fun ls hl => ?_)
  refine lv_bipush (v := (-5)) hx hb dL_isSo_59 (by decide) ?_
  refine lv_istore (lv' := [(12, .int (-5)), (11, .int 0), (10, .int 0), (9, .int u0), (0, .ref (a 126)), (1, .int v1), (2, .ref (a 131)), (3, .ref (a 132)), (4, .ref (a 133)), (5, .ref (a 134)), (6, .ref (a 135)), (7, .ref (a 136)), (8, .ref (a 137))]) hx hb dL_isSo_61 hl (by decide) rfl (fun ls hl => ?_)
  refine lv_iload_n hx hb dL_isSo_63 rfl (lv_at hl 5 rfl) ?_
  refine lv_iconst (v := 3) hx hb dL_isSo_64 (by decide) ?_
  obtain ⟨r_9, X_9, h_9, hf10⟩ := m_bi_s hf0
  clear hf0
  refine m_callSi C [.int v1, .int 3] [] (c_L_low l D a cy hG N _ _ _ h_9) (m_goodS wl_L_107 wst_L_low wn_L wc_L_low) ⟨rfl, rfl⟩ hv_L_low ⟨Nat.le_of_ble_eq_true rfl, Nat.le_of_ble_eq_true rfl⟩ hP hS rfl hl.1 rfl (Nat.le_of_ble_eq_true rfl) dL_isSo_65 (fun H locs hP hS => ?_)
  refine lv_istore (lv' := [(13, .int r_9), (12, .int (-5)), (11, .int 0), (10, .int 0), (9, .int u0), (0, .ref (a 126)), (1, .int v1), (2, .ref (a 131)), (3, .ref (a 132)), (4, .ref (a 133)), (5, .ref (a 134)), (6, .ref (a 135)), (7, .ref (a 136)), (8, .ref (a 137))]) hx hb dL_isSo_68 hl (by decide) rfl (fun ls hl => ?_)
  refine lv_iconst (v := 0) hx hb dL_isSo_70 (by decide) ?_
  refine lv_istore (lv' := [(14, .int 0), (13, .int r_9), (12, .int (-5)), (11, .int 0), (10, .int 0), (9, .int u0), (0, .ref (a 126)), (1, .int v1), (2, .ref (a 131)), (3, .ref (a 132)), (4, .ref (a 133)), (5, .ref (a 134)), (6, .ref (a 135)), (7, .ref (a 136)), (8, .ref (a 137))]) hx hb dL_isSo_71 hl (by decide) rfl (fun ls hl => ?_)
  exact w_L_isSo_73 l D a cy hG N hd0 C0 _ _ _ _ _ _ _ _ _ hf10 H locs ls hP hS (lv_sub hl [6, 7, 8, 9, 10, 11, 12, 13, 14, 5, 4, 3, 2, 1, 0] rfl)
def f_L_isSo (N : Nat) (v1 : Int32) (X : XT) : Option (Int32 × XT) := m_bi (f_X7_count N 0 X) fun r_1 X_1 => m_gd (m_in 0 17) <| m_nm (X_1 131 (Int32.toNatClampNeg 0)) fun y_3 => if r_1 = y_3 then (m_bi (f_X7_count N 1 X_1) fun r_578 X_578 => m_gd (m_in 1 17) <| m_nm (X_578 131 (Int32.toNatClampNeg 1)) fun y_580 => if r_578 = y_580 then (m_bi (f_X7_count N 2 X_578) fun r_586 X_586 => m_gd (m_in 8 17) <| m_nm (X_586 131 (Int32.toNatClampNeg 8)) fun y_588 => if r_586 = y_588 then (m_bi (f_X7_count N 3 X_586) fun r_594 X_594 => m_gd (m_in 9 17) <| m_nm (X_594 131 (Int32.toNatClampNeg 9)) fun y_596 => if r_594 = y_596 then (f_L_isSo_51 N v1 1 X_594) else (f_L_isSo_51 N v1 0 X_594)) else (f_L_isSo_51 N v1 0 X_586)) else (f_L_isSo_51 N v1 0 X_578)) else (f_L_isSo_51 N v1 0 X_1)
set_option maxHeartbeats 4000000 in
set_option maxRecDepth 100000 in
theorem c_L_isSo (l : Launch) (D : va_G) (a : Nat → Nat) (cy : Nat → ClassId) (hG : m_inj 138 a) (N : Nat) (v1 : Int32) (X : XT) {r0 : Int32} {X0 : XT} (hf0 : f_L_isSo N v1 X = some (r0, X0)) : MetD lw_cs l yL_isSo (Cond.code yL_isSo cL_isSo 16 (some .boolean) :: m_tbl) rm_L_isSo (va_Pc [.ref (a 126), .int v1, .ref (a 131), .ref (a 132), .ref (a 133), .ref (a 134), .ref (a 135), .ref (a 136), .ref (a 137)] (m_PX D (m_tc cy) (m_WC a cy) (m_ZC a) X)) (m_QI D (m_WC a cy) (m_AC a) r0 X0) 0 0 (m_AC a) := by
  refine m_metD (own := RL) hy_L_isSo rfl (Nat.le_of_ble_eq_true rfl) (m_wl_D hG _) m_ZC_keep ?_
  intro p e s m args below meth c C0 hd0 ls hl hP hS
  have C := m_Cx_draw C0 s.drawn
  have hx := C.1.1
  have hb := C.1.2.1
  have hl : lv_has ls 16 [(0, .ref (a 126)), (1, .int v1), (2, .ref (a 131)), (3, .ref (a 132)), (4, .ref (a 133)), (5, .ref (a 134)), (6, .ref (a 135)), (7, .ref (a 136)), (8, .ref (a 137))] := hl
  unfold f_L_isSo at hf0
  suffices K : ∀ (H : Heap) (locs : List Loc), va_P D vwCl (m_WC a cy X) H → va_S (m_AC a) s.heap H locs → W p l e rm_L_isSo (s.setDrawn s.drawn) m args below meth c H locs 0 0 (MQD lw_cs below (m_QI D (m_WC a cy) (m_AC a) r0 X0) args s 0 0 (m_AC a)) (F0 m 0 ls []) from K _ _ hP hS
  clear hP hS
  intro H locs hP hS
  refine lv_aload_n hx hb dL_isSo_0 rfl (lv_at hl 0 rfl) ?_
  refine lv_iconst (v := 0) hx hb dL_isSo_1 (by decide) ?_
  obtain ⟨r_1, X_1, h_1, hf2⟩ := m_bi_s hf0
  clear hf0
  refine m_callVi (q := (RX7, TX7, 5)) C [.int 0] [] (c_X7_count l D a cy hG N _ _ h_1) (m_goodV wl_L_86 wi_X7_count ws_X7_count wn_X7 wc_X7_count) ⟨rfl, rfl⟩ hv_X7_count ⟨Nat.le_of_ble_eq_true rfl, Nat.le_of_ble_eq_true rfl⟩ rfl mC_126 hP hS rfl hl.1 rfl (Nat.le_of_ble_eq_true rfl) dL_isSo_2 (fun H locs hP hS => ?_)
  refine lv_aload_n hx hb dL_isSo_5 rfl (lv_at hl 2 rfl) ?_
  refine lv_iconst (v := 0) hx hb dL_isSo_6 (by decide) ?_
  obtain ⟨g_3, hf4⟩ := m_gd_s hf2
  clear hf2
  refine m_ild C hP mC_131 0 rfl g_3 dL_isSo_7 (fun y_3 e_3 => ?_)
  have hf5 := m_nm_s e_3 hf4
  clear hf4
  refine lv_icmp_ne (tgt := 50) hx hb dL_isSo_8 (by decide) (fun c_6 => ?_) (fun c_6 => ?_)
  · have hf7 := m_ie c_6 hf5
    clear hf5
    refine lv_iconst (v := 0) hx hb dL_isSo_50 (by decide) ?_
    exact w_L_isSo_51 l D a cy hG N hd0 C0 _ _ _ hf7 H locs ls hP hS (lv_sub hl [0, 1, 2, 3, 4, 5, 6, 7, 8] rfl)
  · have hf8 := m_it c_6 hf5
    clear hf5
    refine lv_aload_n hx hb dL_isSo_11 rfl (lv_at hl 0 rfl) ?_
    refine lv_iconst (v := 1) hx hb dL_isSo_12 (by decide) ?_
    obtain ⟨r_578, X_578, h_578, hf579⟩ := m_bi_s hf8
    clear hf8
    refine m_callVi (q := (RX7, TX7, 5)) C [.int 1] [] (c_X7_count l D a cy hG N _ _ h_578) (m_goodV wl_L_86 wi_X7_count ws_X7_count wn_X7 wc_X7_count) ⟨rfl, rfl⟩ hv_X7_count ⟨Nat.le_of_ble_eq_true rfl, Nat.le_of_ble_eq_true rfl⟩ rfl mC_126 hP hS rfl hl.1 rfl (Nat.le_of_ble_eq_true rfl) dL_isSo_13 (fun H locs hP hS => ?_)
    refine lv_aload_n hx hb dL_isSo_16 rfl (lv_at hl 2 rfl) ?_
    refine lv_iconst (v := 1) hx hb dL_isSo_17 (by decide) ?_
    obtain ⟨g_580, hf581⟩ := m_gd_s hf579
    clear hf579
    refine m_ild C hP mC_131 0 rfl g_580 dL_isSo_18 (fun y_580 e_580 => ?_)
    have hf582 := m_nm_s e_580 hf581
    clear hf581
    refine lv_icmp_ne (tgt := 50) hx hb dL_isSo_19 (by decide) (fun c_583 => ?_) (fun c_583 => ?_)
    · have hf584 := m_ie c_583 hf582
      clear hf582
      refine lv_iconst (v := 0) hx hb dL_isSo_50 (by decide) ?_
      exact w_L_isSo_51 l D a cy hG N hd0 C0 _ _ _ hf584 H locs ls hP hS (lv_sub hl [0, 1, 2, 3, 4, 5, 6, 7, 8] rfl)
    · have hf585 := m_it c_583 hf582
      clear hf582
      refine lv_aload_n hx hb dL_isSo_22 rfl (lv_at hl 0 rfl) ?_
      refine lv_iconst (v := 2) hx hb dL_isSo_23 (by decide) ?_
      obtain ⟨r_586, X_586, h_586, hf587⟩ := m_bi_s hf585
      clear hf585
      refine m_callVi (q := (RX7, TX7, 5)) C [.int 2] [] (c_X7_count l D a cy hG N _ _ h_586) (m_goodV wl_L_86 wi_X7_count ws_X7_count wn_X7 wc_X7_count) ⟨rfl, rfl⟩ hv_X7_count ⟨Nat.le_of_ble_eq_true rfl, Nat.le_of_ble_eq_true rfl⟩ rfl mC_126 hP hS rfl hl.1 rfl (Nat.le_of_ble_eq_true rfl) dL_isSo_24 (fun H locs hP hS => ?_)
      refine lv_aload_n hx hb dL_isSo_27 rfl (lv_at hl 2 rfl) ?_
      refine lv_bipush (v := 8) hx hb dL_isSo_28 (by decide) ?_
      obtain ⟨g_588, hf589⟩ := m_gd_s hf587
      clear hf587
      refine m_ild C hP mC_131 0 rfl g_588 dL_isSo_30 (fun y_588 e_588 => ?_)
      have hf590 := m_nm_s e_588 hf589
      clear hf589
      refine lv_icmp_ne (tgt := 50) hx hb dL_isSo_31 (by decide) (fun c_591 => ?_) (fun c_591 => ?_)
      · have hf592 := m_ie c_591 hf590
        clear hf590
        refine lv_iconst (v := 0) hx hb dL_isSo_50 (by decide) ?_
        exact w_L_isSo_51 l D a cy hG N hd0 C0 _ _ _ hf592 H locs ls hP hS (lv_sub hl [0, 1, 2, 3, 4, 5, 6, 7, 8] rfl)
      · have hf593 := m_it c_591 hf590
        clear hf590
        refine lv_aload_n hx hb dL_isSo_34 rfl (lv_at hl 0 rfl) ?_
        refine lv_iconst (v := 3) hx hb dL_isSo_35 (by decide) ?_
        obtain ⟨r_594, X_594, h_594, hf595⟩ := m_bi_s hf593
        clear hf593
        refine m_callVi (q := (RX7, TX7, 5)) C [.int 3] [] (c_X7_count l D a cy hG N _ _ h_594) (m_goodV wl_L_86 wi_X7_count ws_X7_count wn_X7 wc_X7_count) ⟨rfl, rfl⟩ hv_X7_count ⟨Nat.le_of_ble_eq_true rfl, Nat.le_of_ble_eq_true rfl⟩ rfl mC_126 hP hS rfl hl.1 rfl (Nat.le_of_ble_eq_true rfl) dL_isSo_36 (fun H locs hP hS => ?_)
        refine lv_aload_n hx hb dL_isSo_39 rfl (lv_at hl 2 rfl) ?_
        refine lv_bipush (v := 9) hx hb dL_isSo_40 (by decide) ?_
        obtain ⟨g_596, hf597⟩ := m_gd_s hf595
        clear hf595
        refine m_ild C hP mC_131 0 rfl g_596 dL_isSo_42 (fun y_596 e_596 => ?_)
        have hf598 := m_nm_s e_596 hf597
        clear hf597
        refine lv_icmp_ne (tgt := 50) hx hb dL_isSo_43 (by decide) (fun c_599 => ?_) (fun c_599 => ?_)
        · have hf600 := m_ie c_599 hf598
          clear hf598
          refine lv_iconst (v := 0) hx hb dL_isSo_50 (by decide) ?_
          exact w_L_isSo_51 l D a cy hG N hd0 C0 _ _ _ hf600 H locs ls hP hS (lv_sub hl [0, 1, 2, 3, 4, 5, 6, 7, 8] rfl)
        · have hf601 := m_it c_599 hf598
          clear hf598
          refine lv_iconst (v := 1) hx hb dL_isSo_46 (by decide) ?_
          refine lv_goto (tgt := 51) hx hb dL_isSo_47 (by decide) ?_
          exact w_L_isSo_51 l D a cy hG N hd0 C0 _ _ _ hf601 H locs ls hP hS (lv_sub hl [0, 1, 2, 3, 4, 5, 6, 7, 8] rfl)
