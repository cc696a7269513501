-- written by wip/gen/gen.py
abbrev rm_X8_within : Room := { frames := 0, cells := 0, slots := 0, locals := 0 }
def f_X8_within (N : Nat) (v0 : Int32) (v1 : Int32) (v2 : Int32) (X : XT) : Option (Int32 × XT) := if v0 < v1 then (some (0, X)) else (if v2 < v0 then (some (0, X)) else (some (1, X)))
set_option maxHeartbeats 4000000 in
set_option maxRecDepth 100000 in
theorem c_X8_within (l : Launch) (D : va_G) (a : Nat → Nat) (cy : Nat → ClassId) (hG : m_inj 6 a) (N : Nat) (v0 : Int32) (v1 : Int32) (v2 : Int32) (X : XT) {r0 : Int32} {X0 : XT} (hf0 : f_X8_within N v0 v1 v2 X = some (r0, X0)) : Met l yX8_within (Cond.code yX8_within cX8_within 3 (some .boolean) :: m_tbl) rm_X8_within (va_Pc [.int v0, .int v1, .int v2] (m_PX D (m_tc cy) (m_WM a cy) m_ZM X)) (m_QI D (m_WM a cy) (m_AM a) r0 X0) 0 0 (m_AM a) := by
  refine m_met (own := RX8) hy_X8_within rfl (Nat.le_of_ble_eq_true rfl) (m_wl_D hG _) m_ZM_keep ?_
  intro p e s m args below meth c C ls hl hP hS
  have hx := C.1.1
  have hb := C.1.2.1
  have hl : lv_has ls 3 [(0, .int v0), (1, .int v1), (2, .int v2)] := hl
  unfold f_X8_within at hf0
  suffices K : ∀ (H : Heap) (locs : List Loc), va_P D vwCl (m_WM a cy X) H → va_S (m_AM a) s.heap H locs → W p l e rm_X8_within s m args below meth c H locs 0 0 (MQ below (m_QI D (m_WM a cy) (m_AM a) r0 X0) args s 0 0 (m_AM a)) (F0 m 0 ls []) from K _ _ hP hS
  clear hP hS
  intro H locs hP hS
  refine lv_iload_n hx hb dX8_within_0 rfl (lv_at hl 0 rfl) ?_
  refine lv_iload_n hx hb dX8_within_1 rfl (lv_at hl 1 rfl) ?_
  refine lv_icmp_lt (tgt := 14) hx hb dX8_within_2 (by decide) (fun c_1 => ?_) (fun c_1 => ?_)
  · have hf2 := m_it c_1 hf0
    clear hf0
    refine lv_iconst (v := 0) hx hb dX8_within_14 (by decide) ?_
    exact m_zret C hP hS dX8_within_15 (by decide) hf2
  · have hf3 := m_ie c_1 hf0
    clear hf0
    refine lv_iload_n hx hb dX8_within_5 rfl (lv_at hl 0 rfl) ?_
    refine lv_iload_n hx hb dX8_within_6 rfl (lv_at hl 2 rfl) ?_
    refine lv_icmp_gt (tgt := 14) hx hb dX8_within_7 (by decide) (fun c_4 => ?_) (fun c_4 => ?_)
    · have hf5 := m_it c_4 hf3
      clear hf3
      refine lv_iconst (v := 0) hx hb dX8_within_14 (by decide) ?_
      exact m_zret C hP hS dX8_within_15 (by decide) hf5
    · have hf6 := m_ie c_4 hf3
      clear hf3
      refine lv_iconst (v := 1) hx hb dX8_within_10 (by decide) ?_
      refine lv_goto (tgt := 15) hx hb dX8_within_11 (by decide) ?_
      exact m_zret C hP hS dX8_within_15 (by decide) hf6
abbrev rm_X8_isClient : Room := { frames := 1, cells := 0, slots := 0, locals := 22 }
def f_X8_isClient (N : Nat) (v0 : Int32) (X : XT) : Option (Int32 × XT) := m_bi (f_X8_within N v0 0 11 X) fun r_1 X_1 => m_gd (r_1 = 0 ∨ r_1 = 1) <| some (r_1, X_1)
set_option maxHeartbeats 4000000 in
set_option maxRecDepth 100000 in
theorem c_X8_isClient (l : Launch) (D : va_G) (a : Nat → Nat) (cy : Nat → ClassId) (hG : m_inj 6 a) (N : Nat) (v0 : Int32) (X : XT) {r0 : Int32} {X0 : XT} (hf0 : f_X8_isClient N v0 X = some (r0, X0)) : Met l yX8_isClient (Cond.code yX8_isClient cX8_isClient 1 (some .boolean) :: m_tbl) rm_X8_isClient (va_Pc [.int v0] (m_PX D (m_tc cy) (m_WM a cy) m_ZM X)) (m_QI D (m_WM a cy) (m_AM a) r0 X0) 0 0 (m_AM a) := by
  refine m_met (own := RX8) hy_X8_isClient rfl (Nat.le_of_ble_eq_true rfl) (m_wl_D hG _) m_ZM_keep ?_
  intro p e s m args below meth c C ls hl hP hS
  have hx := C.1.1
  have hb := C.1.2.1
  have hl : lv_has ls 1 [(0, .int v0)] := hl
  unfold f_X8_isClient at hf0
  suffices K : ∀ (H : Heap) (locs : List Loc), va_P D vwCl (m_WM a cy X) H → va_S (m_AM a) s.heap H locs → W p l e rm_X8_isClient s m args below meth c H locs 0 0 (MQ below (m_QI D (m_WM a cy) (m_AM a) r0 X0) args s 0 0 (m_AM a)) (F0 m 0 ls []) from K _ _ hP hS
  clear hP hS
  intro H locs hP hS
  refine lv_iload_n hx hb dX8_isClient_0 rfl (lv_at hl 0 rfl) ?_
  refine lv_iconst (v := 0) hx hb dX8_isClient_1 (by decide) ?_
  refine lv_bipush (v := 11) hx hb dX8_isClient_2 (by decide) ?_
  obtain ⟨r_1, X_1, h_1, hf2⟩ := m_bi_s hf0
  clear hf0
  refine m_callSi C [.int v0, .int 0, .int 11] [] (c_X8_within l D a cy hG N _ _ _ _ h_1) (m_goodS wl_X8_25 wst_X8_within wn_X8 wc_X8_within) ⟨rfl, rfl⟩ hv_X8_within ⟨Nat.le_of_ble_eq_true rfl, Nat.le_of_ble_eq_true rfl⟩ hP hS rfl hl.1 rfl (Nat.le_of_ble_eq_true rfl) dX8_isClient_4 (fun H locs hP hS => ?_)
  obtain ⟨g_3, hf4⟩ := m_gd_s hf2
  clear hf2
  exact m_zret C hP hS dX8_isClient_7 (m_bool g_3).1 hf4
abbrev rm_X8_of : Room := { frames := 0, cells := 0, slots := 0, locals := 0 }
def f_X8_of (N : Nat) (v1 : Int32) (v2 : Int32) (X : XT) : Option (Int32 × XT) := m_nm ((8 : Int32) * v1) fun y_1 => m_nm ((16 : Int32) + y_1) fun y_3 => m_nm (y_3 + v2) fun y_5 => m_gd (m_in y_5 1816) <| m_nm (X 1 (Int32.toNatClampNeg y_5)) fun y_7 => some (y_7, X)
set_option maxHeartbeats 4000000 in
set_option maxRecDepth 100000 in
theorem c_X8_of (l : Launch) (D : va_G) (a : Nat → Nat) (cy : Nat → ClassId) (hG : m_inj 6 a) (N : Nat) (v1 : Int32) (v2 : Int32) (X : XT) {r0 : Int32} {X0 : XT} (hf0 : f_X8_of N v1 v2 X = some (r0, X0)) : Met l yX8_of (Cond.code yX8_of cX8_of 3 (some .int) :: m_tbl) rm_X8_of (va_Pc [.ref (a 0), .int v1, .int v2] (m_PX D (m_tc cy) (m_WM a cy) m_ZM X)) (m_QI D (m_WM a cy) (m_AM a) r0 X0) 0 0 (m_AM a) := by
  refine m_met (own := RX8) hy_X8_of rfl (Nat.le_of_ble_eq_true rfl) (m_wl_D hG _) m_ZM_keep ?_
  intro p e s m args below meth c C ls hl hP hS
  have hx := C.1.1
  have hb := C.1.2.1
  have hl : lv_has ls 3 [(0, .ref (a 0)), (1, .int v1), (2, .int v2)] := hl
  unfold f_X8_of at hf0
  suffices K : ∀ (H : Heap) (locs : List Loc), va_P D vwCl (m_WM a cy X) H → va_S (m_AM a) s.heap H locs → W p l e rm_X8_of s m args below meth c H locs 0 0 (MQ below (m_QI D (m_WM a cy) (m_AM a) r0 X0) args s 0 0 (m_AM a)) (F0 m 0 ls []) from K _ _ hP hS
  clear hP hS
  intro H locs hP hS
  refine lv_aload_n hx hb dX8_of_0 rfl (lv_at hl 0 rfl) ?_
  refine m_get C hP mM_0 rfl inX8 0 (by decide) wf_X8_7 rfl dX8_of_1 ?_
  refine lv_bipush (v := 16) hx hb dX8_of_4 (by decide) ?_
  refine lv_bipush (v := 8) hx hb dX8_of_6 (by decide) ?_
  refine lv_iload_n hx hb dX8_of_8 rfl (lv_at hl 1 rfl) ?_
  refine lv_imul hx hb dX8_of_9 ?_
  refine lv_topi (fun y_1 e_1 => ?_)
  have hf2 := m_nm_s e_1 hf0
  clear hf0
  refine lv_iadd hx hb dX8_of_10 ?_
  refine lv_topi (fun y_3 e_3 => ?_)
  have hf4 := m_nm_s e_3 hf2
  clear hf2
  refine lv_iload_n hx hb dX8_of_11 rfl (lv_at hl 2 rfl) ?_
  refine lv_iadd hx hb dX8_of_12 ?_
  refine lv_topi (fun y_5 e_5 => ?_)
  have hf6 := m_nm_s e_5 hf4
  clear hf4
  obtain ⟨g_7, hf8⟩ := m_gd_s hf6
  clear hf6
  refine m_ild C hP mM_1 0 rfl g_7 dX8_of_13 (fun y_7 e_7 => ?_)
  have hf9 := m_nm_s e_7 hf8
  clear hf8
  exact m_iret C hP hS dX8_of_14 hf9
abbrev rm_X8_setOf : Room := { frames := 0, cells := 0, slots := 0, locals := 0 }
def f_X8_setOf (N : Nat) (v1 : Int32) (v2 : Int32) (v3 : Int32) (X : XT) : Option XT := m_nm ((8 : Int32) * v1) fun y_1 => m_nm ((16 : Int32) + y_1) fun y_3 => m_nm (y_3 + v2) fun y_5 => m_gd (m_in y_5 1816) <| m_nm (m_up X 1 (upd (X 1) (Int32.toNatClampNeg y_5) v3)) fun X_7 => some X_7
set_option maxHeartbeats 4000000 in
set_option maxRecDepth 100000 in
theorem c_X8_setOf (l : Launch) (D : va_G) (a : Nat → Nat) (cy : Nat → ClassId) (hG : m_inj 6 a) (N : Nat) (v1 : Int32) (v2 : Int32) (v3 : Int32) (X : XT) {X0 : XT} (hf0 : f_X8_setOf N v1 v2 v3 X = some X0) : Met l yX8_setOf (Cond.code yX8_setOf cX8_setOf 4 none :: m_tbl) rm_X8_setOf (va_Pc [.ref (a 0), .int v1, .int v2, .int v3] (m_PX D (m_tc cy) (m_WM a cy) m_ZM X)) (m_QV D (m_WM a cy) (m_AM a) X0) 0 0 (m_AM a) := by
  refine m_met (own := RX8) hy_X8_setOf rfl (Nat.le_of_ble_eq_true rfl) (m_wl_D hG _) m_ZM_keep ?_
  intro p e s m args below meth c C ls hl hP hS
  have hx := C.1.1
  have hb := C.1.2.1
  have hl : lv_has ls 4 [(0, .ref (a 0)), (1, .int v1), (2, .int v2), (3, .int v3)] := hl
  unfold f_X8_setOf at hf0
  suffices K : ∀ (H : Heap) (locs : List Loc), va_P D vwCl (m_WM a cy X) H → va_S (m_AM a) s.heap H locs → W p l e rm_X8_setOf s m args below meth c H locs 0 0 (MQ below (m_QV D (m_WM a cy) (m_AM a) X0) args s 0 0 (m_AM a)) (F0 m 0 ls []) from K _ _ hP hS
  clear hP hS
  intro H locs hP hS
  refine lv_aload_n hx hb dX8_setOf_0 rfl (lv_at hl 0 rfl) ?_
  refine m_get C hP mM_0 rfl inX8 0 (by decide) wf_X8_7 rfl dX8_setOf_1 ?_
  refine lv_bipush (v := 16) hx hb dX8_setOf_4 (by decide) ?_
  refine lv_bipush (v := 8) hx hb dX8_setOf_6 (by decide) ?_
  refine lv_iload_n hx hb dX8_setOf_8 rfl (lv_at hl 1 rfl) ?_
  refine lv_imul hx hb dX8_setOf_9 ?_
  refine lv_topi (fun y_1 e_1 => ?_)
  have hf2 := m_nm_s e_1 hf0
  clear hf0
  refine lv_iadd hx hb dX8_setOf_10 ?_
  refine lv_topi (fun y_3 e_3 => ?_)
  have hf4 := m_nm_s e_3 hf2
  clear hf2
  refine lv_iload_n hx hb dX8_setOf_11 rfl (lv_at hl 2 rfl) ?_
  refine lv_iadd hx hb dX8_setOf_12 ?_
  refine lv_topi (fun y_5 e_5 => ?_)
  have hf6 := m_nm_s e_5 hf4
  clear hf4
  refine lv_iload_n hx hb dX8_setOf_13 rfl (lv_at hl 3 rfl) ?_
  obtain ⟨g_7, hf8⟩ := m_gd_s hf6
  clear hf6
  refine m_ist C hP hS mM_1 0 rfl g_7 mMs_1 dX8_setOf_14 (fun X_7 e_7 H locs hP hS => ?_)
  have hf9 := m_nm_s e_7 hf8
  clear hf8
  exact m_vret C hP hS dX8_setOf_15 hf9
abbrev rm_X8_ofGroup : Room := { frames := 0, cells := 0, slots := 0, locals := 0 }
def f_X8_ofGroup (N : Nat) (v1 : Int32) (v2 : Int32) (X : XT) : Option (Int32 × XT) := m_nm ((4 : Int32) * v1) fun y_1 => m_nm ((1216 : Int32) + y_1) fun y_3 => m_nm (y_3 + v2) fun y_5 => m_gd (m_in y_5 1816) <| m_nm (X 1 (Int32.toNatClampNeg y_5)) fun y_7 => some (y_7, X)
set_option maxHeartbeats 4000000 in
set_option maxRecDepth 100000 in
theorem c_X8_ofGroup (l : Launch) (D : va_G) (a : Nat → Nat) (cy : Nat → ClassId) (hG : m_inj 6 a) (N : Nat) (v1 : Int32) (v2 : Int32) (X : XT) {r0 : Int32} {X0 : XT} (hf0 : f_X8_ofGroup N v1 v2 X = some (r0, X0)) : Met l yX8_ofGroup (Cond.code yX8_ofGroup cX8_ofGroup 3 (some .int) :: m_tbl) rm_X8_ofGroup (va_Pc [.ref (a 0), .int v1, .int v2] (m_PX D (m_tc cy) (m_WM a cy) m_ZM X)) (m_QI D (m_WM a cy) (m_AM a) r0 X0) 0 0 (m_AM a) := by
  refine m_met (own := RX8) hy_X8_ofGroup rfl (Nat.le_of_ble_eq_true rfl) (m_wl_D hG _) m_ZM_keep ?_
  intro p e s m args below meth c C ls hl hP hS
  have hx := C.1.1
  have hb := C.1.2.1
  have hl : lv_has ls 3 [(0, .ref (a 0)), (1, .int v1), (2, .int v2)] := hl
  unfold f_X8_ofGroup at hf0
  suffices K : ∀ (H : Heap) (locs : List Loc), va_P D vwCl (m_WM a cy X) H → va_S (m_AM a) s.heap H locs → W p l e rm_X8_ofGroup s m args below meth c H locs 0 0 (MQ below (m_QI D (m_WM a cy) (m_AM a) r0 X0) args s 0 0 (m_AM a)) (F0 m 0 ls []) from K _ _ hP hS
  clear hP hS
  intro H locs hP hS
  refine lv_aload_n hx hb dX8_ofGroup_0 rfl (lv_at hl 0 rfl) ?_
  refine m_get C hP mM_0 rfl inX8 0 (by decide) wf_X8_7 rfl dX8_ofGroup_1 ?_
  refine lv_sipush (v := 1216) hx hb dX8_ofGroup_4 (by decide) ?_
  refine lv_iconst (v := 4) hx hb dX8_ofGroup_7 (by decide) ?_
  refine lv_iload_n hx hb dX8_ofGroup_8 rfl (lv_at hl 1 rfl) ?_
  refine lv_imul hx hb dX8_ofGroup_9 ?_
  refine lv_topi (fun y_1 e_1 => ?_)
  have hf2 := m_nm_s e_1 hf0
  clear hf0
  refine lv_iadd hx hb dX8_ofGroup_10 ?_
  refine lv_topi (fun y_3 e_3 => ?_)
  have hf4 := m_nm_s e_3 hf2
  clear hf2
  refine lv_iload_n hx hb dX8_ofGroup_11 rfl (lv_at hl 2 rfl) ?_
  refine lv_iadd hx hb dX8_ofGroup_12 ?_
  refine lv_topi (fun y_5 e_5 => ?_)
  have hf6 := m_nm_s e_5 hf4
  clear hf4
  obtain ⟨g_7, hf8⟩ := m_gd_s hf6
  clear hf6
  refine m_ild C hP mM_1 0 rfl g_7 dX8_ofGroup_13 (fun y_7 e_7 => ?_)
  have hf9 := m_nm_s e_7 hf8
  clear hf8
  exact m_iret C hP hS dX8_ofGroup_14 hf9
abbrev rm_X8_setGroup : Room := { frames := 0, cells := 0, slots := 0, locals := 0 }
def f_X8_setGroup (N : Nat) (v1 : Int32) (v2 : Int32) (v3 : Int32) (X : XT) : Option XT := m_nm ((4 : Int32) * v1) fun y_1 => m_nm ((1216 : Int32) + y_1) fun y_3 => m_nm (y_3 + v2) fun y_5 => m_gd (m_in y_5 1816) <| m_nm (m_up X 1 (upd (X 1) (Int32.toNatClampNeg y_5) v3)) fun X_7 => some X_7
set_option maxHeartbeats 4000000 in
set_option maxRecDepth 100000 in
theorem c_X8_setGroup (l : Launch) (D : va_G) (a : Nat → Nat) (cy : Nat → ClassId) (hG : m_inj 6 a) (N : Nat) (v1 : Int32) (v2 : Int32) (v3 : Int32) (X : XT) {X0 : XT} (hf0 : f_X8_setGroup N v1 v2 v3 X = some X0) : Met l yX8_setGroup (Cond.code yX8_setGroup cX8_setGroup 4 none :: m_tbl) rm_X8_setGroup (va_Pc [.ref (a 0), .int v1, .int v2, .int v3] (m_PX D (m_tc cy) (m_WM a cy) m_ZM X)) (m_QV D (m_WM a cy) (m_AM a) X0) 0 0 (m_AM a) := by
  refine m_met (own := RX8) hy_X8_setGroup rfl (Nat.le_of_ble_eq_true rfl) (m_wl_D hG _) m_ZM_keep ?_
  intro p e s m args below meth c C ls hl hP hS
  have hx := C.1.1
  have hb := C.1.2.1
  have hl : lv_has ls 4 [(0, .ref (a 0)), (1, .int v1), (2, .int v2), (3, .int v3)] := hl
  unfold f_X8_setGroup at hf0
  suffices K : ∀ (H : Heap) (locs : List Loc), va_P D vwCl (m_WM a cy X) H → va_S (m_AM a) s.heap H locs → W p l e rm_X8_setGroup s m args below meth c H locs 0 0 (MQ below (m_QV D (m_WM a cy) (m_AM a) X0) args s 0 0 (m_AM a)) (F0 m 0 ls []) from K _ _ hP hS
  clear hP hS
  intro H locs hP hS
  refine lv_aload_n hx hb dX8_setGroup_0 rfl (lv_at hl 0 rfl) ?_
  refine m_get C hP mM_0 rfl inX8 0 (by decide) wf_X8_7 rfl dX8_setGroup_1 ?_
  refine lv_sipush (v := 1216) hx hb dX8_setGroup_4 (by decide) ?_
  refine lv_iconst (v := 4) hx hb dX8_setGroup_7 (by decide) ?_
  refine lv_iload_n hx hb dX8_setGroup_8 rfl (lv_at hl 1 rfl) ?_
  refine lv_imul hx hb dX8_setGroup_9 ?_
  refine lv_topi (fun y_1 e_1 => ?_)
  have hf2 := m_nm_s e_1 hf0
  clear hf0
  refine lv_iadd hx hb dX8_setGroup_10 ?_
  refine lv_topi (fun y_3 e_3 => ?_)
  have hf4 := m_nm_s e_3 hf2
  clear hf2
  refine lv_iload_n hx hb dX8_setGroup_11 rfl (lv_at hl 2 rfl) ?_
  refine lv_iadd hx hb dX8_setGroup_12 ?_
  refine lv_topi (fun y_5 e_5 => ?_)
  have hf6 := m_nm_s e_5 hf4
  clear hf4
  refine lv_iload_n hx hb dX8_setGroup_13 rfl (lv_at hl 3 rfl) ?_
  obtain ⟨g_7, hf8⟩ := m_gd_s hf6
  clear hf6
  refine m_ist C hP hS mM_1 0 rfl g_7 mMs_1 dX8_setGroup_14 (fun X_7 e_7 H locs hP hS => ?_)
  have hf9 := m_nm_s e_7 hf8
  clear hf8
  exact m_vret C hP hS dX8_setGroup_15 hf9
abbrev rm_X8_record : Room := { frames := 0, cells := 0, slots := 0, locals := 0 }
def f_X8_record_85 (N : Nat) (X : XT) : Option XT := m_nm ((X 0 3) + 1) fun y_7 => m_nm (m_up X 0 (upd (X 0) 3 y_7)) fun X_9 => some X_9
set_option maxHeartbeats 4000000 in
set_option maxRecDepth 100000 in
theorem w_X8_record_85 (l : Launch) (D : va_G) (a : Nat → Nat) (cy : Nat → ClassId) (hG : m_inj 6 a) (N : Nat) {p : Program} {e : Env} {s : State} {m : MethodId} {args : Array Value} {below : List Frame} {meth : Method} {c : Code} (C : m_Cx p s m args meth c cX8_record 2 RX8 none (Cond.code yX8_record cX8_record 2 none) D (m_tc cy) (m_AM a) (m_WM a cy) m_ZM) {X0 : XT} (X : XT) (hf0 : f_X8_record_85 N X = some X0) : ∀ (H : Heap) (locs : List Loc) (ls : Array Slot), va_P D vwCl (m_WM a cy X) H → va_S (m_AM a) s.heap H locs → lv_has ls 2 [(0, .ref (a 0))] → W p l e rm_X8_record s m args below meth c H locs 0 0 (MQ below (m_QV D (m_WM a cy) (m_AM a) X0) args s 0 0 (m_AM a)) (F0 m 85 ls []) := by
  have hx := C.1.1
  have hb := C.1.2.1
  intro H locs ls hP hS hl
  unfold f_X8_record_85 at hf0
  refine lv_aload_n hx hb dX8_record_85 rfl (lv_at hl 0 rfl) ?_
  refine lv_dup hx hb dX8_record_86 rfl ?_
  refine m_get C hP mM_0 rfl inX8 3 (by decide) wf_X8_29 rfl dX8_record_87 ?_
  refine lv_iconst (v := 1) hx hb dX8_record_90 (by decide) ?_
  refine lv_iadd hx hb dX8_record_91 ?_
  refine lv_topi (fun y_7 e_7 => ?_)
  have hf8 := m_nm_s e_7 hf0
  clear hf0
  refine m_put C hP hS mM_0 rfl inX8 tyX8_ok nmX8 3 (by decide) wf_X8_29 rfl rfl rfl (Nat.le_of_ble_eq_true rfl) mM_0_3 dX8_record_92 (fun X_9 e_9 H locs hP hS => ?_)
  have hf10 := m_nm_s e_9 hf8
  clear hf8
  exact m_vret C hP hS dX8_record_95 hf10
def f_X8_record_51 (N : Nat) : Nat → Int32 → XT → Option XT
  | 0, _, _ => none
  | n + 1, v1, X => if 1816 ≤ v1 then (f_X8_record_85 N  X) else (m_nm ((X 0 3) * 1816) fun y_11 => m_nm (y_11 + v1) fun y_13 => m_gd (m_in v1 1816) <| m_nm (X 1 (Int32.toNatClampNeg v1)) fun y_15 => m_gd (m_in y_13 7264) <| m_nm (m_up X 3 (upd (X 3) (Int32.toNatClampNeg y_13) y_15)) fun X_18 => m_nm (v1 + 1) fun y_21 => f_X8_record_51 N n y_21 X_18)
set_option maxHeartbeats 4000000 in
set_option maxRecDepth 100000 in
theorem w_X8_record_51 (l : Launch) (D : va_G) (a : Nat → Nat) (cy : Nat → ClassId) (hG : m_inj 6 a) (N : Nat) {p : Program} {e : Env} {s : State} {m : MethodId} {args : Array Value} {below : List Frame} {meth : Method} {c : Code} (C : m_Cx p s m args meth c cX8_record 2 RX8 none (Cond.code yX8_record cX8_record 2 none) D (m_tc cy) (m_AM a) (m_WM a cy) m_ZM) {X0 : XT} : ∀ (n : Nat) (v1 : Int32) (X : XT), f_X8_record_51 N n v1 X = some X0 → ∀ (H : Heap) (locs : List Loc) (ls : Array Slot), va_P D vwCl (m_WM a cy X) H → va_S (m_AM a) s.heap H locs → lv_has ls 2 [(0, .ref (a 0)), (1, .int v1)] → W p l e rm_X8_record s m args below meth c H locs 0 0 (MQ below (m_QV D (m_WM a cy) (m_AM a) X0) args s 0 0 (m_AM a)) (F0 m 51 ls []) := by
  have hx := C.1.1
  have hb := C.1.2.1
  intro n
  induction n with
  | zero => intro v1 X hf0; rw [f_X8_record_51] at hf0; cases hf0
  | succ n ih =>
    intro v1 X hf0 H locs ls hP hS hl
    rw [f_X8_record_51] at hf0
    refine lv_iload_n hx hb dX8_record_51 rfl (lv_at hl 1 rfl) ?_
    refine lv_sipush (v := 1816) hx hb dX8_record_52 (by decide) ?_
    refine lv_icmp_ge (tgt := 85) hx hb dX8_record_55 (by decide) (fun c_4 => ?_) (fun c_4 => ?_)
    · have hf5 := m_it c_4 hf0
      clear hf0
      exact w_X8_record_85 l D a cy hG N C  _ hf5 H locs ls hP hS (lv_sub hl [0] rfl)
    · have hf6 := m_ie c_4 hf0
      clear hf0
      refine lv_aload_n hx hb dX8_record_58 rfl (lv_at hl 0 rfl) ?_
      refine m_get C hP mM_0 rfl inX8 2 (by decide) wf_X8_16 rfl dX8_record_59 ?_
      refine lv_aload_n hx hb dX8_record_62 rfl (lv_at hl 0 rfl) ?_
      refine m_get C hP mM_0 rfl inX8 3 (by decide) wf_X8_29 rfl dX8_record_63 ?_
      refine lv_sipush (v := 1816) hx hb dX8_record_66 (by decide) ?_
      refine lv_imul hx hb dX8_record_69 ?_
      refine lv_topi (fun y_11 e_11 => ?_)
      have hf12 := m_nm_s e_11 hf6
      clear hf6
      refine lv_iload_n hx hb dX8_record_70 rfl (lv_at hl 1 rfl) ?_
      refine lv_iadd hx hb dX8_record_71 ?_
      refine lv_topi (fun y_13 e_13 => ?_)
      have hf14 := m_nm_s e_13 hf12
      clear hf12
      refine lv_aload_n hx hb dX8_record_72 rfl (lv_at hl 0 rfl) ?_
      refine m_get C hP mM_0 rfl inX8 0 (by decide) wf_X8_7 rfl dX8_record_73 ?_
      refine lv_iload_n hx hb dX8_record_76 rfl (lv_at hl 1 rfl) ?_
      obtain ⟨g_15, hf16⟩ := m_gd_s hf14
      clear hf14
      refine m_ild C hP mM_1 0 rfl g_15 dX8_record_77 (fun y_15 e_15 => ?_)
      have hf17 := m_nm_s e_15 hf16
      clear hf16
      obtain ⟨g_18, hf19⟩ := m_gd_s hf17
      clear hf17
      refine m_ist C hP hS mM_3 0 rfl g_18 mMs_3 dX8_record_78 (fun X_18 e_18 H locs hP hS => ?_)
      have hf20 := m_nm_s e_18 hf19
      clear hf19
      obtain ⟨y_21, e_21⟩ : ∃ y : Int32, y = v1 + 1 := ⟨_, rfl⟩
      refine lv_iinc (v := y_21) (lv' := [(1, .int y_21), (0, .ref (a 0))]) hx hb dX8_record_79 hl (k := 1) rfl (by rw [e_21]; rfl) (by decide) rfl (fun ls hl => ?_)
      have hf22 := m_nm_s e_21 hf20
      clear hf20
      refine lv_goto (tgt := 51) hx hb dX8_record_82 (by decide) ?_
      exact ih _ _ hf22 H locs ls hP hS (lv_sub hl [1, 0] rfl)
def f_X8_record_39 (N : Nat) (X : XT) : Option XT := m_nm ((X 0 3) - 1) fun y_26 => m_nm (m_up X 0 (upd (X 0) 3 y_26)) fun X_28 => f_X8_record_51 N N 0 X_28
set_option maxHeartbeats 4000000 in
set_option maxRecDepth 100000 in
theorem w_X8_record_39 (l : Launch) (D : va_G) (a : Nat → Nat) (cy : Nat → ClassId) (hG : m_inj 6 a) (N : Nat) {p : Program} {e : Env} {s : State} {m : MethodId} {args : Array Value} {below : List Frame} {meth : Method} {c : Code} (C : m_Cx p s m args meth c cX8_record 2 RX8 none (Cond.code yX8_record cX8_record 2 none) D (m_tc cy) (m_AM a) (m_WM a cy) m_ZM) {X0 : XT} (X : XT) (hf0 : f_X8_record_39 N X = some X0) : ∀ (H : Heap) (locs : List Loc) (ls : Array Slot), va_P D vwCl (m_WM a cy X) H → va_S (m_AM a) s.heap H locs → lv_has ls 2 [(0, .ref (a 0))] → W p l e rm_X8_record s m args below meth c H locs 0 0 (MQ below (m_QV D (m_WM a cy) (m_AM a) X0) args s 0 0 (m_AM a)) (F0 m 39 ls []) := by
  have hx := C.1.1
  have hb := C.1.2.1
  intro H locs ls hP hS hl
  unfold f_X8_record_39 at hf0
  refine lv_aload_n hx hb dX8_record_39 rfl (lv_at hl 0 rfl) ?_
  refine lv_dup hx hb dX8_record_40 rfl ?_
  refine m_get C hP mM_0 rfl inX8 3 (by decide) wf_X8_29 rfl dX8_record_41 ?_
  refine lv_iconst (v := 1) hx hb dX8_record_44 (by decide) ?_
  refine lv_isub hx hb dX8_record_45 ?_
  refine lv_topi (fun y_26 e_26 => ?_)
  have hf27 := m_nm_s e_26 hf0
  clear hf0
  refine m_put C hP hS mM_0 rfl inX8 tyX8_ok nmX8 3 (by decide) wf_X8_29 rfl rfl rfl (Nat.le_of_ble_eq_true rfl) mM_0_3 dX8_record_46 (fun X_28 e_28 H locs hP hS => ?_)
  have hf29 := m_nm_s e_28 hf27
  clear hf27
  refine lv_iconst (v := 0) hx hb dX8_record_49 (by decide) ?_
  refine lv_istore_n (lv' := [(1, .int 0), (0, .ref (a 0))]) hx hb dX8_record_50 rfl hl (by decide) rfl (fun ls hl => ?_)
  exact w_X8_record_51 l D a cy hG N C _ _ _ hf29 H locs ls hP hS (lv_sub hl [1, 0] rfl)
def f_X8_record_10 (N : Nat) : Nat → Int32 → XT → Option XT
  | 0, _, _ => none
  | n + 1, v1, X => if 5448 ≤ v1 then (f_X8_record_39 N  X) else (m_nm (v1 + 1816) fun y_30 => m_gd (m_in y_30 7264) <| m_nm (X 3 (Int32.toNatClampNeg y_30)) fun y_32 => m_gd (m_in v1 7264) <| m_nm (m_up X 3 (upd (X 3) (Int32.toNatClampNeg v1) y_32)) fun X_35 => m_nm (v1 + 1) fun y_38 => f_X8_record_10 N n y_38 X_35)
set_option maxHeartbeats 4000000 in
set_option maxRecDepth 100000 in
theorem w_X8_record_10 (l : Launch) (D : va_G) (a : Nat → Nat) (cy : Nat → ClassId) (hG : m_inj 6 a) (N : Nat) {p : Program} {e : Env} {s : State} {m : MethodId} {args : Array Value} {below : List Frame} {meth : Method} {c : Code} (C : m_Cx p s m args meth c cX8_record 2 RX8 none (Cond.code yX8_record cX8_record 2 none) D (m_tc cy) (m_AM a) (m_WM a cy) m_ZM) {X0 : XT} : ∀ (n : Nat) (v1 : Int32) (X : XT), f_X8_record_10 N n v1 X = some X0 → ∀ (H : Heap) (locs : List Loc) (ls : Array Slot), va_P D vwCl (m_WM a cy X) H → va_S (m_AM a) s.heap H locs → lv_has ls 2 [(0, .ref (a 0)), (1, .int v1)] → W p l e rm_X8_record s m args below meth c H locs 0 0 (MQ below (m_QV D (m_WM a cy) (m_AM a) X0) args s 0 0 (m_AM a)) (F0 m 10 ls []) := by
  have hx := C.1.1
  have hb := C.1.2.1
  intro n
  induction n with
  | zero => intro v1 X hf0; rw [f_X8_record_10] at hf0; cases hf0
  | succ n ih =>
    intro v1 X hf0 H locs ls hP hS hl
    rw [f_X8_record_10] at hf0
    refine lv_iload_n hx hb dX8_record_10 rfl (lv_at hl 1 rfl) ?_
    refine lv_sipush (v := 5448) hx hb dX8_record_11 (by decide) ?_
    refine lv_icmp_ge (tgt := 39) hx hb dX8_record_14 (by decide) (fun c_23 => ?_) (fun c_23 => ?_)
    · have hf24 := m_it c_23 hf0
      clear hf0
      exact w_X8_record_39 l D a cy hG N C  _ hf24 H locs ls hP hS (lv_sub hl [0] rfl)
    · have hf25 := m_ie c_23 hf0
      clear hf0
      refine lv_aload_n hx hb dX8_record_17 rfl (lv_at hl 0 rfl) ?_
      refine m_get C hP mM_0 rfl inX8 2 (by decide) wf_X8_16 rfl dX8_record_18 ?_
      refine lv_iload_n hx hb dX8_record_21 rfl (lv_at hl 1 rfl) ?_
      refine lv_aload_n hx hb dX8_record_22 rfl (lv_at hl 0 rfl) ?_
      refine m_get C hP mM_0 rfl inX8 2 (by decide) wf_X8_16 rfl dX8_record_23 ?_
      refine lv_iload_n hx hb dX8_record_26 rfl (lv_at hl 1 rfl) ?_
      refine lv_sipush (v := 1816) hx hb dX8_record_27 (by decide) ?_
      refine lv_iadd hx hb dX8_record_30 ?_
      refine lv_topi (fun y_30 e_30 => ?_)
      have hf31 := m_nm_s e_30 hf25
      clear hf25
      obtain ⟨g_32, hf33⟩ := m_gd_s hf31
      clear hf31
      refine m_ild C hP mM_3 0 rfl g_32 dX8_record_31 (fun y_32 e_32 => ?_)
      have hf34 := m_nm_s e_32 hf33
      clear hf33
      obtain ⟨g_35, hf36⟩ := m_gd_s hf34
      clear hf34
      refine m_ist C hP hS mM_3 0 rfl g_35 mMs_3 dX8_record_32 (fun X_35 e_35 H locs hP hS => ?_)
      have hf37 := m_nm_s e_35 hf36
      clear hf36
      obtain ⟨y_38, e_38⟩ : ∃ y : Int32, y = v1 + 1 := ⟨_, rfl⟩
      refine lv_iinc (v := y_38) (lv' := [(1, .int y_38), (0, .ref (a 0))]) hx hb dX8_record_33 hl (k := 1) rfl (by rw [e_38]; rfl) (by decide) rfl (fun ls hl => ?_)
      have hf39 := m_nm_s e_38 hf37
      clear hf37
      refine lv_goto (tgt := 10) hx hb dX8_record_36 (by decide) ?_
      exact ih _ _ hf39 H locs ls hP hS (lv_sub hl [1, 0] rfl)
def f_X8_record (N : Nat) (X : XT) : Option XT := if (X 0 3) = 4 then (f_X8_record_10 N N 0 X) else (f_X8_record_51 N N 0 X)
set_option maxHeartbeats 4000000 in
set_option maxRecDepth 100000 in
theorem c_X8_record (l : Launch) (D : va_G) (a : Nat → Nat) (cy : Nat → ClassId) (hG : m_inj 6 a) (N : Nat) (X : XT) {X0 : XT} (hf0 : f_X8_record N X = some X0) : Met l yX8_record (Cond.code yX8_record cX8_record 2 none :: m_tbl) rm_X8_record (va_Pc [.ref (a 0)] (m_PX D (m_tc cy) (m_WM a cy) m_ZM X)) (m_QV D (m_WM a cy) (m_AM a) X0) 0 0 (m_AM a) := by
  refine m_met (own := RX8) hy_X8_record rfl (Nat.le_of_ble_eq_true rfl) (m_wl_D hG _) m_ZM_keep ?_
  intro p e s m args below meth c C ls hl hP hS
  have hx := C.1.1
  have hb := C.1.2.1
  have hl : lv_has ls 2 [(0, .ref (a 0))] := hl
  unfold f_X8_record at hf0
  suffices K : ∀ (H : Heap) (locs : List Loc), va_P D vwCl (m_WM a cy X) H → va_S (m_AM a) s.heap H locs → W p l e rm_X8_record s m args below meth c H locs 0 0 (MQ below (m_QV D (m_WM a cy) (m_AM a) X0) args s 0 0 (m_AM a)) (F0 m 0 ls []) from K _ _ hP hS
  clear hP hS
  intro H locs hP hS
  refine lv_aload_n hx hb dX8_record_0 rfl (lv_at hl 0 rfl) ?_
  refine m_get C hP mM_0 rfl inX8 3 (by decide) wf_X8_29 rfl dX8_record_1 ?_
  refine lv_iconst (v := 4) hx hb dX8_record_4 (by decide) ?_
  refine lv_icmp_ne (tgt := 49) hx hb dX8_record_5 (by decide) (fun c_1 => ?_) (fun c_1 => ?_)
  · have hf2 := m_ie c_1 hf0
    clear hf0
    refine lv_iconst (v := 0) hx hb dX8_record_49 (by decide) ?_
    refine lv_istore_n (lv' := [(1, .int 0), (0, .ref (a 0))]) hx hb dX8_record_50 rfl hl (by decide) rfl (fun ls hl => ?_)
    exact w_X8_record_51 l D a cy hG N C _ _ _ hf2 H locs ls hP hS (lv_sub hl [1, 0] rfl)
  · have hf3 := m_it c_1 hf0
    clear hf0
    refine lv_iconst (v := 0) hx hb dX8_record_8 (by decide) ?_
    refine lv_istore_n (lv' := [(1, .int 0), (0, .ref (a 0))]) hx hb dX8_record_9 rfl hl (by decide) rfl (fun ls hl => ?_)
    exact w_X8_record_10 l D a cy hG N C _ _ _ hf3 H locs ls hP hS (lv_sub hl [1, 0] rfl)
abbrev rm_X8_undo : Room := { frames := 0, cells := 0, slots := 0, locals := 0 }
def f_X8_undo_22 (N : Nat) : Nat → Int32 → XT → Option (Int32 × XT)
  | 0, _, _ => none
  | n + 1, v1, X => if 1816 ≤ v1 then (some ((X 0 3), X)) else (m_nm ((X 0 3) * 1816) fun y_11 => m_nm (y_11 + v1) fun y_13 => m_gd (m_in y_13 7264) <| m_nm (X 3 (Int32.toNatClampNeg y_13)) fun y_15 => m_gd (m_in v1 1816) <| m_nm (m_up X 1 (upd (X 1) (Int32.toNatClampNeg v1) y_15)) fun X_18 => m_nm (v1 + 1) fun y_21 => f_X8_undo_22 N n y_21 X_18)
set_option maxHeartbeats 4000000 in
set_option maxRecDepth 100000 in
theorem w_X8_undo_22 (l : Launch) (D : va_G) (a : Nat → Nat) (cy : Nat → ClassId) (hG : m_inj 6 a) (N : Nat) {p : Program} {e : Env} {s : State} {m : MethodId} {args : Array Value} {below : List Frame} {meth : Method} {c : Code} (C : m_Cx p s m args meth c cX8_undo 2 RX8 (some .int) (Cond.code yX8_undo cX8_undo 2 (some .int)) D (m_tc cy) (m_AM a) (m_WM a cy) m_ZM) {r0 : Int32} {X0 : XT} : ∀ (n : Nat) (v1 : Int32) (X : XT), f_X8_undo_22 N n v1 X = some (r0, X0) → ∀ (H : Heap) (locs : List Loc) (ls : Array Slot), va_P D vwCl (m_WM a cy X) H → va_S (m_AM a) s.heap H locs → lv_has ls 2 [(0, .ref (a 0)), (1, .int v1)] → W p l e rm_X8_undo s m args below meth c H locs 0 0 (MQ below (m_QI D (m_WM a cy) (m_AM a) r0 X0) args s 0 0 (m_AM a)) (F0 m 22 ls []) := by
  have hx := C.1.1
  have hb := C.1.2.1
  intro n
  induction n with
  | zero => intro v1 X hf0; rw [f_X8_undo_22] at hf0; cases hf0
  | succ n ih =>
    intro v1 X hf0 H locs ls hP hS hl
    rw [f_X8_undo_22] at hf0
    refine lv_iload_n hx hb dX8_undo_22 rfl (lv_at hl 1 rfl) ?_
    refine lv_sipush (v := 1816) hx hb dX8_undo_23 (by decide) ?_
    refine lv_icmp_ge (tgt := 56) hx hb dX8_undo_26 (by decide) (fun c_8 => ?_) (fun c_8 => ?_)
    · have hf9 := m_it c_8 hf0
      clear hf0
      refine lv_aload_n hx hb dX8_undo_56 rfl (lv_at hl 0 rfl) ?_
      refine m_get C hP mM_0 rfl inX8 3 (by decide) wf_X8_29 rfl dX8_undo_57 ?_
      exact m_iret C hP hS dX8_undo_60 hf9
    · have hf10 := m_ie c_8 hf0
      clear hf0
      refine lv_aload_n hx hb dX8_undo_29 rfl (lv_at hl 0 rfl) ?_
      refine m_get C hP mM_0 rfl inX8 0 (by decide) wf_X8_7 rfl dX8_undo_30 ?_
      refine lv_iload_n hx hb dX8_undo_33 rfl (lv_at hl 1 rfl) ?_
      refine lv_aload_n hx hb dX8_undo_34 rfl (lv_at hl 0 rfl) ?_
      refine m_get C hP mM_0 rfl inX8 2 (by decide) wf_X8_16 rfl dX8_undo_35 ?_
      refine lv_aload_n hx hb dX8_undo_38 rfl (lv_at hl 0 rfl) ?_
      refine m_get C hP mM_0 rfl inX8 3 (by decide) wf_X8_29 rfl dX8_undo_39 ?_
      refine lv_sipush (v := 1816) hx hb dX8_undo_42 (by decide) ?_
      refine lv_imul hx hb dX8_undo_45 ?_
      refine lv_topi (fun y_11 e_11 => ?_)
      have hf12 := m_nm_s e_11 hf10
      clear hf10
      refine lv_iload_n hx hb dX8_undo_46 rfl (lv_at hl 1 rfl) ?_
      refine lv_iadd hx hb dX8_undo_47 ?_
      refine lv_topi (fun y_13 e_13 => ?_)
      have hf14 := m_nm_s e_13 hf12
      clear hf12
      obtain ⟨g_15, hf16⟩ := m_gd_s hf14
      clear hf14
      refine m_ild C hP mM_3 0 rfl g_15 dX8_undo_48 (fun y_15 e_15 => ?_)
      have hf17 := m_nm_s e_15 hf16
      clear hf16
      obtain ⟨g_18, hf19⟩ := m_gd_s hf17
      clear hf17
      refine m_ist C hP hS mM_1 0 rfl g_18 mMs_1 dX8_undo_49 (fun X_18 e_18 H locs hP hS => ?_)
      have hf20 := m_nm_s e_18 hf19
      clear hf19
      obtain ⟨y_21, e_21⟩ : ∃ y : Int32, y = v1 + 1 := ⟨_, rfl⟩
      refine lv_iinc (v := y_21) (lv' := [(1, .int y_21), (0, .ref (a 0))]) hx hb dX8_undo_50 hl (k := 1) rfl (by rw [e_21]; rfl) (by decide) rfl (fun ls hl => ?_)
      have hf22 := m_nm_s e_21 hf20
      clear hf20
      refine lv_goto (tgt := 22) hx hb dX8_undo_53 (by decide) ?_
      exact ih _ _ hf22 H locs ls hP hS (lv_sub hl [1, 0] rfl)
def f_X8_undo (N : Nat) (X : XT) : Option (Int32 × XT) := if (X 0 3) = 0 then (some ((-5), X)) else (m_nm ((X 0 3) - 1) fun y_4 => m_nm (m_up X 0 (upd (X 0) 3 y_4)) fun X_6 => f_X8_undo_22 N N 0 X_6)
set_option maxHeartbeats 4000000 in
set_option maxRecDepth 100000 in
theorem c_X8_undo (l : Launch) (D : va_G) (a : Nat → Nat) (cy : Nat → ClassId) (hG : m_inj 6 a) (N : Nat) (X : XT) {r0 : Int32} {X0 : XT} (hf0 : f_X8_undo N X = some (r0, X0)) : Met l yX8_undo (Cond.code yX8_undo cX8_undo 2 (some .int) :: m_tbl) rm_X8_undo (va_Pc [.ref (a 0)] (m_PX D (m_tc cy) (m_WM a cy) m_ZM X)) (m_QI D (m_WM a cy) (m_AM a) r0 X0) 0 0 (m_AM a) := by
  refine m_met (own := RX8) hy_X8_undo rfl (Nat.le_of_ble_eq_true rfl) (m_wl_D hG _) m_ZM_keep ?_
  intro p e s m args below meth c C ls hl hP hS
  have hx := C.1.1
  have hb := C.1.2.1
  have hl : lv_has ls 2 [(0, .ref (a 0))] := hl
  unfold f_X8_undo at hf0
  suffices K : ∀ (H : Heap) (locs : List Loc), va_P D vwCl (m_WM a cy X) H → va_S (m_AM a) s.heap H locs → W p l e rm_X8_undo s m args below meth c H locs 0 0 (MQ below (m_QI D (m_WM a cy) (m_AM a) r0 X0) args s 0 0 (m_AM a)) (F0 m 0 ls []) from K _ _ hP hS
  clear hP hS
  intro H locs hP hS
  refine lv_aload_n hx hb dX8_undo_0 rfl (lv_at hl 0 rfl) ?_
  refine m_get C hP mM_0 rfl inX8 3 (by decide) wf_X8_29 rfl dX8_undo_1 ?_
  refine lv_if_ne (tgt := 10) hx hb dX8_undo_4 (by decide) (fun c_1 => ?_) (fun c_1 => ?_)
  · have hf2 := m_ie c_1 hf0
    clear hf0
    refine lv_aload_n hx hb dX8_undo_10 rfl (lv_at hl 0 rfl) ?_
    refine lv_dup hx hb dX8_undo_11 rfl ?_
    refine m_get C hP mM_0 rfl inX8 3 (by decide) wf_X8_29 rfl dX8_undo_12 ?_
    refine lv_iconst (v := 1) hx hb dX8_undo_15 (by decide) ?_
    refine lv_isub hx hb dX8_undo_16 ?_
    refine lv_topi (fun y_4 e_4 => ?_)
    have hf5 := m_nm_s e_4 hf2
    clear hf2
    refine m_put C hP hS mM_0 rfl inX8 tyX8_ok nmX8 3 (by decide) wf_X8_29 rfl rfl rfl (Nat.le_of_ble_eq_true rfl) mM_0_3 dX8_undo_17 (fun X_6 e_6 H locs hP hS => ?_)
    have hf7 := m_nm_s e_6 hf5
    clear hf5
    refine lv_iconst (v := 0) hx hb dX8_undo_20 (by decide) ?_
    refine lv_istore_n (lv' := [(1, .int 0), (0, .ref (a 0))]) hx hb dX8_undo_21 rfl hl (by decide) rfl (fun ls hl => ?_)
    exact w_X8_undo_22 l D a cy hG N C _ _ _ hf7 H locs ls hP hS (lv_sub hl [1, 0] rfl)
  · have hf3 := m_it c_1 hf0
    clear hf0
    refine lv_bipush (v := (-5)) hx hb dX8_undo_7 (by decide) ?_
    exact m_iret C hP hS dX8_undo_9 hf3
abbrev rm_X8_save : Room := { frames := 0, cells := 0, slots := 0, locals := 0 }
def f_X8_save_27 (N : Nat) (X : XT) : Option (Int32 × XT) := m_nm (m_up X 0 (upd (X 0) 5 1)) fun X_4 => m_gd (m_in 0 1816) <| m_nm (X_4 1 (Int32.toNatClampNeg 0)) fun y_6 => some (y_6, X_4)
set_option maxHeartbeats 4000000 in
set_option maxRecDepth 100000 in
theorem w_X8_save_27 (l : Launch) (D : va_G) (a : Nat → Nat) (cy : Nat → ClassId) (hG : m_inj 6 a) (N : Nat) {p : Program} {e : Env} {s : State} {m : MethodId} {args : Array Value} {below : List Frame} {meth : Method} {c : Code} (C : m_Cx p s m args meth c cX8_save 2 RX8 (some .int) (Cond.code yX8_save cX8_save 2 (some .int)) D (m_tc cy) (m_AM a) (m_WM a cy) m_ZM) {r0 : Int32} {X0 : XT} (X : XT) (hf0 : f_X8_save_27 N X = some (r0, X0)) : ∀ (H : Heap) (locs : List Loc) (ls : Array Slot), va_P D vwCl (m_WM a cy X) H → va_S (m_AM a) s.heap H locs → lv_has ls 2 [(0, .ref (a 0))] → W p l e rm_X8_save s m args below meth c H locs 0 0 (MQ below (m_QI D (m_WM a cy) (m_AM a) r0 X0) args s 0 0 (m_AM a)) (F0 m 27 ls []) := by
  have hx := C.1.1
  have hb := C.1.2.1
  intro H locs ls hP hS hl
  unfold f_X8_save_27 at hf0
  refine lv_aload_n hx hb dX8_save_27 rfl (lv_at hl 0 rfl) ?_
  refine lv_iconst (v := 1) hx hb dX8_save_28 (by decide) ?_
  refine m_put C hP hS mM_0 rfl inX8 tyX8_ok nmX8 5 (by decide) wf_X8_33 rfl (by decide) (by decide) (Nat.le_of_ble_eq_true rfl) mM_0_5 dX8_save_29 (fun X_4 e_4 H locs hP hS => ?_)
  have hf5 := m_nm_s e_4 hf0
  clear hf0
  refine lv_aload_n hx hb dX8_save_32 rfl (lv_at hl 0 rfl) ?_
  refine m_get C hP mM_0 rfl inX8 0 (by decide) wf_X8_7 rfl dX8_save_33 ?_
  refine lv_iconst (v := 0) hx hb dX8_save_36 (by decide) ?_
  obtain ⟨g_6, hf7⟩ := m_gd_s hf5
  clear hf5
  refine m_ild C hP mM_1 0 rfl g_6 dX8_save_37 (fun y_6 e_6 => ?_)
  have hf8 := m_nm_s e_6 hf7
  clear hf7
  exact m_iret C hP hS dX8_save_38 hf8
def f_X8_save_2 (N : Nat) : Nat → Int32 → XT → Option (Int32 × XT)
  | 0, _, _ => none
  | n + 1, v1, X => if 1816 ≤ v1 then (f_X8_save_27 N  X) else (m_gd (m_in v1 1816) <| m_nm (X 1 (Int32.toNatClampNeg v1)) fun y_9 => m_gd (m_in v1 1816) <| m_nm (m_up X 4 (upd (X 4) (Int32.toNatClampNeg v1) y_9)) fun X_12 => m_nm (v1 + 1) fun y_15 => f_X8_save_2 N n y_15 X_12)
set_option maxHeartbeats 4000000 in
set_option maxRecDepth 100000 in
theorem w_X8_save_2 (l : Launch) (D : va_G) (a : Nat → Nat) (cy : Nat → ClassId) (hG : m_inj 6 a) (N : Nat) {p : Program} {e : Env} {s : State} {m : MethodId} {args : Array Value} {below : List Frame} {meth : Method} {c : Code} (C : m_Cx p s m args meth c cX8_save 2 RX8 (some .int) (Cond.code yX8_save cX8_save 2 (some .int)) D (m_tc cy) (m_AM a) (m_WM a cy) m_ZM) {r0 : Int32} {X0 : XT} : ∀ (n : Nat) (v1 : Int32) (X : XT), f_X8_save_2 N n v1 X = some (r0, X0) → ∀ (H : Heap) (locs : List Loc) (ls : Array Slot), va_P D vwCl (m_WM a cy X) H → va_S (m_AM a) s.heap H locs → lv_has ls 2 [(0, .ref (a 0)), (1, .int v1)] → W p l e rm_X8_save s m args below meth c H locs 0 0 (MQ below (m_QI D (m_WM a cy) (m_AM a) r0 X0) args s 0 0 (m_AM a)) (F0 m 2 ls []) := by
  have hx := C.1.1
  have hb := C.1.2.1
  intro n
  induction n with
  | zero => intro v1 X hf0; rw [f_X8_save_2] at hf0; cases hf0
  | succ n ih =>
    intro v1 X hf0 H locs ls hP hS hl
    rw [f_X8_save_2] at hf0
    refine lv_iload_n hx hb dX8_save_2 rfl (lv_at hl 1 rfl) ?_
    refine lv_sipush (v := 1816) hx hb dX8_save_3 (by decide) ?_
    refine lv_icmp_ge (tgt := 27) hx hb dX8_save_6 (by decide) (fun c_1 => ?_) (fun c_1 => ?_)
    · have hf2 := m_it c_1 hf0
      clear hf0
      exact w_X8_save_27 l D a cy hG N C  _ hf2 H locs ls hP hS (lv_sub hl [0] rfl)
    · have hf3 := m_ie c_1 hf0
      clear hf0
      refine lv_aload_n hx hb dX8_save_9 rfl (lv_at hl 0 rfl) ?_
      refine m_get C hP mM_0 rfl inX8 4 (by decide) wf_X8_19 rfl dX8_save_10 ?_
      refine lv_iload_n hx hb dX8_save_13 rfl (lv_at hl 1 rfl) ?_
      refine lv_aload_n hx hb dX8_save_14 rfl (lv_at hl 0 rfl) ?_
      refine m_get C hP mM_0 rfl inX8 0 (by decide) wf_X8_7 rfl dX8_save_15 ?_
      refine lv_iload_n hx hb dX8_save_18 rfl (lv_at hl 1 rfl) ?_
      obtain ⟨g_9, hf10⟩ := m_gd_s hf3
      clear hf3
      refine m_ild C hP mM_1 0 rfl g_9 dX8_save_19 (fun y_9 e_9 => ?_)
      have hf11 := m_nm_s e_9 hf10
      clear hf10
      obtain ⟨g_12, hf13⟩ := m_gd_s hf11
      clear hf11
      refine m_ist C hP hS mM_4 0 rfl g_12 mMs_4 dX8_save_20 (fun X_12 e_12 H locs hP hS => ?_)
      have hf14 := m_nm_s e_12 hf13
      clear hf13
      obtain ⟨y_15, e_15⟩ : ∃ y : Int32, y = v1 + 1 := ⟨_, rfl⟩
      refine lv_iinc (v := y_15) (lv' := [(1, .int y_15), (0, .ref (a 0))]) hx hb dX8_save_21 hl (k := 1) rfl (by rw [e_15]; rfl) (by decide) rfl (fun ls hl => ?_)
      have hf16 := m_nm_s e_15 hf14
      clear hf14
      refine lv_goto (tgt := 2) hx hb dX8_save_24 (by decide) ?_
      exact ih _ _ hf16 H locs ls hP hS (lv_sub hl [1, 0] rfl)
def f_X8_save (N : Nat) (X : XT) : Option (Int32 × XT) := f_X8_save_2 N N 0 X
set_option maxHeartbeats 4000000 in
set_option maxRecDepth 100000 in
theorem c_X8_save (l : Launch) (D : va_G) (a : Nat → Nat) (cy : Nat → ClassId) (hG : m_inj 6 a) (N : Nat) (X : XT) {r0 : Int32} {X0 : XT} (hf0 : f_X8_save N X = some (r0, X0)) : Met l yX8_save (Cond.code yX8_save cX8_save 2 (some .int) :: m_tbl) rm_X8_save (va_Pc [.ref (a 0)] (m_PX D (m_tc cy) (m_WM a cy) m_ZM X)) (m_QI D (m_WM a cy) (m_AM a) r0 X0) 0 0 (m_AM a) := by
  refine m_met (own := RX8) hy_X8_save rfl (Nat.le_of_ble_eq_true rfl) (m_wl_D hG _) m_ZM_keep ?_
  intro p e s m args below meth c C ls hl hP hS
  have hx := C.1.1
  have hb := C.1.2.1
  have hl : lv_has ls 2 [(0, .ref (a 0))] := hl
  unfold f_X8_save at hf0
  suffices K : ∀ (H : Heap) (locs : List Loc), va_P D vwCl (m_WM a cy X) H → va_S (m_AM a) s.heap H locs → W p l e rm_X8_save s m args below meth c H locs 0 0 (MQ below (m_QI D (m_WM a cy) (m_AM a) r0 X0) args s 0 0 (m_AM a)) (F0 m 0 ls []) from K _ _ hP hS
  clear hP hS
  intro H locs hP hS
  refine lv_iconst (v := 0) hx hb dX8_save_0 (by decide) ?_
  refine lv_istore_n (lv' := [(1, .int 0), (0, .ref (a 0))]) hx hb dX8_save_1 rfl hl (by decide) rfl (fun ls hl => ?_)
  exact w_X8_save_2 l D a cy hG N C _ _ _ hf0 H locs ls hP hS (lv_sub hl [1, 0] rfl)
abbrev rm_X8_restore : Room := { frames := 1, cells := 0, slots := 0, locals := 21 }
def f_X8_restore_41 (N : Nat) (X : XT) : Option (Int32 × XT) := m_gd (m_in 0 1816) <| m_nm (X 1 (Int32.toNatClampNeg 0)) fun y_9 => some (y_9, X)
set_option maxHeartbeats 4000000 in
set_option maxRecDepth 100000 in
theorem w_X8_restore_41 (l : Launch) (D : va_G) (a : Nat → Nat) (cy : Nat → ClassId) (hG : m_inj 6 a) (N : Nat) {p : Program} {e : Env} {s : State} {m : MethodId} {args : Array Value} {below : List Frame} {meth : Method} {c : Code} (C : m_Cx p s m args meth c cX8_restore 2 RX8 (some .int) (Cond.code yX8_restore cX8_restore 2 (some .int)) D (m_tc cy) (m_AM a) (m_WM a cy) m_ZM) {r0 : Int32} {X0 : XT} (X : XT) (hf0 : f_X8_restore_41 N X = some (r0, X0)) : ∀ (H : Heap) (locs : List Loc) (ls : Array Slot), va_P D vwCl (m_WM a cy X) H → va_S (m_AM a) s.heap H locs → lv_has ls 2 [(0, .ref (a 0))] → W p l e rm_X8_restore s m args below meth c H locs 0 0 (MQ below (m_QI D (m_WM a cy) (m_AM a) r0 X0) args s 0 0 (m_AM a)) (F0 m 41 ls []) := by
  have hx := C.1.1
  have hb := C.1.2.1
  intro H locs ls hP hS hl
  unfold f_X8_restore_41 at hf0
  refine lv_aload_n hx hb dX8_restore_41 rfl (lv_at hl 0 rfl) ?_
  refine m_get C hP mM_0 rfl inX8 0 (by decide) wf_X8_7 rfl dX8_restore_42 ?_
  refine lv_iconst (v := 0) hx hb dX8_restore_45 (by decide) ?_
  obtain ⟨g_9, hf10⟩ := m_gd_s hf0
  clear hf0
  refine m_ild C hP mM_1 0 rfl g_9 dX8_restore_46 (fun y_9 e_9 => ?_)
  have hf11 := m_nm_s e_9 hf10
  clear hf10
  exact m_iret C hP hS dX8_restore_47 hf11
def f_X8_restore_16 (N : Nat) : Nat → Int32 → XT → Option (Int32 × XT)
  | 0, _, _ => none
  | n + 1, v1, X => if 1816 ≤ v1 then (f_X8_restore_41 N  X) else (m_gd (m_in v1 1816) <| m_nm (X 4 (Int32.toNatClampNeg v1)) fun y_12 => m_gd (m_in v1 1816) <| m_nm (m_up X 1 (upd (X 1) (Int32.toNatClampNeg v1) y_12)) fun X_15 => m_nm (v1 + 1) fun y_18 => f_X8_restore_16 N n y_18 X_15)
set_option maxHeartbeats 4000000 in
set_option maxRecDepth 100000 in
theorem w_X8_restore_16 (l : Launch) (D : va_G) (a : Nat → Nat) (cy : Nat → ClassId) (hG : m_inj 6 a) (N : Nat) {p : Program} {e : Env} {s : State} {m : MethodId} {args : Array Value} {below : List Frame} {meth : Method} {c : Code} (C : m_Cx p s m args meth c cX8_restore 2 RX8 (some .int) (Cond.code yX8_restore cX8_restore 2 (some .int)) D (m_tc cy) (m_AM a) (m_WM a cy) m_ZM) {r0 : Int32} {X0 : XT} : ∀ (n : Nat) (v1 : Int32) (X : XT), f_X8_restore_16 N n v1 X = some (r0, X0) → ∀ (H : Heap) (locs : List Loc) (ls : Array Slot), va_P D vwCl (m_WM a cy X) H → va_S (m_AM a) s.heap H locs → lv_has ls 2 [(0, .ref (a 0)), (1, .int v1)] → W p l e rm_X8_restore s m args below meth c H locs 0 0 (MQ below (m_QI D (m_WM a cy) (m_AM a) r0 X0) args s 0 0 (m_AM a)) (F0 m 16 ls []) := by
  have hx := C.1.1
  have hb := C.1.2.1
  intro n
  induction n with
  | zero => intro v1 X hf0; rw [f_X8_restore_16] at hf0; cases hf0
  | succ n ih =>
    intro v1 X hf0 H locs ls hP hS hl
    rw [f_X8_restore_16] at hf0
    refine lv_iload_n hx hb dX8_restore_16 rfl (lv_at hl 1 rfl) ?_
    refine lv_sipush (v := 1816) hx hb dX8_restore_17 (by decide) ?_
    refine lv_icmp_ge (tgt := 41) hx hb dX8_restore_20 (by decide) (fun c_6 => ?_) (fun c_6 => ?_)
    · have hf7 := m_it c_6 hf0
      clear hf0
      exact w_X8_restore_41 l D a cy hG N C  _ hf7 H locs ls hP hS (lv_sub hl [0] rfl)
    · have hf8 := m_ie c_6 hf0
      clear hf0
      refine lv_aload_n hx hb dX8_restore_23 rfl (lv_at hl 0 rfl) ?_
      refine m_get C hP mM_0 rfl inX8 0 (by decide) wf_X8_7 rfl dX8_restore_24 ?_
      refine lv_iload_n hx hb dX8_restore_27 rfl (lv_at hl 1 rfl) ?_
      refine lv_aload_n hx hb dX8_restore_28 rfl (lv_at hl 0 rfl) ?_
      refine m_get C hP mM_0 rfl inX8 4 (by decide) wf_X8_19 rfl dX8_restore_29 ?_
      refine lv_iload_n hx hb dX8_restore_32 rfl (lv_at hl 1 rfl) ?_
      obtain ⟨g_12, hf13⟩ := m_gd_s hf8
      clear hf8
      refine m_ild C hP mM_4 0 rfl g_12 dX8_restore_33 (fun y_12 e_12 => ?_)
      have hf14 := m_nm_s e_12 hf13
      clear hf13
      obtain ⟨g_15, hf16⟩ := m_gd_s hf14
      clear hf14
      refine m_ist C hP hS mM_1 0 rfl g_15 mMs_1 dX8_restore_34 (fun X_15 e_15 H locs hP hS => ?_)
      have hf17 := m_nm_s e_15 hf16
      clear hf16
      obtain ⟨y_18, e_18⟩ : ∃ y : Int32, y = v1 + 1 := ⟨_, rfl⟩
      refine lv_iinc (v := y_18) (lv' := [(1, .int y_18), (0, .ref (a 0))]) hx hb dX8_restore_35 hl (k := 1) rfl (by rw [e_18]; rfl) (by decide) rfl (fun ls hl => ?_)
      have hf19 := m_nm_s e_18 hf17
      clear hf17
      refine lv_goto (tgt := 16) hx hb dX8_restore_38 (by decide) ?_
      exact ih _ _ hf19 H locs ls hP hS (lv_sub hl [1, 0] rfl)
def f_X8_restore (N : Nat) (X : XT) : Option (Int32 × XT) := if (X 0 5) = 0 then (some ((-4), X)) else (m_bv (f_X8_record N X) fun X_4 => f_X8_restore_16 N N 0 X_4)
set_option maxHeartbeats 4000000 in
set_option maxRecDepth 100000 in
theorem c_X8_restore (l : Launch) (D : va_G) (a : Nat → Nat) (cy : Nat → ClassId) (hG : m_inj 6 a) (N : Nat) (X : XT) {r0 : Int32} {X0 : XT} (hf0 : f_X8_restore N X = some (r0, X0)) : Met l yX8_restore (Cond.code yX8_restore cX8_restore 2 (some .int) :: m_tbl) rm_X8_restore (va_Pc [.ref (a 0)] (m_PX D (m_tc cy) (m_WM a cy) m_ZM X)) (m_QI D (m_WM a cy) (m_AM a) r0 X0) 0 0 (m_AM a) := by
  refine m_met (own := RX8) hy_X8_restore rfl (Nat.le_of_ble_eq_true rfl) (m_wl_D hG _) m_ZM_keep ?_
  intro p e s m args below meth c C ls hl hP hS
  have hx := C.1.1
  have hb := C.1.2.1
  have hl : lv_has ls 2 [(0, .ref (a 0))] := hl
  unfold f_X8_restore at hf0
  suffices K : ∀ (H : Heap) (locs : List Loc), va_P D vwCl (m_WM a cy X) H → va_S (m_AM a) s.heap H locs → W p l e rm_X8_restore s m args below meth c H locs 0 0 (MQ below (m_QI D (m_WM a cy) (m_AM a) r0 X0) args s 0 0 (m_AM a)) (F0 m 0 ls []) from K _ _ hP hS
  clear hP hS
  intro H locs hP hS
  refine lv_aload_n hx hb dX8_restore_0 rfl (lv_at hl 0 rfl) ?_
  refine m_get C hP mM_0 rfl inX8 5 (by decide) wf_X8_33 rfl dX8_restore_1 ?_
  refine lv_if_ne (tgt := 10) hx hb dX8_restore_4 (by decide) (fun c_1 => ?_) (fun c_1 => ?_)
  · have hf2 := m_ie c_1 hf0
    clear hf0
    refine lv_aload_n hx hb dX8_restore_10 rfl (lv_at hl 0 rfl) ?_
    obtain ⟨X_4, h_4, hf5⟩ := m_bv_s hf2
    clear hf2
    refine m_callVv (q := (RX8, TX8, 13)) C [] [] (c_X8_record l D a cy hG N _ h_4) (m_goodV wl_X8_37 wi_X8_record ws_X8_record wn_X8 wc_X8_record) ⟨rfl, rfl⟩ hv_X8_record ⟨Nat.le_of_ble_eq_true rfl, Nat.le_of_ble_eq_true rfl⟩ rfl mM_0 hP hS rfl hl.1 rfl (Nat.le_of_ble_eq_true rfl) dX8_restore_11 (fun H locs hP hS => ?_)
    refine lv_iconst (v := 0) hx hb dX8_restore_14 (by decide) ?_
    refine lv_istore_n (lv' := [(1, .int 0), (0, .ref (a 0))]) hx hb dX8_restore_15 rfl hl (by decide) rfl (fun ls hl => ?_)
    exact w_X8_restore_16 l D a cy hG N C _ _ _ hf5 H locs ls hP hS (lv_sub hl [1, 0] rfl)
  · have hf3 := m_it c_1 hf0
    clear hf0
    refine lv_bipush (v := (-4)) hx hb dX8_restore_7 (by decide) ?_
    exact m_iret C hP hS dX8_restore_9 hf3
abbrev rm_X8_putAside : Room := { frames := 0, cells := 0, slots := 0, locals := 0 }
def f_X8_putAside_2 (N : Nat) : Nat → Int32 → XT → Option XT
  | 0, _, _ => none
  | n + 1, v1, X => if 1816 ≤ v1 then (some X) else (m_gd (m_in v1 1816) <| m_nm (X 1 (Int32.toNatClampNeg v1)) fun y_4 => m_gd (m_in v1 1816) <| m_nm (m_up X 2 (upd (X 2) (Int32.toNatClampNeg v1) y_4)) fun X_7 => m_nm (v1 + 1) fun y_10 => f_X8_putAside_2 N n y_10 X_7)
set_option maxHeartbeats 4000000 in
set_option maxRecDepth 100000 in
theorem w_X8_putAside_2 (l : Launch) (D : va_G) (a : Nat → Nat) (cy : Nat → ClassId) (hG : m_inj 6 a) (N : Nat) {p : Program} {e : Env} {s : State} {m : MethodId} {args : Array Value} {below : List Frame} {meth : Method} {c : Code} (C : m_Cx p s m args meth c cX8_putAside 2 RX8 none (Cond.code yX8_putAside cX8_putAside 2 none) D (m_tc cy) (m_AM a) (m_WM a cy) m_ZM) {X0 : XT} : ∀ (n : Nat) (v1 : Int32) (X : XT), f_X8_putAside_2 N n v1 X = some X0 → ∀ (H : Heap) (locs : List Loc) (ls : Array Slot), va_P D vwCl (m_WM a cy X) H → va_S (m_AM a) s.heap H locs → lv_has ls 2 [(0, .ref (a 0)), (1, .int v1)] → W p l e rm_X8_putAside s m args below meth c H locs 0 0 (MQ below (m_QV D (m_WM a cy) (m_AM a) X0) args s 0 0 (m_AM a)) (F0 m 2 ls []) := by
  have hx := C.1.1
  have hb := C.1.2.1
  intro n
  induction n with
  | zero => intro v1 X hf0; rw [f_X8_putAside_2] at hf0; cases hf0
  | succ n ih =>
    intro v1 X hf0 H locs ls hP hS hl
    rw [f_X8_putAside_2] at hf0
    refine lv_iload_n hx hb dX8_putAside_2 rfl (lv_at hl 1 rfl) ?_
    refine lv_sipush (v := 1816) hx hb dX8_putAside_3 (by decide) ?_
    refine lv_icmp_ge (tgt := 27) hx hb dX8_putAside_6 (by decide) (fun c_1 => ?_) (fun c_1 => ?_)
    · have hf2 := m_it c_1 hf0
      clear hf0
      exact m_vret C hP hS dX8_putAside_27 hf2
    · have hf3 := m_ie c_1 hf0
      clear hf0
      refine lv_aload_n hx hb dX8_putAside_9 rfl (lv_at hl 0 rfl) ?_
      refine m_get C hP mM_0 rfl inX8 1 (by decide) wf_X8_13 rfl dX8_putAside_10 ?_
      refine lv_iload_n hx hb dX8_putAside_13 rfl (lv_at hl 1 rfl) ?_
      refine lv_aload_n hx hb dX8_putAside_14 rfl (lv_at hl 0 rfl) ?_
      refine m_get C hP mM_0 rfl inX8 0 (by decide) wf_X8_7 rfl dX8_putAside_15 ?_
      refine lv_iload_n hx hb dX8_putAside_18 rfl (lv_at hl 1 rfl) ?_
      obtain ⟨g_4, hf5⟩ := m_gd_s hf3
      clear hf3
      refine m_ild C hP mM_1 0 rfl g_4 dX8_putAside_19 (fun y_4 e_4 => ?_)
      have hf6 := m_nm_s e_4 hf5
      clear hf5
      obtain ⟨g_7, hf8⟩ := m_gd_s hf6
      clear hf6
      refine m_ist C hP hS mM_2 0 rfl g_7 mMs_2 dX8_putAside_20 (fun X_7 e_7 H locs hP hS => ?_)
      have hf9 := m_nm_s e_7 hf8
      clear hf8
      obtain ⟨y_10, e_10⟩ : ∃ y : Int32, y = v1 + 1 := ⟨_, rfl⟩
      refine lv_iinc (v := y_10) (lv' := [(1, .int y_10), (0, .ref (a 0))]) hx hb dX8_putAside_21 hl (k := 1) rfl (by rw [e_10]; rfl) (by decide) rfl (fun ls hl => ?_)
      have hf11 := m_nm_s e_10 hf9
      clear hf9
      refine lv_goto (tgt := 2) hx hb dX8_putAside_24 (by decide) ?_
      exact ih _ _ hf11 H locs ls hP hS (lv_sub hl [1, 0] rfl)
def f_X8_putAside (N : Nat) (X : XT) : Option XT := f_X8_putAside_2 N N 0 X
set_option maxHeartbeats 4000000 in
set_option maxRecDepth 100000 in
theorem c_X8_putAside (l : Launch) (D : va_G) (a : Nat → Nat) (cy : Nat → ClassId) (hG : m_inj 6 a) (N : Nat) (X : XT) {X0 : XT} (hf0 : f_X8_putAside N X = some X0) : Met l yX8_putAside (Cond.code yX8_putAside cX8_putAside 2 none :: m_tbl) rm_X8_putAside (va_Pc [.ref (a 0)] (m_PX D (m_tc cy) (m_WM a cy) m_ZM X)) (m_QV D (m_WM a cy) (m_AM a) X0) 0 0 (m_AM a) := by
  refine m_met (own := RX8) hy_X8_putAside rfl (Nat.le_of_ble_eq_true rfl) (m_wl_D hG _) m_ZM_keep ?_
  intro p e s m args below meth c C ls hl hP hS
  have hx := C.1.1
  have hb := C.1.2.1
  have hl : lv_has ls 2 [(0, .ref (a 0))] := hl
  unfold f_X8_putAside at hf0
  suffices K : ∀ (H : Heap) (locs : List Loc), va_P D vwCl (m_WM a cy X) H → va_S (m_AM a) s.heap H locs → W p l e rm_X8_putAside s m args below meth c H locs 0 0 (MQ below (m_QV D (m_WM a cy) (m_AM a) X0) args s 0 0 (m_AM a)) (F0 m 0 ls []) from K _ _ hP hS
  clear hP hS
  intro H locs hP hS
  refine lv_iconst (v := 0) hx hb dX8_putAside_0 (by decide) ?_
  refine lv_istore_n (lv' := [(1, .int 0), (0, .ref (a 0))]) hx hb dX8_putAside_1 rfl hl (by decide) rfl (fun ls hl => ?_)
  exact w_X8_putAside_2 l D a cy hG N C _ _ _ hf0 H locs ls hP hS (lv_sub hl [1, 0] rfl)
abbrev rm_X8_takeBack : Room := { frames := 0, cells := 0, slots := 0, locals := 0 }
def f_X8_takeBack_2 (N : Nat) : Nat → Int32 → XT → Option XT
  | 0, _, _ => none
  | n + 1, v1, X => if 1816 ≤ v1 then (some X) else (m_gd (m_in v1 1816) <| m_nm (X 2 (Int32.toNatClampNeg v1)) fun y_4 => m_gd (m_in v1 1816) <| m_nm (m_up X 1 (upd (X 1) (Int32.toNatClampNeg v1) y_4)) fun X_7 => m_nm (v1 + 1) fun y_10 => f_X8_takeBack_2 N n y_10 X_7)
set_option maxHeartbeats 4000000 in
set_option maxRecDepth 100000 in
theorem w_X8_takeBack_2 (l : Launch) (D : va_G) (a : Nat → Nat) (cy : Nat → ClassId) (hG : m_inj 6 a) (N : Nat) {p : Program} {e : Env} {s : State} {m : MethodId} {args : Array Value} {below : List Frame} {meth : Method} {c : Code} (C : m_Cx p s m args meth c cX8_takeBack 2 RX8 none (Cond.code yX8_takeBack cX8_takeBack 2 none) D (m_tc cy) (m_AM a) (m_WM a cy) m_ZM) {X0 : XT} : ∀ (n : Nat) (v1 : Int32) (X : XT), f_X8_takeBack_2 N n v1 X = some X0 → ∀ (H : Heap) (locs : List Loc) (ls : Array Slot), va_P D vwCl (m_WM a cy X) H → va_S (m_AM a) s.heap H locs → lv_has ls 2 [(0, .ref (a 0)), (1, .int v1)] → W p l e rm_X8_takeBack s m args below meth c H locs 0 0 (MQ below (m_QV D (m_WM a cy) (m_AM a) X0) args s 0 0 (m_AM a)) (F0 m 2 ls []) := by
  have hx := C.1.1
  have hb := C.1.2.1
  intro n
  induction n with
  | zero => intro v1 X hf0; rw [f_X8_takeBack_2] at hf0; cases hf0
  | succ n ih =>
    intro v1 X hf0 H locs ls hP hS hl
    rw [f_X8_takeBack_2] at hf0
    refine lv_iload_n hx hb dX8_takeBack_2 rfl (lv_at hl 1 rfl) ?_
    refine lv_sipush (v := 1816) hx hb dX8_takeBack_3 (by decide) ?_
    refine lv_icmp_ge (tgt := 27) hx hb dX8_takeBack_6 (by decide) (fun c_1 => ?_) (fun c_1 => ?_)
    · have hf2 := m_it c_1 hf0
      clear hf0
      exact m_vret C hP hS dX8_takeBack_27 hf2
    · have hf3 := m_ie c_1 hf0
      clear hf0
      refine lv_aload_n hx hb dX8_takeBack_9 rfl (lv_at hl 0 rfl) ?_
      refine m_get C hP mM_0 rfl inX8 0 (by decide) wf_X8_7 rfl dX8_takeBack_10 ?_
      refine lv_iload_n hx hb dX8_takeBack_13 rfl (lv_at hl 1 rfl) ?_
      refine lv_aload_n hx hb dX8_takeBack_14 rfl (lv_at hl 0 rfl) ?_
      refine m_get C hP mM_0 rfl inX8 1 (by decide) wf_X8_13 rfl dX8_takeBack_15 ?_
      refine lv_iload_n hx hb dX8_takeBack_18 rfl (lv_at hl 1 rfl) ?_
      obtain ⟨g_4, hf5⟩ := m_gd_s hf3
      clear hf3
      refine m_ild C hP mM_2 0 rfl g_4 dX8_takeBack_19 (fun y_4 e_4 => ?_)
      have hf6 := m_nm_s e_4 hf5
      clear hf5
      obtain ⟨g_7, hf8⟩ := m_gd_s hf6
      clear hf6
      refine m_ist C hP hS mM_1 0 rfl g_7 mMs_1 dX8_takeBack_20 (fun X_7 e_7 H locs hP hS => ?_)
      have hf9 := m_nm_s e_7 hf8
      clear hf8
      obtain ⟨y_10, e_10⟩ : ∃ y : Int32, y = v1 + 1 := ⟨_, rfl⟩
      refine lv_iinc (v := y_10) (lv' := [(1, .int y_10), (0, .ref (a 0))]) hx hb dX8_takeBack_21 hl (k := 1) rfl (by rw [e_10]; rfl) (by decide) rfl (fun ls hl => ?_)
      have hf11 := m_nm_s e_10 hf9
      clear hf9
      refine lv_goto (tgt := 2) hx hb dX8_takeBack_24 (by decide) ?_
      exact ih _ _ hf11 H locs ls hP hS (lv_sub hl [1, 0] rfl)
def f_X8_takeBack (N : Nat) (X : XT) : Option XT := f_X8_takeBack_2 N N 0 X
set_option maxHeartbeats 4000000 in
set_option maxRecDepth 100000 in
theorem c_X8_takeBack (l : Launch) (D : va_G) (a : Nat → Nat) (cy : Nat → ClassId) (hG : m_inj 6 a) (N : Nat) (X : XT) {X0 : XT} (hf0 : f_X8_takeBack N X = some X0) : Met l yX8_takeBack (Cond.code yX8_takeBack cX8_takeBack 2 none :: m_tbl) rm_X8_takeBack (va_Pc [.ref (a 0)] (m_PX D (m_tc cy) (m_WM a cy) m_ZM X)) (m_QV D (m_WM a cy) (m_AM a) X0) 0 0 (m_AM a) := by
  refine m_met (own := RX8) hy_X8_takeBack rfl (Nat.le_of_ble_eq_true rfl) (m_wl_D hG _) m_ZM_keep ?_
  intro p e s m args below meth c C ls hl hP hS
  have hx := C.1.1
  have hb := C.1.2.1
  have hl : lv_has ls 2 [(0, .ref (a 0))] := hl
  unfold f_X8_takeBack at hf0
  suffices K : ∀ (H : Heap) (locs : List Loc), va_P D vwCl (m_WM a cy X) H → va_S (m_AM a) s.heap H locs → W p l e rm_X8_takeBack s m args below meth c H locs 0 0 (MQ below (m_QV D (m_WM a cy) (m_AM a) X0) args s 0 0 (m_AM a)) (F0 m 0 ls []) from K _ _ hP hS
  clear hP hS
  intro H locs hP hS
  refine lv_iconst (v := 0) hx hb dX8_takeBack_0 (by decide) ?_
  refine lv_istore_n (lv' := [(1, .int 0), (0, .ref (a 0))]) hx hb dX8_takeBack_1 rfl hl (by decide) rfl (fun ls hl => ?_)
  exact w_X8_takeBack_2 l D a cy hG N C _ _ _ hf0 H locs ls hP hS (lv_sub hl [1, 0] rfl)
abbrev rm_X8_isIn : Room := { frames := 1, cells := 0, slots := 0, locals := 22 }
def f_X8_isIn (N : Nat) (v1 : Int32) (v2 : Int32) (X : XT) : Option (Int32 × XT) := m_bi (f_X8_of N v1 6 X) fun r_1 X_1 => if r_1 = v2 then (m_bi (f_X8_of N v1 7 X_1) fun r_6 X_6 => if r_6 = 1 then (some (1, X_6)) else (some (0, X_6))) else (some (0, X_1))
set_option maxHeartbeats 4000000 in
set_option maxRecDepth 100000 in
theorem c_X8_isIn (l : Launch) (D : va_G) (a : Nat → Nat) (cy : Nat → ClassId) (hG : m_inj 6 a) (N : Nat) (v1 : Int32) (v2 : Int32) (X : XT) {r0 : Int32} {X0 : XT} (hf0 : f_X8_isIn N v1 v2 X = some (r0, X0)) : Met l yX8_isIn (Cond.code yX8_isIn cX8_isIn 3 (some .boolean) :: m_tbl) rm_X8_isIn (va_Pc [.ref (a 0), .int v1, .int v2] (m_PX D (m_tc cy) (m_WM a cy) m_ZM X)) (m_QI D (m_WM a cy) (m_AM a) r0 X0) 0 0 (m_AM a) := by
  refine m_met (own := RX8) hy_X8_isIn rfl (Nat.le_of_ble_eq_true rfl) (m_wl_D hG _) m_ZM_keep ?_
  intro p e s m args below meth c C ls hl hP hS
  have hx := C.1.1
  have hb := C.1.2.1
  have hl : lv_has ls 3 [(0, .ref (a 0)), (1, .int v1), (2, .int v2)] := hl
  unfold f_X8_isIn at hf0
  suffices K : ∀ (H : Heap) (locs : List Loc), va_P D vwCl (m_WM a cy X) H → va_S (m_AM a) s.heap H locs → W p l e rm_X8_isIn s m args below meth c H locs 0 0 (MQ below (m_QI D (m_WM a cy) (m_AM a) r0 X0) args s 0 0 (m_AM a)) (F0 m 0 ls []) from K _ _ hP hS
  clear hP hS
  intro H locs hP hS
  refine lv_aload_n hx hb dX8_isIn_0 rfl (lv_at hl 0 rfl) ?_
  refine lv_iload_n hx hb dX8_isIn_1 rfl (lv_at hl 1 rfl) ?_
  refine lv_bipush (v := 6) hx hb dX8_isIn_2 (by decide) ?_
  obtain ⟨r_1, X_1, h_1, hf2⟩ := m_bi_s hf0
  clear hf0
  refine m_callVi (q := (RX8, TX8, 13)) C [.int v1, .int 6] [] (c_X8_of l D a cy hG N _ _ _ h_1) (m_goodV wl_X8_40 wi_X8_of ws_X8_of wn_X8 wc_X8_of) ⟨rfl, rfl⟩ hv_X8_of ⟨Nat.le_of_ble_eq_true rfl, Nat.le_of_ble_eq_true rfl⟩ rfl mM_0 hP hS rfl hl.1 rfl (Nat.le_of_ble_eq_true rfl) dX8_isIn_4 (fun H locs hP hS => ?_)
  refine lv_iload_n hx hb dX8_isIn_7 rfl (lv_at hl 2 rfl) ?_
  refine lv_icmp_ne (tgt := 26) hx hb dX8_isIn_8 (by decide) (fun c_3 => ?_) (fun c_3 => ?_)
  · have hf4 := m_ie c_3 hf2
    clear hf2
    refine lv_iconst (v := 0) hx hb dX8_isIn_26 (by decide) ?_
    exact m_zret C hP hS dX8_isIn_27 (by decide) hf4
  · have hf5 := m_it c_3 hf2
    clear hf2
    refine lv_aload_n hx hb dX8_isIn_11 rfl (lv_at hl 0 rfl) ?_
    refine lv_iload_n hx hb dX8_isIn_12 rfl (lv_at hl 1 rfl) ?_
    refine lv_bipush (v := 7) hx hb dX8_isIn_13 (by decide) ?_
    obtain ⟨r_6, X_6, h_6, hf7⟩ := m_bi_s hf5
    clear hf5
    refine m_callVi (q := (RX8, TX8, 13)) C [.int v1, .int 7] [] (c_X8_of l D a cy hG N _ _ _ h_6) (m_goodV wl_X8_40 wi_X8_of ws_X8_of wn_X8 wc_X8_of) ⟨rfl, rfl⟩ hv_X8_of ⟨Nat.le_of_ble_eq_true rfl, Nat.le_of_ble_eq_true rfl⟩ rfl mM_0 hP hS rfl hl.1 rfl (Nat.le_of_ble_eq_true rfl) dX8_isIn_15 (fun H locs hP hS => ?_)
    refine lv_iconst (v := 1) hx hb dX8_isIn_18 (by decide) ?_
    refine lv_icmp_ne (tgt := 26) hx hb dX8_isIn_19 (by decide) (fun c_8 => ?_) (fun c_8 => ?_)
    · have hf9 := m_ie c_8 hf7
      clear hf7
      refine lv_iconst (v := 0) hx hb dX8_isIn_26 (by decide) ?_
      exact m_zret C hP hS dX8_isIn_27 (by decide) hf9
    · have hf10 := m_it c_8 hf7
      clear hf7
      refine lv_iconst (v := 1) hx hb dX8_isIn_22 (by decide) ?_
      refine lv_goto (tgt := 27) hx hb dX8_isIn_23 (by decide) ?_
      exact m_zret C hP hS dX8_isIn_27 (by decide) hf10
abbrev rm_X8_members : Room := { frames := 2, cells := 0, slots := 0, locals := 44 }
def f_X8_members_4 (N : Nat) : Nat → Int32 → Int32 → Int32 → XT → Option (Int32 × XT)
  | 0, _, _, _, _ => none
  | n + 1, v1, v2, v3, X => m_gd (m_in 6 1816) <| m_nm (X 1 (Int32.toNatClampNeg 6)) fun y_1 => if y_1 ≤ v3 then (some (v2, X)) else (m_bi (f_X8_isIn N v3 v1 X) fun r_7 X_7 => if r_7 = 0 then (m_nm (v2 + 0) fun y_12 => m_nm (v3 + 1) fun y_14 => f_X8_members_4 N n v1 y_12 y_14 X_7) else (m_nm (v2 + 1) fun y_16 => m_nm (v3 + 1) fun y_18 => f_X8_members_4 N n v1 y_16 y_18 X_7))
set_option maxHeartbeats 4000000 in
set_option maxRecDepth 100000 in
theorem w_X8_members_4 (l : Launch) (D : va_G) (a : Nat → Nat) (cy : Nat → ClassId) (hG : m_inj 6 a) (N : Nat) {p : Program} {e : Env} {s : State} {m : MethodId} {args : Array Value} {below : List Frame} {meth : Method} {c : Code} (C : m_Cx p s m args meth c cX8_members 4 RX8 (some .int) (Cond.code yX8_members cX8_members 4 (some .int)) D (m_tc cy) (m_AM a) (m_WM a cy) m_ZM) {r0 : Int32} {X0 : XT} : ∀ (n : Nat) (v1 : Int32) (v2 : Int32) (v3 : Int32) (X : XT), f_X8_members_4 N n v1 v2 v3 X = some (r0, X0) → ∀ (H : Heap) (locs : List Loc) (ls : Array Slot), va_P D vwCl (m_WM a cy X) H → va_S (m_AM a) s.heap H locs → lv_has ls 4 [(0, .ref (a 0)), (1, .int v1), (2, .int v2), (3, .int v3)] → W p l e rm_X8_members s m args below meth c H locs 0 0 (MQ below (m_QI D (m_WM a cy) (m_AM a) r0 X0) args s 0 0 (m_AM a)) (F0 m 4 ls []) := by
  have hx := C.1.1
  have hb := C.1.2.1
  intro n
  induction n with
  | zero => intro v1 v2 v3 X hf0; rw [f_X8_members_4] at hf0; cases hf0
  | succ n ih =>
    intro v1 v2 v3 X hf0 H locs ls hP hS hl
    rw [f_X8_members_4] at hf0
    refine lv_iload_n hx hb dX8_members_4 rfl (lv_at hl 3 rfl) ?_
    refine lv_aload_n hx hb dX8_members_5 rfl (lv_at hl 0 rfl) ?_
    refine m_get C hP mM_0 rfl inX8 0 (by decide) wf_X8_7 rfl dX8_members_6 ?_
    refine lv_bipush (v := 6) hx hb dX8_members_9 (by decide) ?_
    obtain ⟨g_1, hf2⟩ := m_gd_s hf0
    clear hf0
    refine m_ild C hP mM_1 0 rfl g_1 dX8_members_11 (fun y_1 e_1 => ?_)
    have hf3 := m_nm_s e_1 hf2
    clear hf2
    refine lv_icmp_ge (tgt := 38) hx hb dX8_members_12 (by decide) (fun c_4 => ?_) (fun c_4 => ?_)
    · have hf5 := m_it c_4 hf3
      clear hf3
      refine lv_iload_n hx hb dX8_members_38 rfl (lv_at hl 2 rfl) ?_
      exact m_iret C hP hS dX8_members_39 hf5
    · have hf6 := m_ie c_4 hf3
      clear hf3
      refine lv_iload_n hx hb dX8_members_15 rfl (lv_at hl 2 rfl) ?_
      refine lv_aload_n hx hb dX8_members_16 rfl (lv_at hl 0 rfl) ?_
      refine lv_iload_n hx hb dX8_members_17 rfl (lv_at hl 3 rfl) ?_
      refine lv_iload_n hx hb dX8_members_18 rfl (lv_at hl 1 rfl) ?_
      obtain ⟨r_7, X_7, h_7, hf8⟩ := m_bi_s hf6
      clear hf6
      refine m_callVi (q := (RX8, TX8, 13)) C [.int v3, .int v1] [.int v2] (c_X8_isIn l D a cy hG N _ _ _ h_7) (m_goodV wl_X8_44 wi_X8_isIn ws_X8_isIn wn_X8 wc_X8_isIn) ⟨rfl, rfl⟩ hv_X8_isIn ⟨Nat.le_of_ble_eq_true rfl, Nat.le_of_ble_eq_true rfl⟩ rfl mM_0 hP hS rfl hl.1 rfl (Nat.le_of_ble_eq_true rfl) dX8_members_19 (fun H locs hP hS => ?_)
      refine lv_if_eq (tgt := 29) hx hb dX8_members_22 (by decide) (fun c_9 => ?_) (fun c_9 => ?_)
      · have hf10 := m_it c_9 hf8
        clear hf8
        refine lv_iconst (v := 0) hx hb dX8_members_29 (by decide) ?_
        refine lv_iadd hx hb dX8_members_30 ?_
        refine lv_topi (fun y_12 e_12 => ?_)
        have hf13 := m_nm_s e_12 hf10
        clear hf10
        refine lv_istore_n (lv' := [(2, .int y_12), (0, .ref (a 0)), (1, .int v1), (3, .int v3)]) hx hb dX8_members_31 rfl hl (by decide) rfl (fun ls hl => ?_)
        obtain ⟨y_14, e_14⟩ : ∃ y : Int32, y = v3 + 1 := ⟨_, rfl⟩
        refine lv_iinc (v := y_14) (lv' := [(3, .int y_14), (2, .int y_12), (0, .ref (a 0)), (1, .int v1)]) hx hb dX8_members_32 hl (k := 3) rfl (by rw [e_14]; rfl) (by decide) rfl (fun ls hl => ?_)
        have hf15 := m_nm_s e_14 hf13
        clear hf13
        refine lv_goto (tgt := 4) hx hb dX8_members_35 (by decide) ?_
        exact ih _ _ _ _ hf15 H locs ls hP hS (lv_sub hl [2, 3, 1, 0] rfl)
      · have hf11 := m_ie c_9 hf8
        clear hf8
        refine lv_iconst (v := 1) hx hb dX8_members_25 (by decide) ?_
        refine lv_goto (tgt := 30) hx hb dX8_members_26 (by decide) ?_
        refine lv_iadd hx hb dX8_members_30 ?_
        refine lv_topi (fun y_16 e_16 => ?_)
        have hf17 := m_nm_s e_16 hf11
        clear hf11
        refine lv_istore_n (lv' := [(2, .int y_16), (0, .ref (a 0)), (1, .int v1), (3, .int v3)]) hx hb dX8_members_31 rfl hl (by decide) rfl (fun ls hl => ?_)
        obtain ⟨y_18, e_18⟩ : ∃ y : Int32, y = v3 + 1 := ⟨_, rfl⟩
        refine lv_iinc (v := y_18) (lv' := [(3, .int y_18), (2, .int y_16), (0, .ref (a 0)), (1, .int v1)]) hx hb dX8_members_32 hl (k := 3) rfl (by rw [e_18]; rfl) (by decide) rfl (fun ls hl => ?_)
        have hf19 := m_nm_s e_18 hf17
        clear hf17
        refine lv_goto (tgt := 4) hx hb dX8_members_35 (by decide) ?_
        exact ih _ _ _ _ hf19 H locs ls hP hS (lv_sub hl [2, 3, 1, 0] rfl)
def f_X8_members (N : Nat) (v1 : Int32) (X : XT) : Option (Int32 × XT) := f_X8_members_4 N N v1 0 0 X
set_option maxHeartbeats 4000000 in
set_option maxRecDepth 100000 in
theorem c_X8_members (l : Launch) (D : va_G) (a : Nat → Nat) (cy : Nat → ClassId) (hG : m_inj 6 a) (N : Nat) (v1 : Int32) (X : XT) {r0 : Int32} {X0 : XT} (hf0 : f_X8_members N v1 X = some (r0, X0)) : Met l yX8_members (Cond.code yX8_members cX8_members 4 (some .int) :: m_tbl) rm_X8_members (va_Pc [.ref (a 0), .int v1] (m_PX D (m_tc cy) (m_WM a cy) m_ZM X)) (m_QI D (m_WM a cy) (m_AM a) r0 X0) 0 0 (m_AM a) := by
  refine m_met (own := RX8) hy_X8_members rfl (Nat.le_of_ble_eq_true rfl) (m_wl_D hG _) m_ZM_keep ?_
  intro p e s m args below meth c C ls hl hP hS
  have hx := C.1.1
  have hb := C.1.2.1
  have hl : lv_has ls 4 [(0, .ref (a 0)), (1, .int v1)] := hl
  unfold f_X8_members at hf0
  suffices K : ∀ (H : Heap) (locs : List Loc), va_P D vwCl (m_WM a cy X) H → va_S (m_AM a) s.heap H locs → W p l e rm_X8_members s m args below meth c H locs 0 0 (MQ below (m_QI D (m_WM a cy) (m_AM a) r0 X0) args s 0 0 (m_AM a)) (F0 m 0 ls []) from K _ _ hP hS
  clear hP hS
  intro H locs hP hS
  refine lv_iconst (v := 0) hx hb dX8_members_0 (by decide) ?_
  refine lv_istore_n (lv' := [(2, .int 0), (0, .ref (a 0)), (1, .int v1)]) hx hb dX8_members_1 rfl hl (by decide) rfl (fun ls hl => ?_)
  refine lv_iconst (v := 0) hx hb dX8_members_2 (by decide) ?_
  refine lv_istore_n (lv' := [(3, .int 0), (2, .int 0), (0, .ref (a 0)), (1, .int v1)]) hx hb dX8_members_3 rfl hl (by decide) rfl (fun ls hl => ?_)
  exact w_X8_members_4 l D a cy hG N C _ _ _ _ _ hf0 H locs ls hP hS (lv_sub hl [2, 3, 1, 0] rfl)
abbrev rm_X8_recordsOf : Room := { frames := 2, cells := 0, slots := 0, locals := 44 }
def f_X8_recordsOf_4 (N : Nat) : Nat → Int32 → Int32 → Int32 → XT → Option (Int32 × XT)
  | 0, _, _, _, _ => none
  | n + 1, v1, v2, v3, X => m_gd (m_in 6 1816) <| m_nm (X 1 (Int32.toNatClampNeg 6)) fun y_1 => if y_1 ≤ v3 then (some (v2, X)) else (m_bi (f_X8_isIn N v3 v1 X) fun r_7 X_7 => if r_7 = 0 then (m_nm (v2 + 0) fun y_12 => m_nm (v3 + 1) fun y_14 => f_X8_recordsOf_4 N n v1 y_12 y_14 X_7) else (m_bi (f_X8_of N v3 1 X_7) fun r_16 X_16 => m_nm (v2 + r_16) fun y_18 => m_nm (v3 + 1) fun y_20 => f_X8_recordsOf_4 N n v1 y_18 y_20 X_16))
set_option maxHeartbeats 4000000 in
set_option maxRecDepth 100000 in
theorem w_X8_recordsOf_4 (l : Launch) (D : va_G) (a : Nat → Nat) (cy : Nat → ClassId) (hG : m_inj 6 a) (N : Nat) {p : Program} {e : Env} {s : State} {m : MethodId} {args : Array Value} {below : List Frame} {meth : Method} {c : Code} (C : m_Cx p s m args meth c cX8_recordsOf 4 RX8 (some .int) (Cond.code yX8_recordsOf cX8_recordsOf 4 (some .int)) D (m_tc cy) (m_AM a) (m_WM a cy) m_ZM) {r0 : Int32} {X0 : XT} : ∀ (n : Nat) (v1 : Int32) (v2 : Int32) (v3 : Int32) (X : XT), f_X8_recordsOf_4 N n v1 v2 v3 X = some (r0, X0) → ∀ (H : Heap) (locs : List Loc) (ls : Array Slot), va_P D vwCl (m_WM a cy X) H → va_S (m_AM a) s.heap H locs → lv_has ls 4 [(0, .ref (a 0)), (1, .int v1), (2, .int v2), (3, .int v3)] → W p l e rm_X8_recordsOf s m args below meth c H locs 0 0 (MQ below (m_QI D (m_WM a cy) (m_AM a) r0 X0) args s 0 0 (m_AM a)) (F0 m 4 ls []) := by
  have hx := C.1.1
  have hb := C.1.2.1
  intro n
  induction n with
  | zero => intro v1 v2 v3 X hf0; rw [f_X8_recordsOf_4] at hf0; cases hf0
  | succ n ih =>
    intro v1 v2 v3 X hf0 H locs ls hP hS hl
    rw [f_X8_recordsOf_4] at hf0
    refine lv_iload_n hx hb dX8_recordsOf_4 rfl (lv_at hl 3 rfl) ?_
    refine lv_aload_n hx hb dX8_recordsOf_5 rfl (lv_at hl 0 rfl) ?_
    refine m_get C hP mM_0 rfl inX8 0 (by decide) wf_X8_7 rfl dX8_recordsOf_6 ?_
    refine lv_bipush (v := 6) hx hb dX8_recordsOf_9 (by decide) ?_
    obtain ⟨g_1, hf2⟩ := m_gd_s hf0
    clear hf0
    refine m_ild C hP mM_1 0 rfl g_1 dX8_recordsOf_11 (fun y_1 e_1 => ?_)
    have hf3 := m_nm_s e_1 hf2
    clear hf2
    refine lv_icmp_ge (tgt := 43) hx hb dX8_recordsOf_12 (by decide) (fun c_4 => ?_) (fun c_4 => ?_)
    · have hf5 := m_it c_4 hf3
      clear hf3
      refine lv_iload_n hx hb dX8_recordsOf_43 rfl (lv_at hl 2 rfl) ?_
      exact m_iret C hP hS dX8_recordsOf_44 hf5
    · have hf6 := m_ie c_4 hf3
      clear hf3
      refine lv_iload_n hx hb dX8_recordsOf_15 rfl (lv_at hl 2 rfl) ?_
      refine lv_aload_n hx hb dX8_recordsOf_16 rfl (lv_at hl 0 rfl) ?_
      refine lv_iload_n hx hb dX8_recordsOf_17 rfl (lv_at hl 3 rfl) ?_
      refine lv_iload_n hx hb dX8_recordsOf_18 rfl (lv_at hl 1 rfl) ?_
      obtain ⟨r_7, X_7, h_7, hf8⟩ := m_bi_s hf6
      clear hf6
      refine m_callVi (q := (RX8, TX8, 13)) C [.int v3, .int v1] [.int v2] (c_X8_isIn l D a cy hG N _ _ _ h_7) (m_goodV wl_X8_44 wi_X8_isIn ws_X8_isIn wn_X8 wc_X8_isIn) ⟨rfl, rfl⟩ hv_X8_isIn ⟨Nat.le_of_ble_eq_true rfl, Nat.le_of_ble_eq_true rfl⟩ rfl mM_0 hP hS rfl hl.1 rfl (Nat.le_of_ble_eq_true rfl) dX8_recordsOf_19 (fun H locs hP hS => ?_)
      refine lv_if_eq (tgt := 34) hx hb dX8_recordsOf_22 (by decide) (fun c_9 => ?_) (fun c_9 => ?_)
      · have hf10 := m_it c_9 hf8
        clear hf8
        refine lv_iconst (v := 0) hx hb dX8_recordsOf_34 (by decide) ?_
        refine lv_iadd hx hb dX8_recordsOf_35 ?_
        refine lv_topi (fun y_12 e_12 => ?_)
        have hf13 := m_nm_s e_12 hf10
        clear hf10
        refine lv_istore_n (lv' := [(2, .int y_12), (0, .ref (a 0)), (1, .int v1), (3, .int v3)]) hx hb dX8_recordsOf_36 rfl hl (by decide) rfl (fun ls hl => ?_)
        obtain ⟨y_14, e_14⟩ : ∃ y : Int32, y = v3 + 1 := ⟨_, rfl⟩
        refine lv_iinc (v := y_14) (lv' := [(3, .int y_14), (2, .int y_12), (0, .ref (a 0)), (1, .int v1)]) hx hb dX8_recordsOf_37 hl (k := 3) rfl (by rw [e_14]; rfl) (by decide) rfl (fun ls hl => ?_)
        have hf15 := m_nm_s e_14 hf13
        clear hf13
        refine lv_goto (tgt := 4) hx hb dX8_recordsOf_40 (by decide) ?_
        exact ih _ _ _ _ hf15 H locs ls hP hS (lv_sub hl [2, 3, 1, 0] rfl)
      · have hf11 := m_ie c_9 hf8
        clear hf8
        refine lv_aload_n hx hb dX8_recordsOf_25 rfl (lv_at hl 0 rfl) ?_
        refine lv_iload_n hx hb dX8_recordsOf_26 rfl (lv_at hl 3 rfl) ?_
        refine lv_iconst (v := 1) hx hb dX8_recordsOf_27 (by decide) ?_
        obtain ⟨r_16, X_16, h_16, hf17⟩ := m_bi_s hf11
        clear hf11
        refine m_callVi (q := (RX8, TX8, 13)) C [.int v3, .int 1] [.int v2] (c_X8_of l D a cy hG N _ _ _ h_16) (m_goodV wl_X8_40 wi_X8_of ws_X8_of wn_X8 wc_X8_of) ⟨rfl, rfl⟩ hv_X8_of ⟨Nat.le_of_ble_eq_true rfl, Nat.le_of_ble_eq_true rfl⟩ rfl mM_0 hP hS rfl hl.1 rfl (Nat.le_of_ble_eq_true rfl) dX8_recordsOf_28 (fun H locs hP hS => ?_)
        refine lv_goto (tgt := 35) hx hb dX8_recordsOf_31 (by decide) ?_
        refine lv_iadd hx hb dX8_recordsOf_35 ?_
        refine lv_topi (fun y_18 e_18 => ?_)
        have hf19 := m_nm_s e_18 hf17
        clear hf17
        refine lv_istore_n (lv' := [(2, .int y_18), (0, .ref (a 0)), (1, .int v1), (3, .int v3)]) hx hb dX8_recordsOf_36 rfl hl (by decide) rfl (fun ls hl => ?_)
        obtain ⟨y_20, e_20⟩ : ∃ y : Int32, y = v3 + 1 := ⟨_, rfl⟩
        refine lv_iinc (v := y_20) (lv' := [(3, .int y_20), (2, .int y_18), (0, .ref (a 0)), (1, .int v1)]) hx hb dX8_recordsOf_37 hl (k := 3) rfl (by rw [e_20]; rfl) (by decide) rfl (fun ls hl => ?_)
        have hf21 := m_nm_s e_20 hf19
        clear hf19
        refine lv_goto (tgt := 4) hx hb dX8_recordsOf_40 (by decide) ?_
        exact ih _ _ _ _ hf21 H locs ls hP hS (lv_sub hl [2, 3, 1, 0] rfl)
def f_X8_recordsOf (N : Nat) (v1 : Int32) (X : XT) : Option (Int32 × XT) := f_X8_recordsOf_4 N N v1 0 0 X
set_option maxHeartbeats 4000000 in
set_option maxRecDepth 100000 in
theorem c_X8_recordsOf (l : Launch) (D : va_G) (a : Nat → Nat) (cy : Nat → ClassId) (hG : m_inj 6 a) (N : Nat) (v1 : Int32) (X : XT) {r0 : Int32} {X0 : XT} (hf0 : f_X8_recordsOf N v1 X = some (r0, X0)) : Met l yX8_recordsOf (Cond.code yX8_recordsOf cX8_recordsOf 4 (some .int) :: m_tbl) rm_X8_recordsOf (va_Pc [.ref (a 0), .int v1] (m_PX D (m_tc cy) (m_WM a cy) m_ZM X)) (m_QI D (m_WM a cy) (m_AM a) r0 X0) 0 0 (m_AM a) := by
  refine m_met (own := RX8) hy_X8_recordsOf rfl (Nat.le_of_ble_eq_true rfl) (m_wl_D hG _) m_ZM_keep ?_
  intro p e s m args below meth c C ls hl hP hS
  have hx := C.1.1
  have hb := C.1.2.1
  have hl : lv_has ls 4 [(0, .ref (a 0)), (1, .int v1)] := hl
  unfold f_X8_recordsOf at hf0
  suffices K : ∀ (H : Heap) (locs : List Loc), va_P D vwCl (m_WM a cy X) H → va_S (m_AM a) s.heap H locs → W p l e rm_X8_recordsOf s m args below meth c H locs 0 0 (MQ below (m_QI D (m_WM a cy) (m_AM a) r0 X0) args s 0 0 (m_AM a)) (F0 m 0 ls []) from K _ _ hP hS
  clear hP hS
  intro H locs hP hS
  refine lv_iconst (v := 0) hx hb dX8_recordsOf_0 (by decide) ?_
  refine lv_istore_n (lv' := [(2, .int 0), (0, .ref (a 0)), (1, .int v1)]) hx hb dX8_recordsOf_1 rfl hl (by decide) rfl (fun ls hl => ?_)
  refine lv_iconst (v := 0) hx hb dX8_recordsOf_2 (by decide) ?_
  refine lv_istore_n (lv' := [(3, .int 0), (2, .int 0), (0, .ref (a 0)), (1, .int v1)]) hx hb dX8_recordsOf_3 rfl hl (by decide) rfl (fun ls hl => ?_)
  exact w_X8_recordsOf_4 l D a cy hG N C _ _ _ _ _ hf0 H locs ls hP hS (lv_sub hl [2, 3, 1, 0] rfl)
abbrev rm_X8_memberAt : Room := { frames := 2, cells := 0, slots := 0, locals := 44 }
def f_X8_memberAt_5 (N : Nat) : Nat → Int32 → Int32 → Int32 → XT → Option (Int32 × XT)
  | 0, _, _, _, _ => none
  | n + 1, v1, v3, v4, X => m_gd (m_in 6 1816) <| m_nm (X 1 (Int32.toNatClampNeg 6)) fun y_1 => if y_1 ≤ v4 then (some ((-5), X)) else (m_bi (f_X8_isIn N v4 v1 X) fun r_7 X_7 => if r_7 = 0 then (m_nm (v4 + 1) fun y_12 => f_X8_memberAt_5 N n v1 v3 y_12 X_7) else (if v3 = 0 then (some (v4, X_7)) else (m_nm (v3 + (-1)) fun y_17 => m_nm (v4 + 1) fun y_19 => f_X8_memberAt_5 N n v1 y_17 y_19 X_7)))
set_option maxHeartbeats 4000000 in
set_option maxRecDepth 100000 in
theorem w_X8_memberAt_5 (l : Launch) (D : va_G) (a : Nat → Nat) (cy : Nat → ClassId) (hG : m_inj 6 a) (N : Nat) {p : Program} {e : Env} {s : State} {m : MethodId} {args : Array Value} {below : List Frame} {meth : Method} {c : Code} (C : m_Cx p s m args meth c cX8_memberAt 5 RX8 (some .int) (Cond.code yX8_memberAt cX8_memberAt 5 (some .int)) D (m_tc cy) (m_AM a) (m_WM a cy) m_ZM) {r0 : Int32} {X0 : XT} : ∀ (n : Nat) (v1 : Int32) (v3 : Int32) (v4 : Int32) (X : XT), f_X8_memberAt_5 N n v1 v3 v4 X = some (r0, X0) → ∀ (H : Heap) (locs : List Loc) (ls : Array Slot), va_P D vwCl (m_WM a cy X) H → va_S (m_AM a) s.heap H locs → lv_has ls 5 [(0, .ref (a 0)), (1, .int v1), (3, .int v3), (4, .int v4)] → W p l e rm_X8_memberAt s m args below meth c H locs 0 0 (MQ below (m_QI D (m_WM a cy) (m_AM a) r0 X0) args s 0 0 (m_AM a)) (F0 m 5 ls []) := by
  have hx := C.1.1
  have hb := C.1.2.1
  intro n
  induction n with
  | zero => intro v1 v3 v4 X hf0; rw [f_X8_memberAt_5] at hf0; cases hf0
  | succ n ih =>
    intro v1 v3 v4 X hf0 H locs ls hP hS hl
    rw [f_X8_memberAt_5] at hf0
    refine lv_iload hx hb dX8_memberAt_5 (lv_at hl 3 rfl) ?_
    refine lv_aload_n hx hb dX8_memberAt_7 rfl (lv_at hl 0 rfl) ?_
    refine m_get C hP mM_0 rfl inX8 0 (by decide) wf_X8_7 rfl dX8_memberAt_8 ?_
    refine lv_bipush (v := 6) hx hb dX8_memberAt_11 (by decide) ?_
    obtain ⟨g_1, hf2⟩ := m_gd_s hf0
    clear hf0
    refine m_ild C hP mM_1 0 rfl g_1 dX8_memberAt_13 (fun y_1 e_1 => ?_)
    have hf3 := m_nm_s e_1 hf2
    clear hf2
    refine lv_icmp_ge (tgt := 43) hx hb dX8_memberAt_14 (by decide) (fun c_4 => ?_) (fun c_4 => ?_)
    · have hf5 := m_it c_4 hf3
      clear hf3
      refine lv_bipush (v := (-5)) hx hb dX8_memberAt_43 (by decide) ?_
      exact m_iret C hP hS dX8_memberAt_45 hf5
    · have hf6 := m_ie c_4 hf3
      clear hf3
      refine lv_aload_n hx hb dX8_memberAt_17 rfl (lv_at hl 0 rfl) ?_
      refine lv_iload hx hb dX8_memberAt_18 (lv_at hl 3 rfl) ?_
      refine lv_iload_n hx hb dX8_memberAt_20 rfl (lv_at hl 1 rfl) ?_
      obtain ⟨r_7, X_7, h_7, hf8⟩ := m_bi_s hf6
      clear hf6
      refine m_callVi (q := (RX8, TX8, 13)) C [.int v4, .int v1] [] (c_X8_isIn l D a cy hG N _ _ _ h_7) (m_goodV wl_X8_44 wi_X8_isIn ws_X8_isIn wn_X8 wc_X8_isIn) ⟨rfl, rfl⟩ hv_X8_isIn ⟨Nat.le_of_ble_eq_true rfl, Nat.le_of_ble_eq_true rfl⟩ rfl mM_0 hP hS rfl hl.1 rfl (Nat.le_of_ble_eq_true rfl) dX8_memberAt_21 (fun H locs hP hS => ?_)
      refine lv_if_eq (tgt := 37) hx hb dX8_memberAt_24 (by decide) (fun c_9 => ?_) (fun c_9 => ?_)
      · have hf10 := m_it c_9 hf8
        clear hf8
        obtain ⟨y_12, e_12⟩ : ∃ y : Int32, y = v4 + 1 := ⟨_, rfl⟩
        refine lv_iinc (v := y_12) (lv' := [(4, .int y_12), (0, .ref (a 0)), (1, .int v1), (3, .int v3)]) hx hb dX8_memberAt_37 hl (k := 3) rfl (by rw [e_12]; rfl) (by decide) rfl (fun ls hl => ?_)
        have hf13 := m_nm_s e_12 hf10
        clear hf10
        refine lv_goto (tgt := 5) hx hb dX8_memberAt_40 (by decide) ?_
        exact ih _ _ _ _ hf13 H locs ls hP hS (lv_sub hl [1, 2, 3, 0] rfl)
      · have hf11 := m_ie c_9 hf8
        clear hf8
        refine lv_iload_n hx hb dX8_memberAt_27 rfl (lv_at hl 2 rfl) ?_
        refine lv_if_ne (tgt := 34) hx hb dX8_memberAt_28 (by decide) (fun c_14 => ?_) (fun c_14 => ?_)
        · have hf15 := m_ie c_14 hf11
          clear hf11
          obtain ⟨y_17, e_17⟩ : ∃ y : Int32, y = v3 + (-1) := ⟨_, rfl⟩
          refine lv_iinc (v := y_17) (lv' := [(3, .int y_17), (0, .ref (a 0)), (1, .int v1), (4, .int v4)]) hx hb dX8_memberAt_34 hl (k := 2) rfl (by rw [e_17]; rfl) (by decide) rfl (fun ls hl => ?_)
          have hf18 := m_nm_s e_17 hf15
          clear hf15
          obtain ⟨y_19, e_19⟩ : ∃ y : Int32, y = v4 + 1 := ⟨_, rfl⟩
          refine lv_iinc (v := y_19) (lv' := [(4, .int y_19), (3, .int y_17), (0, .ref (a 0)), (1, .int v1)]) hx hb dX8_memberAt_37 hl (k := 3) rfl (by rw [e_19]; rfl) (by decide) rfl (fun ls hl => ?_)
          have hf20 := m_nm_s e_19 hf18
          clear hf18
          refine lv_goto (tgt := 5) hx hb dX8_memberAt_40 (by decide) ?_
          exact ih _ _ _ _ hf20 H locs ls hP hS (lv_sub hl [2, 3, 1, 0] rfl)
        · have hf16 := m_it c_14 hf11
          clear hf11
          refine lv_iload hx hb dX8_memberAt_31 (lv_at hl 3 rfl) ?_
          exact m_iret C hP hS dX8_memberAt_33 hf16
def f_X8_memberAt (N : Nat) (v1 : Int32) (v2 : Int32) (X : XT) : Option (Int32 × XT) := f_X8_memberAt_5 N N v1 v2 0 X
set_option maxHeartbeats 4000000 in
set_option maxRecDepth 100000 in
theorem c_X8_memberAt (l : Launch) (D : va_G) (a : Nat → Nat) (cy : Nat → ClassId) (hG : m_inj 6 a) (N : Nat) (v1 : Int32) (v2 : Int32) (X : XT) {r0 : Int32} {X0 : XT} (hf0 : f_X8_memberAt N v1 v2 X = some (r0, X0)) : Met l yX8_memberAt (Cond.code yX8_memberAt cX8_memberAt 5 (some .int) :: m_tbl) rm_X8_memberAt (va_Pc [.ref (a 0), .int v1, .int v2] (m_PX D (m_tc cy) (m_WM a cy) m_ZM X)) (m_QI D (m_WM a cy) (m_AM a) r0 X0) 0 0 (m_AM a) := by
  refine m_met (own := RX8) hy_X8_memberAt rfl (Nat.le_of_ble_eq_true rfl) (m_wl_D hG _) m_ZM_keep ?_
  intro p e s m args below meth c C ls hl hP hS
  have hx := C.1.1
  have hb := C.1.2.1
  have hl : lv_has ls 5 [(0, .ref (a 0)), (1, .int v1), (2, .int v2)] := hl
  unfold f_X8_memberAt at hf0
  suffices K : ∀ (H : Heap) (locs : List Loc), va_P D vwCl (m_WM a cy X) H → va_S (m_AM a) s.heap H locs → W p l e rm_X8_memberAt s m args below meth c H locs 0 0 (MQ below (m_QI D (m_WM a cy) (m_AM a) r0 X0) args s 0 0 (m_AM a)) (F0 m 0 ls []) from K _ _ hP hS
  clear hP hS
  intro H locs hP hS
  refine lv_iload_n hx hb dX8_memberAt_0 rfl (lv_at hl 2 rfl) ?_
  refine lv_istore_n (lv' := [(3, .int v2), (0, .ref (a 0)), (1, .int v1), (2, .int v2)]) hx hb dX8_memberAt_1 rfl hl (by decide) rfl (fun ls hl => ?_)
  refine lv_iconst (v := 0) hx hb dX8_memberAt_2 (by decide) ?_
  refine lv_istore (lv' := [(4, .int 0), (3, .int v2), (0, .ref (a 0)), (1, .int v1), (2, .int v2)]) hx hb dX8_memberAt_3 hl (by decide) rfl (fun ls hl => ?_)
  exact w_X8_memberAt_5 l D a cy hG N C _ _ _ _ _ hf0 H locs ls hP hS (lv_sub hl [2, 3, 1, 0] rfl)
abbrev rm_X8_turnMembers : Room := { frames := 2, cells := 0, slots := 0, locals := 44 }
def f_X8_turnMembers_5 (N : Nat) : Nat → Int32 → Int32 → Int32 → Int32 → XT → Option (Int32 × XT)
  | 0, _, _, _, _, _ => none
  | n + 1, v1, v2, v3, v4, X => m_gd (m_in 6 1816) <| m_nm (X 1 (Int32.toNatClampNeg 6)) fun y_1 => if y_1 ≤ v4 then (some (v3, X)) else (m_bi (f_X8_isIn N v4 v1 X) fun r_7 X_7 => if r_7 = 0 then (m_nm (v4 + 1) fun y_12 => f_X8_turnMembers_5 N n v1 v2 v3 y_12 X_7) else (m_bi (f_X8_of N v4 3 X_7) fun r_14 X_14 => if 4 ≤ r_14 then (m_nm (v4 + 1) fun y_19 => f_X8_turnMembers_5 N n v1 v2 v3 y_19 X_14) else (m_bv (f_X8_setOf N v4 3 v2 X_14) fun X_21 => m_nm (v3 + 1) fun y_23 => m_nm (v4 + 1) fun y_25 => f_X8_turnMembers_5 N n v1 v2 y_23 y_25 X_21)))
set_option maxHeartbeats 4000000 in
set_option maxRecDepth 100000 in
theorem w_X8_turnMembers_5 (l : Launch) (D : va_G) (a : Nat → Nat) (cy : Nat → ClassId) (hG : m_inj 6 a) (N : Nat) {p : Program} {e : Env} {s : State} {m : MethodId} {args : Array Value} {below : List Frame} {meth : Method} {c : Code} (C : m_Cx p s m args meth c cX8_turnMembers 5 RX8 (some .int) (Cond.code yX8_turnMembers cX8_turnMembers 5 (some .int)) D (m_tc cy) (m_AM a) (m_WM a cy) m_ZM) {r0 : Int32} {X0 : XT} : ∀ (n : Nat) (v1 : Int32) (v2 : Int32) (v3 : Int32) (v4 : Int32) (X : XT), f_X8_turnMembers_5 N n v1 v2 v3 v4 X = some (r0, X0) → ∀ (H : Heap) (locs : List Loc) (ls : Array Slot), va_P D vwCl (m_WM a cy X) H → va_S (m_AM a) s.heap H locs → lv_has ls 5 [(0, .ref (a 0)), (1, .int v1), (2, .int v2), (3, .int v3), (4, .int v4)] → W p l e rm_X8_turnMembers s m args below meth c H locs 0 0 (MQ below (m_QI D (m_WM a cy) (m_AM a) r0 X0) args s 0 0 (m_AM a)) (F0 m 5 ls []) := by
  have hx := C.1.1
  have hb := C.1.2.1
  intro n
  induction n with
  | zero => intro v1 v2 v3 v4 X hf0; rw [f_X8_turnMembers_5] at hf0; cases hf0
  | succ n ih =>
    intro v1 v2 v3 v4 X hf0 H locs ls hP hS hl
    rw [f_X8_turnMembers_5] at hf0
    refine lv_iload hx hb dX8_turnMembers_5 (lv_at hl 4 rfl) ?_
    refine lv_aload_n hx hb dX8_turnMembers_7 rfl (lv_at hl 0 rfl) ?_
    refine m_get C hP mM_0 rfl inX8 0 (by decide) wf_X8_7 rfl dX8_turnMembers_8 ?_
    refine lv_bipush (v := 6) hx hb dX8_turnMembers_11 (by decide) ?_
    obtain ⟨g_1, hf2⟩ := m_gd_s hf0
    clear hf0
    refine m_ild C hP mM_1 0 rfl g_1 dX8_turnMembers_13 (fun y_1 e_1 => ?_)
    have hf3 := m_nm_s e_1 hf2
    clear hf2
    refine lv_icmp_ge (tgt := 55) hx hb dX8_turnMembers_14 (by decide) (fun c_4 => ?_) (fun c_4 => ?_)
    · have hf5 := m_it c_4 hf3
      clear hf3
      refine lv_iload_n hx hb dX8_turnMembers_55 rfl (lv_at hl 3 rfl) ?_
      exact m_iret C hP hS dX8_turnMembers_56 hf5
    · have hf6 := m_ie c_4 hf3
      clear hf3
      refine lv_aload_n hx hb dX8_turnMembers_17 rfl (lv_at hl 0 rfl) ?_
      refine lv_iload hx hb dX8_turnMembers_18 (lv_at hl 4 rfl) ?_
      refine lv_iload_n hx hb dX8_turnMembers_20 rfl (lv_at hl 1 rfl) ?_
      obtain ⟨r_7, X_7, h_7, hf8⟩ := m_bi_s hf6
      clear hf6
      refine m_callVi (q := (RX8, TX8, 13)) C [.int v4, .int v1] [] (c_X8_isIn l D a cy hG N _ _ _ h_7) (m_goodV wl_X8_44 wi_X8_isIn ws_X8_isIn wn_X8 wc_X8_isIn) ⟨rfl, rfl⟩ hv_X8_isIn ⟨Nat.le_of_ble_eq_true rfl, Nat.le_of_ble_eq_true rfl⟩ rfl mM_0 hP hS rfl hl.1 rfl (Nat.le_of_ble_eq_true rfl) dX8_turnMembers_21 (fun H locs hP hS => ?_)
      refine lv_if_eq (tgt := 49) hx hb dX8_turnMembers_24 (by decide) (fun c_9 => ?_) (fun c_9 => ?_)
      · have hf10 := m_it c_9 hf8
        clear hf8
        obtain ⟨y_12, e_12⟩ : ∃ y : Int32, y = v4 + 1 := ⟨_, rfl⟩
        refine lv_iinc (v := y_12) (lv' := [(4, .int y_12), (0, .ref (a 0)), (1, .int v1), (2, .int v2), (3, .int v3)]) hx hb dX8_turnMembers_49 hl (k := 4) rfl (by rw [e_12]; rfl) (by decide) rfl (fun ls hl => ?_)
        have hf13 := m_nm_s e_12 hf10
        clear hf10
        refine lv_goto (tgt := 5) hx hb dX8_turnMembers_52 (by decide) ?_
        exact ih _ _ _ _ _ hf13 H locs ls hP hS (lv_sub hl [1, 2, 3, 4, 0] rfl)
      · have hf11 := m_ie c_9 hf8
        clear hf8
        refine lv_aload_n hx hb dX8_turnMembers_27 rfl (lv_at hl 0 rfl) ?_
        refine lv_iload hx hb dX8_turnMembers_28 (lv_at hl 4 rfl) ?_
        refine lv_iconst (v := 3) hx hb dX8_turnMembers_30 (by decide) ?_
        obtain ⟨r_14, X_14, h_14, hf15⟩ := m_bi_s hf11
        clear hf11
        refine m_callVi (q := (RX8, TX8, 13)) C [.int v4, .int 3] [] (c_X8_of l D a cy hG N _ _ _ h_14) (m_goodV wl_X8_40 wi_X8_of ws_X8_of wn_X8 wc_X8_of) ⟨rfl, rfl⟩ hv_X8_of ⟨Nat.le_of_ble_eq_true rfl, Nat.le_of_ble_eq_true rfl⟩ rfl mM_0 hP hS rfl hl.1 rfl (Nat.le_of_ble_eq_true rfl) dX8_turnMembers_31 (fun H locs hP hS => ?_)
        refine lv_iconst (v := 4) hx hb dX8_turnMembers_34 (by decide) ?_
        refine lv_icmp_ge (tgt := 49) hx hb dX8_turnMembers_35 (by decide) (fun c_16 => ?_) (fun c_16 => ?_)
        · have hf17 := m_it c_16 hf15
          clear hf15
          obtain ⟨y_19, e_19⟩ : ∃ y : Int32, y = v4 + 1 := ⟨_, rfl⟩
          refine lv_iinc (v := y_19) (lv' := [(4, .int y_19), (0, .ref (a 0)), (1, .int v1), (2, .int v2), (3, .int v3)]) hx hb dX8_turnMembers_49 hl (k := 4) rfl (by rw [e_19]; rfl) (by decide) rfl (fun ls hl => ?_)
          have hf20 := m_nm_s e_19 hf17
          clear hf17
          refine lv_goto (tgt := 5) hx hb dX8_turnMembers_52 (by decide) ?_
          exact ih _ _ _ _ _ hf20 H locs ls hP hS (lv_sub hl [1, 2, 3, 4, 0] rfl)
        · have hf18 := m_ie c_16 hf15
          clear hf15
          refine lv_aload_n hx hb dX8_turnMembers_38 rfl (lv_at hl 0 rfl) ?_
          refine lv_iload hx hb dX8_turnMembers_39 (lv_at hl 4 rfl) ?_
          refine lv_iconst (v := 3) hx hb dX8_turnMembers_41 (by decide) ?_
          refine lv_iload_n hx hb dX8_turnMembers_42 rfl (lv_at hl 2 rfl) ?_
          obtain ⟨X_21, h_21, hf22⟩ := m_bv_s hf18
          clear hf18
          refine m_callVv (q := (RX8, TX8, 13)) C [.int v4, .int 3, .int v2] [] (c_X8_setOf l D a cy hG N _ _ _ _ h_21) (m_goodV wl_X8_48 wi_X8_setOf ws_X8_setOf wn_X8 wc_X8_setOf) ⟨rfl, rfl⟩ hv_X8_setOf ⟨Nat.le_of_ble_eq_true rfl, Nat.le_of_ble_eq_true rfl⟩ rfl mM_0 hP hS rfl hl.1 rfl (Nat.le_of_ble_eq_true rfl) dX8_turnMembers_43 (fun H locs hP hS => ?_)
          obtain ⟨y_23, e_23⟩ : ∃ y : Int32, y = v3 + 1 := ⟨_, rfl⟩
          refine lv_iinc (v := y_23) (lv' := [(3, .int y_23), (0, .ref (a 0)), (1, .int v1), (2, .int v2), (4, .int v4)]) hx hb dX8_turnMembers_46 hl (k := 3) rfl (by rw [e_23]; rfl) (by decide) rfl (fun ls hl => ?_)
          have hf24 := m_nm_s e_23 hf22
          clear hf22
          obtain ⟨y_25, e_25⟩ : ∃ y : Int32, y = v4 + 1 := ⟨_, rfl⟩
          refine lv_iinc (v := y_25) (lv' := [(4, .int y_25), (3, .int y_23), (0, .ref (a 0)), (1, .int v1), (2, .int v2)]) hx hb dX8_turnMembers_49 hl (k := 4) rfl (by rw [e_25]; rfl) (by decide) rfl (fun ls hl => ?_)
          have hf26 := m_nm_s e_25 hf24
          clear hf24
          refine lv_goto (tgt := 5) hx hb dX8_turnMembers_52 (by decide) ?_
          exact ih _ _ _ _ _ hf26 H locs ls hP hS (lv_sub hl [2, 3, 4, 1, 0] rfl)
def f_X8_turnMembers (N : Nat) (v1 : Int32) (v2 : Int32) (X : XT) : Option (Int32 × XT) := f_X8_turnMembers_5 N N v1 v2 0 0 X
set_option maxHeartbeats 4000000 in
set_option maxRecDepth 100000 in
theorem c_X8_turnMembers (l : Launch) (D : va_G) (a : Nat → Nat) (cy : Nat → ClassId) (hG : m_inj 6 a) (N : Nat) (v1 : Int32) (v2 : Int32) (X : XT) {r0 : Int32} {X0 : XT} (hf0 : f_X8_turnMembers N v1 v2 X = some (r0, X0)) : Met l yX8_turnMembers (Cond.code yX8_turnMembers cX8_turnMembers 5 (some .int) :: m_tbl) rm_X8_turnMembers (va_Pc [.ref (a 0), .int v1, .int v2] (m_PX D (m_tc cy) (m_WM a cy) m_ZM X)) (m_QI D (m_WM a cy) (m_AM a) r0 X0) 0 0 (m_AM a) := by
  refine m_met (own := RX8) hy_X8_turnMembers rfl (Nat.le_of_ble_eq_true rfl) (m_wl_D hG _) m_ZM_keep ?_
  intro p e s m args below meth c C ls hl hP hS
  have hx := C.1.1
  have hb := C.1.2.1
  have hl : lv_has ls 5 [(0, .ref (a 0)), (1, .int v1), (2, .int v2)] := hl
  unfold f_X8_turnMembers at hf0
  suffices K : ∀ (H : Heap) (locs : List Loc), va_P D vwCl (m_WM a cy X) H → va_S (m_AM a) s.heap H locs → W p l e rm_X8_turnMembers s m args below meth c H locs 0 0 (MQ below (m_QI D (m_WM a cy) (m_AM a) r0 X0) args s 0 0 (m_AM a)) (F0 m 0 ls []) from K _ _ hP hS
  clear hP hS
  intro H locs hP hS
  refine lv_iconst (v := 0) hx hb dX8_turnMembers_0 (by decide) ?_
  refine lv_istore_n (lv' := [(3, .int 0), (0, .ref (a 0)), (1, .int v1), (2, .int v2)]) hx hb dX8_turnMembers_1 rfl hl (by decide) rfl (fun ls hl => ?_)
  refine lv_iconst (v := 0) hx hb dX8_turnMembers_2 (by decide) ?_
  refine lv_istore (lv' := [(4, .int 0), (3, .int 0), (0, .ref (a 0)), (1, .int v1), (2, .int v2)]) hx hb dX8_turnMembers_3 hl (by decide) rfl (fun ls hl => ?_)
  exact w_X8_turnMembers_5 l D a cy hG N C _ _ _ _ _ _ hf0 H locs ls hP hS (lv_sub hl [2, 3, 4, 1, 0] rfl)
abbrev rm_X8_queuedAt : Room := { frames := 1, cells := 0, slots := 0, locals := 22 }
def f_X8_queuedAt_4 (N : Nat) : Nat → Int32 → Int32 → XT → Option (Int32 × XT)
  | 0, _, _, _ => none
  | n + 1, v2, v3, X => m_gd (m_in 7 1816) <| m_nm (X 1 (Int32.toNatClampNeg 7)) fun y_1 => if y_1 ≤ v3 then (some ((-5), X)) else (m_bi (f_X8_ofGroup N v3 0 X) fun r_7 X_7 => if r_7 = 2 then (if v2 = 0 then (some (v3, X_7)) else (m_nm (v2 + (-1)) fun y_17 => m_nm (v3 + 1) fun y_19 => f_X8_queuedAt_4 N n y_17 y_19 X_7)) else (m_nm (v3 + 1) fun y_12 => f_X8_queuedAt_4 N n v2 y_12 X_7))
set_option maxHeartbeats 4000000 in
set_option maxRecDepth 100000 in
theorem w_X8_queuedAt_4 (l : Launch) (D : va_G) (a : Nat → Nat) (cy : Nat → ClassId) (hG : m_inj 6 a) (N : Nat) {p : Program} {e : Env} {s : State} {m : MethodId} {args : Array Value} {below : List Frame} {meth : Method} {c : Code} (C : m_Cx p s m args meth c cX8_queuedAt 4 RX8 (some .int) (Cond.code yX8_queuedAt cX8_queuedAt 4 (some .int)) D (m_tc cy) (m_AM a) (m_WM a cy) m_ZM) {r0 : Int32} {X0 : XT} : ∀ (n : Nat) (v2 : Int32) (v3 : Int32) (X : XT), f_X8_queuedAt_4 N n v2 v3 X = some (r0, X0) → ∀ (H : Heap) (locs : List Loc) (ls : Array Slot), va_P D vwCl (m_WM a cy X) H → va_S (m_AM a) s.heap H locs → lv_has ls 4 [(0, .ref (a 0)), (2, .int v2), (3, .int v3)] → W p l e rm_X8_queuedAt s m args below meth c H locs 0 0 (MQ below (m_QI D (m_WM a cy) (m_AM a) r0 X0) args s 0 0 (m_AM a)) (F0 m 4 ls []) := by
  have hx := C.1.1
  have hb := C.1.2.1
  intro n
  induction n with
  | zero => intro v2 v3 X hf0; rw [f_X8_queuedAt_4] at hf0; cases hf0
  | succ n ih =>
    intro v2 v3 X hf0 H locs ls hP hS hl
    rw [f_X8_queuedAt_4] at hf0
    refine lv_iload_n hx hb dX8_queuedAt_4 rfl (lv_at hl 2 rfl) ?_
    refine lv_aload_n hx hb dX8_queuedAt_5 rfl (lv_at hl 0 rfl) ?_
    refine m_get C hP mM_0 rfl inX8 0 (by decide) wf_X8_7 rfl dX8_queuedAt_6 ?_
    refine lv_bipush (v := 7) hx hb dX8_queuedAt_9 (by decide) ?_
    obtain ⟨g_1, hf2⟩ := m_gd_s hf0
    clear hf0
    refine m_ild C hP mM_1 0 rfl g_1 dX8_queuedAt_11 (fun y_1 e_1 => ?_)
    have hf3 := m_nm_s e_1 hf2
    clear hf2
    refine lv_icmp_ge (tgt := 40) hx hb dX8_queuedAt_12 (by decide) (fun c_4 => ?_) (fun c_4 => ?_)
    · have hf5 := m_it c_4 hf3
      clear hf3
      refine lv_bipush (v := (-5)) hx hb dX8_queuedAt_40 (by decide) ?_
      exact m_iret C hP hS dX8_queuedAt_42 hf5
    · have hf6 := m_ie c_4 hf3
      clear hf3
      refine lv_aload_n hx hb dX8_queuedAt_15 rfl (lv_at hl 0 rfl) ?_
      refine lv_iload_n hx hb dX8_queuedAt_16 rfl (lv_at hl 2 rfl) ?_
      refine lv_iconst (v := 0) hx hb dX8_queuedAt_17 (by decide) ?_
      obtain ⟨r_7, X_7, h_7, hf8⟩ := m_bi_s hf6
      clear hf6
      refine m_callVi (q := (RX8, TX8, 13)) C [.int v3, .int 0] [] (c_X8_ofGroup l D a cy hG N _ _ _ h_7) (m_goodV wl_X8_52 wi_X8_ofGroup ws_X8_ofGroup wn_X8 wc_X8_ofGroup) ⟨rfl, rfl⟩ hv_X8_ofGroup ⟨Nat.le_of_ble_eq_true rfl, Nat.le_of_ble_eq_true rfl⟩ rfl mM_0 hP hS rfl hl.1 rfl (Nat.le_of_ble_eq_true rfl) dX8_queuedAt_18 (fun H locs hP hS => ?_)
      refine lv_iconst (v := 2) hx hb dX8_queuedAt_21 (by decide) ?_
      refine lv_icmp_ne (tgt := 34) hx hb dX8_queuedAt_22 (by decide) (fun c_9 => ?_) (fun c_9 => ?_)
      · have hf10 := m_ie c_9 hf8
        clear hf8
        obtain ⟨y_12, e_12⟩ : ∃ y : Int32, y = v3 + 1 := ⟨_, rfl⟩
        refine lv_iinc (v := y_12) (lv' := [(3, .int y_12), (0, .ref (a 0)), (2, .int v2)]) hx hb dX8_queuedAt_34 hl (k := 2) rfl (by rw [e_12]; rfl) (by decide) rfl (fun ls hl => ?_)
        have hf13 := m_nm_s e_12 hf10
        clear hf10
        refine lv_goto (tgt := 4) hx hb dX8_queuedAt_37 (by decide) ?_
        exact ih _ _ _ hf13 H locs ls hP hS (lv_sub hl [1, 2, 0] rfl)
      · have hf11 := m_it c_9 hf8
        clear hf8
        refine lv_iload_n hx hb dX8_queuedAt_25 rfl (lv_at hl 1 rfl) ?_
        refine lv_if_ne (tgt := 31) hx hb dX8_queuedAt_26 (by decide) (fun c_14 => ?_) (fun c_14 => ?_)
        · have hf15 := m_ie c_14 hf11
          clear hf11
          obtain ⟨y_17, e_17⟩ : ∃ y : Int32, y = v2 + (-1) := ⟨_, rfl⟩
          refine lv_iinc (v := y_17) (lv' := [(2, .int y_17), (0, .ref (a 0)), (3, .int v3)]) hx hb dX8_queuedAt_31 hl (k := 1) rfl (by rw [e_17]; rfl) (by decide) rfl (fun ls hl => ?_)
          have hf18 := m_nm_s e_17 hf15
          clear hf15
          obtain ⟨y_19, e_19⟩ : ∃ y : Int32, y = v3 + 1 := ⟨_, rfl⟩
          refine lv_iinc (v := y_19) (lv' := [(3, .int y_19), (2, .int y_17), (0, .ref (a 0))]) hx hb dX8_queuedAt_34 hl (k := 2) rfl (by rw [e_19]; rfl) (by decide) rfl (fun ls hl => ?_)
          have hf20 := m_nm_s e_19 hf18
          clear hf18
          refine lv_goto (tgt := 4) hx hb dX8_queuedAt_37 (by decide) ?_
          exact ih _ _ _ hf20 H locs ls hP hS (lv_sub hl [2, 1, 0] rfl)
        · have hf16 := m_it c_14 hf11
          clear hf11
          refine lv_iload_n hx hb dX8_queuedAt_29 rfl (lv_at hl 2 rfl) ?_
          exact m_iret C hP hS dX8_queuedAt_30 hf16
def f_X8_queuedAt (N : Nat) (v1 : Int32) (X : XT) : Option (Int32 × XT) := f_X8_queuedAt_4 N N v1 0 X
set_option maxHeartbeats 4000000 in
set_option maxRecDepth 100000 in
theorem c_X8_queuedAt (l : Launch) (D : va_G) (a : Nat → Nat) (cy : Nat → ClassId) (hG : m_inj 6 a) (N : Nat) (v1 : Int32) (X : XT) {r0 : Int32} {X0 : XT} (hf0 : f_X8_queuedAt N v1 X = some (r0, X0)) : Met l yX8_queuedAt (Cond.code yX8_queuedAt cX8_queuedAt 4 (some .int) :: m_tbl) rm_X8_queuedAt (va_Pc [.ref (a 0), .int v1] (m_PX D (m_tc cy) (m_WM a cy) m_ZM X)) (m_QI D (m_WM a cy) (m_AM a) r0 X0) 0 0 (m_AM a) := by
  refine m_met (own := RX8) hy_X8_queuedAt rfl (Nat.le_of_ble_eq_true rfl) (m_wl_D hG _) m_ZM_keep ?_
  intro p e s m args below meth c C ls hl hP hS
  have hx := C.1.1
  have hb := C.1.2.1
  have hl : lv_has ls 4 [(0, .ref (a 0)), (1, .int v1)] := hl
  unfold f_X8_queuedAt at hf0
  suffices K : ∀ (H : Heap) (locs : List Loc), va_P D vwCl (m_WM a cy X) H → va_S (m_AM a) s.heap H locs → W p l e rm_X8_queuedAt s m args below meth c H locs 0 0 (MQ below (m_QI D (m_WM a cy) (m_AM a) r0 X0) args s 0 0 (m_AM a)) (F0 m 0 ls []) from K _ _ hP hS
  clear hP hS
  intro H locs hP hS
  refine lv_iload_n hx hb dX8_queuedAt_0 rfl (lv_at hl 1 rfl) ?_
  refine lv_istore_n (lv' := [(2, .int v1), (0, .ref (a 0)), (1, .int v1)]) hx hb dX8_queuedAt_1 rfl hl (by decide) rfl (fun ls hl => ?_)
  refine lv_iconst (v := 0) hx hb dX8_queuedAt_2 (by decide) ?_
  refine lv_istore_n (lv' := [(3, .int 0), (2, .int v1), (0, .ref (a 0)), (1, .int v1)]) hx hb dX8_queuedAt_3 rfl hl (by decide) rfl (fun ls hl => ?_)
  exact w_X8_queuedAt_4 l D a cy hG N C _ _ _ _ hf0 H locs ls hP hS (lv_sub hl [2, 1, 0] rfl)
abbrev rm_X8_goOn : Room := { frames := 3, cells := 0, slots := 0, locals := 68 }
def f_X8_goOn (N : Nat) (X : XT) : Option XT := m_bi (f_X8_queuedAt N 0 X) fun r_1 X_1 => m_gd (m_in 9 1816) <| m_nm (X_1 1 (Int32.toNatClampNeg 9)) fun y_3 => if y_3 = (-5) then (if r_1 = (-5) then (some X_1) else (m_gd (m_in 9 1816) <| m_nm (m_up X_1 1 (upd (X_1 1) (Int32.toNatClampNeg 9) r_1)) fun X_12 => m_bv (f_X8_setGroup N r_1 0 3 X_12) fun X_15 => m_gd (m_in 4 1816) <| m_nm (X_15 1 (Int32.toNatClampNeg 4)) fun y_17 => m_bi (f_X8_recordsOf N r_1 X_15) fun r_20 X_20 => m_nm (r_20 / 4) fun y_22 => m_nm (y_17 + y_22) fun y_24 => m_bv (f_X8_setGroup N r_1 3 y_24 X_20) fun X_26 => m_bi (f_X8_turnMembers N r_1 3 X_26) fun r_28 X_28 => some X_28)) else (some X_1)
set_option maxHeartbeats 4000000 in
set_option maxRecDepth 100000 in
theorem c_X8_goOn (l : Launch) (D : va_G) (a : Nat → Nat) (cy : Nat → ClassId) (hG : m_inj 6 a) (N : Nat) (X : XT) {X0 : XT} (hf0 : f_X8_goOn N X = some X0) : Met l yX8_goOn (Cond.code yX8_goOn cX8_goOn 2 none :: m_tbl) rm_X8_goOn (va_Pc [.ref (a 0)] (m_PX D (m_tc cy) (m_WM a cy) m_ZM X)) (m_QV D (m_WM a cy) (m_AM a) X0) 0 0 (m_AM a) := by
  refine m_met (own := RX8) hy_X8_goOn rfl (Nat.le_of_ble_eq_true rfl) (m_wl_D hG _) m_ZM_keep ?_
  intro p e s m args below meth c C ls hl hP hS
  have hx := C.1.1
  have hb := C.1.2.1
  have hl : lv_has ls 2 [(0, .ref (a 0))] := hl
  unfold f_X8_goOn at hf0
  suffices K : ∀ (H : Heap) (locs : List Loc), va_P D vwCl (m_WM a cy X) H → va_S (m_AM a) s.heap H locs → W p l e rm_X8_goOn s m args below meth c H locs 0 0 (MQ below (m_QV D (m_WM a cy) (m_AM a) X0) args s 0 0 (m_AM a)) (F0 m 0 ls []) from K _ _ hP hS
  clear hP hS
  intro H locs hP hS
  refine lv_aload_n hx hb dX8_goOn_0 rfl (lv_at hl 0 rfl) ?_
  refine lv_iconst (v := 0) hx hb dX8_goOn_1 (by decide) ?_
  obtain ⟨r_1, X_1, h_1, hf2⟩ := m_bi_s hf0
  clear hf0
  refine m_callVi (q := (RX8, TX8, 13)) C [.int 0] [] (c_X8_queuedAt l D a cy hG N _ _ h_1) (m_goodV wl_X8_55 wi_X8_queuedAt ws_X8_queuedAt wn_X8 wc_X8_queuedAt) ⟨rfl, rfl⟩ hv_X8_queuedAt ⟨Nat.le_of_ble_eq_true rfl, Nat.le_of_ble_eq_true rfl⟩ rfl mM_0 hP hS rfl hl.1 rfl (Nat.le_of_ble_eq_true rfl) dX8_goOn_2 (fun H locs hP hS => ?_)
  refine lv_istore_n (lv' := [(1, .int r_1), (0, .ref (a 0))]) hx hb dX8_goOn_5 rfl hl (by decide) rfl (fun ls hl => ?_)
  refine lv_aload_n hx hb dX8_goOn_6 rfl (lv_at hl 1 rfl) ?_
  refine m_get C hP mM_0 rfl inX8 0 (by decide) wf_X8_7 rfl dX8_goOn_7 ?_
  refine lv_bipush (v := 9) hx hb dX8_goOn_10 (by decide) ?_
  obtain ⟨g_3, hf4⟩ := m_gd_s hf2
  clear hf2
  refine m_ild C hP mM_1 0 rfl g_3 dX8_goOn_12 (fun y_3 e_3 => ?_)
  have hf5 := m_nm_s e_3 hf4
  clear hf4
  refine lv_bipush (v := (-5)) hx hb dX8_goOn_13 (by decide) ?_
  refine lv_icmp_ne (tgt := 24) hx hb dX8_goOn_15 (by decide) (fun c_6 => ?_) (fun c_6 => ?_)
  · have hf7 := m_ie c_6 hf5
    clear hf5
    exact m_vret C hP hS dX8_goOn_24 hf7
  · have hf8 := m_it c_6 hf5
    clear hf5
    refine lv_iload_n hx hb dX8_goOn_18 rfl (lv_at hl 0 rfl) ?_
    refine lv_bipush (v := (-5)) hx hb dX8_goOn_19 (by decide) ?_
    refine lv_icmp_ne (tgt := 25) hx hb dX8_goOn_21 (by decide) (fun c_9 => ?_) (fun c_9 => ?_)
    · have hf10 := m_ie c_9 hf8
      clear hf8
      refine lv_aload_n hx hb dX8_goOn_25 rfl (lv_at hl 1 rfl) ?_
      refine m_get C hP mM_0 rfl inX8 0 (by decide) wf_X8_7 rfl dX8_goOn_26 ?_
      refine lv_bipush (v := 9) hx hb dX8_goOn_29 (by decide) ?_
      refine lv_iload_n hx hb dX8_goOn_31 rfl (lv_at hl 0 rfl) ?_
      obtain ⟨g_12, hf13⟩ := m_gd_s hf10
      clear hf10
      refine m_ist C hP hS mM_1 0 rfl g_12 mMs_1 dX8_goOn_32 (fun X_12 e_12 H locs hP hS => ?_)
      have hf14 := m_nm_s e_12 hf13
      clear hf13
      refine lv_aload_n hx hb dX8_goOn_33 rfl (lv_at hl 1 rfl) ?_
      refine lv_iload_n hx hb dX8_goOn_34 rfl (lv_at hl 0 rfl) ?_
      refine lv_iconst (v := 0) hx hb dX8_goOn_35 (by decide) ?_
      refine lv_iconst (v := 3) hx hb dX8_goOn_36 (by decide) ?_
      obtain ⟨X_15, h_15, hf16⟩ := m_bv_s hf14
      clear hf14
      refine m_callVv (q := (RX8, TX8, 13)) C [.int r_1, .int 0, .int 3] [] (c_X8_setGroup l D a cy hG N _ _ _ _ h_15) (m_goodV wl_X8_59 wi_X8_setGroup ws_X8_setGroup wn_X8 wc_X8_setGroup) ⟨rfl, rfl⟩ hv_X8_setGroup ⟨Nat.le_of_ble_eq_true rfl, Nat.le_of_ble_eq_true rfl⟩ rfl mM_0 hP hS rfl hl.1 rfl (Nat.le_of_ble_eq_true rfl) dX8_goOn_37 (fun H locs hP hS => ?_)
      refine lv_aload_n hx hb dX8_goOn_40 rfl (lv_at hl 1 rfl) ?_
      refine lv_iload_n hx hb dX8_goOn_41 rfl (lv_at hl 0 rfl) ?_
      refine lv_iconst (v := 3) hx hb dX8_goOn_42 (by decide) ?_
      refine lv_aload_n hx hb dX8_goOn_43 rfl (lv_at hl 1 rfl) ?_
      refine m_get C hP mM_0 rfl inX8 0 (by decide) wf_X8_7 rfl dX8_goOn_44 ?_
      refine lv_iconst (v := 4) hx hb dX8_goOn_47 (by decide) ?_
      obtain ⟨g_17, hf18⟩ := m_gd_s hf16
      clear hf16
      refine m_ild C hP mM_1 0 rfl g_17 dX8_goOn_48 (fun y_17 e_17 => ?_)
      have hf19 := m_nm_s e_17 hf18
      clear hf18
      refine lv_aload_n hx hb dX8_goOn_49 rfl (lv_at hl 1 rfl) ?_
      refine lv_iload_n hx hb dX8_goOn_50 rfl (lv_at hl 0 rfl) ?_
      obtain ⟨r_20, X_20, h_20, hf21⟩ := m_bi_s hf19
      clear hf19
      refine m_callVi (q := (RX8, TX8, 13)) C [.int r_1] [.int y_17, .int 3, .int r_1, .ref (a 0)] (c_X8_recordsOf l D a cy hG N _ _ h_20) (m_goodV wl_X8_62 wi_X8_recordsOf ws_X8_recordsOf wn_X8 wc_X8_recordsOf) ⟨rfl, rfl⟩ hv_X8_recordsOf ⟨Nat.le_of_ble_eq_true rfl, Nat.le_of_ble_eq_true rfl⟩ rfl mM_0 hP hS rfl hl.1 rfl (Nat.le_of_ble_eq_true rfl) dX8_goOn_51 (fun H locs hP hS => ?_)
      refine lv_iconst (v := 4) hx hb dX8_goOn_54 (by decide) ?_
      refine lv_idiv hx hb dX8_goOn_55 (by decide) ?_
      refine lv_topi (fun y_22 e_22 => ?_)
      have hf23 := m_nm_s e_22 hf21
      clear hf21
      refine lv_iadd hx hb dX8_goOn_56 ?_
      refine lv_topi (fun y_24 e_24 => ?_)
      have hf25 := m_nm_s e_24 hf23
      clear hf23
      obtain ⟨X_26, h_26, hf27⟩ := m_bv_s hf25
      clear hf25
      refine m_callVv (q := (RX8, TX8, 13)) C [.int r_1, .int 3, .int y_24] [] (c_X8_setGroup l D a cy hG N _ _ _ _ h_26) (m_goodV wl_X8_59 wi_X8_setGroup ws_X8_setGroup wn_X8 wc_X8_setGroup) ⟨rfl, rfl⟩ hv_X8_setGroup ⟨Nat.le_of_ble_eq_true rfl, Nat.le_of_ble_eq_true rfl⟩ rfl mM_0 hP hS rfl hl.1 rfl (Nat.le_of_ble_eq_true rfl) dX8_goOn_57 (fun H locs hP hS => ?_)
      refine lv_aload_n hx hb dX8_goOn_60 rfl (lv_at hl 1 rfl) ?_
      refine lv_iload_n hx hb dX8_goOn_61 rfl (lv_at hl 0 rfl) ?_
      refine lv_iconst (v := 3) hx hb dX8_goOn_62 (by decide) ?_
      obtain ⟨r_28, X_28, h_28, hf29⟩ := m_bi_s hf27
      clear hf27
      refine m_callVi (q := (RX8, TX8, 13)) C [.int r_1, .int 3] [] (c_X8_turnMembers l D a cy hG N _ _ _ h_28) (m_goodV wl_X8_65 wi_X8_turnMembers ws_X8_turnMembers wn_X8 wc_X8_turnMembers) ⟨rfl, rfl⟩ hv_X8_turnMembers ⟨Nat.le_of_ble_eq_true rfl, Nat.le_of_ble_eq_true rfl⟩ rfl mM_0 hP hS rfl hl.1 rfl (Nat.le_of_ble_eq_true rfl) dX8_goOn_63 (fun H locs hP hS => ?_)
      refine lv_pop hx hb dX8_goOn_66 rfl ?_
      exact m_vret C hP hS dX8_goOn_67 hf29
    · have hf11 := m_it c_9 hf8
      clear hf8
      exact m_vret C hP hS dX8_goOn_24 hf11
abbrev rm_X8_close : Room := { frames := 4, cells := 0, slots := 0, locals := 89 }
def f_X8_close_89 (N : Nat) (v3 : Int32) (u0 : Int32) (X : XT) : Option XT := if v3 ≤ u0 then (if 0 ≤ v3 then (m_gd (m_in 1 1816) <| m_nm (m_up X 1 (upd (X 1) (Int32.toNatClampNeg 1) v3)) fun X_42 => m_bv (f_X8_goOn N X_42) fun X_45 => some X_45) else (m_gd (m_in 1 1816) <| m_nm (m_up X 1 (upd (X 1) (Int32.toNatClampNeg 1) 0)) fun X_47 => m_bv (f_X8_goOn N X_47) fun X_50 => some X_50)) else (m_gd (m_in 1 1816) <| m_nm (m_up X 1 (upd (X 1) (Int32.toNatClampNeg 1) u0)) fun X_52 => m_bv (f_X8_goOn N X_52) fun X_55 => some X_55)
set_option maxHeartbeats 4000000 in
set_option maxRecDepth 100000 in
theorem w_X8_close_89 (l : Launch) (D : va_G) (a : Nat → Nat) (cy : Nat → ClassId) (hG : m_inj 6 a) (N : Nat) {p : Program} {e : Env} {s : State} {m : MethodId} {args : Array Value} {below : List Frame} {meth : Method} {c : Code} (C : m_Cx p s m args meth c cX8_close 5 RX8 none (Cond.code yX8_close cX8_close 5 none) D (m_tc cy) (m_AM a) (m_WM a cy) m_ZM) {X0 : XT} (v3 : Int32) (u0 : Int32) (X : XT) (hf0 : f_X8_close_89 N v3 u0 X = some X0) : ∀ (H : Heap) (locs : List Loc) (ls : Array Slot), va_P D vwCl (m_WM a cy X) H → va_S (m_AM a) s.heap H locs → lv_has ls 5 [(0, .ref (a 0)), (3, .int v3)] → W p l e rm_X8_close s m args below meth c H locs 0 0 (MQ below (m_QV D (m_WM a cy) (m_AM a) X0) args s 0 0 (m_AM a)) (F0 m 89 ls [.int u0]) := by
  have hx := C.1.1
  have hb := C.1.2.1
  intro H locs ls hP hS hl
  unfold f_X8_close_89 at hf0
  refine lv_istore (lv' := [(4, .int u0), (0, .ref (a 0)), (3, .int v3)]) hx hb dX8_close_89 hl (by decide) rfl (fun ls hl => ?_)
  refine lv_aload_n hx hb dX8_close_91 rfl (lv_at hl 1 rfl) ?_
  refine m_get C hP mM_0 rfl inX8 0 (by decide) wf_X8_7 rfl dX8_close_92 ?_
  refine lv_iconst (v := 1) hx hb dX8_close_95 (by decide) ?_
  refine lv_iload_n hx hb dX8_close_96 rfl (lv_at hl 2 rfl) ?_
  refine lv_iload hx hb dX8_close_97 (lv_at hl 0 rfl) ?_
  refine lv_icmp_le (tgt := 107) hx hb dX8_close_99 (by decide) (fun c_36 => ?_) (fun c_36 => ?_)
  · have hf37 := m_it c_36 hf0
    clear hf0
    refine lv_iload_n hx hb dX8_close_107 rfl (lv_at hl 2 rfl) ?_
    refine lv_if_ge (tgt := 115) hx hb dX8_close_108 (by decide) (fun c_39 => ?_) (fun c_39 => ?_)
    · have hf40 := m_it c_39 hf37
      clear hf37
      refine lv_iload_n hx hb dX8_close_115 rfl (lv_at hl 2 rfl) ?_
      obtain ⟨g_42, hf43⟩ := m_gd_s hf40
      clear hf40
      refine m_ist C hP hS mM_1 0 rfl g_42 mMs_1 dX8_close_116 (fun X_42 e_42 H locs hP hS => ?_)
      have hf44 := m_nm_s e_42 hf43
      clear hf43
      refine lv_aload_n hx hb dX8_close_117 rfl (lv_at hl 1 rfl) ?_
      obtain ⟨X_45, h_45, hf46⟩ := m_bv_s hf44
      clear hf44
      refine m_callVv (q := (RX8, TX8, 13)) C [] [] (c_X8_goOn l D a cy hG N _ h_45) (m_goodV wl_X8_71 wi_X8_goOn ws_X8_goOn wn_X8 wc_X8_goOn) ⟨rfl, rfl⟩ hv_X8_goOn ⟨Nat.le_of_ble_eq_true rfl, Nat.le_of_ble_eq_true rfl⟩ rfl mM_0 hP hS rfl hl.1 rfl (Nat.le_of_ble_eq_true rfl) dX8_close_118 (fun H locs hP hS => ?_)
      exact m_vret C hP hS dX8_close_121 hf46
    · have hf41 := m_ie c_39 hf37
      clear hf37
      refine lv_iconst (v := 0) hx hb dX8_close_111 (by decide) ?_
      refine lv_goto (tgt := 116) hx hb dX8_close_112 (by decide) ?_
      obtain ⟨g_47, hf48⟩ := m_gd_s hf41
      clear hf41
      refine m_ist C hP hS mM_1 0 rfl g_47 mMs_1 dX8_close_116 (fun X_47 e_47 H locs hP hS => ?_)
      have hf49 := m_nm_s e_47 hf48
      clear hf48
      refine lv_aload_n hx hb dX8_close_117 rfl (lv_at hl 1 rfl) ?_
      obtain ⟨X_50, h_50, hf51⟩ := m_bv_s hf49
      clear hf49
      refine m_callVv (q := (RX8, TX8, 13)) C [] [] (c_X8_goOn l D a cy hG N _ h_50) (m_goodV wl_X8_71 wi_X8_goOn ws_X8_goOn wn_X8 wc_X8_goOn) ⟨rfl, rfl⟩ hv_X8_goOn ⟨Nat.le_of_ble_eq_true rfl, Nat.le_of_ble_eq_true rfl⟩ rfl mM_0 hP hS rfl hl.1 rfl (Nat.le_of_ble_eq_true rfl) dX8_close_118 (fun H locs hP hS => ?_)
      exact m_vret C hP hS dX8_close_121 hf51
  · have hf38 := m_ie c_36 hf0
    clear hf0
    refine lv_iload hx hb dX8_close_102 (lv_at hl 0 rfl) ?_
    refine lv_goto (tgt := 116) hx hb dX8_close_104 (by decide) ?_
    obtain ⟨g_52, hf53⟩ := m_gd_s hf38
    clear hf38
    refine m_ist C hP hS mM_1 0 rfl g_52 mMs_1 dX8_close_116 (fun X_52 e_52 H locs hP hS => ?_)
    have hf54 := m_nm_s e_52 hf53
    clear hf53
    refine lv_aload_n hx hb dX8_close_117 rfl (lv_at hl 1 rfl) ?_
    obtain ⟨X_55, h_55, hf56⟩ := m_bv_s hf54
    clear hf54
    refine m_callVv (q := (RX8, TX8, 13)) C [] [] (c_X8_goOn l D a cy hG N _ h_55) (m_goodV wl_X8_71 wi_X8_goOn ws_X8_goOn wn_X8 wc_X8_goOn) ⟨rfl, rfl⟩ hv_X8_goOn ⟨Nat.le_of_ble_eq_true rfl, Nat.le_of_ble_eq_true rfl⟩ rfl mM_0 hP hS rfl hl.1 rfl (Nat.le_of_ble_eq_true rfl) dX8_close_118 (fun H locs hP hS => ?_)
    exact m_vret C hP hS dX8_close_121 hf56
def f_X8_close_68 (N : Nat) (v2 : Int32) (u0 : Int32) (u1 : Int32) (X : XT) : Option XT := m_nm (u1 + u0) fun y_29 => m_bi (f_X8_members N v2 X) fun r_31 X_31 => if r_31 ≤ 1 then (f_X8_close_89 N y_29 y_29 X_31) else (m_gd (m_in 2 1816) <| m_nm (X_31 1 (Int32.toNatClampNeg 2)) fun y_57 => f_X8_close_89 N y_29 y_57 X_31)
set_option maxHeartbeats 4000000 in
set_option maxRecDepth 100000 in
theorem w_X8_close_68 (l : Launch) (D : va_G) (a : Nat → Nat) (cy : Nat → ClassId) (hG : m_inj 6 a) (N : Nat) {p : Program} {e : Env} {s : State} {m : MethodId} {args : Array Value} {below : List Frame} {meth : Method} {c : Code} (C : m_Cx p s m args meth c cX8_close 5 RX8 none (Cond.code yX8_close cX8_close 5 none) D (m_tc cy) (m_AM a) (m_WM a cy) m_ZM) {X0 : XT} (v2 : Int32) (u0 : Int32) (u1 : Int32) (X : XT) (hf0 : f_X8_close_68 N v2 u0 u1 X = some X0) : ∀ (H : Heap) (locs : List Loc) (ls : Array Slot), va_P D vwCl (m_WM a cy X) H → va_S (m_AM a) s.heap H locs → lv_has ls 5 [(0, .ref (a 0)), (2, .int v2)] → W p l e rm_X8_close s m args below meth c H locs 0 0 (MQ below (m_QV D (m_WM a cy) (m_AM a) X0) args s 0 0 (m_AM a)) (F0 m 68 ls [.int u0, .int u1]) := by
  have hx := C.1.1
  have hb := C.1.2.1
  intro H locs ls hP hS hl
  unfold f_X8_close_68 at hf0
  refine lv_iadd hx hb dX8_close_68 ?_
  refine lv_topi (fun y_29 e_29 => ?_)
  have hf30 := m_nm_s e_29 hf0
  clear hf0
  refine lv_istore_n (lv' := [(3, .int y_29), (0, .ref (a 0)), (2, .int v2)]) hx hb dX8_close_69 rfl hl (by decide) rfl (fun ls hl => ?_)
  refine lv_aload_n hx hb dX8_close_70 rfl (lv_at hl 1 rfl) ?_
  refine lv_iload_n hx hb dX8_close_71 rfl (lv_at hl 2 rfl) ?_
  obtain ⟨r_31, X_31, h_31, hf32⟩ := m_bi_s hf30
  clear hf30
  refine m_callVi (q := (RX8, TX8, 13)) C [.int v2] [] (c_X8_members l D a cy hG N _ _ h_31) (m_goodV wl_X8_68 wi_X8_members ws_X8_members wn_X8 wc_X8_members) ⟨rfl, rfl⟩ hv_X8_members ⟨Nat.le_of_ble_eq_true rfl, Nat.le_of_ble_eq_true rfl⟩ rfl mM_0 hP hS rfl hl.1 rfl (Nat.le_of_ble_eq_true rfl) dX8_close_72 (fun H locs hP hS => ?_)
  refine lv_iconst (v := 1) hx hb dX8_close_75 (by decide) ?_
  refine lv_icmp_le (tgt := 88) hx hb dX8_close_76 (by decide) (fun c_33 => ?_) (fun c_33 => ?_)
  · have hf34 := m_it c_33 hf32
    clear hf32
    refine lv_iload_n hx hb dX8_close_88 rfl (lv_at hl 0 rfl) ?_
    exact w_X8_close_89 l D a cy hG N C _ _ _ hf34 H locs ls hP hS (lv_sub hl [1, 0] rfl)
  · have hf35 := m_ie c_33 hf32
    clear hf32
    refine lv_aload_n hx hb dX8_close_79 rfl (lv_at hl 1 rfl) ?_
    refine m_get C hP mM_0 rfl inX8 0 (by decide) wf_X8_7 rfl dX8_close_80 ?_
    refine lv_iconst (v := 2) hx hb dX8_close_83 (by decide) ?_
    obtain ⟨g_57, hf58⟩ := m_gd_s hf35
    clear hf35
    refine m_ild C hP mM_1 0 rfl g_57 dX8_close_84 (fun y_57 e_57 => ?_)
    have hf59 := m_nm_s e_57 hf58
    clear hf58
    refine lv_goto (tgt := 89) hx hb dX8_close_85 (by decide) ?_
    exact w_X8_close_89 l D a cy hG N C _ _ _ hf59 H locs ls hP hS (lv_sub hl [1, 0] rfl)
def f_X8_close (N : Nat) (v1 : Int32) (X : XT) : Option XT := m_gd (m_in 8 1816) <| m_nm (X 1 (Int32.toNatClampNeg 8)) fun y_1 => m_gd (m_in 8 1816) <| m_nm (m_up X 1 (upd (X 1) (Int32.toNatClampNeg 8) (-5))) fun X_4 => m_bv (f_X8_setGroup N y_1 0 2 X_4) fun X_7 => m_bv (f_X8_setGroup N y_1 2 v1 X_7) fun X_9 => m_bi (f_X8_turnMembers N y_1 2 X_9) fun r_11 X_11 => m_gd (m_in 5 1816) <| m_nm (X_11 1 (Int32.toNatClampNeg 5)) fun y_13 => if y_13 = 1 then (m_gd (m_in 1 1816) <| m_nm (X_11 1 (Int32.toNatClampNeg 1)) fun y_21 => m_bi (f_X8_members N y_1 X_11) fun r_24 X_24 => if r_24 ≤ 1 then (f_X8_close_68 N y_1 (-1) y_21 X_24) else (f_X8_close_68 N y_1 1 y_21 X_24)) else (m_bv (f_X8_goOn N X_11) fun X_19 => some X_19)
set_option maxHeartbeats 4000000 in
set_option maxRecDepth 100000 in
theorem c_X8_close (l : Launch) (D : va_G) (a : Nat → Nat) (cy : Nat → ClassId) (hG : m_inj 6 a) (N : Nat) (v1 : Int32) (X : XT) {X0 : XT} (hf0 : f_X8_close N v1 X = some X0) : Met l yX8_close (Cond.code yX8_close cX8_close 5 none :: m_tbl) rm_X8_close (va_Pc [.ref (a 0), .int v1] (m_PX D (m_tc cy) (m_WM a cy) m_ZM X)) (m_QV D (m_WM a cy) (m_AM a) X0) 0 0 (m_AM a) := by
  refine m_met (own := RX8) hy_X8_close rfl (Nat.le_of_ble_eq_true rfl) (m_wl_D hG _) m_ZM_keep ?_
  intro p e s m args below meth c C ls hl hP hS
  have hx := C.1.1
  have hb := C.1.2.1
  have hl : lv_has ls 5 [(0, .ref (a 0)), (1, .int v1)] := hl
  unfold f_X8_close at hf0
  suffices K : ∀ (H : Heap) (locs : List Loc), va_P D vwCl (m_WM a cy X) H → va_S (m_AM a) s.heap H locs → W p l e rm_X8_close s m args below meth c H locs 0 0 (MQ below (m_QV D (m_WM a cy) (m_AM a) X0) args s 0 0 (m_AM a)) (F0 m 0 ls []) from K _ _ hP hS
  clear hP hS
  intro H locs hP hS
  refine lv_aload_n hx hb dX8_close_0 rfl (lv_at hl 0 rfl) ?_
  refine m_get C hP mM_0 rfl inX8 0 (by decide) wf_X8_7 rfl dX8_close_1 ?_
  refine lv_bipush (v := 8) hx hb dX8_close_4 (by decide) ?_
  obtain ⟨g_1, hf2⟩ := m_gd_s hf0
  clear hf0
  refine m_ild C hP mM_1 0 rfl g_1 dX8_close_6 (fun y_1 e_1 => ?_)
  have hf3 := m_nm_s e_1 hf2
  clear hf2
  refine lv_istore_n (lv' := [(2, .int y_1), (0, .ref (a 0)), (1, .int v1)]) hx hb dX8_close_7 rfl hl (by decide) rfl (fun ls hl => ?_)
  refine lv_aload_n hx hb dX8_close_8 rfl (lv_at hl 1 rfl) ?_
  refine m_get C hP mM_0 rfl inX8 0 (by decide) wf_X8_7 rfl dX8_close_9 ?_
  refine lv_bipush (v := 8) hx hb dX8_close_12 (by decide) ?_
  refine lv_bipush (v := (-5)) hx hb dX8_close_14 (by decide) ?_
  obtain ⟨g_4, hf5⟩ := m_gd_s hf3
  clear hf3
  refine m_ist C hP hS mM_1 0 rfl g_4 mMs_1 dX8_close_16 (fun X_4 e_4 H locs hP hS => ?_)
  have hf6 := m_nm_s e_4 hf5
  clear hf5
  refine lv_aload_n hx hb dX8_close_17 rfl (lv_at hl 1 rfl) ?_
  refine lv_iload_n hx hb dX8_close_18 rfl (lv_at hl 0 rfl) ?_
  refine lv_iconst (v := 0) hx hb dX8_close_19 (by decide) ?_
  refine lv_iconst (v := 2) hx hb dX8_close_20 (by decide) ?_
  obtain ⟨X_7, h_7, hf8⟩ := m_bv_s hf6
  clear hf6
  refine m_callVv (q := (RX8, TX8, 13)) C [.int y_1, .int 0, .int 2] [] (c_X8_setGroup l D a cy hG N _ _ _ _ h_7) (m_goodV wl_X8_59 wi_X8_setGroup ws_X8_setGroup wn_X8 wc_X8_setGroup) ⟨rfl, rfl⟩ hv_X8_setGroup ⟨Nat.le_of_ble_eq_true rfl, Nat.le_of_ble_eq_true rfl⟩ rfl mM_0 hP hS rfl hl.1 rfl (Nat.le_of_ble_eq_true rfl) dX8_close_21 (fun H locs hP hS => ?_)
  refine lv_aload_n hx hb dX8_close_24 rfl (lv_at hl 1 rfl) ?_
  refine lv_iload_n hx hb dX8_close_25 rfl (lv_at hl 0 rfl) ?_
  refine lv_iconst (v := 2) hx hb dX8_close_26 (by decide) ?_
  refine lv_iload_n hx hb dX8_close_27 rfl (lv_at hl 2 rfl) ?_
  obtain ⟨X_9, h_9, hf10⟩ := m_bv_s hf8
  clear hf8
  refine m_callVv (q := (RX8, TX8, 13)) C [.int y_1, .int 2, .int v1] [] (c_X8_setGroup l D a cy hG N _ _ _ _ h_9) (m_goodV wl_X8_59 wi_X8_setGroup ws_X8_setGroup wn_X8 wc_X8_setGroup) ⟨rfl, rfl⟩ hv_X8_setGroup ⟨Nat.le_of_ble_eq_true rfl, Nat.le_of_ble_eq_true rfl⟩ rfl mM_0 hP hS rfl hl.1 rfl (Nat.le_of_ble_eq_true rfl) dX8_close_28 (fun H locs hP hS => ?_)
  refine lv_aload_n hx hb dX8_close_31 rfl (lv_at hl 1 rfl) ?_
  refine lv_iload_n hx hb dX8_close_32 rfl (lv_at hl 0 rfl) ?_
  refine lv_iconst (v := 2) hx hb dX8_close_33 (by decide) ?_
  obtain ⟨r_11, X_11, h_11, hf12⟩ := m_bi_s hf10
  clear hf10
  refine m_callVi (q := (RX8, TX8, 13)) C [.int y_1, .int 2] [] (c_X8_turnMembers l D a cy hG N _ _ _ h_11) (m_goodV wl_X8_65 wi_X8_turnMembers ws_X8_turnMembers wn_X8 wc_X8_turnMembers) ⟨rfl, rfl⟩ hv_X8_turnMembers ⟨Nat.le_of_ble_eq_true rfl, Nat.le_of_ble_eq_true rfl⟩ rfl mM_0 hP hS rfl hl.1 rfl (Nat.le_of_ble_eq_true rfl) dX8_close_34 (fun H locs hP hS => ?_)
  refine lv_pop hx hb dX8_close_37 rfl ?_
  refine lv_aload_n hx hb dX8_close_38 rfl (lv_at hl 1 rfl) ?_
  refine m_get C hP mM_0 rfl inX8 0 (by decide) wf_X8_7 rfl dX8_close_39 ?_
  refine lv_iconst (v := 5) hx hb dX8_close_42 (by decide) ?_
  obtain ⟨g_13, hf14⟩ := m_gd_s hf12
  clear hf12
  refine m_ild C hP mM_1 0 rfl g_13 dX8_close_43 (fun y_13 e_13 => ?_)
  have hf15 := m_nm_s e_13 hf14
  clear hf14
  refine lv_iconst (v := 1) hx hb dX8_close_44 (by decide) ?_
  refine lv_icmp_ne (tgt := 117) hx hb dX8_close_45 (by decide) (fun c_16 => ?_) (fun c_16 => ?_)
  · have hf17 := m_ie c_16 hf15
    clear hf15
    refine lv_aload_n hx hb dX8_close_117 rfl (lv_at hl 1 rfl) ?_
    obtain ⟨X_19, h_19, hf20⟩ := m_bv_s hf17
    clear hf17
    refine m_callVv (q := (RX8, TX8, 13)) C [] [] (c_X8_goOn l D a cy hG N _ h_19) (m_goodV wl_X8_71 wi_X8_goOn ws_X8_goOn wn_X8 wc_X8_goOn) ⟨rfl, rfl⟩ hv_X8_goOn ⟨Nat.le_of_ble_eq_true rfl, Nat.le_of_ble_eq_true rfl⟩ rfl mM_0 hP hS rfl hl.1 rfl (Nat.le_of_ble_eq_true rfl) dX8_close_118 (fun H locs hP hS => ?_)
    exact m_vret C hP hS dX8_close_121 hf20
  · have hf18 := m_it c_16 hf15
    clear hf15
    refine lv_aload_n hx hb dX8_close_48 rfl (lv_at hl 1 rfl) ?_
    refine m_get C hP mM_0 rfl inX8 0 (by decide) wf_X8_7 rfl dX8_close_49 ?_
    refine lv_iconst (v := 1) hx hb dX8_close_52 (by decide) ?_
    obtain ⟨g_21, hf22⟩ := m_gd_s hf18
    clear hf18
    refine m_ild C hP mM_1 0 rfl g_21 dX8_close_53 (fun y_21 e_21 => ?_)
    have hf23 := m_nm_s e_21 hf22
    clear hf22
    refine lv_aload_n hx hb dX8_close_54 rfl (lv_at hl 1 rfl) ?_
    refine lv_iload_n hx hb dX8_close_55 rfl (lv_at hl 0 rfl) ?_
    obtain ⟨r_24, X_24, h_24, hf25⟩ := m_bi_s hf23
    clear hf23
    refine m_callVi (q := (RX8, TX8, 13)) C [.int y_1] [.int y_21] (c_X8_members l D a cy hG N _ _ h_24) (m_goodV wl_X8_68 wi_X8_members ws_X8_members wn_X8 wc_X8_members) ⟨rfl, rfl⟩ hv_X8_members ⟨Nat.le_of_ble_eq_true rfl, Nat.le_of_ble_eq_true rfl⟩ rfl mM_0 hP hS rfl hl.1 rfl (Nat.le_of_ble_eq_true rfl) dX8_close_56 (fun H locs hP hS => ?_)
    refine lv_iconst (v := 1) hx hb dX8_close_59 (by decide) ?_
    refine lv_icmp_le (tgt := 67) hx hb dX8_close_60 (by decide) (fun c_26 => ?_) (fun c_26 => ?_)
    · have hf27 := m_it c_26 hf25
      clear hf25
      refine lv_iconst (v := (-1)) hx hb dX8_close_67 (by decide) ?_
      exact w_X8_close_68 l D a cy hG N C _ _ _ _ hf27 H locs ls hP hS (lv_sub hl [1, 0] rfl)
    · have hf28 := m_ie c_26 hf25
      clear hf25
      refine lv_iconst (v := 1) hx hb dX8_close_63 (by decide) ?_
      refine lv_goto (tgt := 68) hx hb dX8_close_64 (by decide) ?_
      exact w_X8_close_68 l D a cy hG N C _ _ _ _ hf28 H locs ls hP hS (lv_sub hl [1, 0] rfl)
