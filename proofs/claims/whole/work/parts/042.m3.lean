-- written by wip/gen/gen.py
abbrev rm_X8_set : Room := { frames := 1, cells := 0, slots := 0, locals := 22 }
def f_X8_set (N : Nat) (v1 : Int32) (v2 : Int32) (X : XT) : Option (Int32 × XT) := m_bi (f_X8_within N v1 0 3 X) fun r_1 X_1 => if r_1 = 0 then (some ((-1), X_1)) else (m_bi (f_X8_leastOf N v1 X_1) fun r_6 X_6 => m_bi (f_X8_mostOf N v1 X_6) fun r_8 X_8 => m_bi (f_X8_within N v2 r_6 r_8 X_8) fun r_10 X_10 => if r_10 = 0 then (some ((-2), X_10)) else (m_bv (f_X8_record N X_10) fun X_15 => m_nm ((2 : Int32) + v1) fun y_17 => m_gd (m_in y_17 1816) <| m_nm (X_15 1 (Int32.toNatClampNeg y_17)) fun y_19 => m_nm ((2 : Int32) + v1) fun y_22 => m_gd (m_in y_22 1816) <| m_nm (m_up X_15 1 (upd (X_15 1) (Int32.toNatClampNeg y_22) v2)) fun X_24 => some (y_19, X_24)))
set_option maxHeartbeats 4000000 in
set_option maxRecDepth 100000 in
theorem c_X8_set (l : Launch) (D : va_G) (a : Nat → Nat) (cy : Nat → ClassId) (hG : m_inj 6 a) (N : Nat) (v1 : Int32) (v2 : Int32) (X : XT) {r0 : Int32} {X0 : XT} (hf0 : f_X8_set N v1 v2 X = some (r0, X0)) : Met l yX8_set (Cond.code yX8_set cX8_set 4 (some .int) :: m_tbl) rm_X8_set (va_Pc [.ref (a 0), .int v1, .int v2] (m_PX D (m_tc cy) (m_WM a cy) m_ZM X)) (m_QI D (m_WM a cy) (m_AM a) r0 X0) 0 0 (m_AM a) := by
  refine m_met (own := RX8) hy_X8_set rfl (Nat.le_of_ble_eq_true rfl) (m_wl_D hG _) m_ZM_keep ?_
  intro p e s m args below meth c C ls hl hP hS
  have hx := C.1.1
  have hb := C.1.2.1
  have hl : lv_has ls 4 [(0, .ref (a 0)), (1, .int v1), (2, .int v2)] := hl
  unfold f_X8_set at hf0
  suffices K : ∀ (H : Heap) (locs : List Loc), va_P D vwCl (m_WM a cy X) H → va_S (m_AM a) s.heap H locs → W p l e rm_X8_set s m args below meth c H locs 0 0 (MQ below (m_QI D (m_WM a cy) (m_AM a) r0 X0) args s 0 0 (m_AM a)) (F0 m 0 ls []) from K _ _ hP hS
  clear hP hS
  intro H locs hP hS
  refine lv_iload_n hx hb dX8_set_0 rfl (lv_at hl 1 rfl) ?_
  refine lv_iconst (v := 0) hx hb dX8_set_1 (by decide) ?_
  refine lv_iconst (v := 3) hx hb dX8_set_2 (by decide) ?_
  obtain ⟨r_1, X_1, h_1, hf2⟩ := m_bi_s hf0
  clear hf0
  refine m_callSi C [.int v1, .int 0, .int 3] [] (c_X8_within l D a cy hG N _ _ _ _ h_1) (m_goodS wl_X8_25 wst_X8_within wn_X8 wc_X8_within) ⟨rfl, rfl⟩ hv_X8_within ⟨Nat.le_of_ble_eq_true rfl, Nat.le_of_ble_eq_true rfl⟩ hP hS rfl hl.1 rfl (Nat.le_of_ble_eq_true rfl) dX8_set_3 (fun H locs hP hS => ?_)
  refine lv_if_ne (tgt := 11) hx hb dX8_set_6 (by decide) (fun c_3 => ?_) (fun c_3 => ?_)
  · have hf4 := m_ie c_3 hf2
    clear hf2
    refine lv_iload_n hx hb dX8_set_11 rfl (lv_at hl 2 rfl) ?_
    refine lv_iload_n hx hb dX8_set_12 rfl (lv_at hl 1 rfl) ?_
    obtain ⟨r_6, X_6, h_6, hf7⟩ := m_bi_s hf4
    clear hf4
    refine m_callSi C [.int v1] [.int v2] (c_X8_leastOf l D a cy hG N _ _ h_6) (m_goodS wl_X8_128 wst_X8_leastOf wn_X8 wc_X8_leastOf) ⟨rfl, rfl⟩ hv_X8_leastOf ⟨Nat.le_of_ble_eq_true rfl, Nat.le_of_ble_eq_true rfl⟩ hP hS rfl hl.1 rfl (Nat.le_of_ble_eq_true rfl) dX8_set_13 (fun H locs hP hS => ?_)
    refine lv_iload_n hx hb dX8_set_16 rfl (lv_at hl 1 rfl) ?_
    obtain ⟨r_8, X_8, h_8, hf9⟩ := m_bi_s hf7
    clear hf7
    refine m_callSi C [.int v1] [.int r_6, .int v2] (c_X8_mostOf l D a cy hG N _ _ h_8) (m_goodS wl_X8_131 wst_X8_mostOf wn_X8 wc_X8_mostOf) ⟨rfl, rfl⟩ hv_X8_mostOf ⟨Nat.le_of_ble_eq_true rfl, Nat.le_of_ble_eq_true rfl⟩ hP hS rfl hl.1 rfl (Nat.le_of_ble_eq_true rfl) dX8_set_17 (fun H locs hP hS => ?_)
    obtain ⟨r_10, X_10, h_10, hf11⟩ := m_bi_s hf9
    clear hf9
    refine m_callSi C [.int v2, .int r_6, .int r_8] [] (c_X8_within l D a cy hG N _ _ _ _ h_10) (m_goodS wl_X8_25 wst_X8_within wn_X8 wc_X8_within) ⟨rfl, rfl⟩ hv_X8_within ⟨Nat.le_of_ble_eq_true rfl, Nat.le_of_ble_eq_true rfl⟩ hP hS rfl hl.1 rfl (Nat.le_of_ble_eq_true rfl) dX8_set_20 (fun H locs hP hS => ?_)
    refine lv_if_ne (tgt := 29) hx hb dX8_set_23 (by decide) (fun c_12 => ?_) (fun c_12 => ?_)
    · have hf13 := m_ie c_12 hf11
      clear hf11
      refine lv_aload_n hx hb dX8_set_29 rfl (lv_at hl 0 rfl) ?_
      obtain ⟨X_15, h_15, hf16⟩ := m_bv_s hf13
      clear hf13
      refine m_callVv (q := (RX8, TX8, 13)) C [] [] (c_X8_record l D a cy hG N _ h_15) (m_goodV wl_X8_37 wi_X8_record ws_X8_record wn_X8 wc_X8_record) ⟨rfl, rfl⟩ hv_X8_record ⟨Nat.le_of_ble_eq_true rfl, Nat.le_of_ble_eq_true rfl⟩ rfl mM_0 hP hS rfl hl.1 rfl (Nat.le_of_ble_eq_true rfl) dX8_set_30 (fun H locs hP hS => ?_)
      refine lv_aload_n hx hb dX8_set_33 rfl (lv_at hl 0 rfl) ?_
      refine m_get C hP mM_0 rfl inX8 0 (by decide) wf_X8_7 rfl dX8_set_34 ?_
      refine lv_iconst (v := 2) hx hb dX8_set_37 (by decide) ?_
      refine lv_iload_n hx hb dX8_set_38 rfl (lv_at hl 1 rfl) ?_
      refine lv_iadd hx hb dX8_set_39 ?_
      refine lv_topi (fun y_17 e_17 => ?_)
      have hf18 := m_nm_s e_17 hf16
      clear hf16
      obtain ⟨g_19, hf20⟩ := m_gd_s hf18
      clear hf18
      refine m_ild C hP mM_1 0 rfl g_19 dX8_set_40 (fun y_19 e_19 => ?_)
      have hf21 := m_nm_s e_19 hf20
      clear hf20
      refine lv_istore_n (lv' := [(3, .int y_19), (0, .ref (a 0)), (1, .int v1), (2, .int v2)]) hx hb dX8_set_41 rfl hl (by decide) rfl (fun ls hl => ?_)
      refine lv_aload_n hx hb dX8_set_42 rfl (lv_at hl 1 rfl) ?_
      refine m_get C hP mM_0 rfl inX8 0 (by decide) wf_X8_7 rfl dX8_set_43 ?_
      refine lv_iconst (v := 2) hx hb dX8_set_46 (by decide) ?_
      refine lv_iload_n hx hb dX8_set_47 rfl (lv_at hl 2 rfl) ?_
      refine lv_iadd hx hb dX8_set_48 ?_
      refine lv_topi (fun y_22 e_22 => ?_)
      have hf23 := m_nm_s e_22 hf21
      clear hf21
      refine lv_iload_n hx hb dX8_set_49 rfl (lv_at hl 3 rfl) ?_
      obtain ⟨g_24, hf25⟩ := m_gd_s hf23
      clear hf23
      refine m_ist C hP hS mM_1 0 rfl g_24 mMs_1 dX8_set_50 (fun X_24 e_24 H locs hP hS => ?_)
      have hf26 := m_nm_s e_24 hf25
      clear hf25
      refine lv_iload_n hx hb dX8_set_51 rfl (lv_at hl 0 rfl) ?_
      exact m_iret C hP hS dX8_set_52 hf26
    · have hf14 := m_it c_12 hf11
      clear hf11
      refine lv_bipush (v := (-2)) hx hb dX8_set_26 (by decide) ?_
      exact m_iret C hP hS dX8_set_28 hf14
  · have hf5 := m_it c_3 hf2
    clear hf2
    refine lv_iconst (v := (-1)) hx hb dX8_set_9 (by decide) ?_
    exact m_iret C hP hS dX8_set_10 hf5
abbrev rm_X8_append : Room := { frames := 1, cells := 0, slots := 0, locals := 22 }
def f_X8_append (N : Nat) (v1 : Int32) (X : XT) : Option (Int32 × XT) := m_bi (f_X8_within N v1 32 126 X) fun r_1 X_1 => if r_1 = 0 then (some ((-2), X_1)) else (if (X_1 0 7) = 80 then (some ((-3), X_1)) else (m_gd (m_in (X_1 0 7) 80) <| m_nm (m_up X_1 5 (upd (X_1 5) (Int32.toNatClampNeg (X_1 0 7)) v1)) fun X_9 => m_nm ((X_9 0 7) + 1) fun y_12 => m_nm (m_up X_9 0 (upd (X_9 0) 7 y_12)) fun X_14 => some ((X_14 0 7), X_14)))
set_option maxHeartbeats 4000000 in
set_option maxRecDepth 100000 in
theorem c_X8_append (l : Launch) (D : va_G) (a : Nat → Nat) (cy : Nat → ClassId) (hG : m_inj 6 a) (N : Nat) (v1 : Int32) (X : XT) {r0 : Int32} {X0 : XT} (hf0 : f_X8_append N v1 X = some (r0, X0)) : Met l yX8_append (Cond.code yX8_append cX8_append 2 (some .int) :: m_tbl) rm_X8_append (va_Pc [.ref (a 0), .int v1] (m_PX D (m_tc cy) (m_WM a cy) m_ZM X)) (m_QI D (m_WM a cy) (m_AM a) r0 X0) 0 0 (m_AM a) := by
  refine m_met (own := RX8) hy_X8_append rfl (Nat.le_of_ble_eq_true rfl) (m_wl_D hG _) m_ZM_keep ?_
  intro p e s m args below meth c C ls hl hP hS
  have hx := C.1.1
  have hb := C.1.2.1
  have hl : lv_has ls 2 [(0, .ref (a 0)), (1, .int v1)] := hl
  unfold f_X8_append at hf0
  suffices K : ∀ (H : Heap) (locs : List Loc), va_P D vwCl (m_WM a cy X) H → va_S (m_AM a) s.heap H locs → W p l e rm_X8_append s m args below meth c H locs 0 0 (MQ below (m_QI D (m_WM a cy) (m_AM a) r0 X0) args s 0 0 (m_AM a)) (F0 m 0 ls []) from K _ _ hP hS
  clear hP hS
  intro H locs hP hS
  refine lv_iload_n hx hb dX8_append_0 rfl (lv_at hl 1 rfl) ?_
  refine lv_bipush (v := 32) hx hb dX8_append_1 (by decide) ?_
  refine lv_bipush (v := 126) hx hb dX8_append_3 (by decide) ?_
  obtain ⟨r_1, X_1, h_1, hf2⟩ := m_bi_s hf0
  clear hf0
  refine m_callSi C [.int v1, .int 32, .int 126] [] (c_X8_within l D a cy hG N _ _ _ _ h_1) (m_goodS wl_X8_25 wst_X8_within wn_X8 wc_X8_within) ⟨rfl, rfl⟩ hv_X8_within ⟨Nat.le_of_ble_eq_true rfl, Nat.le_of_ble_eq_true rfl⟩ hP hS rfl hl.1 rfl (Nat.le_of_ble_eq_true rfl) dX8_append_5 (fun H locs hP hS => ?_)
  refine lv_if_ne (tgt := 14) hx hb dX8_append_8 (by decide) (fun c_3 => ?_) (fun c_3 => ?_)
  · have hf4 := m_ie c_3 hf2
    clear hf2
    refine lv_aload_n hx hb dX8_append_14 rfl (lv_at hl 0 rfl) ?_
    refine m_get C hP mM_0 rfl inX8 7 (by decide) wf_X8_134 rfl dX8_append_15 ?_
    refine lv_bipush (v := 80) hx hb dX8_append_18 (by decide) ?_
    refine lv_icmp_ne (tgt := 26) hx hb dX8_append_20 (by decide) (fun c_6 => ?_) (fun c_6 => ?_)
    · have hf7 := m_ie c_6 hf4
      clear hf4
      refine lv_aload_n hx hb dX8_append_26 rfl (lv_at hl 0 rfl) ?_
      refine m_get C hP mM_0 rfl inX8 6 (by decide) wf_X8_22 rfl dX8_append_27 ?_
      refine lv_aload_n hx hb dX8_append_30 rfl (lv_at hl 0 rfl) ?_
      refine m_get C hP mM_0 rfl inX8 7 (by decide) wf_X8_134 rfl dX8_append_31 ?_
      refine lv_iload_n hx hb dX8_append_34 rfl (lv_at hl 1 rfl) ?_
      obtain ⟨g_9, hf10⟩ := m_gd_s hf7
      clear hf7
      refine m_ist C hP hS mM_5 0 rfl g_9 mMs_5 dX8_append_35 (fun X_9 e_9 H locs hP hS => ?_)
      have hf11 := m_nm_s e_9 hf10
      clear hf10
      refine lv_aload_n hx hb dX8_append_36 rfl (lv_at hl 0 rfl) ?_
      refine lv_dup hx hb dX8_append_37 rfl ?_
      refine m_get C hP mM_0 rfl inX8 7 (by decide) wf_X8_134 rfl dX8_append_38 ?_
      refine lv_iconst (v := 1) hx hb dX8_append_41 (by decide) ?_
      refine lv_iadd hx hb dX8_append_42 ?_
      refine lv_topi (fun y_12 e_12 => ?_)
      have hf13 := m_nm_s e_12 hf11
      clear hf11
      refine m_put C hP hS mM_0 rfl inX8 tyX8_ok nmX8 7 (by decide) wf_X8_134 rfl rfl rfl (Nat.le_of_ble_eq_true rfl) mM_0_7 dX8_append_43 (fun X_14 e_14 H locs hP hS => ?_)
      have hf15 := m_nm_s e_14 hf13
      clear hf13
      refine lv_aload_n hx hb dX8_append_46 rfl (lv_at hl 0 rfl) ?_
      refine m_get C hP mM_0 rfl inX8 7 (by decide) wf_X8_134 rfl dX8_append_47 ?_
      exact m_iret C hP hS dX8_append_50 hf15
    · have hf8 := m_it c_6 hf4
      clear hf4
      refine lv_bipush (v := (-3)) hx hb dX8_append_23 (by decide) ?_
      exact m_iret C hP hS dX8_append_25 hf8
  · have hf5 := m_it c_3 hf2
    clear hf2
    refine lv_bipush (v := (-2)) hx hb dX8_append_11 (by decide) ?_
    exact m_iret C hP hS dX8_append_13 hf5
abbrev rm_X8_clearText : Room := { frames := 0, cells := 0, slots := 0, locals := 0 }
def f_X8_clearText (N : Nat) (X : XT) : Option (Int32 × XT) := m_nm (m_up X 0 (upd (X 0) 7 0)) fun X_1 => some ((X 0 7), X_1)
set_option maxHeartbeats 4000000 in
set_option maxRecDepth 100000 in
theorem c_X8_clearText (l : Launch) (D : va_G) (a : Nat → Nat) (cy : Nat → ClassId) (hG : m_inj 6 a) (N : Nat) (X : XT) {r0 : Int32} {X0 : XT} (hf0 : f_X8_clearText N X = some (r0, X0)) : Met l yX8_clearText (Cond.code yX8_clearText cX8_clearText 2 (some .int) :: m_tbl) rm_X8_clearText (va_Pc [.ref (a 0)] (m_PX D (m_tc cy) (m_WM a cy) m_ZM X)) (m_QI D (m_WM a cy) (m_AM a) r0 X0) 0 0 (m_AM a) := by
  refine m_met (own := RX8) hy_X8_clearText rfl (Nat.le_of_ble_eq_true rfl) (m_wl_D hG _) m_ZM_keep ?_
  intro p e s m args below meth c C ls hl hP hS
  have hx := C.1.1
  have hb := C.1.2.1
  have hl : lv_has ls 2 [(0, .ref (a 0))] := hl
  unfold f_X8_clearText at hf0
  suffices K : ∀ (H : Heap) (locs : List Loc), va_P D vwCl (m_WM a cy X) H → va_S (m_AM a) s.heap H locs → W p l e rm_X8_clearText s m args below meth c H locs 0 0 (MQ below (m_QI D (m_WM a cy) (m_AM a) r0 X0) args s 0 0 (m_AM a)) (F0 m 0 ls []) from K _ _ hP hS
  clear hP hS
  intro H locs hP hS
  refine lv_aload_n hx hb dX8_clearText_0 rfl (lv_at hl 0 rfl) ?_
  refine m_get C hP mM_0 rfl inX8 7 (by decide) wf_X8_134 rfl dX8_clearText_1 ?_
  refine lv_istore_n (lv' := [(1, .int (X 0 7)), (0, .ref (a 0))]) hx hb dX8_clearText_4 rfl hl (by decide) rfl (fun ls hl => ?_)
  refine lv_aload_n hx hb dX8_clearText_5 rfl (lv_at hl 1 rfl) ?_
  refine lv_iconst (v := 0) hx hb dX8_clearText_6 (by decide) ?_
  refine m_put C hP hS mM_0 rfl inX8 tyX8_ok nmX8 7 (by decide) wf_X8_134 rfl rfl rfl (Nat.le_of_ble_eq_true rfl) mM_0_7 dX8_clearText_7 (fun X_1 e_1 H locs hP hS => ?_)
  have hf2 := m_nm_s e_1 hf0
  clear hf0
  refine lv_iload_n hx hb dX8_clearText_10 rfl (lv_at hl 0 rfl) ?_
  exact m_iret C hP hS dX8_clearText_11 hf2
abbrev rm_X8_nextCharacter : Room := { frames := 0, cells := 0, slots := 0, locals := 0 }
def f_X8_nextCharacter (N : Nat) (X : XT) : Option (Int32 × XT) := if (X 0 7) ≤ (X 0 8) then (some (0, X)) else (m_gd (m_in (X 0 8) 80) <| m_nm (X 5 (Int32.toNatClampNeg (X 0 8))) fun y_4 => some (y_4, X))
set_option maxHeartbeats 4000000 in
set_option maxRecDepth 100000 in
theorem c_X8_nextCharacter (l : Launch) (D : va_G) (a : Nat → Nat) (cy : Nat → ClassId) (hG : m_inj 6 a) (N : Nat) (X : XT) {r0 : Int32} {X0 : XT} (hf0 : f_X8_nextCharacter N X = some (r0, X0)) : Met l yX8_nextCharacter (Cond.code yX8_nextCharacter cX8_nextCharacter 1 (some .int) :: m_tbl) rm_X8_nextCharacter (va_Pc [.ref (a 0)] (m_PX D (m_tc cy) (m_WM a cy) m_ZM X)) (m_QI D (m_WM a cy) (m_AM a) r0 X0) 0 0 (m_AM a) := by
  refine m_met (own := RX8) hy_X8_nextCharacter rfl (Nat.le_of_ble_eq_true rfl) (m_wl_D hG _) m_ZM_keep ?_
  intro p e s m args below meth c C ls hl hP hS
  have hx := C.1.1
  have hb := C.1.2.1
  have hl : lv_has ls 1 [(0, .ref (a 0))] := hl
  unfold f_X8_nextCharacter at hf0
  suffices K : ∀ (H : Heap) (locs : List Loc), va_P D vwCl (m_WM a cy X) H → va_S (m_AM a) s.heap H locs → W p l e rm_X8_nextCharacter s m args below meth c H locs 0 0 (MQ below (m_QI D (m_WM a cy) (m_AM a) r0 X0) args s 0 0 (m_AM a)) (F0 m 0 ls []) from K _ _ hP hS
  clear hP hS
  intro H locs hP hS
  refine lv_aload_n hx hb dX8_nextCharacter_0 rfl (lv_at hl 0 rfl) ?_
  refine m_get C hP mM_0 rfl inX8 8 (by decide) wf_X8_137 rfl dX8_nextCharacter_1 ?_
  refine lv_aload_n hx hb dX8_nextCharacter_4 rfl (lv_at hl 0 rfl) ?_
  refine m_get C hP mM_0 rfl inX8 7 (by decide) wf_X8_134 rfl dX8_nextCharacter_5 ?_
  refine lv_icmp_ge (tgt := 23) hx hb dX8_nextCharacter_8 (by decide) (fun c_1 => ?_) (fun c_1 => ?_)
  · have hf2 := m_it c_1 hf0
    clear hf0
    refine lv_iconst (v := 0) hx hb dX8_nextCharacter_23 (by decide) ?_
    exact m_iret C hP hS dX8_nextCharacter_24 hf2
  · have hf3 := m_ie c_1 hf0
    clear hf0
    refine lv_aload_n hx hb dX8_nextCharacter_11 rfl (lv_at hl 0 rfl) ?_
    refine m_get C hP mM_0 rfl inX8 6 (by decide) wf_X8_22 rfl dX8_nextCharacter_12 ?_
    refine lv_aload_n hx hb dX8_nextCharacter_15 rfl (lv_at hl 0 rfl) ?_
    refine m_get C hP mM_0 rfl inX8 8 (by decide) wf_X8_137 rfl dX8_nextCharacter_16 ?_
    obtain ⟨g_4, hf5⟩ := m_gd_s hf3
    clear hf3
    refine m_ild C hP mM_5 0 rfl g_4 dX8_nextCharacter_19 (fun y_4 e_4 => ?_)
    have hf6 := m_nm_s e_4 hf5
    clear hf5
    refine lv_goto (tgt := 24) hx hb dX8_nextCharacter_20 (by decide) ?_
    exact m_iret C hP hS dX8_nextCharacter_24 hf6
abbrev rm_X8_takes : Room := { frames := 1, cells := 0, slots := 0, locals := 20 }
def f_X8_takes_13 (N : Nat) (u0 : Int32) (X : XT) : Option (Int32 × XT) := if u0 = 0 then (m_nm ((X 0 8) + 0) fun y_9 => m_nm (m_up X 0 (upd (X 0) 8 y_9)) fun X_11 => m_gd (u0 = 0 ∨ u0 = 1) <| some (u0, X_11)) else (m_nm ((X 0 8) + 1) fun y_15 => m_nm (m_up X 0 (upd (X 0) 8 y_15)) fun X_17 => m_gd (u0 = 0 ∨ u0 = 1) <| some (u0, X_17))
set_option maxHeartbeats 4000000 in
set_option maxRecDepth 100000 in
theorem w_X8_takes_13 (l : Launch) (D : va_G) (a : Nat → Nat) (cy : Nat → ClassId) (hG : m_inj 6 a) (N : Nat) {p : Program} {e : Env} {s : State} {m : MethodId} {args : Array Value} {below : List Frame} {meth : Method} {c : Code} (C : m_Cx p s m args meth c cX8_takes 3 RX8 (some .boolean) (Cond.code yX8_takes cX8_takes 3 (some .boolean)) D (m_tc cy) (m_AM a) (m_WM a cy) m_ZM) {r0 : Int32} {X0 : XT} (u0 : Int32) (X : XT) (hf0 : f_X8_takes_13 N u0 X = some (r0, X0)) : ∀ (H : Heap) (locs : List Loc) (ls : Array Slot), va_P D vwCl (m_WM a cy X) H → va_S (m_AM a) s.heap H locs → lv_has ls 3 [(0, .ref (a 0))] → W p l e rm_X8_takes s m args below meth c H locs 0 0 (MQ below (m_QI D (m_WM a cy) (m_AM a) r0 X0) args s 0 0 (m_AM a)) (F0 m 13 ls [.int u0]) := by
  have hx := C.1.1
  have hb := C.1.2.1
  intro H locs ls hP hS hl
  unfold f_X8_takes_13 at hf0
  refine lv_istore_n (lv' := [(2, .int u0), (0, .ref (a 0))]) hx hb dX8_takes_13 rfl hl (by decide) rfl (fun ls hl => ?_)
  refine lv_aload_n hx hb dX8_takes_14 rfl (lv_at hl 1 rfl) ?_
  refine lv_dup hx hb dX8_takes_15 rfl ?_
  refine m_get C hP mM_0 rfl inX8 8 (by decide) wf_X8_137 rfl dX8_takes_16 ?_
  refine lv_iload_n hx hb dX8_takes_19 rfl (lv_at hl 0 rfl) ?_
  refine lv_if_eq (tgt := 27) hx hb dX8_takes_20 (by decide) (fun c_6 => ?_) (fun c_6 => ?_)
  · have hf7 := m_it c_6 hf0
    clear hf0
    refine lv_iconst (v := 0) hx hb dX8_takes_27 (by decide) ?_
    refine lv_iadd hx hb dX8_takes_28 ?_
    refine lv_topi (fun y_9 e_9 => ?_)
    have hf10 := m_nm_s e_9 hf7
    clear hf7
    refine m_put C hP hS mM_0 rfl inX8 tyX8_ok nmX8 8 (by decide) wf_X8_137 rfl rfl rfl (Nat.le_of_ble_eq_true rfl) mM_0_8 dX8_takes_29 (fun X_11 e_11 H locs hP hS => ?_)
    have hf12 := m_nm_s e_11 hf10
    clear hf10
    refine lv_iload_n hx hb dX8_takes_32 rfl (lv_at hl 0 rfl) ?_
    obtain ⟨g_13, hf14⟩ := m_gd_s hf12
    clear hf12
    exact m_zret C hP hS dX8_takes_33 (m_bool g_13).1 hf14
  · have hf8 := m_ie c_6 hf0
    clear hf0
    refine lv_iconst (v := 1) hx hb dX8_takes_23 (by decide) ?_
    refine lv_goto (tgt := 28) hx hb dX8_takes_24 (by decide) ?_
    refine lv_iadd hx hb dX8_takes_28 ?_
    refine lv_topi (fun y_15 e_15 => ?_)
    have hf16 := m_nm_s e_15 hf8
    clear hf8
    refine m_put C hP hS mM_0 rfl inX8 tyX8_ok nmX8 8 (by decide) wf_X8_137 rfl rfl rfl (Nat.le_of_ble_eq_true rfl) mM_0_8 dX8_takes_29 (fun X_17 e_17 H locs hP hS => ?_)
    have hf18 := m_nm_s e_17 hf16
    clear hf16
    refine lv_iload_n hx hb dX8_takes_32 rfl (lv_at hl 0 rfl) ?_
    obtain ⟨g_19, hf20⟩ := m_gd_s hf18
    clear hf18
    exact m_zret C hP hS dX8_takes_33 (m_bool g_19).1 hf20
def f_X8_takes (N : Nat) (v1 : Int32) (X : XT) : Option (Int32 × XT) := m_bi (f_X8_nextCharacter N X) fun r_1 X_1 => if r_1 = v1 then (f_X8_takes_13 N 1 X_1) else (f_X8_takes_13 N 0 X_1)
set_option maxHeartbeats 4000000 in
set_option maxRecDepth 100000 in
theorem c_X8_takes (l : Launch) (D : va_G) (a : Nat → Nat) (cy : Nat → ClassId) (hG : m_inj 6 a) (N : Nat) (v1 : Int32) (X : XT) {r0 : Int32} {X0 : XT} (hf0 : f_X8_takes N v1 X = some (r0, X0)) : Met l yX8_takes (Cond.code yX8_takes cX8_takes 3 (some .boolean) :: m_tbl) rm_X8_takes (va_Pc [.ref (a 0), .int v1] (m_PX D (m_tc cy) (m_WM a cy) m_ZM X)) (m_QI D (m_WM a cy) (m_AM a) r0 X0) 0 0 (m_AM a) := by
  refine m_met (own := RX8) hy_X8_takes rfl (Nat.le_of_ble_eq_true rfl) (m_wl_D hG _) m_ZM_keep ?_
  intro p e s m args below meth c C ls hl hP hS
  have hx := C.1.1
  have hb := C.1.2.1
  have hl : lv_has ls 3 [(0, .ref (a 0)), (1, .int v1)] := hl
  unfold f_X8_takes at hf0
  suffices K : ∀ (H : Heap) (locs : List Loc), va_P D vwCl (m_WM a cy X) H → va_S (m_AM a) s.heap H locs → W p l e rm_X8_takes s m args below meth c H locs 0 0 (MQ below (m_QI D (m_WM a cy) (m_AM a) r0 X0) args s 0 0 (m_AM a)) (F0 m 0 ls []) from K _ _ hP hS
  clear hP hS
  intro H locs hP hS
  refine lv_aload_n hx hb dX8_takes_0 rfl (lv_at hl 0 rfl) ?_
  obtain ⟨r_1, X_1, h_1, hf2⟩ := m_bi_s hf0
  clear hf0
  refine m_callVi (q := (RX8, TX8, 13)) C [] [] (c_X8_nextCharacter l D a cy hG N _ h_1) (m_goodV wl_X8_140 wi_X8_nextCharacter ws_X8_nextCharacter wn_X8 wc_X8_nextCharacter) ⟨rfl, rfl⟩ hv_X8_nextCharacter ⟨Nat.le_of_ble_eq_true rfl, Nat.le_of_ble_eq_true rfl⟩ rfl mM_0 hP hS rfl hl.1 rfl (Nat.le_of_ble_eq_true rfl) dX8_takes_1 (fun H locs hP hS => ?_)
  refine lv_iload_n hx hb dX8_takes_4 rfl (lv_at hl 1 rfl) ?_
  refine lv_icmp_ne (tgt := 12) hx hb dX8_takes_5 (by decide) (fun c_3 => ?_) (fun c_3 => ?_)
  · have hf4 := m_ie c_3 hf2
    clear hf2
    refine lv_iconst (v := 0) hx hb dX8_takes_12 (by decide) ?_
    exact w_X8_takes_13 l D a cy hG N C _ _ hf4 H locs ls hP hS (lv_sub hl [0] rfl)
  · have hf5 := m_it c_3 hf2
    clear hf2
    refine lv_iconst (v := 1) hx hb dX8_takes_8 (by decide) ?_
    refine lv_goto (tgt := 13) hx hb dX8_takes_9 (by decide) ?_
    exact w_X8_takes_13 l D a cy hG N C _ _ hf5 H locs ls hP hS (lv_sub hl [0] rfl)
abbrev rm_X8_readsNumber : Room := { frames := 1, cells := 0, slots := 0, locals := 22 }
def f_X8_readsNumber (N : Nat) (v1 : Int32) (v2 : Int32) (X : XT) : Option (Int32 × XT) := m_bi (f_X8_nextCharacter N X) fun r_1 X_1 => m_nm (r_1 - 48) fun y_3 => m_nm (m_up X_1 0 (upd (X_1 0) 10 y_3)) fun X_5 => m_bi (f_X8_within N (X_5 0 10) v1 9 X_5) fun r_7 X_7 => if r_7 = 0 then (some (0, X_7)) else (m_nm ((X_7 0 8) + 1) fun y_12 => m_nm (m_up X_7 0 (upd (X_7 0) 8 y_12)) fun X_14 => m_bi (f_X8_nextCharacter N X_14) fun r_16 X_16 => m_nm (r_16 - 48) fun y_18 => if (X_16 0 10) ≤ 0 then (some (1, X_16)) else (m_bi (f_X8_within N y_18 0 9 X_16) fun r_23 X_23 => if r_23 = 0 then (some (1, X_23)) else (m_nm ((10 : Int32) * (X_23 0 10)) fun y_28 => m_nm (y_28 + y_18) fun y_30 => if v2 < y_30 then (some (1, X_23)) else (m_nm ((10 : Int32) * (X_23 0 10)) fun y_35 => m_nm (y_35 + y_18) fun y_37 => m_nm (m_up X_23 0 (upd (X_23 0) 10 y_37)) fun X_39 => m_nm ((X_39 0 8) + 1) fun y_41 => m_nm (m_up X_39 0 (upd (X_39 0) 8 y_41)) fun X_43 => some (1, X_43)))))
set_option maxHeartbeats 4000000 in
set_option maxRecDepth 100000 in
theorem c_X8_readsNumber (l : Launch) (D : va_G) (a : Nat → Nat) (cy : Nat → ClassId) (hG : m_inj 6 a) (N : Nat) (v1 : Int32) (v2 : Int32) (X : XT) {r0 : Int32} {X0 : XT} (hf0 : f_X8_readsNumber N v1 v2 X = some (r0, X0)) : Met l yX8_readsNumber (Cond.code yX8_readsNumber cX8_readsNumber 4 (some .boolean) :: m_tbl) rm_X8_readsNumber (va_Pc [.ref (a 0), .int v1, .int v2] (m_PX D (m_tc cy) (m_WM a cy) m_ZM X)) (m_QI D (m_WM a cy) (m_AM a) r0 X0) 0 0 (m_AM a) := by
  refine m_met (own := RX8) hy_X8_readsNumber rfl (Nat.le_of_ble_eq_true rfl) (m_wl_D hG _) m_ZM_keep ?_
  intro p e s m args below meth c C ls hl hP hS
  have hx := C.1.1
  have hb := C.1.2.1
  have hl : lv_has ls 4 [(0, .ref (a 0)), (1, .int v1), (2, .int v2)] := hl
  unfold f_X8_readsNumber at hf0
  suffices K : ∀ (H : Heap) (locs : List Loc), va_P D vwCl (m_WM a cy X) H → va_S (m_AM a) s.heap H locs → W p l e rm_X8_readsNumber s m args below meth c H locs 0 0 (MQ below (m_QI D (m_WM a cy) (m_AM a) r0 X0) args s 0 0 (m_AM a)) (F0 m 0 ls []) from K _ _ hP hS
  clear hP hS
  intro H locs hP hS
  refine lv_aload_n hx hb dX8_readsNumber_0 rfl (lv_at hl 0 rfl) ?_
  refine lv_aload_n hx hb dX8_readsNumber_1 rfl (lv_at hl 0 rfl) ?_
  obtain ⟨r_1, X_1, h_1, hf2⟩ := m_bi_s hf0
  clear hf0
  refine m_callVi (q := (RX8, TX8, 13)) C [] [.ref (a 0)] (c_X8_nextCharacter l D a cy hG N _ h_1) (m_goodV wl_X8_140 wi_X8_nextCharacter ws_X8_nextCharacter wn_X8 wc_X8_nextCharacter) ⟨rfl, rfl⟩ hv_X8_nextCharacter ⟨Nat.le_of_ble_eq_true rfl, Nat.le_of_ble_eq_true rfl⟩ rfl mM_0 hP hS rfl hl.1 rfl (Nat.le_of_ble_eq_true rfl) dX8_readsNumber_2 (fun H locs hP hS => ?_)
  refine lv_bipush (v := 48) hx hb dX8_readsNumber_5 (by decide) ?_
  refine lv_isub hx hb dX8_readsNumber_7 ?_
  refine lv_topi (fun y_3 e_3 => ?_)
  have hf4 := m_nm_s e_3 hf2
  clear hf2
  refine m_put C hP hS mM_0 rfl inX8 tyX8_ok nmX8 10 (by decide) wf_X8_143 rfl rfl rfl (Nat.le_of_ble_eq_true rfl) mM_0_10 dX8_readsNumber_8 (fun X_5 e_5 H locs hP hS => ?_)
  have hf6 := m_nm_s e_5 hf4
  clear hf4
  refine lv_aload_n hx hb dX8_readsNumber_11 rfl (lv_at hl 0 rfl) ?_
  refine m_get C hP mM_0 rfl inX8 10 (by decide) wf_X8_143 rfl dX8_readsNumber_12 ?_
  refine lv_iload_n hx hb dX8_readsNumber_15 rfl (lv_at hl 1 rfl) ?_
  refine lv_bipush (v := 9) hx hb dX8_readsNumber_16 (by decide) ?_
  obtain ⟨r_7, X_7, h_7, hf8⟩ := m_bi_s hf6
  clear hf6
  refine m_callSi C [.int (X_5 0 10), .int v1, .int 9] [] (c_X8_within l D a cy hG N _ _ _ _ h_7) (m_goodS wl_X8_25 wst_X8_within wn_X8 wc_X8_within) ⟨rfl, rfl⟩ hv_X8_within ⟨Nat.le_of_ble_eq_true rfl, Nat.le_of_ble_eq_true rfl⟩ hP hS rfl hl.1 rfl (Nat.le_of_ble_eq_true rfl) dX8_readsNumber_18 (fun H locs hP hS => ?_)
  refine lv_if_ne (tgt := 26) hx hb dX8_readsNumber_21 (by decide) (fun c_9 => ?_) (fun c_9 => ?_)
  · have hf10 := m_ie c_9 hf8
    clear hf8
    refine lv_aload_n hx hb dX8_readsNumber_26 rfl (lv_at hl 0 rfl) ?_
    refine lv_dup hx hb dX8_readsNumber_27 rfl ?_
    refine m_get C hP mM_0 rfl inX8 8 (by decide) wf_X8_137 rfl dX8_readsNumber_28 ?_
    refine lv_iconst (v := 1) hx hb dX8_readsNumber_31 (by decide) ?_
    refine lv_iadd hx hb dX8_readsNumber_32 ?_
    refine lv_topi (fun y_12 e_12 => ?_)
    have hf13 := m_nm_s e_12 hf10
    clear hf10
    refine m_put C hP hS mM_0 rfl inX8 tyX8_ok nmX8 8 (by decide) wf_X8_137 rfl rfl rfl (Nat.le_of_ble_eq_true rfl) mM_0_8 dX8_readsNumber_33 (fun X_14 e_14 H locs hP hS => ?_)
    have hf15 := m_nm_s e_14 hf13
    clear hf13
    refine lv_aload_n hx hb dX8_readsNumber_36 rfl (lv_at hl 0 rfl) ?_
    obtain ⟨r_16, X_16, h_16, hf17⟩ := m_bi_s hf15
    clear hf15
    refine m_callVi (q := (RX8, TX8, 13)) C [] [] (c_X8_nextCharacter l D a cy hG N _ h_16) (m_goodV wl_X8_140 wi_X8_nextCharacter ws_X8_nextCharacter wn_X8 wc_X8_nextCharacter) ⟨rfl, rfl⟩ hv_X8_nextCharacter ⟨Nat.le_of_ble_eq_true rfl, Nat.le_of_ble_eq_true rfl⟩ rfl mM_0 hP hS rfl hl.1 rfl (Nat.le_of_ble_eq_true rfl) dX8_readsNumber_37 (fun H locs hP hS => ?_)
    refine lv_bipush (v := 48) hx hb dX8_readsNumber_40 (by decide) ?_
    refine lv_isub hx hb dX8_readsNumber_42 ?_
    refine lv_topi (fun y_18 e_18 => ?_)
    have hf19 := m_nm_s e_18 hf17
    clear hf17
    refine lv_istore_n (lv' := [(3, .int y_18), (0, .ref (a 0)), (1, .int v1), (2, .int v2)]) hx hb dX8_readsNumber_43 rfl hl (by decide) rfl (fun ls hl => ?_)
    refine lv_aload_n hx hb dX8_readsNumber_44 rfl (lv_at hl 1 rfl) ?_
    refine m_get C hP mM_0 rfl inX8 10 (by decide) wf_X8_143 rfl dX8_readsNumber_45 ?_
    refine lv_if_le (tgt := 97) hx hb dX8_readsNumber_48 (by decide) (fun c_20 => ?_) (fun c_20 => ?_)
    · have hf21 := m_it c_20 hf19
      clear hf19
      refine lv_iconst (v := 1) hx hb dX8_readsNumber_97 (by decide) ?_
      exact m_zret C hP hS dX8_readsNumber_98 (by decide) hf21
    · have hf22 := m_ie c_20 hf19
      clear hf19
      refine lv_iload_n hx hb dX8_readsNumber_51 rfl (lv_at hl 0 rfl) ?_
      refine lv_iconst (v := 0) hx hb dX8_readsNumber_52 (by decide) ?_
      refine lv_bipush (v := 9) hx hb dX8_readsNumber_53 (by decide) ?_
      obtain ⟨r_23, X_23, h_23, hf24⟩ := m_bi_s hf22
      clear hf22
      refine m_callSi C [.int y_18, .int 0, .int 9] [] (c_X8_within l D a cy hG N _ _ _ _ h_23) (m_goodS wl_X8_25 wst_X8_within wn_X8 wc_X8_within) ⟨rfl, rfl⟩ hv_X8_within ⟨Nat.le_of_ble_eq_true rfl, Nat.le_of_ble_eq_true rfl⟩ hP hS rfl hl.1 rfl (Nat.le_of_ble_eq_true rfl) dX8_readsNumber_55 (fun H locs hP hS => ?_)
      refine lv_if_eq (tgt := 97) hx hb dX8_readsNumber_58 (by decide) (fun c_25 => ?_) (fun c_25 => ?_)
      · have hf26 := m_it c_25 hf24
        clear hf24
        refine lv_iconst (v := 1) hx hb dX8_readsNumber_97 (by decide) ?_
        exact m_zret C hP hS dX8_readsNumber_98 (by decide) hf26
      · have hf27 := m_ie c_25 hf24
        clear hf24
        refine lv_bipush (v := 10) hx hb dX8_readsNumber_61 (by decide) ?_
        refine lv_aload_n hx hb dX8_readsNumber_63 rfl (lv_at hl 1 rfl) ?_
        refine m_get C hP mM_0 rfl inX8 10 (by decide) wf_X8_143 rfl dX8_readsNumber_64 ?_
        refine lv_imul hx hb dX8_readsNumber_67 ?_
        refine lv_topi (fun y_28 e_28 => ?_)
        have hf29 := m_nm_s e_28 hf27
        clear hf27
        refine lv_iload_n hx hb dX8_readsNumber_68 rfl (lv_at hl 0 rfl) ?_
        refine lv_iadd hx hb dX8_readsNumber_69 ?_
        refine lv_topi (fun y_30 e_30 => ?_)
        have hf31 := m_nm_s e_30 hf29
        clear hf29
        refine lv_iload_n hx hb dX8_readsNumber_70 rfl (lv_at hl 3 rfl) ?_
        refine lv_icmp_gt (tgt := 97) hx hb dX8_readsNumber_71 (by decide) (fun c_32 => ?_) (fun c_32 => ?_)
        · have hf33 := m_it c_32 hf31
          clear hf31
          refine lv_iconst (v := 1) hx hb dX8_readsNumber_97 (by decide) ?_
          exact m_zret C hP hS dX8_readsNumber_98 (by decide) hf33
        · have hf34 := m_ie c_32 hf31
          clear hf31
          refine lv_aload_n hx hb dX8_readsNumber_74 rfl (lv_at hl 1 rfl) ?_
          refine lv_bipush (v := 10) hx hb dX8_readsNumber_75 (by decide) ?_
          refine lv_aload_n hx hb dX8_readsNumber_77 rfl (lv_at hl 1 rfl) ?_
          refine m_get C hP mM_0 rfl inX8 10 (by decide) wf_X8_143 rfl dX8_readsNumber_78 ?_
          refine lv_imul hx hb dX8_readsNumber_81 ?_
          refine lv_topi (fun y_35 e_35 => ?_)
          have hf36 := m_nm_s e_35 hf34
          clear hf34
          refine lv_iload_n hx hb dX8_readsNumber_82 rfl (lv_at hl 0 rfl) ?_
          refine lv_iadd hx hb dX8_readsNumber_83 ?_
          refine lv_topi (fun y_37 e_37 => ?_)
          have hf38 := m_nm_s e_37 hf36
          clear hf36
          refine m_put C hP hS mM_0 rfl inX8 tyX8_ok nmX8 10 (by decide) wf_X8_143 rfl rfl rfl (Nat.le_of_ble_eq_true rfl) mM_0_10 dX8_readsNumber_84 (fun X_39 e_39 H locs hP hS => ?_)
          have hf40 := m_nm_s e_39 hf38
          clear hf38
          refine lv_aload_n hx hb dX8_readsNumber_87 rfl (lv_at hl 1 rfl) ?_
          refine lv_dup hx hb dX8_readsNumber_88 rfl ?_
          refine m_get C hP mM_0 rfl inX8 8 (by decide) wf_X8_137 rfl dX8_readsNumber_89 ?_
          refine lv_iconst (v := 1) hx hb dX8_readsNumber_92 (by decide) ?_
          refine lv_iadd hx hb dX8_readsNumber_93 ?_
          refine lv_topi (fun y_41 e_41 => ?_)
          have hf42 := m_nm_s e_41 hf40
          clear hf40
          refine m_put C hP hS mM_0 rfl inX8 tyX8_ok nmX8 8 (by decide) wf_X8_137 rfl rfl rfl (Nat.le_of_ble_eq_true rfl) mM_0_8 dX8_readsNumber_94 (fun X_43 e_43 H locs hP hS => ?_)
          have hf44 := m_nm_s e_43 hf42
          clear hf42
          refine lv_iconst (v := 1) hx hb dX8_readsNumber_97 (by decide) ?_
          exact m_zret C hP hS dX8_readsNumber_98 (by decide) hf44
  · have hf11 := m_it c_9 hf8
    clear hf8
    refine lv_iconst (v := 0) hx hb dX8_readsNumber_24 (by decide) ?_
    exact m_zret C hP hS dX8_readsNumber_25 (by decide) hf11
abbrev rm_X8_readsSubmit : Room := { frames := 2, cells := 0, slots := 0, locals := 45 }
def f_X8_readsSubmit (N : Nat) (X : XT) : Option (Int32 × XT) := m_bi (f_X8_readsNumber N 0 11 X) fun r_1 X_1 => if r_1 = 0 then (some (0, X_1)) else (m_bi (f_X8_takes N 58 X_1) fun r_6 X_6 => if r_6 = 0 then (some (0, X_6)) else (m_bi (f_X8_nextCharacter N X_6) fun r_11 X_11 => m_nm (r_11 - 48) fun y_13 => m_nm (m_up X_11 0 (upd (X_11 0) 11 y_13)) fun X_15 => m_bi (f_X8_within N (X_15 0 11) 1 8 X_15) fun r_17 X_17 => if r_17 = 0 then (some (0, X_17)) else (m_nm ((X_17 0 8) + 1) fun y_22 => m_nm (m_up X_17 0 (upd (X_17 0) 8 y_22)) fun X_24 => m_bi (f_X8_takes N 33 X_24) fun r_26 X_26 => m_gd (r_26 = 0 ∨ r_26 = 1) <| m_nm (m_up X_26 0 (upd (X_26 0) 12 r_26)) fun X_28 => some (1, X_28))))
set_option maxHeartbeats 4000000 in
set_option maxRecDepth 100000 in
theorem c_X8_readsSubmit (l : Launch) (D : va_G) (a : Nat → Nat) (cy : Nat → ClassId) (hG : m_inj 6 a) (N : Nat) (X : XT) {r0 : Int32} {X0 : XT} (hf0 : f_X8_readsSubmit N X = some (r0, X0)) : Met l yX8_readsSubmit (Cond.code yX8_readsSubmit cX8_readsSubmit 1 (some .boolean) :: m_tbl) rm_X8_readsSubmit (va_Pc [.ref (a 0)] (m_PX D (m_tc cy) (m_WM a cy) m_ZM X)) (m_QI D (m_WM a cy) (m_AM a) r0 X0) 0 0 (m_AM a) := by
  refine m_met (own := RX8) hy_X8_readsSubmit rfl (Nat.le_of_ble_eq_true rfl) (m_wl_D hG _) m_ZM_keep ?_
  intro p e s m args below meth c C ls hl hP hS
  have hx := C.1.1
  have hb := C.1.2.1
  have hl : lv_has ls 1 [(0, .ref (a 0))] := hl
  unfold f_X8_readsSubmit at hf0
  suffices K : ∀ (H : Heap) (locs : List Loc), va_P D vwCl (m_WM a cy X) H → va_S (m_AM a) s.heap H locs → W p l e rm_X8_readsSubmit s m args below meth c H locs 0 0 (MQ below (m_QI D (m_WM a cy) (m_AM a) r0 X0) args s 0 0 (m_AM a)) (F0 m 0 ls []) from K _ _ hP hS
  clear hP hS
  intro H locs hP hS
  refine lv_aload_n hx hb dX8_readsSubmit_0 rfl (lv_at hl 0 rfl) ?_
  refine lv_iconst (v := 0) hx hb dX8_readsSubmit_1 (by decide) ?_
  refine lv_bipush (v := 11) hx hb dX8_readsSubmit_2 (by decide) ?_
  obtain ⟨r_1, X_1, h_1, hf2⟩ := m_bi_s hf0
  clear hf0
  refine m_callVi (q := (RX8, TX8, 13)) C [.int 0, .int 11] [] (c_X8_readsNumber l D a cy hG N _ _ _ h_1) (m_goodV wl_X8_146 wi_X8_readsNumber ws_X8_readsNumber wn_X8 wc_X8_readsNumber) ⟨rfl, rfl⟩ hv_X8_readsNumber ⟨Nat.le_of_ble_eq_true rfl, Nat.le_of_ble_eq_true rfl⟩ rfl mM_0 hP hS rfl hl.1 rfl (Nat.le_of_ble_eq_true rfl) dX8_readsSubmit_4 (fun H locs hP hS => ?_)
  refine lv_if_eq (tgt := 19) hx hb dX8_readsSubmit_7 (by decide) (fun c_3 => ?_) (fun c_3 => ?_)
  · have hf4 := m_it c_3 hf2
    clear hf2
    refine lv_iconst (v := 0) hx hb dX8_readsSubmit_19 (by decide) ?_
    exact m_zret C hP hS dX8_readsSubmit_20 (by decide) hf4
  · have hf5 := m_ie c_3 hf2
    clear hf2
    refine lv_aload_n hx hb dX8_readsSubmit_10 rfl (lv_at hl 0 rfl) ?_
    refine lv_bipush (v := 58) hx hb dX8_readsSubmit_11 (by decide) ?_
    obtain ⟨r_6, X_6, h_6, hf7⟩ := m_bi_s hf5
    clear hf5
    refine m_callVi (q := (RX8, TX8, 13)) C [.int 58] [] (c_X8_takes l D a cy hG N _ _ h_6) (m_goodV wl_X8_149 wi_X8_takes ws_X8_takes wn_X8 wc_X8_takes) ⟨rfl, rfl⟩ hv_X8_takes ⟨Nat.le_of_ble_eq_true rfl, Nat.le_of_ble_eq_true rfl⟩ rfl mM_0 hP hS rfl hl.1 rfl (Nat.le_of_ble_eq_true rfl) dX8_readsSubmit_13 (fun H locs hP hS => ?_)
    refine lv_if_ne (tgt := 21) hx hb dX8_readsSubmit_16 (by decide) (fun c_8 => ?_) (fun c_8 => ?_)
    · have hf9 := m_ie c_8 hf7
      clear hf7
      refine lv_aload_n hx hb dX8_readsSubmit_21 rfl (lv_at hl 0 rfl) ?_
      refine lv_aload_n hx hb dX8_readsSubmit_22 rfl (lv_at hl 0 rfl) ?_
      obtain ⟨r_11, X_11, h_11, hf12⟩ := m_bi_s hf9
      clear hf9
      refine m_callVi (q := (RX8, TX8, 13)) C [] [.ref (a 0)] (c_X8_nextCharacter l D a cy hG N _ h_11) (m_goodV wl_X8_140 wi_X8_nextCharacter ws_X8_nextCharacter wn_X8 wc_X8_nextCharacter) ⟨rfl, rfl⟩ hv_X8_nextCharacter ⟨Nat.le_of_ble_eq_true rfl, Nat.le_of_ble_eq_true rfl⟩ rfl mM_0 hP hS rfl hl.1 rfl (Nat.le_of_ble_eq_true rfl) dX8_readsSubmit_23 (fun H locs hP hS => ?_)
      refine lv_bipush (v := 48) hx hb dX8_readsSubmit_26 (by decide) ?_
      refine lv_isub hx hb dX8_readsSubmit_28 ?_
      refine lv_topi (fun y_13 e_13 => ?_)
      have hf14 := m_nm_s e_13 hf12
      clear hf12
      refine m_put C hP hS mM_0 rfl inX8 tyX8_ok nmX8 11 (by decide) wf_X8_152 rfl rfl rfl (Nat.le_of_ble_eq_true rfl) mM_0_11 dX8_readsSubmit_29 (fun X_15 e_15 H locs hP hS => ?_)
      have hf16 := m_nm_s e_15 hf14
      clear hf14
      refine lv_aload_n hx hb dX8_readsSubmit_32 rfl (lv_at hl 0 rfl) ?_
      refine m_get C hP mM_0 rfl inX8 11 (by decide) wf_X8_152 rfl dX8_readsSubmit_33 ?_
      refine lv_iconst (v := 1) hx hb dX8_readsSubmit_36 (by decide) ?_
      refine lv_bipush (v := 8) hx hb dX8_readsSubmit_37 (by decide) ?_
      obtain ⟨r_17, X_17, h_17, hf18⟩ := m_bi_s hf16
      clear hf16
      refine m_callSi C [.int (X_15 0 11), .int 1, .int 8] [] (c_X8_within l D a cy hG N _ _ _ _ h_17) (m_goodS wl_X8_25 wst_X8_within wn_X8 wc_X8_within) ⟨rfl, rfl⟩ hv_X8_within ⟨Nat.le_of_ble_eq_true rfl, Nat.le_of_ble_eq_true rfl⟩ hP hS rfl hl.1 rfl (Nat.le_of_ble_eq_true rfl) dX8_readsSubmit_39 (fun H locs hP hS => ?_)
      refine lv_if_ne (tgt := 47) hx hb dX8_readsSubmit_42 (by decide) (fun c_19 => ?_) (fun c_19 => ?_)
      · have hf20 := m_ie c_19 hf18
        clear hf18
        refine lv_aload_n hx hb dX8_readsSubmit_47 rfl (lv_at hl 0 rfl) ?_
        refine lv_dup hx hb dX8_readsSubmit_48 rfl ?_
        refine m_get C hP mM_0 rfl inX8 8 (by decide) wf_X8_137 rfl dX8_readsSubmit_49 ?_
        refine lv_iconst (v := 1) hx hb dX8_readsSubmit_52 (by decide) ?_
        refine lv_iadd hx hb dX8_readsSubmit_53 ?_
        refine lv_topi (fun y_22 e_22 => ?_)
        have hf23 := m_nm_s e_22 hf20
        clear hf20
        refine m_put C hP hS mM_0 rfl inX8 tyX8_ok nmX8 8 (by decide) wf_X8_137 rfl rfl rfl (Nat.le_of_ble_eq_true rfl) mM_0_8 dX8_readsSubmit_54 (fun X_24 e_24 H locs hP hS => ?_)
        have hf25 := m_nm_s e_24 hf23
        clear hf23
        refine lv_aload_n hx hb dX8_readsSubmit_57 rfl (lv_at hl 0 rfl) ?_
        refine lv_aload_n hx hb dX8_readsSubmit_58 rfl (lv_at hl 0 rfl) ?_
        refine lv_bipush (v := 33) hx hb dX8_readsSubmit_59 (by decide) ?_
        obtain ⟨r_26, X_26, h_26, hf27⟩ := m_bi_s hf25
        clear hf25
        refine m_callVi (q := (RX8, TX8, 13)) C [.int 33] [.ref (a 0)] (c_X8_takes l D a cy hG N _ _ h_26) (m_goodV wl_X8_149 wi_X8_takes ws_X8_takes wn_X8 wc_X8_takes) ⟨rfl, rfl⟩ hv_X8_takes ⟨Nat.le_of_ble_eq_true rfl, Nat.le_of_ble_eq_true rfl⟩ rfl mM_0 hP hS rfl hl.1 rfl (Nat.le_of_ble_eq_true rfl) dX8_readsSubmit_61 (fun H locs hP hS => ?_)
        obtain ⟨g_28, hf29⟩ := m_gd_s hf27
        clear hf27
        refine m_put C hP hS mM_0 rfl inX8 tyX8_ok nmX8 12 (by decide) wf_X8_155 rfl (m_bool g_28).1 (m_bool g_28).2 (Nat.le_of_ble_eq_true rfl) mM_0_12 dX8_readsSubmit_64 (fun X_28 e_28 H locs hP hS => ?_)
        have hf30 := m_nm_s e_28 hf29
        clear hf29
        refine lv_iconst (v := 1) hx hb dX8_readsSubmit_67 (by decide) ?_
        exact m_zret C hP hS dX8_readsSubmit_68 (by decide) hf30
      · have hf21 := m_it c_19 hf18
        clear hf18
        refine lv_iconst (v := 0) hx hb dX8_readsSubmit_45 (by decide) ?_
        exact m_zret C hP hS dX8_readsSubmit_46 (by decide) hf21
    · have hf10 := m_it c_8 hf7
      clear hf7
      refine lv_iconst (v := 0) hx hb dX8_readsSubmit_19 (by decide) ?_
      exact m_zret C hP hS dX8_readsSubmit_20 (by decide) hf10
abbrev rm_X8_readsOrder : Room := { frames := 3, cells := 0, slots := 0, locals := 65 }
def f_X8_readsOrder (N : Nat) (X : XT) : Option (Int32 × XT) := m_bi (f_X8_nextCharacter N X) fun r_1 X_1 => m_nm (m_up X_1 0 (upd (X_1 0) 9 r_1)) fun X_3 => if (X_3 0 9) = 42 then (m_nm ((X_3 0 8) + 1) fun y_8 => m_nm (m_up X_3 0 (upd (X_3 0) 8 y_8)) fun X_10 => some (1, X_10)) else (if (X_3 0 9) = 43 then (m_nm ((X_3 0 8) + 1) fun y_15 => m_nm (m_up X_3 0 (upd (X_3 0) 8 y_15)) fun X_17 => m_bi (f_X8_readsNumber N 1 99 X_17) fun r_19 X_19 => m_gd (r_19 = 0 ∨ r_19 = 1) <| some (r_19, X_19)) else (if (X_3 0 9) = 102 then (m_nm ((X_3 0 8) + 1) fun y_26 => m_nm (m_up X_3 0 (upd (X_3 0) 8 y_26)) fun X_28 => m_bi (f_X8_readsNumber N 0 11 X_28) fun r_30 X_30 => m_gd (r_30 = 0 ∨ r_30 = 1) <| some (r_30, X_30)) else (if (X_3 0 9) = 119 then (m_nm ((X_3 0 8) + 1) fun y_37 => m_nm (m_up X_3 0 (upd (X_3 0) 8 y_37)) fun X_39 => m_bi (f_X8_readsNumber N 0 11 X_39) fun r_41 X_41 => m_gd (r_41 = 0 ∨ r_41 = 1) <| some (r_41, X_41)) else (m_bi (f_X8_readsSubmit N X_3) fun r_45 X_45 => m_gd (r_45 = 0 ∨ r_45 = 1) <| some (r_45, X_45)))))
set_option maxHeartbeats 4000000 in
set_option maxRecDepth 100000 in
theorem c_X8_readsOrder (l : Launch) (D : va_G) (a : Nat → Nat) (cy : Nat → ClassId) (hG : m_inj 6 a) (N : Nat) (X : XT) {r0 : Int32} {X0 : XT} (hf0 : f_X8_readsOrder N X = some (r0, X0)) : Met l yX8_readsOrder (Cond.code yX8_readsOrder cX8_readsOrder 1 (some .boolean) :: m_tbl) rm_X8_readsOrder (va_Pc [.ref (a 0)] (m_PX D (m_tc cy) (m_WM a cy) m_ZM X)) (m_QI D (m_WM a cy) (m_AM a) r0 X0) 0 0 (m_AM a) := by
  refine m_met (own := RX8) hy_X8_readsOrder rfl (Nat.le_of_ble_eq_true rfl) (m_wl_D hG _) m_ZM_keep ?_
  intro p e s m args below meth c C ls hl hP hS
  have hx := C.1.1
  have hb := C.1.2.1
  have hl : lv_has ls 1 [(0, .ref (a 0))] := hl
  unfold f_X8_readsOrder at hf0
  suffices K : ∀ (H : Heap) (locs : List Loc), va_P D vwCl (m_WM a cy X) H → va_S (m_AM a) s.heap H locs → W p l e rm_X8_readsOrder s m args below meth c H locs 0 0 (MQ below (m_QI D (m_WM a cy) (m_AM a) r0 X0) args s 0 0 (m_AM a)) (F0 m 0 ls []) from K _ _ hP hS
  clear hP hS
  intro H locs hP hS
  refine lv_aload_n hx hb dX8_readsOrder_0 rfl (lv_at hl 0 rfl) ?_
  refine lv_aload_n hx hb dX8_readsOrder_1 rfl (lv_at hl 0 rfl) ?_
  obtain ⟨r_1, X_1, h_1, hf2⟩ := m_bi_s hf0
  clear hf0
  refine m_callVi (q := (RX8, TX8, 13)) C [] [.ref (a 0)] (c_X8_nextCharacter l D a cy hG N _ h_1) (m_goodV wl_X8_140 wi_X8_nextCharacter ws_X8_nextCharacter wn_X8 wc_X8_nextCharacter) ⟨rfl, rfl⟩ hv_X8_nextCharacter ⟨Nat.le_of_ble_eq_true rfl, Nat.le_of_ble_eq_true rfl⟩ rfl mM_0 hP hS rfl hl.1 rfl (Nat.le_of_ble_eq_true rfl) dX8_readsOrder_2 (fun H locs hP hS => ?_)
  refine m_put C hP hS mM_0 rfl inX8 tyX8_ok nmX8 9 (by decide) wf_X8_158 rfl rfl rfl (Nat.le_of_ble_eq_true rfl) mM_0_9 dX8_readsOrder_5 (fun X_3 e_3 H locs hP hS => ?_)
  have hf4 := m_nm_s e_3 hf2
  clear hf2
  refine lv_aload_n hx hb dX8_readsOrder_8 rfl (lv_at hl 0 rfl) ?_
  refine m_get C hP mM_0 rfl inX8 9 (by decide) wf_X8_158 rfl dX8_readsOrder_9 ?_
  by_cases c_5 : (X_3 0 9) = 42
  · have hf6 := m_it c_5 hf4
    clear hf4
    refine lv_lookup (tgt := 92) (off := 80) hx hb dX8_readsOrder_12 (by decide) (by rw [c_5]; rfl) (by decide) ?_
    refine lv_aload_n hx hb dX8_readsOrder_92 rfl (lv_at hl 0 rfl) ?_
    refine lv_dup hx hb dX8_readsOrder_93 rfl ?_
    refine m_get C hP mM_0 rfl inX8 8 (by decide) wf_X8_137 rfl dX8_readsOrder_94 ?_
    refine lv_iconst (v := 1) hx hb dX8_readsOrder_97 (by decide) ?_
    refine lv_iadd hx hb dX8_readsOrder_98 ?_
    refine lv_topi (fun y_8 e_8 => ?_)
    have hf9 := m_nm_s e_8 hf6
    clear hf6
    refine m_put C hP hS mM_0 rfl inX8 tyX8_ok nmX8 8 (by decide) wf_X8_137 rfl rfl rfl (Nat.le_of_ble_eq_true rfl) mM_0_8 dX8_readsOrder_99 (fun X_10 e_10 H locs hP hS => ?_)
    have hf11 := m_nm_s e_10 hf9
    clear hf9
    refine lv_iconst (v := 1) hx hb dX8_readsOrder_102 (by decide) ?_
    exact m_zret C hP hS dX8_readsOrder_103 (by decide) hf11
  · have hf7 := m_ie c_5 hf4
    clear hf4
    by_cases c_12 : (X_3 0 9) = 43
    · have hf13 := m_it c_12 hf7
      clear hf7
      refine lv_lookup (tgt := 74) (off := 62) hx hb dX8_readsOrder_12 (by decide) (by rw [c_12]; rfl) (by decide) ?_
      refine lv_aload_n hx hb dX8_readsOrder_74 rfl (lv_at hl 0 rfl) ?_
      refine lv_dup hx hb dX8_readsOrder_75 rfl ?_
      refine m_get C hP mM_0 rfl inX8 8 (by decide) wf_X8_137 rfl dX8_readsOrder_76 ?_
      refine lv_iconst (v := 1) hx hb dX8_readsOrder_79 (by decide) ?_
      refine lv_iadd hx hb dX8_readsOrder_80 ?_
      refine lv_topi (fun y_15 e_15 => ?_)
      have hf16 := m_nm_s e_15 hf13
      clear hf13
      refine m_put C hP hS mM_0 rfl inX8 tyX8_ok nmX8 8 (by decide) wf_X8_137 rfl rfl rfl (Nat.le_of_ble_eq_true rfl) mM_0_8 dX8_readsOrder_81 (fun X_17 e_17 H locs hP hS => ?_)
      have hf18 := m_nm_s e_17 hf16
      clear hf16
      refine lv_aload_n hx hb dX8_readsOrder_84 rfl (lv_at hl 0 rfl) ?_
      refine lv_iconst (v := 1) hx hb dX8_readsOrder_85 (by decide) ?_
      refine lv_bipush (v := 99) hx hb dX8_readsOrder_86 (by decide) ?_
      obtain ⟨r_19, X_19, h_19, hf20⟩ := m_bi_s hf18
      clear hf18
      refine m_callVi (q := (RX8, TX8, 13)) C [.int 1, .int 99] [] (c_X8_readsNumber l D a cy hG N _ _ _ h_19) (m_goodV wl_X8_146 wi_X8_readsNumber ws_X8_readsNumber wn_X8 wc_X8_readsNumber) ⟨rfl, rfl⟩ hv_X8_readsNumber ⟨Nat.le_of_ble_eq_true rfl, Nat.le_of_ble_eq_true rfl⟩ rfl mM_0 hP hS rfl hl.1 rfl (Nat.le_of_ble_eq_true rfl) dX8_readsOrder_88 (fun H locs hP hS => ?_)
      obtain ⟨g_21, hf22⟩ := m_gd_s hf20
      clear hf20
      exact m_zret C hP hS dX8_readsOrder_91 (m_bool g_21).1 hf22
    · have hf14 := m_ie c_12 hf7
      clear hf7
      by_cases c_23 : (X_3 0 9) = 102
      · have hf24 := m_it c_23 hf14
        clear hf14
        refine lv_lookup (tgt := 56) (off := 44) hx hb dX8_readsOrder_12 (by decide) (by rw [c_23]; rfl) (by decide) ?_
        refine lv_aload_n hx hb dX8_readsOrder_56 rfl (lv_at hl 0 rfl) ?_
        refine lv_dup hx hb dX8_readsOrder_57 rfl ?_
        refine m_get C hP mM_0 rfl inX8 8 (by decide) wf_X8_137 rfl dX8_readsOrder_58 ?_
        refine lv_iconst (v := 1) hx hb dX8_readsOrder_61 (by decide) ?_
        refine lv_iadd hx hb dX8_readsOrder_62 ?_
        refine lv_topi (fun y_26 e_26 => ?_)
        have hf27 := m_nm_s e_26 hf24
        clear hf24
        refine m_put C hP hS mM_0 rfl inX8 tyX8_ok nmX8 8 (by decide) wf_X8_137 rfl rfl rfl (Nat.le_of_ble_eq_true rfl) mM_0_8 dX8_readsOrder_63 (fun X_28 e_28 H locs hP hS => ?_)
        have hf29 := m_nm_s e_28 hf27
        clear hf27
        refine lv_aload_n hx hb dX8_readsOrder_66 rfl (lv_at hl 0 rfl) ?_
        refine lv_iconst (v := 0) hx hb dX8_readsOrder_67 (by decide) ?_
        refine lv_bipush (v := 11) hx hb dX8_readsOrder_68 (by decide) ?_
        obtain ⟨r_30, X_30, h_30, hf31⟩ := m_bi_s hf29
        clear hf29
        refine m_callVi (q := (RX8, TX8, 13)) C [.int 0, .int 11] [] (c_X8_readsNumber l D a cy hG N _ _ _ h_30) (m_goodV wl_X8_146 wi_X8_readsNumber ws_X8_readsNumber wn_X8 wc_X8_readsNumber) ⟨rfl, rfl⟩ hv_X8_readsNumber ⟨Nat.le_of_ble_eq_true rfl, Nat.le_of_ble_eq_true rfl⟩ rfl mM_0 hP hS rfl hl.1 rfl (Nat.le_of_ble_eq_true rfl) dX8_readsOrder_70 (fun H locs hP hS => ?_)
        obtain ⟨g_32, hf33⟩ := m_gd_s hf31
        clear hf31
        exact m_zret C hP hS dX8_readsOrder_73 (m_bool g_32).1 hf33
      · have hf25 := m_ie c_23 hf14
        clear hf14
        by_cases c_34 : (X_3 0 9) = 119
        · have hf35 := m_it c_34 hf25
          clear hf25
          refine lv_lookup (tgt := 56) (off := 44) hx hb dX8_readsOrder_12 (by decide) (by rw [c_34]; rfl) (by decide) ?_
          refine lv_aload_n hx hb dX8_readsOrder_56 rfl (lv_at hl 0 rfl) ?_
          refine lv_dup hx hb dX8_readsOrder_57 rfl ?_
          refine m_get C hP mM_0 rfl inX8 8 (by decide) wf_X8_137 rfl dX8_readsOrder_58 ?_
          refine lv_iconst (v := 1) hx hb dX8_readsOrder_61 (by decide) ?_
          refine lv_iadd hx hb dX8_readsOrder_62 ?_
          refine lv_topi (fun y_37 e_37 => ?_)
          have hf38 := m_nm_s e_37 hf35
          clear hf35
          refine m_put C hP hS mM_0 rfl inX8 tyX8_ok nmX8 8 (by decide) wf_X8_137 rfl rfl rfl (Nat.le_of_ble_eq_true rfl) mM_0_8 dX8_readsOrder_63 (fun X_39 e_39 H locs hP hS => ?_)
          have hf40 := m_nm_s e_39 hf38
          clear hf38
          refine lv_aload_n hx hb dX8_readsOrder_66 rfl (lv_at hl 0 rfl) ?_
          refine lv_iconst (v := 0) hx hb dX8_readsOrder_67 (by decide) ?_
          refine lv_bipush (v := 11) hx hb dX8_readsOrder_68 (by decide) ?_
          obtain ⟨r_41, X_41, h_41, hf42⟩ := m_bi_s hf40
          clear hf40
          refine m_callVi (q := (RX8, TX8, 13)) C [.int 0, .int 11] [] (c_X8_readsNumber l D a cy hG N _ _ _ h_41) (m_goodV wl_X8_146 wi_X8_readsNumber ws_X8_readsNumber wn_X8 wc_X8_readsNumber) ⟨rfl, rfl⟩ hv_X8_readsNumber ⟨Nat.le_of_ble_eq_true rfl, Nat.le_of_ble_eq_true rfl⟩ rfl mM_0 hP hS rfl hl.1 rfl (Nat.le_of_ble_eq_true rfl) dX8_readsOrder_70 (fun H locs hP hS => ?_)
          obtain ⟨g_43, hf44⟩ := m_gd_s hf42
          clear hf42
          exact m_zret C hP hS dX8_readsOrder_73 (m_bool g_43).1 hf44
        · have hf36 := m_ie c_34 hf25
          clear hf25
          refine lv_lookup (tgt := 104) (off := 92) hx hb dX8_readsOrder_12 (by decide) ((lv_osw c_5 (by decide)).trans ((lv_osw c_12 (by decide)).trans ((lv_osw c_23 (by decide)).trans ((lv_osw c_34 (by decide)).trans rfl)))) (by decide) ?_
          refine lv_aload_n hx hb dX8_readsOrder_104 rfl (lv_at hl 0 rfl) ?_
          obtain ⟨r_45, X_45, h_45, hf46⟩ := m_bi_s hf36
          clear hf36
          refine m_callVi (q := (RX8, TX8, 13)) C [] [] (c_X8_readsSubmit l D a cy hG N _ h_45) (m_goodV wl_X8_161 wi_X8_readsSubmit ws_X8_readsSubmit wn_X8 wc_X8_readsSubmit) ⟨rfl, rfl⟩ hv_X8_readsSubmit ⟨Nat.le_of_ble_eq_true rfl, Nat.le_of_ble_eq_true rfl⟩ rfl mM_0 hP hS rfl hl.1 rfl (Nat.le_of_ble_eq_true rfl) dX8_readsOrder_105 (fun H locs hP hS => ?_)
          obtain ⟨g_47, hf48⟩ := m_gd_s hf46
          clear hf46
          exact m_zret C hP hS dX8_readsOrder_108 (m_bool g_47).1 hf48
abbrev rm_X8_findFault : Room := { frames := 4, cells := 0, slots := 0, locals := 85 }
def f_X8_findFault_5 (N : Nat) : Nat → XT → Option (Int32 × XT)
  | 0, _ => none
  | n + 1, X => m_bi (f_X8_readsOrder N X) fun r_3 X_3 => if r_3 = 0 then (some ((X_3 0 8), X_3)) else (if (X_3 0 8) = (X_3 0 7) then (some ((-5), X_3)) else (m_bi (f_X8_takes N 59 X_3) fun r_11 X_11 => if r_11 = 0 then (some ((X_11 0 8), X_11)) else (f_X8_findFault_5 N n  X_11)))
set_option maxHeartbeats 4000000 in
set_option maxRecDepth 100000 in
theorem w_X8_findFault_5 (l : Launch) (D : va_G) (a : Nat → Nat) (cy : Nat → ClassId) (hG : m_inj 6 a) (N : Nat) {p : Program} {e : Env} {s : State} {m : MethodId} {args : Array Value} {below : List Frame} {meth : Method} {c : Code} (C : m_Cx p s m args meth c cX8_findFault 1 RX8 (some .int) (Cond.code yX8_findFault cX8_findFault 1 (some .int)) D (m_tc cy) (m_AM a) (m_WM a cy) m_ZM) {r0 : Int32} {X0 : XT} : ∀ (n : Nat) (X : XT), f_X8_findFault_5 N n X = some (r0, X0) → ∀ (H : Heap) (locs : List Loc) (ls : Array Slot), va_P D vwCl (m_WM a cy X) H → va_S (m_AM a) s.heap H locs → lv_has ls 1 [(0, .ref (a 0))] → W p l e rm_X8_findFault s m args below meth c H locs 0 0 (MQ below (m_QI D (m_WM a cy) (m_AM a) r0 X0) args s 0 0 (m_AM a)) (F0 m 5 ls []) := by
  have hx := C.1.1
  have hb := C.1.2.1
  intro n
  induction n with
  | zero => intro  X hf0; rw [f_X8_findFault_5] at hf0; cases hf0
  | succ n ih =>
    intro  X hf0 H locs ls hP hS hl
    rw [f_X8_findFault_5] at hf0
    refine lv_aload_n hx hb dX8_findFault_5 rfl (lv_at hl 0 rfl) ?_
    obtain ⟨r_3, X_3, h_3, hf4⟩ := m_bi_s hf0
    clear hf0
    refine m_callVi (q := (RX8, TX8, 13)) C [] [] (c_X8_readsOrder l D a cy hG N _ h_3) (m_goodV wl_X8_164 wi_X8_readsOrder ws_X8_readsOrder wn_X8 wc_X8_readsOrder) ⟨rfl, rfl⟩ hv_X8_readsOrder ⟨Nat.le_of_ble_eq_true rfl, Nat.le_of_ble_eq_true rfl⟩ rfl mM_0 hP hS rfl hl.1 rfl (Nat.le_of_ble_eq_true rfl) dX8_findFault_6 (fun H locs hP hS => ?_)
    refine lv_if_eq (tgt := 40) hx hb dX8_findFault_9 (by decide) (fun c_5 => ?_) (fun c_5 => ?_)
    · have hf6 := m_it c_5 hf4
      clear hf4
      refine lv_aload_n hx hb dX8_findFault_40 rfl (lv_at hl 0 rfl) ?_
      refine m_get C hP mM_0 rfl inX8 8 (by decide) wf_X8_137 rfl dX8_findFault_41 ?_
      exact m_iret C hP hS dX8_findFault_44 hf6
    · have hf7 := m_ie c_5 hf4
      clear hf4
      refine lv_aload_n hx hb dX8_findFault_12 rfl (lv_at hl 0 rfl) ?_
      refine m_get C hP mM_0 rfl inX8 8 (by decide) wf_X8_137 rfl dX8_findFault_13 ?_
      refine lv_aload_n hx hb dX8_findFault_16 rfl (lv_at hl 0 rfl) ?_
      refine m_get C hP mM_0 rfl inX8 7 (by decide) wf_X8_134 rfl dX8_findFault_17 ?_
      refine lv_icmp_ne (tgt := 26) hx hb dX8_findFault_20 (by decide) (fun c_8 => ?_) (fun c_8 => ?_)
      · have hf9 := m_ie c_8 hf7
        clear hf7
        refine lv_aload_n hx hb dX8_findFault_26 rfl (lv_at hl 0 rfl) ?_
        refine lv_bipush (v := 59) hx hb dX8_findFault_27 (by decide) ?_
        obtain ⟨r_11, X_11, h_11, hf12⟩ := m_bi_s hf9
        clear hf9
        refine m_callVi (q := (RX8, TX8, 13)) C [.int 59] [] (c_X8_takes l D a cy hG N _ _ h_11) (m_goodV wl_X8_149 wi_X8_takes ws_X8_takes wn_X8 wc_X8_takes) ⟨rfl, rfl⟩ hv_X8_takes ⟨Nat.le_of_ble_eq_true rfl, Nat.le_of_ble_eq_true rfl⟩ rfl mM_0 hP hS rfl hl.1 rfl (Nat.le_of_ble_eq_true rfl) dX8_findFault_29 (fun H locs hP hS => ?_)
        refine lv_if_ne (tgt := 5) hx hb dX8_findFault_32 (by decide) (fun c_13 => ?_) (fun c_13 => ?_)
        · have hf14 := m_ie c_13 hf12
          clear hf12
          exact ih  _ hf14 H locs ls hP hS (lv_sub hl [0] rfl)
        · have hf15 := m_it c_13 hf12
          clear hf12
          refine lv_aload_n hx hb dX8_findFault_35 rfl (lv_at hl 0 rfl) ?_
          refine m_get C hP mM_0 rfl inX8 8 (by decide) wf_X8_137 rfl dX8_findFault_36 ?_
          exact m_iret C hP hS dX8_findFault_39 hf15
      · have hf10 := m_it c_8 hf7
        clear hf7
        refine lv_bipush (v := (-5)) hx hb dX8_findFault_23 (by decide) ?_
        exact m_iret C hP hS dX8_findFault_25 hf10
def f_X8_findFault (N : Nat) (X : XT) : Option (Int32 × XT) := m_nm (m_up X 0 (upd (X 0) 8 0)) fun X_1 => f_X8_findFault_5 N N  X_1
set_option maxHeartbeats 4000000 in
set_option maxRecDepth 100000 in
theorem c_X8_findFault (l : Launch) (D : va_G) (a : Nat → Nat) (cy : Nat → ClassId) (hG : m_inj 6 a) (N : Nat) (X : XT) {r0 : Int32} {X0 : XT} (hf0 : f_X8_findFault N X = some (r0, X0)) : Met l yX8_findFault (Cond.code yX8_findFault cX8_findFault 1 (some .int) :: m_tbl) rm_X8_findFault (va_Pc [.ref (a 0)] (m_PX D (m_tc cy) (m_WM a cy) m_ZM X)) (m_QI D (m_WM a cy) (m_AM a) r0 X0) 0 0 (m_AM a) := by
  refine m_met (own := RX8) hy_X8_findFault rfl (Nat.le_of_ble_eq_true rfl) (m_wl_D hG _) m_ZM_keep ?_
  intro p e s m args below meth c C ls hl hP hS
  have hx := C.1.1
  have hb := C.1.2.1
  have hl : lv_has ls 1 [(0, .ref (a 0))] := hl
  unfold f_X8_findFault at hf0
  suffices K : ∀ (H : Heap) (locs : List Loc), va_P D vwCl (m_WM a cy X) H → va_S (m_AM a) s.heap H locs → W p l e rm_X8_findFault s m args below meth c H locs 0 0 (MQ below (m_QI D (m_WM a cy) (m_AM a) r0 X0) args s 0 0 (m_AM a)) (F0 m 0 ls []) from K _ _ hP hS
  clear hP hS
  intro H locs hP hS
  refine lv_aload_n hx hb dX8_findFault_0 rfl (lv_at hl 0 rfl) ?_
  refine lv_iconst (v := 0) hx hb dX8_findFault_1 (by decide) ?_
  refine m_put C hP hS mM_0 rfl inX8 tyX8_ok nmX8 8 (by decide) wf_X8_137 rfl rfl rfl (Nat.le_of_ble_eq_true rfl) mM_0_8 dX8_findFault_2 (fun X_1 e_1 H locs hP hS => ?_)
  have hf2 := m_nm_s e_1 hf0
  clear hf0
  exact w_X8_findFault_5 l D a cy hG N C _  _ hf2 H locs ls hP hS (lv_sub hl [0] rfl)
abbrev rm_X8_fault : Room := { frames := 5, cells := 0, slots := 0, locals := 105 }
def f_X8_fault (N : Nat) (X : XT) : Option (Int32 × XT) := m_bi (f_X8_findFault N X) fun r_1 X_1 => some (r_1, X_1)
set_option maxHeartbeats 4000000 in
set_option maxRecDepth 100000 in
theorem c_X8_fault (l : Launch) (D : va_G) (a : Nat → Nat) (cy : Nat → ClassId) (hG : m_inj 6 a) (N : Nat) (X : XT) {r0 : Int32} {X0 : XT} (hf0 : f_X8_fault N X = some (r0, X0)) : Met l yX8_fault (Cond.code yX8_fault cX8_fault 1 (some .int) :: m_tbl) rm_X8_fault (va_Pc [.ref (a 0)] (m_PX D (m_tc cy) (m_WM a cy) m_ZM X)) (m_QI D (m_WM a cy) (m_AM a) r0 X0) 0 0 (m_AM a) := by
  refine m_met (own := RX8) hy_X8_fault rfl (Nat.le_of_ble_eq_true rfl) (m_wl_D hG _) m_ZM_keep ?_
  intro p e s m args below meth c C ls hl hP hS
  have hx := C.1.1
  have hb := C.1.2.1
  have hl : lv_has ls 1 [(0, .ref (a 0))] := hl
  unfold f_X8_fault at hf0
  suffices K : ∀ (H : Heap) (locs : List Loc), va_P D vwCl (m_WM a cy X) H → va_S (m_AM a) s.heap H locs → W p l e rm_X8_fault s m args below meth c H locs 0 0 (MQ below (m_QI D (m_WM a cy) (m_AM a) r0 X0) args s 0 0 (m_AM a)) (F0 m 0 ls []) from K _ _ hP hS
  clear hP hS
  intro H locs hP hS
  refine lv_aload_n hx hb dX8_fault_0 rfl (lv_at hl 0 rfl) ?_
  obtain ⟨r_1, X_1, h_1, hf2⟩ := m_bi_s hf0
  clear hf0
  refine m_callVi (q := (RX8, TX8, 13)) C [] [] (c_X8_findFault l D a cy hG N _ h_1) (m_goodV wl_X8_167 wi_X8_findFault ws_X8_findFault wn_X8 wc_X8_findFault) ⟨rfl, rfl⟩ hv_X8_findFault ⟨Nat.le_of_ble_eq_true rfl, Nat.le_of_ble_eq_true rfl⟩ rfl mM_0 hP hS rfl hl.1 rfl (Nat.le_of_ble_eq_true rfl) dX8_fault_1 (fun H locs hP hS => ?_)
  exact m_iret C hP hS dX8_fault_4 hf2
abbrev rm_X8_doesOrder : Room := { frames := 7, cells := 0, slots := 0, locals := 158 }
def f_X8_doesOrder (N : Nat) (X : XT) : Option (Int32 × XT) := if (X 0 9) = 42 then (m_bi (f_X8_doesCrash N X) fun r_4 X_4 => if r_4 < 0 then (some (0, X_4)) else (some (1, X_4))) else (if (X 0 9) = 43 then (m_bi (f_X8_ticks N (X 0 10) X) fun r_12 X_12 => if r_12 < 0 then (some (0, X_12)) else (some (1, X_12))) else (if (X 0 9) = 102 then (m_bi (f_X8_doesFail N (X 0 10) X) fun r_20 X_20 => if r_20 < (-5) then (some (0, X_20)) else (some (1, X_20))) else (if (X 0 9) = 119 then (m_bi (f_X8_canWithdraw N (X 0 10) X) fun r_28 X_28 => if r_28 = 0 then (some (0, X_28)) else (m_bi (f_X8_doesWithdraw N (X_28 0 10) X_28) fun r_33 X_33 => if r_33 < 0 then (some (0, X_33)) else (some (1, X_33)))) else (m_bi (f_X8_whyNotSubmitted N (X 0 10) (X 0 11) X) fun r_38 X_38 => if r_38 = 0 then (m_bi (f_X8_doesSubmit N (X_38 0 10) (X_38 0 11) (X_38 0 12) X_38) fun r_43 X_43 => if r_43 < 0 then (some (0, X_43)) else (some (1, X_43))) else (some (0, X_38))))))
set_option maxHeartbeats 4000000 in
set_option maxRecDepth 100000 in
theorem c_X8_doesOrder (l : Launch) (D : va_G) (a : Nat → Nat) (cy : Nat → ClassId) (hG : m_inj 6 a) (N : Nat) (X : XT) {r0 : Int32} {X0 : XT} (hf0 : f_X8_doesOrder N X = some (r0, X0)) : Met l yX8_doesOrder (Cond.code yX8_doesOrder cX8_doesOrder 1 (some .boolean) :: m_tbl) rm_X8_doesOrder (va_Pc [.ref (a 0)] (m_PX D (m_tc cy) (m_WM a cy) m_ZM X)) (m_QI D (m_WM a cy) (m_AM a) r0 X0) 0 0 (m_AM a) := by
  refine m_met (own := RX8) hy_X8_doesOrder rfl (Nat.le_of_ble_eq_true rfl) (m_wl_D hG _) m_ZM_keep ?_
  intro p e s m args below meth c C ls hl hP hS
  have hx := C.1.1
  have hb := C.1.2.1
  have hl : lv_has ls 1 [(0, .ref (a 0))] := hl
  unfold f_X8_doesOrder at hf0
  suffices K : ∀ (H : Heap) (locs : List Loc), va_P D vwCl (m_WM a cy X) H → va_S (m_AM a) s.heap H locs → W p l e rm_X8_doesOrder s m args below meth c H locs 0 0 (MQ below (m_QI D (m_WM a cy) (m_AM a) r0 X0) args s 0 0 (m_AM a)) (F0 m 0 ls []) from K _ _ hP hS
  clear hP hS
  intro H locs hP hS
  refine lv_aload_n hx hb dX8_doesOrder_0 rfl (lv_at hl 0 rfl) ?_
  refine m_get C hP mM_0 rfl inX8 9 (by decide) wf_X8_158 rfl dX8_doesOrder_1 ?_
  by_cases c_1 : (X 0 9) = 42
  · have hf2 := m_it c_1 hf0
    clear hf0
    refine lv_lookup (tgt := 112) (off := 108) hx hb dX8_doesOrder_4 (by decide) (by rw [c_1]; rfl) (by decide) ?_
    refine lv_aload_n hx hb dX8_doesOrder_112 rfl (lv_at hl 0 rfl) ?_
    obtain ⟨r_4, X_4, h_4, hf5⟩ := m_bi_s hf2
    clear hf2
    refine m_callVi (q := (RX8, TX8, 13)) C [] [] (c_X8_doesCrash l D a cy hG N _ h_4) (m_goodV wl_X8_122 wi_X8_doesCrash ws_X8_doesCrash wn_X8 wc_X8_doesCrash) ⟨rfl, rfl⟩ hv_X8_doesCrash ⟨Nat.le_of_ble_eq_true rfl, Nat.le_of_ble_eq_true rfl⟩ rfl mM_0 hP hS rfl hl.1 rfl (Nat.le_of_ble_eq_true rfl) dX8_doesOrder_113 (fun H locs hP hS => ?_)
    refine lv_if_lt (tgt := 123) hx hb dX8_doesOrder_116 (by decide) (fun c_6 => ?_) (fun c_6 => ?_)
    · have hf7 := m_it c_6 hf5
      clear hf5
      refine lv_iconst (v := 0) hx hb dX8_doesOrder_123 (by decide) ?_
      exact m_zret C hP hS dX8_doesOrder_124 (by decide) hf7
    · have hf8 := m_ie c_6 hf5
      clear hf5
      refine lv_iconst (v := 1) hx hb dX8_doesOrder_119 (by decide) ?_
      refine lv_goto (tgt := 124) hx hb dX8_doesOrder_120 (by decide) ?_
      exact m_zret C hP hS dX8_doesOrder_124 (by decide) hf8
  · have hf3 := m_ie c_1 hf0
    clear hf0
    by_cases c_9 : (X 0 9) = 43
    · have hf10 := m_it c_9 hf3
      clear hf3
      refine lv_lookup (tgt := 95) (off := 91) hx hb dX8_doesOrder_4 (by decide) (by rw [c_9]; rfl) (by decide) ?_
      refine lv_aload_n hx hb dX8_doesOrder_95 rfl (lv_at hl 0 rfl) ?_
      refine lv_aload_n hx hb dX8_doesOrder_96 rfl (lv_at hl 0 rfl) ?_
      refine m_get C hP mM_0 rfl inX8 10 (by decide) wf_X8_143 rfl dX8_doesOrder_97 ?_
      obtain ⟨r_12, X_12, h_12, hf13⟩ := m_bi_s hf10
      clear hf10
      refine m_callVi (q := (RX8, TX8, 13)) C [.int (X 0 10)] [] (c_X8_ticks l D a cy hG N _ _ h_12) (m_goodV wl_X8_125 wi_X8_ticks ws_X8_ticks wn_X8 wc_X8_ticks) ⟨rfl, rfl⟩ hv_X8_ticks ⟨Nat.le_of_ble_eq_true rfl, Nat.le_of_ble_eq_true rfl⟩ rfl mM_0 hP hS rfl hl.1 rfl (Nat.le_of_ble_eq_true rfl) dX8_doesOrder_100 (fun H locs hP hS => ?_)
      refine lv_if_lt (tgt := 110) hx hb dX8_doesOrder_103 (by decide) (fun c_14 => ?_) (fun c_14 => ?_)
      · have hf15 := m_it c_14 hf13
        clear hf13
        refine lv_iconst (v := 0) hx hb dX8_doesOrder_110 (by decide) ?_
        exact m_zret C hP hS dX8_doesOrder_111 (by decide) hf15
      · have hf16 := m_ie c_14 hf13
        clear hf13
        refine lv_iconst (v := 1) hx hb dX8_doesOrder_106 (by decide) ?_
        refine lv_goto (tgt := 111) hx hb dX8_doesOrder_107 (by decide) ?_
        exact m_zret C hP hS dX8_doesOrder_111 (by decide) hf16
    · have hf11 := m_ie c_9 hf3
      clear hf3
      by_cases c_17 : (X 0 9) = 102
      · have hf18 := m_it c_17 hf11
        clear hf11
        refine lv_lookup (tgt := 48) (off := 44) hx hb dX8_doesOrder_4 (by decide) (by rw [c_17]; rfl) (by decide) ?_
        refine lv_aload_n hx hb dX8_doesOrder_48 rfl (lv_at hl 0 rfl) ?_
        refine lv_aload_n hx hb dX8_doesOrder_49 rfl (lv_at hl 0 rfl) ?_
        refine m_get C hP mM_0 rfl inX8 10 (by decide) wf_X8_143 rfl dX8_doesOrder_50 ?_
        obtain ⟨r_20, X_20, h_20, hf21⟩ := m_bi_s hf18
        clear hf18
        refine m_callVi (q := (RX8, TX8, 13)) C [.int (X 0 10)] [] (c_X8_doesFail l D a cy hG N _ _ h_20) (m_goodV wl_X8_113 wi_X8_doesFail ws_X8_doesFail wn_X8 wc_X8_doesFail) ⟨rfl, rfl⟩ hv_X8_doesFail ⟨Nat.le_of_ble_eq_true rfl, Nat.le_of_ble_eq_true rfl⟩ rfl mM_0 hP hS rfl hl.1 rfl (Nat.le_of_ble_eq_true rfl) dX8_doesOrder_53 (fun H locs hP hS => ?_)
        refine lv_bipush (v := (-5)) hx hb dX8_doesOrder_56 (by decide) ?_
        refine lv_icmp_lt (tgt := 65) hx hb dX8_doesOrder_58 (by decide) (fun c_22 => ?_) (fun c_22 => ?_)
        · have hf23 := m_it c_22 hf21
          clear hf21
          refine lv_iconst (v := 0) hx hb dX8_doesOrder_65 (by decide) ?_
          exact m_zret C hP hS dX8_doesOrder_66 (by decide) hf23
        · have hf24 := m_ie c_22 hf21
          clear hf21
          refine lv_iconst (v := 1) hx hb dX8_doesOrder_61 (by decide) ?_
          refine lv_goto (tgt := 66) hx hb dX8_doesOrder_62 (by decide) ?_
          exact m_zret C hP hS dX8_doesOrder_66 (by decide) hf24
      · have hf19 := m_ie c_17 hf11
        clear hf11
        by_cases c_25 : (X 0 9) = 119
        · have hf26 := m_it c_25 hf19
          clear hf19
          refine lv_lookup (tgt := 67) (off := 63) hx hb dX8_doesOrder_4 (by decide) (by rw [c_25]; rfl) (by decide) ?_
          refine lv_aload_n hx hb dX8_doesOrder_67 rfl (lv_at hl 0 rfl) ?_
          refine lv_aload_n hx hb dX8_doesOrder_68 rfl (lv_at hl 0 rfl) ?_
          refine m_get C hP mM_0 rfl inX8 10 (by decide) wf_X8_143 rfl dX8_doesOrder_69 ?_
          obtain ⟨r_28, X_28, h_28, hf29⟩ := m_bi_s hf26
          clear hf26
          refine m_callVi (q := (RX8, TX8, 13)) C [.int (X 0 10)] [] (c_X8_canWithdraw l D a cy hG N _ _ h_28) (m_goodV wl_X8_116 wi_X8_canWithdraw ws_X8_canWithdraw wn_X8 wc_X8_canWithdraw) ⟨rfl, rfl⟩ hv_X8_canWithdraw ⟨Nat.le_of_ble_eq_true rfl, Nat.le_of_ble_eq_true rfl⟩ rfl mM_0 hP hS rfl hl.1 rfl (Nat.le_of_ble_eq_true rfl) dX8_doesOrder_72 (fun H locs hP hS => ?_)
          refine lv_if_eq (tgt := 93) hx hb dX8_doesOrder_75 (by decide) (fun c_30 => ?_) (fun c_30 => ?_)
          · have hf31 := m_it c_30 hf29
            clear hf29
            refine lv_iconst (v := 0) hx hb dX8_doesOrder_93 (by decide) ?_
            exact m_zret C hP hS dX8_doesOrder_94 (by decide) hf31
          · have hf32 := m_ie c_30 hf29
            clear hf29
            refine lv_aload_n hx hb dX8_doesOrder_78 rfl (lv_at hl 0 rfl) ?_
            refine lv_aload_n hx hb dX8_doesOrder_79 rfl (lv_at hl 0 rfl) ?_
            refine m_get C hP mM_0 rfl inX8 10 (by decide) wf_X8_143 rfl dX8_doesOrder_80 ?_
            obtain ⟨r_33, X_33, h_33, hf34⟩ := m_bi_s hf32
            clear hf32
            refine m_callVi (q := (RX8, TX8, 13)) C [.int (X_28 0 10)] [] (c_X8_doesWithdraw l D a cy hG N _ _ h_33) (m_goodV wl_X8_119 wi_X8_doesWithdraw ws_X8_doesWithdraw wn_X8 wc_X8_doesWithdraw) ⟨rfl, rfl⟩ hv_X8_doesWithdraw ⟨Nat.le_of_ble_eq_true rfl, Nat.le_of_ble_eq_true rfl⟩ rfl mM_0 hP hS rfl hl.1 rfl (Nat.le_of_ble_eq_true rfl) dX8_doesOrder_83 (fun H locs hP hS => ?_)
            refine lv_if_lt (tgt := 93) hx hb dX8_doesOrder_86 (by decide) (fun c_35 => ?_) (fun c_35 => ?_)
            · have hf36 := m_it c_35 hf34
              clear hf34
              refine lv_iconst (v := 0) hx hb dX8_doesOrder_93 (by decide) ?_
              exact m_zret C hP hS dX8_doesOrder_94 (by decide) hf36
            · have hf37 := m_ie c_35 hf34
              clear hf34
              refine lv_iconst (v := 1) hx hb dX8_doesOrder_89 (by decide) ?_
              refine lv_goto (tgt := 94) hx hb dX8_doesOrder_90 (by decide) ?_
              exact m_zret C hP hS dX8_doesOrder_94 (by decide) hf37
        · have hf27 := m_ie c_25 hf19
          clear hf19
          refine lv_lookup (tgt := 125) (off := 121) hx hb dX8_doesOrder_4 (by decide) ((lv_osw c_1 (by decide)).trans ((lv_osw c_9 (by decide)).trans ((lv_osw c_17 (by decide)).trans ((lv_osw c_25 (by decide)).trans rfl)))) (by decide) ?_
          refine lv_aload_n hx hb dX8_doesOrder_125 rfl (lv_at hl 0 rfl) ?_
          refine lv_aload_n hx hb dX8_doesOrder_126 rfl (lv_at hl 0 rfl) ?_
          refine m_get C hP mM_0 rfl inX8 10 (by decide) wf_X8_143 rfl dX8_doesOrder_127 ?_
          refine lv_aload_n hx hb dX8_doesOrder_130 rfl (lv_at hl 0 rfl) ?_
          refine m_get C hP mM_0 rfl inX8 11 (by decide) wf_X8_152 rfl dX8_doesOrder_131 ?_
          obtain ⟨r_38, X_38, h_38, hf39⟩ := m_bi_s hf27
          clear hf27
          refine m_callVi (q := (RX8, TX8, 13)) C [.int (X 0 10), .int (X 0 11)] [] (c_X8_whyNotSubmitted l D a cy hG N _ _ _ h_38) (m_goodV wl_X8_106 wi_X8_whyNotSubmitted ws_X8_whyNotSubmitted wn_X8 wc_X8_whyNotSubmitted) ⟨rfl, rfl⟩ hv_X8_whyNotSubmitted ⟨Nat.le_of_ble_eq_true rfl, Nat.le_of_ble_eq_true rfl⟩ rfl mM_0 hP hS rfl hl.1 rfl (Nat.le_of_ble_eq_true rfl) dX8_doesOrder_134 (fun H locs hP hS => ?_)
          refine lv_if_ne (tgt := 163) hx hb dX8_doesOrder_137 (by decide) (fun c_40 => ?_) (fun c_40 => ?_)
          · have hf41 := m_ie c_40 hf39
            clear hf39
            refine lv_iconst (v := 0) hx hb dX8_doesOrder_163 (by decide) ?_
            exact m_zret C hP hS dX8_doesOrder_164 (by decide) hf41
          · have hf42 := m_it c_40 hf39
            clear hf39
            refine lv_aload_n hx hb dX8_doesOrder_140 rfl (lv_at hl 0 rfl) ?_
            refine lv_aload_n hx hb dX8_doesOrder_141 rfl (lv_at hl 0 rfl) ?_
            refine m_get C hP mM_0 rfl inX8 10 (by decide) wf_X8_143 rfl dX8_doesOrder_142 ?_
            refine lv_aload_n hx hb dX8_doesOrder_145 rfl (lv_at hl 0 rfl) ?_
            refine m_get C hP mM_0 rfl inX8 11 (by decide) wf_X8_152 rfl dX8_doesOrder_146 ?_
            refine lv_aload_n hx hb dX8_doesOrder_149 rfl (lv_at hl 0 rfl) ?_
            refine m_get C hP mM_0 rfl inX8 12 (by decide) wf_X8_155 rfl dX8_doesOrder_150 ?_
            obtain ⟨r_43, X_43, h_43, hf44⟩ := m_bi_s hf42
            clear hf42
            refine m_callVi (q := (RX8, TX8, 13)) C [.int (X_38 0 10), .int (X_38 0 11), .int (X_38 0 12)] [] (c_X8_doesSubmit l D a cy hG N _ _ _ _ h_43) (m_goodV wl_X8_109 wi_X8_doesSubmit ws_X8_doesSubmit wn_X8 wc_X8_doesSubmit) ⟨rfl, rfl⟩ hv_X8_doesSubmit ⟨Nat.le_of_ble_eq_true rfl, Nat.le_of_ble_eq_true rfl⟩ rfl mM_0 hP hS rfl hl.1 rfl (Nat.le_of_ble_eq_true rfl) dX8_doesOrder_153 (fun H locs hP hS => ?_)
            refine lv_if_lt (tgt := 163) hx hb dX8_doesOrder_156 (by decide) (fun c_45 => ?_) (fun c_45 => ?_)
            · have hf46 := m_it c_45 hf44
              clear hf44
              refine lv_iconst (v := 0) hx hb dX8_doesOrder_163 (by decide) ?_
              exact m_zret C hP hS dX8_doesOrder_164 (by decide) hf46
            · have hf47 := m_ie c_45 hf44
              clear hf44
              refine lv_iconst (v := 1) hx hb dX8_doesOrder_159 (by decide) ?_
              refine lv_goto (tgt := 164) hx hb dX8_doesOrder_160 (by decide) ?_
              exact m_zret C hP hS dX8_doesOrder_164 (by decide) hf47
abbrev rm_X8_run : Room := { frames := 8, cells := 0, slots := 0, locals := 178 }
def f_X8_run_29 (N : Nat) : Nat → Int32 → Int32 → XT → Option (Int32 × XT)
  | 0, _, _, _ => none
  | n + 1, v2, v3, X => if v3 = 0 then (some (v2, X)) else (if (X 0 7) ≤ (X 0 8) then (some (v2, X)) else (m_bi (f_X8_readsOrder N X) fun r_16 X_16 => if r_16 = 0 then (if (0 : Int32) = 0 then (m_nm (v2 + 0) fun y_24 => m_nm ((X_16 0 8) + 1) fun y_26 => m_nm (m_up X_16 0 (upd (X_16 0) 8 y_26)) fun X_28 => f_X8_run_29 N n y_24 0 X_28) else (m_nm (v2 + 1) fun y_30 => m_nm ((X_16 0 8) + 1) fun y_32 => m_nm (m_up X_16 0 (upd (X_16 0) 8 y_32)) fun X_34 => f_X8_run_29 N n y_30 0 X_34)) else (m_bi (f_X8_doesOrder N X_16) fun r_36 X_36 => if r_36 = 0 then (if (0 : Int32) = 0 then (m_nm (v2 + 0) fun y_44 => m_nm ((X_36 0 8) + 1) fun y_46 => m_nm (m_up X_36 0 (upd (X_36 0) 8 y_46)) fun X_48 => f_X8_run_29 N n y_44 0 X_48) else (m_nm (v2 + 1) fun y_50 => m_nm ((X_36 0 8) + 1) fun y_52 => m_nm (m_up X_36 0 (upd (X_36 0) 8 y_52)) fun X_54 => f_X8_run_29 N n y_50 0 X_54)) else (if (1 : Int32) = 0 then (m_nm (v2 + 0) fun y_59 => m_nm ((X_36 0 8) + 1) fun y_61 => m_nm (m_up X_36 0 (upd (X_36 0) 8 y_61)) fun X_63 => f_X8_run_29 N n y_59 1 X_63) else (m_nm (v2 + 1) fun y_65 => m_nm ((X_36 0 8) + 1) fun y_67 => m_nm (m_up X_36 0 (upd (X_36 0) 8 y_67)) fun X_69 => f_X8_run_29 N n y_65 1 X_69)))))
set_option maxHeartbeats 4000000 in
set_option maxRecDepth 100000 in
theorem w_X8_run_29 (l : Launch) (D : va_G) (a : Nat → Nat) (cy : Nat → ClassId) (hG : m_inj 6 a) (N : Nat) {p : Program} {e : Env} {s : State} {m : MethodId} {args : Array Value} {below : List Frame} {meth : Method} {c : Code} (C : m_Cx p s m args meth c cX8_run 4 RX8 (some .int) (Cond.code yX8_run cX8_run 4 (some .int)) D (m_tc cy) (m_AM a) (m_WM a cy) m_ZM) {r0 : Int32} {X0 : XT} : ∀ (n : Nat) (v2 : Int32) (v3 : Int32) (X : XT), f_X8_run_29 N n v2 v3 X = some (r0, X0) → ∀ (H : Heap) (locs : List Loc) (ls : Array Slot), va_P D vwCl (m_WM a cy X) H → va_S (m_AM a) s.heap H locs → lv_has ls 4 [(0, .ref (a 0)), (2, .int v2), (3, .int v3)] → W p l e rm_X8_run s m args below meth c H locs 0 0 (MQ below (m_QI D (m_WM a cy) (m_AM a) r0 X0) args s 0 0 (m_AM a)) (F0 m 29 ls []) := by
  have hx := C.1.1
  have hb := C.1.2.1
  intro n
  induction n with
  | zero => intro v2 v3 X hf0; rw [f_X8_run_29] at hf0; cases hf0
  | succ n ih =>
    intro v2 v3 X hf0 H locs ls hP hS hl
    rw [f_X8_run_29] at hf0
    refine lv_iload_n hx hb dX8_run_29 rfl (lv_at hl 2 rfl) ?_
    refine lv_if_eq (tgt := 89) hx hb dX8_run_30 (by decide) (fun c_10 => ?_) (fun c_10 => ?_)
    · have hf11 := m_it c_10 hf0
      clear hf0
      refine lv_iload_n hx hb dX8_run_89 rfl (lv_at hl 1 rfl) ?_
      exact m_iret C hP hS dX8_run_90 hf11
    · have hf12 := m_ie c_10 hf0
      clear hf0
      refine lv_aload_n hx hb dX8_run_33 rfl (lv_at hl 0 rfl) ?_
      refine m_get C hP mM_0 rfl inX8 8 (by decide) wf_X8_137 rfl dX8_run_34 ?_
      refine lv_aload_n hx hb dX8_run_37 rfl (lv_at hl 0 rfl) ?_
      refine m_get C hP mM_0 rfl inX8 7 (by decide) wf_X8_134 rfl dX8_run_38 ?_
      refine lv_icmp_ge (tgt := 89) hx hb dX8_run_41 (by decide) (fun c_13 => ?_) (fun c_13 => ?_)
      · have hf14 := m_it c_13 hf12
        clear hf12
        refine lv_iload_n hx hb dX8_run_89 rfl (lv_at hl 1 rfl) ?_
        exact m_iret C hP hS dX8_run_90 hf14
      · have hf15 := m_ie c_13 hf12
        clear hf12
        refine lv_aload_n hx hb dX8_run_44 rfl (lv_at hl 0 rfl) ?_
        obtain ⟨r_16, X_16, h_16, hf17⟩ := m_bi_s hf15
        clear hf15
        refine m_callVi (q := (RX8, TX8, 13)) C [] [] (c_X8_readsOrder l D a cy hG N _ h_16) (m_goodV wl_X8_164 wi_X8_readsOrder ws_X8_readsOrder wn_X8 wc_X8_readsOrder) ⟨rfl, rfl⟩ hv_X8_readsOrder ⟨Nat.le_of_ble_eq_true rfl, Nat.le_of_ble_eq_true rfl⟩ rfl mM_0 hP hS rfl hl.1 rfl (Nat.le_of_ble_eq_true rfl) dX8_run_45 (fun H locs hP hS => ?_)
        refine lv_if_eq (tgt := 62) hx hb dX8_run_48 (by decide) (fun c_18 => ?_) (fun c_18 => ?_)
        · have hf19 := m_it c_18 hf17
          clear hf17
          refine lv_iconst (v := 0) hx hb dX8_run_62 (by decide) ?_
          refine lv_istore_n (lv' := [(3, .int 0), (0, .ref (a 0)), (2, .int v2)]) hx hb dX8_run_63 rfl hl (by decide) rfl (fun ls hl => ?_)
          refine lv_iload_n hx hb dX8_run_64 rfl (lv_at hl 2 rfl) ?_
          refine lv_iload_n hx hb dX8_run_65 rfl (lv_at hl 0 rfl) ?_
          refine lv_if_eq (tgt := 73) hx hb dX8_run_66 (by decide) (fun c_21 => ?_) (fun c_21 => ?_)
          · have hf22 := m_it c_21 hf19
            clear hf19
            refine lv_iconst (v := 0) hx hb dX8_run_73 (by decide) ?_
            refine lv_iadd hx hb dX8_run_74 ?_
            refine lv_topi (fun y_24 e_24 => ?_)
            have hf25 := m_nm_s e_24 hf22
            clear hf22
            refine lv_istore_n (lv' := [(2, .int y_24), (3, .int 0), (0, .ref (a 0))]) hx hb dX8_run_75 rfl hl (by decide) rfl (fun ls hl => ?_)
            refine lv_aload_n hx hb dX8_run_76 rfl (lv_at hl 2 rfl) ?_
            refine lv_dup hx hb dX8_run_77 rfl ?_
            refine m_get C hP mM_0 rfl inX8 8 (by decide) wf_X8_137 rfl dX8_run_78 ?_
            refine lv_iconst (v := 1) hx hb dX8_run_81 (by decide) ?_
            refine lv_iadd hx hb dX8_run_82 ?_
            refine lv_topi (fun y_26 e_26 => ?_)
            have hf27 := m_nm_s e_26 hf25
            clear hf25
            refine m_put C hP hS mM_0 rfl inX8 tyX8_ok nmX8 8 (by decide) wf_X8_137 rfl rfl rfl (Nat.le_of_ble_eq_true rfl) mM_0_8 dX8_run_83 (fun X_28 e_28 H locs hP hS => ?_)
            have hf29 := m_nm_s e_28 hf27
            clear hf27
            refine lv_goto (tgt := 29) hx hb dX8_run_86 (by decide) ?_
            exact ih _ _ _ hf29 H locs ls hP hS (lv_sub hl [2, 0, 1] rfl)
          · have hf23 := m_ie c_21 hf19
            clear hf19
            refine lv_iconst (v := 1) hx hb dX8_run_69 (by decide) ?_
            refine lv_goto (tgt := 74) hx hb dX8_run_70 (by decide) ?_
            refine lv_iadd hx hb dX8_run_74 ?_
            refine lv_topi (fun y_30 e_30 => ?_)
            have hf31 := m_nm_s e_30 hf23
            clear hf23
            refine lv_istore_n (lv' := [(2, .int y_30), (3, .int 0), (0, .ref (a 0))]) hx hb dX8_run_75 rfl hl (by decide) rfl (fun ls hl => ?_)
            refine lv_aload_n hx hb dX8_run_76 rfl (lv_at hl 2 rfl) ?_
            refine lv_dup hx hb dX8_run_77 rfl ?_
            refine m_get C hP mM_0 rfl inX8 8 (by decide) wf_X8_137 rfl dX8_run_78 ?_
            refine lv_iconst (v := 1) hx hb dX8_run_81 (by decide) ?_
            refine lv_iadd hx hb dX8_run_82 ?_
            refine lv_topi (fun y_32 e_32 => ?_)
            have hf33 := m_nm_s e_32 hf31
            clear hf31
            refine m_put C hP hS mM_0 rfl inX8 tyX8_ok nmX8 8 (by decide) wf_X8_137 rfl rfl rfl (Nat.le_of_ble_eq_true rfl) mM_0_8 dX8_run_83 (fun X_34 e_34 H locs hP hS => ?_)
            have hf35 := m_nm_s e_34 hf33
            clear hf33
            refine lv_goto (tgt := 29) hx hb dX8_run_86 (by decide) ?_
            exact ih _ _ _ hf35 H locs ls hP hS (lv_sub hl [2, 0, 1] rfl)
        · have hf20 := m_ie c_18 hf17
          clear hf17
          refine lv_aload_n hx hb dX8_run_51 rfl (lv_at hl 0 rfl) ?_
          obtain ⟨r_36, X_36, h_36, hf37⟩ := m_bi_s hf20
          clear hf20
          refine m_callVi (q := (RX8, TX8, 13)) C [] [] (c_X8_doesOrder l D a cy hG N _ h_36) (m_goodV wl_X8_170 wi_X8_doesOrder ws_X8_doesOrder wn_X8 wc_X8_doesOrder) ⟨rfl, rfl⟩ hv_X8_doesOrder ⟨Nat.le_of_ble_eq_true rfl, Nat.le_of_ble_eq_true rfl⟩ rfl mM_0 hP hS rfl hl.1 rfl (Nat.le_of_ble_eq_true rfl) dX8_run_52 (fun H locs hP hS => ?_)
          refine lv_if_eq (tgt := 62) hx hb dX8_run_55 (by decide) (fun c_38 => ?_) (fun c_38 => ?_)
          · have hf39 := m_it c_38 hf37
            clear hf37
            refine lv_iconst (v := 0) hx hb dX8_run_62 (by decide) ?_
            refine lv_istore_n (lv' := [(3, .int 0), (0, .ref (a 0)), (2, .int v2)]) hx hb dX8_run_63 rfl hl (by decide) rfl (fun ls hl => ?_)
            refine lv_iload_n hx hb dX8_run_64 rfl (lv_at hl 2 rfl) ?_
            refine lv_iload_n hx hb dX8_run_65 rfl (lv_at hl 0 rfl) ?_
            refine lv_if_eq (tgt := 73) hx hb dX8_run_66 (by decide) (fun c_41 => ?_) (fun c_41 => ?_)
            · have hf42 := m_it c_41 hf39
              clear hf39
              refine lv_iconst (v := 0) hx hb dX8_run_73 (by decide) ?_
              refine lv_iadd hx hb dX8_run_74 ?_
              refine lv_topi (fun y_44 e_44 => ?_)
              have hf45 := m_nm_s e_44 hf42
              clear hf42
              refine lv_istore_n (lv' := [(2, .int y_44), (3, .int 0), (0, .ref (a 0))]) hx hb dX8_run_75 rfl hl (by decide) rfl (fun ls hl => ?_)
              refine lv_aload_n hx hb dX8_run_76 rfl (lv_at hl 2 rfl) ?_
              refine lv_dup hx hb dX8_run_77 rfl ?_
              refine m_get C hP mM_0 rfl inX8 8 (by decide) wf_X8_137 rfl dX8_run_78 ?_
              refine lv_iconst (v := 1) hx hb dX8_run_81 (by decide) ?_
              refine lv_iadd hx hb dX8_run_82 ?_
              refine lv_topi (fun y_46 e_46 => ?_)
              have hf47 := m_nm_s e_46 hf45
              clear hf45
              refine m_put C hP hS mM_0 rfl inX8 tyX8_ok nmX8 8 (by decide) wf_X8_137 rfl rfl rfl (Nat.le_of_ble_eq_true rfl) mM_0_8 dX8_run_83 (fun X_48 e_48 H locs hP hS => ?_)
              have hf49 := m_nm_s e_48 hf47
              clear hf47
              refine lv_goto (tgt := 29) hx hb dX8_run_86 (by decide) ?_
              exact ih _ _ _ hf49 H locs ls hP hS (lv_sub hl [2, 0, 1] rfl)
            · have hf43 := m_ie c_41 hf39
              clear hf39
              refine lv_iconst (v := 1) hx hb dX8_run_69 (by decide) ?_
              refine lv_goto (tgt := 74) hx hb dX8_run_70 (by decide) ?_
              refine lv_iadd hx hb dX8_run_74 ?_
              refine lv_topi (fun y_50 e_50 => ?_)
              have hf51 := m_nm_s e_50 hf43
              clear hf43
              refine lv_istore_n (lv' := [(2, .int y_50), (3, .int 0), (0, .ref (a 0))]) hx hb dX8_run_75 rfl hl (by decide) rfl (fun ls hl => ?_)
              refine lv_aload_n hx hb dX8_run_76 rfl (lv_at hl 2 rfl) ?_
              refine lv_dup hx hb dX8_run_77 rfl ?_
              refine m_get C hP mM_0 rfl inX8 8 (by decide) wf_X8_137 rfl dX8_run_78 ?_
              refine lv_iconst (v := 1) hx hb dX8_run_81 (by decide) ?_
              refine lv_iadd hx hb dX8_run_82 ?_
              refine lv_topi (fun y_52 e_52 => ?_)
              have hf53 := m_nm_s e_52 hf51
              clear hf51
              refine m_put C hP hS mM_0 rfl inX8 tyX8_ok nmX8 8 (by decide) wf_X8_137 rfl rfl rfl (Nat.le_of_ble_eq_true rfl) mM_0_8 dX8_run_83 (fun X_54 e_54 H locs hP hS => ?_)
              have hf55 := m_nm_s e_54 hf53
              clear hf53
              refine lv_goto (tgt := 29) hx hb dX8_run_86 (by decide) ?_
              exact ih _ _ _ hf55 H locs ls hP hS (lv_sub hl [2, 0, 1] rfl)
          · have hf40 := m_ie c_38 hf37
            clear hf37
            refine lv_iconst (v := 1) hx hb dX8_run_58 (by decide) ?_
            refine lv_goto (tgt := 63) hx hb dX8_run_59 (by decide) ?_
            refine lv_istore_n (lv' := [(3, .int 1), (0, .ref (a 0)), (2, .int v2)]) hx hb dX8_run_63 rfl hl (by decide) rfl (fun ls hl => ?_)
            refine lv_iload_n hx hb dX8_run_64 rfl (lv_at hl 2 rfl) ?_
            refine lv_iload_n hx hb dX8_run_65 rfl (lv_at hl 0 rfl) ?_
            refine lv_if_eq (tgt := 73) hx hb dX8_run_66 (by decide) (fun c_56 => ?_) (fun c_56 => ?_)
            · have hf57 := m_it c_56 hf40
              clear hf40
              refine lv_iconst (v := 0) hx hb dX8_run_73 (by decide) ?_
              refine lv_iadd hx hb dX8_run_74 ?_
              refine lv_topi (fun y_59 e_59 => ?_)
              have hf60 := m_nm_s e_59 hf57
              clear hf57
              refine lv_istore_n (lv' := [(2, .int y_59), (3, .int 1), (0, .ref (a 0))]) hx hb dX8_run_75 rfl hl (by decide) rfl (fun ls hl => ?_)
              refine lv_aload_n hx hb dX8_run_76 rfl (lv_at hl 2 rfl) ?_
              refine lv_dup hx hb dX8_run_77 rfl ?_
              refine m_get C hP mM_0 rfl inX8 8 (by decide) wf_X8_137 rfl dX8_run_78 ?_
              refine lv_iconst (v := 1) hx hb dX8_run_81 (by decide) ?_
              refine lv_iadd hx hb dX8_run_82 ?_
              refine lv_topi (fun y_61 e_61 => ?_)
              have hf62 := m_nm_s e_61 hf60
              clear hf60
              refine m_put C hP hS mM_0 rfl inX8 tyX8_ok nmX8 8 (by decide) wf_X8_137 rfl rfl rfl (Nat.le_of_ble_eq_true rfl) mM_0_8 dX8_run_83 (fun X_63 e_63 H locs hP hS => ?_)
              have hf64 := m_nm_s e_63 hf62
              clear hf62
              refine lv_goto (tgt := 29) hx hb dX8_run_86 (by decide) ?_
              exact ih _ _ _ hf64 H locs ls hP hS (lv_sub hl [2, 0, 1] rfl)
            · have hf58 := m_ie c_56 hf40
              clear hf40
              refine lv_iconst (v := 1) hx hb dX8_run_69 (by decide) ?_
              refine lv_goto (tgt := 74) hx hb dX8_run_70 (by decide) ?_
              refine lv_iadd hx hb dX8_run_74 ?_
              refine lv_topi (fun y_65 e_65 => ?_)
              have hf66 := m_nm_s e_65 hf58
              clear hf58
              refine lv_istore_n (lv' := [(2, .int y_65), (3, .int 1), (0, .ref (a 0))]) hx hb dX8_run_75 rfl hl (by decide) rfl (fun ls hl => ?_)
              refine lv_aload_n hx hb dX8_run_76 rfl (lv_at hl 2 rfl) ?_
              refine lv_dup hx hb dX8_run_77 rfl ?_
              refine m_get C hP mM_0 rfl inX8 8 (by decide) wf_X8_137 rfl dX8_run_78 ?_
              refine lv_iconst (v := 1) hx hb dX8_run_81 (by decide) ?_
              refine lv_iadd hx hb dX8_run_82 ?_
              refine lv_topi (fun y_67 e_67 => ?_)
              have hf68 := m_nm_s e_67 hf66
              clear hf66
              refine m_put C hP hS mM_0 rfl inX8 tyX8_ok nmX8 8 (by decide) wf_X8_137 rfl rfl rfl (Nat.le_of_ble_eq_true rfl) mM_0_8 dX8_run_83 (fun X_69 e_69 H locs hP hS => ?_)
              have hf70 := m_nm_s e_69 hf68
              clear hf68
              refine lv_goto (tgt := 29) hx hb dX8_run_86 (by decide) ?_
              exact ih _ _ _ hf70 H locs ls hP hS (lv_sub hl [2, 0, 1] rfl)
def f_X8_run (N : Nat) (X : XT) : Option (Int32 × XT) := m_bi (f_X8_findFault N X) fun r_1 X_1 => if r_1 = (-5) then (m_bv (f_X8_record N X_1) fun X_6 => m_nm (m_up X_6 0 (upd (X_6 0) 8 0)) fun X_8 => f_X8_run_29 N N 0 1 X_8) else (m_nm (((-100) : Int32) - r_1) fun y_71 => some (y_71, X_1))
set_option maxHeartbeats 4000000 in
set_option maxRecDepth 100000 in
theorem c_X8_run (l : Launch) (D : va_G) (a : Nat → Nat) (cy : Nat → ClassId) (hG : m_inj 6 a) (N : Nat) (X : XT) {r0 : Int32} {X0 : XT} (hf0 : f_X8_run N X = some (r0, X0)) : Met l yX8_run (Cond.code yX8_run cX8_run 4 (some .int) :: m_tbl) rm_X8_run (va_Pc [.ref (a 0)] (m_PX D (m_tc cy) (m_WM a cy) m_ZM X)) (m_QI D (m_WM a cy) (m_AM a) r0 X0) 0 0 (m_AM a) := by
  refine m_met (own := RX8) hy_X8_run rfl (Nat.le_of_ble_eq_true rfl) (m_wl_D hG _) m_ZM_keep ?_
  intro p e s m args below meth c C ls hl hP hS
  have hx := C.1.1
  have hb := C.1.2.1
  have hl : lv_has ls 4 [(0, .ref (a 0))] := hl
  unfold f_X8_run at hf0
  suffices K : ∀ (H : Heap) (locs : List Loc), va_P D vwCl (m_WM a cy X) H → va_S (m_AM a) s.heap H locs → W p l e rm_X8_run s m args below meth c H locs 0 0 (MQ below (m_QI D (m_WM a cy) (m_AM a) r0 X0) args s 0 0 (m_AM a)) (F0 m 0 ls []) from K _ _ hP hS
  clear hP hS
  intro H locs hP hS
  refine lv_aload_n hx hb dX8_run_0 rfl (lv_at hl 0 rfl) ?_
  obtain ⟨r_1, X_1, h_1, hf2⟩ := m_bi_s hf0
  clear hf0
  refine m_callVi (q := (RX8, TX8, 13)) C [] [] (c_X8_findFault l D a cy hG N _ h_1) (m_goodV wl_X8_167 wi_X8_findFault ws_X8_findFault wn_X8 wc_X8_findFault) ⟨rfl, rfl⟩ hv_X8_findFault ⟨Nat.le_of_ble_eq_true rfl, Nat.le_of_ble_eq_true rfl⟩ rfl mM_0 hP hS rfl hl.1 rfl (Nat.le_of_ble_eq_true rfl) dX8_run_1 (fun H locs hP hS => ?_)
  refine lv_istore_n (lv' := [(1, .int r_1), (0, .ref (a 0))]) hx hb dX8_run_4 rfl hl (by decide) rfl (fun ls hl => ?_)
  refine lv_iload_n hx hb dX8_run_5 rfl (lv_at hl 0 rfl) ?_
  refine lv_bipush (v := (-5)) hx hb dX8_run_6 (by decide) ?_
  refine lv_icmp_eq (tgt := 16) hx hb dX8_run_8 (by decide) (fun c_3 => ?_) (fun c_3 => ?_)
  · have hf4 := m_it c_3 hf2
    clear hf2
    refine lv_aload_n hx hb dX8_run_16 rfl (lv_at hl 1 rfl) ?_
    obtain ⟨X_6, h_6, hf7⟩ := m_bv_s hf4
    clear hf4
    refine m_callVv (q := (RX8, TX8, 13)) C [] [] (c_X8_record l D a cy hG N _ h_6) (m_goodV wl_X8_37 wi_X8_record ws_X8_record wn_X8 wc_X8_record) ⟨rfl, rfl⟩ hv_X8_record ⟨Nat.le_of_ble_eq_true rfl, Nat.le_of_ble_eq_true rfl⟩ rfl mM_0 hP hS rfl hl.1 rfl (Nat.le_of_ble_eq_true rfl) dX8_run_17 (fun H locs hP hS => ?_)
    refine lv_aload_n hx hb dX8_run_20 rfl (lv_at hl 1 rfl) ?_
    refine lv_iconst (v := 0) hx hb dX8_run_21 (by decide) ?_
    refine m_put C hP hS mM_0 rfl inX8 tyX8_ok nmX8 8 (by decide) wf_X8_137 rfl rfl rfl (Nat.le_of_ble_eq_true rfl) mM_0_8 dX8_run_22 (fun X_8 e_8 H locs hP hS => ?_)
    have hf9 := m_nm_s e_8 hf7
    clear hf7
    refine lv_iconst (v := 0) hx hb dX8_run_25 (by decide) ?_
    refine lv_istore_n (lv' := [(2, .int 0), (1, .int r_1), (0, .ref (a 0))]) hx hb dX8_run_26 rfl hl (by decide) rfl (fun ls hl => ?_)
    refine lv_iconst (v := 1) hx hb dX8_run_27 (by decide) ?_
    refine lv_istore_n (lv' := [(3, .int 1), (2, .int 0), (1, .int r_1), (0, .ref (a 0))]) hx hb dX8_run_28 rfl hl (by decide) rfl (fun ls hl => ?_)
    exact w_X8_run_29 l D a cy hG N C _ _ _ _ hf9 H locs ls hP hS (lv_sub hl [3, 1, 0] rfl)
  · have hf5 := m_ie c_3 hf2
    clear hf2
    refine lv_bipush (v := (-100)) hx hb dX8_run_11 (by decide) ?_
    refine lv_iload_n hx hb dX8_run_13 rfl (lv_at hl 0 rfl) ?_
    refine lv_isub hx hb dX8_run_14 ?_
    refine lv_topi (fun y_71 e_71 => ?_)
    have hf72 := m_nm_s e_71 hf5
    clear hf5
    exact m_iret C hP hS dX8_run_15 hf72
abbrev rm_X8_commit : Room := { frames := 1, cells := 0, slots := 0, locals := 22 }
def f_X8_commit (N : Nat) (v1 : Int32) (v2 : Int32) (X : XT) : Option (Int32 × XT) := m_gd (m_in 6 1816) <| m_nm (X 1 (Int32.toNatClampNeg 6)) fun y_1 => m_nm (y_1 - 1) fun y_4 => m_bi (f_X8_within N v1 0 y_4 X) fun r_6 X_6 => if r_6 = 0 then (some ((-1), X_6)) else (m_bi (f_X8_within N v2 0 6 X_6) fun r_11 X_11 => if r_11 = 0 then (some ((-2), X_11)) else (m_bi (f_X8_of N v1 v2 X_11) fun r_16 X_16 => some (r_16, X_16)))
set_option maxHeartbeats 4000000 in
set_option maxRecDepth 100000 in
theorem c_X8_commit (l : Launch) (D : va_G) (a : Nat → Nat) (cy : Nat → ClassId) (hG : m_inj 6 a) (N : Nat) (v1 : Int32) (v2 : Int32) (X : XT) {r0 : Int32} {X0 : XT} (hf0 : f_X8_commit N v1 v2 X = some (r0, X0)) : Met l yX8_commit (Cond.code yX8_commit cX8_commit 3 (some .int) :: m_tbl) rm_X8_commit (va_Pc [.ref (a 0), .int v1, .int v2] (m_PX D (m_tc cy) (m_WM a cy) m_ZM X)) (m_QI D (m_WM a cy) (m_AM a) r0 X0) 0 0 (m_AM a) := by
  refine m_met (own := RX8) hy_X8_commit rfl (Nat.le_of_ble_eq_true rfl) (m_wl_D hG _) m_ZM_keep ?_
  intro p e s m args below meth c C ls hl hP hS
  have hx := C.1.1
  have hb := C.1.2.1
  have hl : lv_has ls 3 [(0, .ref (a 0)), (1, .int v1), (2, .int v2)] := hl
  unfold f_X8_commit at hf0
  suffices K : ∀ (H : Heap) (locs : List Loc), va_P D vwCl (m_WM a cy X) H → va_S (m_AM a) s.heap H locs → W p l e rm_X8_commit s m args below meth c H locs 0 0 (MQ below (m_QI D (m_WM a cy) (m_AM a) r0 X0) args s 0 0 (m_AM a)) (F0 m 0 ls []) from K _ _ hP hS
  clear hP hS
  intro H locs hP hS
  refine lv_iload_n hx hb dX8_commit_0 rfl (lv_at hl 1 rfl) ?_
  refine lv_iconst (v := 0) hx hb dX8_commit_1 (by decide) ?_
  refine lv_aload_n hx hb dX8_commit_2 rfl (lv_at hl 0 rfl) ?_
  refine m_get C hP mM_0 rfl inX8 0 (by decide) wf_X8_7 rfl dX8_commit_3 ?_
  refine lv_bipush (v := 6) hx hb dX8_commit_6 (by decide) ?_
  obtain ⟨g_1, hf2⟩ := m_gd_s hf0
  clear hf0
  refine m_ild C hP mM_1 0 rfl g_1 dX8_commit_8 (fun y_1 e_1 => ?_)
  have hf3 := m_nm_s e_1 hf2
  clear hf2
  refine lv_iconst (v := 1) hx hb dX8_commit_9 (by decide) ?_
  refine lv_isub hx hb dX8_commit_10 ?_
  refine lv_topi (fun y_4 e_4 => ?_)
  have hf5 := m_nm_s e_4 hf3
  clear hf3
  obtain ⟨r_6, X_6, h_6, hf7⟩ := m_bi_s hf5
  clear hf5
  refine m_callSi C [.int v1, .int 0, .int y_4] [] (c_X8_within l D a cy hG N _ _ _ _ h_6) (m_goodS wl_X8_25 wst_X8_within wn_X8 wc_X8_within) ⟨rfl, rfl⟩ hv_X8_within ⟨Nat.le_of_ble_eq_true rfl, Nat.le_of_ble_eq_true rfl⟩ hP hS rfl hl.1 rfl (Nat.le_of_ble_eq_true rfl) dX8_commit_11 (fun H locs hP hS => ?_)
  refine lv_if_ne (tgt := 19) hx hb dX8_commit_14 (by decide) (fun c_8 => ?_) (fun c_8 => ?_)
  · have hf9 := m_ie c_8 hf7
    clear hf7
    refine lv_iload_n hx hb dX8_commit_19 rfl (lv_at hl 2 rfl) ?_
    refine lv_iconst (v := 0) hx hb dX8_commit_20 (by decide) ?_
    refine lv_bipush (v := 6) hx hb dX8_commit_21 (by decide) ?_
    obtain ⟨r_11, X_11, h_11, hf12⟩ := m_bi_s hf9
    clear hf9
    refine m_callSi C [.int v2, .int 0, .int 6] [] (c_X8_within l D a cy hG N _ _ _ _ h_11) (m_goodS wl_X8_25 wst_X8_within wn_X8 wc_X8_within) ⟨rfl, rfl⟩ hv_X8_within ⟨Nat.le_of_ble_eq_true rfl, Nat.le_of_ble_eq_true rfl⟩ hP hS rfl hl.1 rfl (Nat.le_of_ble_eq_true rfl) dX8_commit_23 (fun H locs hP hS => ?_)
    refine lv_if_eq (tgt := 38) hx hb dX8_commit_26 (by decide) (fun c_13 => ?_) (fun c_13 => ?_)
    · have hf14 := m_it c_13 hf12
      clear hf12
      refine lv_bipush (v := (-2)) hx hb dX8_commit_38 (by decide) ?_
      exact m_iret C hP hS dX8_commit_40 hf14
    · have hf15 := m_ie c_13 hf12
      clear hf12
      refine lv_aload_n hx hb dX8_commit_29 rfl (lv_at hl 0 rfl) ?_
      refine lv_iload_n hx hb dX8_commit_30 rfl (lv_at hl 1 rfl) ?_
      refine lv_iload_n hx hb dX8_commit_31 rfl (lv_at hl 2 rfl) ?_
      obtain ⟨r_16, X_16, h_16, hf17⟩ := m_bi_s hf15
      clear hf15
      refine m_callVi (q := (RX8, TX8, 13)) C [.int v1, .int v2] [] (c_X8_of l D a cy hG N _ _ _ h_16) (m_goodV wl_X8_40 wi_X8_of ws_X8_of wn_X8 wc_X8_of) ⟨rfl, rfl⟩ hv_X8_of ⟨Nat.le_of_ble_eq_true rfl, Nat.le_of_ble_eq_true rfl⟩ rfl mM_0 hP hS rfl hl.1 rfl (Nat.le_of_ble_eq_true rfl) dX8_commit_32 (fun H locs hP hS => ?_)
      refine lv_goto (tgt := 40) hx hb dX8_commit_35 (by decide) ?_
      exact m_iret C hP hS dX8_commit_40 hf17
  · have hf10 := m_it c_8 hf7
    clear hf7
    refine lv_iconst (v := (-1)) hx hb dX8_commit_17 (by decide) ?_
    exact m_iret C hP hS dX8_commit_18 hf10
abbrev rm_X8_tellsGroup : Room := { frames := 3, cells := 0, slots := 0, locals := 68 }
def f_X8_tellsGroup_15 (N : Nat) (v1 : Int32) (v2 : Int32) (u0 : Int32) (X : XT) : Option (Int32 × XT) := if v2 = 0 then (m_bi (f_X8_ofGroup N v1 0 X) fun r_9 X_9 => some (r_9, X_9)) else (if v2 = 1 then (m_bi (f_X8_members N v1 X) fun r_14 X_14 => some (r_14, X_14)) else (if v2 = 2 then (m_bi (f_X8_recordsOf N v1 X) fun r_19 X_19 => some (r_19, X_19)) else (if v2 = 3 then (if u0 = 0 then (some ((-5), X)) else (m_bi (f_X8_memberAt N v1 0 X) fun r_27 X_27 => m_bi (f_X8_of N r_27 0 X_27) fun r_29 X_29 => some (r_29, X_29))) else (if v2 = 4 then (if u0 = 0 then (some ((-5), X)) else (m_bi (f_X8_ofGroup N v1 1 X) fun r_37 X_37 => some (r_37, X_37))) else (if v2 = 5 then (m_bi (f_X8_ofGroup N v1 2 X) fun r_42 X_42 => some (r_42, X_42)) else (m_bi (f_X8_ofGroup N v1 0 X) fun r_44 X_44 => if r_44 = 3 then (m_bi (f_X8_ofGroup N v1 3 X_44) fun r_49 X_49 => some (r_49, X_49)) else (some ((-5), X_44))))))))
set_option maxHeartbeats 4000000 in
set_option maxRecDepth 100000 in
theorem w_X8_tellsGroup_15 (l : Launch) (D : va_G) (a : Nat → Nat) (cy : Nat → ClassId) (hG : m_inj 6 a) (N : Nat) {p : Program} {e : Env} {s : State} {m : MethodId} {args : Array Value} {below : List Frame} {meth : Method} {c : Code} (C : m_Cx p s m args meth c cX8_tellsGroup 4 RX8 (some .int) (Cond.code yX8_tellsGroup cX8_tellsGroup 4 (some .int)) D (m_tc cy) (m_AM a) (m_WM a cy) m_ZM) {r0 : Int32} {X0 : XT} (v1 : Int32) (v2 : Int32) (u0 : Int32) (X : XT) (hf0 : f_X8_tellsGroup_15 N v1 v2 u0 X = some (r0, X0)) : ∀ (H : Heap) (locs : List Loc) (ls : Array Slot), va_P D vwCl (m_WM a cy X) H → va_S (m_AM a) s.heap H locs → lv_has ls 4 [(0, .ref (a 0)), (1, .int v1), (2, .int v2)] → W p l e rm_X8_tellsGroup s m args below meth c H locs 0 0 (MQ below (m_QI D (m_WM a cy) (m_AM a) r0 X0) args s 0 0 (m_AM a)) (F0 m 15 ls [.int u0]) := by
  have hx := C.1.1
  have hb := C.1.2.1
  intro H locs ls hP hS hl
  unfold f_X8_tellsGroup_15 at hf0
  refine lv_istore_n (lv' := [(3, .int u0), (0, .ref (a 0)), (1, .int v1), (2, .int v2)]) hx hb dX8_tellsGroup_15 rfl hl (by decide) rfl (fun ls hl => ?_)
  refine lv_iload_n hx hb dX8_tellsGroup_16 rfl (lv_at hl 3 rfl) ?_
  by_cases c_6 : v2 = 0
  · have hf7 := m_it c_6 hf0
    clear hf0
    refine lv_tableIn (tgt := 56) hx hb dX8_tellsGroup_17 (by rw [c_6]; decide) (by rw [c_6]; decide) (by rw [c_6]; rfl) (by decide) ?_
    refine lv_aload_n hx hb dX8_tellsGroup_56 rfl (lv_at hl 1 rfl) ?_
    refine lv_iload_n hx hb dX8_tellsGroup_57 rfl (lv_at hl 2 rfl) ?_
    refine lv_iconst (v := 0) hx hb dX8_tellsGroup_58 (by decide) ?_
    obtain ⟨r_9, X_9, h_9, hf10⟩ := m_bi_s hf7
    clear hf7
    refine m_callVi (q := (RX8, TX8, 13)) C [.int v1, .int 0] [] (c_X8_ofGroup l D a cy hG N _ _ _ h_9) (m_goodV wl_X8_52 wi_X8_ofGroup ws_X8_ofGroup wn_X8 wc_X8_ofGroup) ⟨rfl, rfl⟩ hv_X8_ofGroup ⟨Nat.le_of_ble_eq_true rfl, Nat.le_of_ble_eq_true rfl⟩ rfl mM_0 hP hS rfl hl.1 rfl (Nat.le_of_ble_eq_true rfl) dX8_tellsGroup_59 (fun H locs hP hS => ?_)
    exact m_iret C hP hS dX8_tellsGroup_62 hf10
  · have hf8 := m_ie c_6 hf0
    clear hf0
    by_cases c_11 : v2 = 1
    · have hf12 := m_it c_11 hf8
      clear hf8
      refine lv_tableIn (tgt := 63) hx hb dX8_tellsGroup_17 (by rw [c_11]; decide) (by rw [c_11]; decide) (by rw [c_11]; rfl) (by decide) ?_
      refine lv_aload_n hx hb dX8_tellsGroup_63 rfl (lv_at hl 1 rfl) ?_
      refine lv_iload_n hx hb dX8_tellsGroup_64 rfl (lv_at hl 2 rfl) ?_
      obtain ⟨r_14, X_14, h_14, hf15⟩ := m_bi_s hf12
      clear hf12
      refine m_callVi (q := (RX8, TX8, 13)) C [.int v1] [] (c_X8_members l D a cy hG N _ _ h_14) (m_goodV wl_X8_68 wi_X8_members ws_X8_members wn_X8 wc_X8_members) ⟨rfl, rfl⟩ hv_X8_members ⟨Nat.le_of_ble_eq_true rfl, Nat.le_of_ble_eq_true rfl⟩ rfl mM_0 hP hS rfl hl.1 rfl (Nat.le_of_ble_eq_true rfl) dX8_tellsGroup_65 (fun H locs hP hS => ?_)
      exact m_iret C hP hS dX8_tellsGroup_68 hf15
    · have hf13 := m_ie c_11 hf8
      clear hf8
      by_cases c_16 : v2 = 2
      · have hf17 := m_it c_16 hf13
        clear hf13
        refine lv_tableIn (tgt := 69) hx hb dX8_tellsGroup_17 (by rw [c_16]; decide) (by rw [c_16]; decide) (by rw [c_16]; rfl) (by decide) ?_
        refine lv_aload_n hx hb dX8_tellsGroup_69 rfl (lv_at hl 1 rfl) ?_
        refine lv_iload_n hx hb dX8_tellsGroup_70 rfl (lv_at hl 2 rfl) ?_
        obtain ⟨r_19, X_19, h_19, hf20⟩ := m_bi_s hf17
        clear hf17
        refine m_callVi (q := (RX8, TX8, 13)) C [.int v1] [] (c_X8_recordsOf l D a cy hG N _ _ h_19) (m_goodV wl_X8_62 wi_X8_recordsOf ws_X8_recordsOf wn_X8 wc_X8_recordsOf) ⟨rfl, rfl⟩ hv_X8_recordsOf ⟨Nat.le_of_ble_eq_true rfl, Nat.le_of_ble_eq_true rfl⟩ rfl mM_0 hP hS rfl hl.1 rfl (Nat.le_of_ble_eq_true rfl) dX8_tellsGroup_71 (fun H locs hP hS => ?_)
        exact m_iret C hP hS dX8_tellsGroup_74 hf20
      · have hf18 := m_ie c_16 hf13
        clear hf13
        by_cases c_21 : v2 = 3
        · have hf22 := m_it c_21 hf18
          clear hf18
          refine lv_tableIn (tgt := 75) hx hb dX8_tellsGroup_17 (by rw [c_21]; decide) (by rw [c_21]; decide) (by rw [c_21]; rfl) (by decide) ?_
          refine lv_iload_n hx hb dX8_tellsGroup_75 rfl (lv_at hl 0 rfl) ?_
          refine lv_if_eq (tgt := 93) hx hb dX8_tellsGroup_76 (by decide) (fun c_24 => ?_) (fun c_24 => ?_)
          · have hf25 := m_it c_24 hf22
            clear hf22
            refine lv_bipush (v := (-5)) hx hb dX8_tellsGroup_93 (by decide) ?_
            exact m_iret C hP hS dX8_tellsGroup_95 hf25
          · have hf26 := m_ie c_24 hf22
            clear hf22
            refine lv_aload_n hx hb dX8_tellsGroup_79 rfl (lv_at hl 1 rfl) ?_
            refine lv_aload_n hx hb dX8_tellsGroup_80 rfl (lv_at hl 1 rfl) ?_
            refine lv_iload_n hx hb dX8_tellsGroup_81 rfl (lv_at hl 2 rfl) ?_
            refine lv_iconst (v := 0) hx hb dX8_tellsGroup_82 (by decide) ?_
            obtain ⟨r_27, X_27, h_27, hf28⟩ := m_bi_s hf26
            clear hf26
            refine m_callVi (q := (RX8, TX8, 13)) C [.int v1, .int 0] [.ref (a 0)] (c_X8_memberAt l D a cy hG N _ _ _ h_27) (m_goodV wl_X8_89 wi_X8_memberAt ws_X8_memberAt wn_X8 wc_X8_memberAt) ⟨rfl, rfl⟩ hv_X8_memberAt ⟨Nat.le_of_ble_eq_true rfl, Nat.le_of_ble_eq_true rfl⟩ rfl mM_0 hP hS rfl hl.1 rfl (Nat.le_of_ble_eq_true rfl) dX8_tellsGroup_83 (fun H locs hP hS => ?_)
            refine lv_iconst (v := 0) hx hb dX8_tellsGroup_86 (by decide) ?_
            obtain ⟨r_29, X_29, h_29, hf30⟩ := m_bi_s hf28
            clear hf28
            refine m_callVi (q := (RX8, TX8, 13)) C [.int r_27, .int 0] [] (c_X8_of l D a cy hG N _ _ _ h_29) (m_goodV wl_X8_40 wi_X8_of ws_X8_of wn_X8 wc_X8_of) ⟨rfl, rfl⟩ hv_X8_of ⟨Nat.le_of_ble_eq_true rfl, Nat.le_of_ble_eq_true rfl⟩ rfl mM_0 hP hS rfl hl.1 rfl (Nat.le_of_ble_eq_true rfl) dX8_tellsGroup_87 (fun H locs hP hS => ?_)
            refine lv_goto (tgt := 95) hx hb dX8_tellsGroup_90 (by decide) ?_
            exact m_iret C hP hS dX8_tellsGroup_95 hf30
        · have hf23 := m_ie c_21 hf18
          clear hf18
          by_cases c_31 : v2 = 4
          · have hf32 := m_it c_31 hf23
            clear hf23
            refine lv_tableIn (tgt := 96) hx hb dX8_tellsGroup_17 (by rw [c_31]; decide) (by rw [c_31]; decide) (by rw [c_31]; rfl) (by decide) ?_
            refine lv_iload_n hx hb dX8_tellsGroup_96 rfl (lv_at hl 0 rfl) ?_
            refine lv_if_eq (tgt := 109) hx hb dX8_tellsGroup_97 (by decide) (fun c_34 => ?_) (fun c_34 => ?_)
            · have hf35 := m_it c_34 hf32
              clear hf32
              refine lv_bipush (v := (-5)) hx hb dX8_tellsGroup_109 (by decide) ?_
              exact m_iret C hP hS dX8_tellsGroup_111 hf35
            · have hf36 := m_ie c_34 hf32
              clear hf32
              refine lv_aload_n hx hb dX8_tellsGroup_100 rfl (lv_at hl 1 rfl) ?_
              refine lv_iload_n hx hb dX8_tellsGroup_101 rfl (lv_at hl 2 rfl) ?_
              refine lv_iconst (v := 1) hx hb dX8_tellsGroup_102 (by decide) ?_
              obtain ⟨r_37, X_37, h_37, hf38⟩ := m_bi_s hf36
              clear hf36
              refine m_callVi (q := (RX8, TX8, 13)) C [.int v1, .int 1] [] (c_X8_ofGroup l D a cy hG N _ _ _ h_37) (m_goodV wl_X8_52 wi_X8_ofGroup ws_X8_ofGroup wn_X8 wc_X8_ofGroup) ⟨rfl, rfl⟩ hv_X8_ofGroup ⟨Nat.le_of_ble_eq_true rfl, Nat.le_of_ble_eq_true rfl⟩ rfl mM_0 hP hS rfl hl.1 rfl (Nat.le_of_ble_eq_true rfl) dX8_tellsGroup_103 (fun H locs hP hS => ?_)
              refine lv_goto (tgt := 111) hx hb dX8_tellsGroup_106 (by decide) ?_
              exact m_iret C hP hS dX8_tellsGroup_111 hf38
          · have hf33 := m_ie c_31 hf23
            clear hf23
            by_cases c_39 : v2 = 5
            · have hf40 := m_it c_39 hf33
              clear hf33
              refine lv_tableIn (tgt := 112) hx hb dX8_tellsGroup_17 (by rw [c_39]; decide) (by rw [c_39]; decide) (by rw [c_39]; rfl) (by decide) ?_
              refine lv_aload_n hx hb dX8_tellsGroup_112 rfl (lv_at hl 1 rfl) ?_
              refine lv_iload_n hx hb dX8_tellsGroup_113 rfl (lv_at hl 2 rfl) ?_
              refine lv_iconst (v := 2) hx hb dX8_tellsGroup_114 (by decide) ?_
              obtain ⟨r_42, X_42, h_42, hf43⟩ := m_bi_s hf40
              clear hf40
              refine m_callVi (q := (RX8, TX8, 13)) C [.int v1, .int 2] [] (c_X8_ofGroup l D a cy hG N _ _ _ h_42) (m_goodV wl_X8_52 wi_X8_ofGroup ws_X8_ofGroup wn_X8 wc_X8_ofGroup) ⟨rfl, rfl⟩ hv_X8_ofGroup ⟨Nat.le_of_ble_eq_true rfl, Nat.le_of_ble_eq_true rfl⟩ rfl mM_0 hP hS rfl hl.1 rfl (Nat.le_of_ble_eq_true rfl) dX8_tellsGroup_115 (fun H locs hP hS => ?_)
              exact m_iret C hP hS dX8_tellsGroup_118 hf43
            · have hf41 := m_ie c_39 hf33
              clear hf33
              have n_6 := lv_neT (a := 0) c_6 (by decide)
              have n_11 := lv_neT (a := 1) c_11 (by decide)
              have n_16 := lv_neT (a := 2) c_16 (by decide)
              have n_21 := lv_neT (a := 3) c_21 (by decide)
              have n_31 := lv_neT (a := 4) c_31 (by decide)
              have n_39 := lv_neT (a := 5) c_39 (by decide)
              refine lv_tableOut (tgt := 119) hx hb dX8_tellsGroup_17 (by omega) (by decide) ?_
              refine lv_aload_n hx hb dX8_tellsGroup_119 rfl (lv_at hl 1 rfl) ?_
              refine lv_iload_n hx hb dX8_tellsGroup_120 rfl (lv_at hl 2 rfl) ?_
              refine lv_iconst (v := 0) hx hb dX8_tellsGroup_121 (by decide) ?_
              obtain ⟨r_44, X_44, h_44, hf45⟩ := m_bi_s hf41
              clear hf41
              refine m_callVi (q := (RX8, TX8, 13)) C [.int v1, .int 0] [] (c_X8_ofGroup l D a cy hG N _ _ _ h_44) (m_goodV wl_X8_52 wi_X8_ofGroup ws_X8_ofGroup wn_X8 wc_X8_ofGroup) ⟨rfl, rfl⟩ hv_X8_ofGroup ⟨Nat.le_of_ble_eq_true rfl, Nat.le_of_ble_eq_true rfl⟩ rfl mM_0 hP hS rfl hl.1 rfl (Nat.le_of_ble_eq_true rfl) dX8_tellsGroup_122 (fun H locs hP hS => ?_)
              refine lv_iconst (v := 3) hx hb dX8_tellsGroup_125 (by decide) ?_
              refine lv_icmp_ne (tgt := 138) hx hb dX8_tellsGroup_126 (by decide) (fun c_46 => ?_) (fun c_46 => ?_)
              · have hf47 := m_ie c_46 hf45
                clear hf45
                refine lv_bipush (v := (-5)) hx hb dX8_tellsGroup_138 (by decide) ?_
                exact m_iret C hP hS dX8_tellsGroup_140 hf47
              · have hf48 := m_it c_46 hf45
                clear hf45
                refine lv_aload_n hx hb dX8_tellsGroup_129 rfl (lv_at hl 1 rfl) ?_
                refine lv_iload_n hx hb dX8_tellsGroup_130 rfl (lv_at hl 2 rfl) ?_
                refine lv_iconst (v := 3) hx hb dX8_tellsGroup_131 (by decide) ?_
                obtain ⟨r_49, X_49, h_49, hf50⟩ := m_bi_s hf48
                clear hf48
                refine m_callVi (q := (RX8, TX8, 13)) C [.int v1, .int 3] [] (c_X8_ofGroup l D a cy hG N _ _ _ h_49) (m_goodV wl_X8_52 wi_X8_ofGroup ws_X8_ofGroup wn_X8 wc_X8_ofGroup) ⟨rfl, rfl⟩ hv_X8_ofGroup ⟨Nat.le_of_ble_eq_true rfl, Nat.le_of_ble_eq_true rfl⟩ rfl mM_0 hP hS rfl hl.1 rfl (Nat.le_of_ble_eq_true rfl) dX8_tellsGroup_132 (fun H locs hP hS => ?_)
                refine lv_goto (tgt := 140) hx hb dX8_tellsGroup_135 (by decide) ?_
                exact m_iret C hP hS dX8_tellsGroup_140 hf50
def f_X8_tellsGroup (N : Nat) (v1 : Int32) (v2 : Int32) (X : XT) : Option (Int32 × XT) := m_bi (f_X8_ofGroup N v1 0 X) fun r_1 X_1 => if r_1 = 1 then (f_X8_tellsGroup_15 N v1 v2 1 X_1) else (f_X8_tellsGroup_15 N v1 v2 0 X_1)
set_option maxHeartbeats 4000000 in
set_option maxRecDepth 100000 in
theorem c_X8_tellsGroup (l : Launch) (D : va_G) (a : Nat → Nat) (cy : Nat → ClassId) (hG : m_inj 6 a) (N : Nat) (v1 : Int32) (v2 : Int32) (X : XT) {r0 : Int32} {X0 : XT} (hf0 : f_X8_tellsGroup N v1 v2 X = some (r0, X0)) : Met l yX8_tellsGroup (Cond.code yX8_tellsGroup cX8_tellsGroup 4 (some .int) :: m_tbl) rm_X8_tellsGroup (va_Pc [.ref (a 0), .int v1, .int v2] (m_PX D (m_tc cy) (m_WM a cy) m_ZM X)) (m_QI D (m_WM a cy) (m_AM a) r0 X0) 0 0 (m_AM a) := by
  refine m_met (own := RX8) hy_X8_tellsGroup rfl (Nat.le_of_ble_eq_true rfl) (m_wl_D hG _) m_ZM_keep ?_
  intro p e s m args below meth c C ls hl hP hS
  have hx := C.1.1
  have hb := C.1.2.1
  have hl : lv_has ls 4 [(0, .ref (a 0)), (1, .int v1), (2, .int v2)] := hl
  unfold f_X8_tellsGroup at hf0
  suffices K : ∀ (H : Heap) (locs : List Loc), va_P D vwCl (m_WM a cy X) H → va_S (m_AM a) s.heap H locs → W p l e rm_X8_tellsGroup s m args below meth c H locs 0 0 (MQ below (m_QI D (m_WM a cy) (m_AM a) r0 X0) args s 0 0 (m_AM a)) (F0 m 0 ls []) from K _ _ hP hS
  clear hP hS
  intro H locs hP hS
  refine lv_aload_n hx hb dX8_tellsGroup_0 rfl (lv_at hl 0 rfl) ?_
  refine lv_iload_n hx hb dX8_tellsGroup_1 rfl (lv_at hl 1 rfl) ?_
  refine lv_iconst (v := 0) hx hb dX8_tellsGroup_2 (by decide) ?_
  obtain ⟨r_1, X_1, h_1, hf2⟩ := m_bi_s hf0
  clear hf0
  refine m_callVi (q := (RX8, TX8, 13)) C [.int v1, .int 0] [] (c_X8_ofGroup l D a cy hG N _ _ _ h_1) (m_goodV wl_X8_52 wi_X8_ofGroup ws_X8_ofGroup wn_X8 wc_X8_ofGroup) ⟨rfl, rfl⟩ hv_X8_ofGroup ⟨Nat.le_of_ble_eq_true rfl, Nat.le_of_ble_eq_true rfl⟩ rfl mM_0 hP hS rfl hl.1 rfl (Nat.le_of_ble_eq_true rfl) dX8_tellsGroup_3 (fun H locs hP hS => ?_)
  refine lv_iconst (v := 1) hx hb dX8_tellsGroup_6 (by decide) ?_
  refine lv_icmp_ne (tgt := 14) hx hb dX8_tellsGroup_7 (by decide) (fun c_3 => ?_) (fun c_3 => ?_)
  · have hf4 := m_ie c_3 hf2
    clear hf2
    refine lv_iconst (v := 0) hx hb dX8_tellsGroup_14 (by decide) ?_
    exact w_X8_tellsGroup_15 l D a cy hG N C _ _ _ _ hf4 H locs ls hP hS (lv_sub hl [0, 1, 2] rfl)
  · have hf5 := m_it c_3 hf2
    clear hf2
    refine lv_iconst (v := 1) hx hb dX8_tellsGroup_10 (by decide) ?_
    refine lv_goto (tgt := 15) hx hb dX8_tellsGroup_11 (by decide) ?_
    exact w_X8_tellsGroup_15 l D a cy hG N C _ _ _ _ hf5 H locs ls hP hS (lv_sub hl [0, 1, 2] rfl)
abbrev rm_X8_group : Room := { frames := 4, cells := 0, slots := 0, locals := 91 }
def f_X8_group (N : Nat) (v1 : Int32) (v2 : Int32) (X : XT) : Option (Int32 × XT) := m_gd (m_in 7 1816) <| m_nm (X 1 (Int32.toNatClampNeg 7)) fun y_1 => m_nm (y_1 - 1) fun y_4 => m_bi (f_X8_within N v1 0 y_4 X) fun r_6 X_6 => if r_6 = 0 then (some ((-1), X_6)) else (m_bi (f_X8_within N v2 0 6 X_6) fun r_11 X_11 => if r_11 = 0 then (some ((-2), X_11)) else (m_bi (f_X8_tellsGroup N v1 v2 X_11) fun r_16 X_16 => some (r_16, X_16)))
set_option maxHeartbeats 4000000 in
set_option maxRecDepth 100000 in
theorem c_X8_group (l : Launch) (D : va_G) (a : Nat → Nat) (cy : Nat → ClassId) (hG : m_inj 6 a) (N : Nat) (v1 : Int32) (v2 : Int32) (X : XT) {r0 : Int32} {X0 : XT} (hf0 : f_X8_group N v1 v2 X = some (r0, X0)) : Met l yX8_group (Cond.code yX8_group cX8_group 3 (some .int) :: m_tbl) rm_X8_group (va_Pc [.ref (a 0), .int v1, .int v2] (m_PX D (m_tc cy) (m_WM a cy) m_ZM X)) (m_QI D (m_WM a cy) (m_AM a) r0 X0) 0 0 (m_AM a) := by
  refine m_met (own := RX8) hy_X8_group rfl (Nat.le_of_ble_eq_true rfl) (m_wl_D hG _) m_ZM_keep ?_
  intro p e s m args below meth c C ls hl hP hS
  have hx := C.1.1
  have hb := C.1.2.1
  have hl : lv_has ls 3 [(0, .ref (a 0)), (1, .int v1), (2, .int v2)] := hl
  unfold f_X8_group at hf0
  suffices K : ∀ (H : Heap) (locs : List Loc), va_P D vwCl (m_WM a cy X) H → va_S (m_AM a) s.heap H locs → W p l e rm_X8_group s m args below meth c H locs 0 0 (MQ below (m_QI D (m_WM a cy) (m_AM a) r0 X0) args s 0 0 (m_AM a)) (F0 m 0 ls []) from K _ _ hP hS
  clear hP hS
  intro H locs hP hS
  refine lv_iload_n hx hb dX8_group_0 rfl (lv_at hl 1 rfl) ?_
  refine lv_iconst (v := 0) hx hb dX8_group_1 (by decide) ?_
  refine lv_aload_n hx hb dX8_group_2 rfl (lv_at hl 0 rfl) ?_
  refine m_get C hP mM_0 rfl inX8 0 (by decide) wf_X8_7 rfl dX8_group_3 ?_
  refine lv_bipush (v := 7) hx hb dX8_group_6 (by decide) ?_
  obtain ⟨g_1, hf2⟩ := m_gd_s hf0
  clear hf0
  refine m_ild C hP mM_1 0 rfl g_1 dX8_group_8 (fun y_1 e_1 => ?_)
  have hf3 := m_nm_s e_1 hf2
  clear hf2
  refine lv_iconst (v := 1) hx hb dX8_group_9 (by decide) ?_
  refine lv_isub hx hb dX8_group_10 ?_
  refine lv_topi (fun y_4 e_4 => ?_)
  have hf5 := m_nm_s e_4 hf3
  clear hf3
  obtain ⟨r_6, X_6, h_6, hf7⟩ := m_bi_s hf5
  clear hf5
  refine m_callSi C [.int v1, .int 0, .int y_4] [] (c_X8_within l D a cy hG N _ _ _ _ h_6) (m_goodS wl_X8_25 wst_X8_within wn_X8 wc_X8_within) ⟨rfl, rfl⟩ hv_X8_within ⟨Nat.le_of_ble_eq_true rfl, Nat.le_of_ble_eq_true rfl⟩ hP hS rfl hl.1 rfl (Nat.le_of_ble_eq_true rfl) dX8_group_11 (fun H locs hP hS => ?_)
  refine lv_if_ne (tgt := 19) hx hb dX8_group_14 (by decide) (fun c_8 => ?_) (fun c_8 => ?_)
  · have hf9 := m_ie c_8 hf7
    clear hf7
    refine lv_iload_n hx hb dX8_group_19 rfl (lv_at hl 2 rfl) ?_
    refine lv_iconst (v := 0) hx hb dX8_group_20 (by decide) ?_
    refine lv_bipush (v := 6) hx hb dX8_group_21 (by decide) ?_
    obtain ⟨r_11, X_11, h_11, hf12⟩ := m_bi_s hf9
    clear hf9
    refine m_callSi C [.int v2, .int 0, .int 6] [] (c_X8_within l D a cy hG N _ _ _ _ h_11) (m_goodS wl_X8_25 wst_X8_within wn_X8 wc_X8_within) ⟨rfl, rfl⟩ hv_X8_within ⟨Nat.le_of_ble_eq_true rfl, Nat.le_of_ble_eq_true rfl⟩ hP hS rfl hl.1 rfl (Nat.le_of_ble_eq_true rfl) dX8_group_23 (fun H locs hP hS => ?_)
    refine lv_if_eq (tgt := 38) hx hb dX8_group_26 (by decide) (fun c_13 => ?_) (fun c_13 => ?_)
    · have hf14 := m_it c_13 hf12
      clear hf12
      refine lv_bipush (v := (-2)) hx hb dX8_group_38 (by decide) ?_
      exact m_iret C hP hS dX8_group_40 hf14
    · have hf15 := m_ie c_13 hf12
      clear hf12
      refine lv_aload_n hx hb dX8_group_29 rfl (lv_at hl 0 rfl) ?_
      refine lv_iload_n hx hb dX8_group_30 rfl (lv_at hl 1 rfl) ?_
      refine lv_iload_n hx hb dX8_group_31 rfl (lv_at hl 2 rfl) ?_
      obtain ⟨r_16, X_16, h_16, hf17⟩ := m_bi_s hf15
      clear hf15
      refine m_callVi (q := (RX8, TX8, 13)) C [.int v1, .int v2] [] (c_X8_tellsGroup l D a cy hG N _ _ _ h_16) (m_goodV wl_X8_173 wi_X8_tellsGroup ws_X8_tellsGroup wn_X8 wc_X8_tellsGroup) ⟨rfl, rfl⟩ hv_X8_tellsGroup ⟨Nat.le_of_ble_eq_true rfl, Nat.le_of_ble_eq_true rfl⟩ rfl mM_0 hP hS rfl hl.1 rfl (Nat.le_of_ble_eq_true rfl) dX8_group_32 (fun H locs hP hS => ?_)
      refine lv_goto (tgt := 40) hx hb dX8_group_35 (by decide) ?_
      exact m_iret C hP hS dX8_group_40 hf17
  · have hf10 := m_it c_8 hf7
    clear hf7
    refine lv_iconst (v := (-1)) hx hb dX8_group_17 (by decide) ?_
    exact m_iret C hP hS dX8_group_18 hf10
abbrev rm_X8_member : Room := { frames := 3, cells := 0, slots := 0, locals := 68 }
def f_X8_member (N : Nat) (v1 : Int32) (v2 : Int32) (X : XT) : Option (Int32 × XT) := m_gd (m_in 7 1816) <| m_nm (X 1 (Int32.toNatClampNeg 7)) fun y_1 => m_nm (y_1 - 1) fun y_4 => m_bi (f_X8_within N v1 0 y_4 X) fun r_6 X_6 => if r_6 = 0 then (some ((-1), X_6)) else (if 0 ≤ v2 then (m_bi (f_X8_memberAt N v1 v2 X_6) fun r_14 X_14 => some (r_14, X_14)) else (some ((-2), X_6)))
set_option maxHeartbeats 4000000 in
set_option maxRecDepth 100000 in
theorem c_X8_member (l : Launch) (D : va_G) (a : Nat → Nat) (cy : Nat → ClassId) (hG : m_inj 6 a) (N : Nat) (v1 : Int32) (v2 : Int32) (X : XT) {r0 : Int32} {X0 : XT} (hf0 : f_X8_member N v1 v2 X = some (r0, X0)) : Met l yX8_member (Cond.code yX8_member cX8_member 3 (some .int) :: m_tbl) rm_X8_member (va_Pc [.ref (a 0), .int v1, .int v2] (m_PX D (m_tc cy) (m_WM a cy) m_ZM X)) (m_QI D (m_WM a cy) (m_AM a) r0 X0) 0 0 (m_AM a) := by
  refine m_met (own := RX8) hy_X8_member rfl (Nat.le_of_ble_eq_true rfl) (m_wl_D hG _) m_ZM_keep ?_
  intro p e s m args below meth c C ls hl hP hS
  have hx := C.1.1
  have hb := C.1.2.1
  have hl : lv_has ls 3 [(0, .ref (a 0)), (1, .int v1), (2, .int v2)] := hl
  unfold f_X8_member at hf0
  suffices K : ∀ (H : Heap) (locs : List Loc), va_P D vwCl (m_WM a cy X) H → va_S (m_AM a) s.heap H locs → W p l e rm_X8_member s m args below meth c H locs 0 0 (MQ below (m_QI D (m_WM a cy) (m_AM a) r0 X0) args s 0 0 (m_AM a)) (F0 m 0 ls []) from K _ _ hP hS
  clear hP hS
  intro H locs hP hS
  refine lv_iload_n hx hb dX8_member_0 rfl (lv_at hl 1 rfl) ?_
  refine lv_iconst (v := 0) hx hb dX8_member_1 (by decide) ?_
  refine lv_aload_n hx hb dX8_member_2 rfl (lv_at hl 0 rfl) ?_
  refine m_get C hP mM_0 rfl inX8 0 (by decide) wf_X8_7 rfl dX8_member_3 ?_
  refine lv_bipush (v := 7) hx hb dX8_member_6 (by decide) ?_
  obtain ⟨g_1, hf2⟩ := m_gd_s hf0
  clear hf0
  refine m_ild C hP mM_1 0 rfl g_1 dX8_member_8 (fun y_1 e_1 => ?_)
  have hf3 := m_nm_s e_1 hf2
  clear hf2
  refine lv_iconst (v := 1) hx hb dX8_member_9 (by decide) ?_
  refine lv_isub hx hb dX8_member_10 ?_
  refine lv_topi (fun y_4 e_4 => ?_)
  have hf5 := m_nm_s e_4 hf3
  clear hf3
  obtain ⟨r_6, X_6, h_6, hf7⟩ := m_bi_s hf5
  clear hf5
  refine m_callSi C [.int v1, .int 0, .int y_4] [] (c_X8_within l D a cy hG N _ _ _ _ h_6) (m_goodS wl_X8_25 wst_X8_within wn_X8 wc_X8_within) ⟨rfl, rfl⟩ hv_X8_within ⟨Nat.le_of_ble_eq_true rfl, Nat.le_of_ble_eq_true rfl⟩ hP hS rfl hl.1 rfl (Nat.le_of_ble_eq_true rfl) dX8_member_11 (fun H locs hP hS => ?_)
  refine lv_if_ne (tgt := 19) hx hb dX8_member_14 (by decide) (fun c_8 => ?_) (fun c_8 => ?_)
  · have hf9 := m_ie c_8 hf7
    clear hf7
    refine lv_iload_n hx hb dX8_member_19 rfl (lv_at hl 2 rfl) ?_
    refine lv_if_ge (tgt := 28) hx hb dX8_member_20 (by decide) (fun c_11 => ?_) (fun c_11 => ?_)
    · have hf12 := m_it c_11 hf9
      clear hf9
      refine lv_aload_n hx hb dX8_member_28 rfl (lv_at hl 0 rfl) ?_
      refine lv_iload_n hx hb dX8_member_29 rfl (lv_at hl 1 rfl) ?_
      refine lv_iload_n hx hb dX8_member_30 rfl (lv_at hl 2 rfl) ?_
      obtain ⟨r_14, X_14, h_14, hf15⟩ := m_bi_s hf12
      clear hf12
      refine m_callVi (q := (RX8, TX8, 13)) C [.int v1, .int v2] [] (c_X8_memberAt l D a cy hG N _ _ _ h_14) (m_goodV wl_X8_89 wi_X8_memberAt ws_X8_memberAt wn_X8 wc_X8_memberAt) ⟨rfl, rfl⟩ hv_X8_memberAt ⟨Nat.le_of_ble_eq_true rfl, Nat.le_of_ble_eq_true rfl⟩ rfl mM_0 hP hS rfl hl.1 rfl (Nat.le_of_ble_eq_true rfl) dX8_member_31 (fun H locs hP hS => ?_)
      exact m_iret C hP hS dX8_member_34 hf15
    · have hf13 := m_ie c_11 hf9
      clear hf9
      refine lv_bipush (v := (-2)) hx hb dX8_member_23 (by decide) ?_
      refine lv_goto (tgt := 34) hx hb dX8_member_25 (by decide) ?_
      exact m_iret C hP hS dX8_member_34 hf13
  · have hf10 := m_it c_8 hf7
    clear hf7
    refine lv_iconst (v := (-1)) hx hb dX8_member_17 (by decide) ?_
    exact m_iret C hP hS dX8_member_18 hf10
abbrev rm_X8_open : Room := { frames := 2, cells := 0, slots := 0, locals := 44 }
def f_X8_open (N : Nat) (v1 : Int32) (X : XT) : Option (Int32 × XT) := m_bi (f_X8_isClient N v1 X) fun r_1 X_1 => if r_1 = 0 then (some ((-1), X_1)) else (m_bi (f_X8_openOf N v1 X_1) fun r_6 X_6 => some (r_6, X_6))
set_option maxHeartbeats 4000000 in
set_option maxRecDepth 100000 in
theorem c_X8_open (l : Launch) (D : va_G) (a : Nat → Nat) (cy : Nat → ClassId) (hG : m_inj 6 a) (N : Nat) (v1 : Int32) (X : XT) {r0 : Int32} {X0 : XT} (hf0 : f_X8_open N v1 X = some (r0, X0)) : Met l yX8_open (Cond.code yX8_open cX8_open 2 (some .int) :: m_tbl) rm_X8_open (va_Pc [.ref (a 0), .int v1] (m_PX D (m_tc cy) (m_WM a cy) m_ZM X)) (m_QI D (m_WM a cy) (m_AM a) r0 X0) 0 0 (m_AM a) := by
  refine m_met (own := RX8) hy_X8_open rfl (Nat.le_of_ble_eq_true rfl) (m_wl_D hG _) m_ZM_keep ?_
  intro p e s m args below meth c C ls hl hP hS
  have hx := C.1.1
  have hb := C.1.2.1
  have hl : lv_has ls 2 [(0, .ref (a 0)), (1, .int v1)] := hl
  unfold f_X8_open at hf0
  suffices K : ∀ (H : Heap) (locs : List Loc), va_P D vwCl (m_WM a cy X) H → va_S (m_AM a) s.heap H locs → W p l e rm_X8_open s m args below meth c H locs 0 0 (MQ below (m_QI D (m_WM a cy) (m_AM a) r0 X0) args s 0 0 (m_AM a)) (F0 m 0 ls []) from K _ _ hP hS
  clear hP hS
  intro H locs hP hS
  refine lv_iload_n hx hb dX8_open_0 rfl (lv_at hl 1 rfl) ?_
  obtain ⟨r_1, X_1, h_1, hf2⟩ := m_bi_s hf0
  clear hf0
  refine m_callSi C [.int v1] [] (c_X8_isClient l D a cy hG N _ _ h_1) (m_goodS wl_X8_92 wst_X8_isClient wn_X8 wc_X8_isClient) ⟨rfl, rfl⟩ hv_X8_isClient ⟨Nat.le_of_ble_eq_true rfl, Nat.le_of_ble_eq_true rfl⟩ hP hS rfl hl.1 rfl (Nat.le_of_ble_eq_true rfl) dX8_open_1 (fun H locs hP hS => ?_)
  refine lv_if_eq (tgt := 15) hx hb dX8_open_4 (by decide) (fun c_3 => ?_) (fun c_3 => ?_)
  · have hf4 := m_it c_3 hf2
    clear hf2
    refine lv_iconst (v := (-1)) hx hb dX8_open_15 (by decide) ?_
    exact m_iret C hP hS dX8_open_16 hf4
  · have hf5 := m_ie c_3 hf2
    clear hf2
    refine lv_aload_n hx hb dX8_open_7 rfl (lv_at hl 0 rfl) ?_
    refine lv_iload_n hx hb dX8_open_8 rfl (lv_at hl 1 rfl) ?_
    obtain ⟨r_6, X_6, h_6, hf7⟩ := m_bi_s hf5
    clear hf5
    refine m_callVi (q := (RX8, TX8, 13)) C [.int v1] [] (c_X8_openOf l D a cy hG N _ _ h_6) (m_goodV wl_X8_96 wi_X8_openOf ws_X8_openOf wn_X8 wc_X8_openOf) ⟨rfl, rfl⟩ hv_X8_openOf ⟨Nat.le_of_ble_eq_true rfl, Nat.le_of_ble_eq_true rfl⟩ rfl mM_0 hP hS rfl hl.1 rfl (Nat.le_of_ble_eq_true rfl) dX8_open_9 (fun H locs hP hS => ?_)
    refine lv_goto (tgt := 16) hx hb dX8_open_12 (by decide) ?_
    exact m_iret C hP hS dX8_open_16 hf7
abbrev rm_X8_queued : Room := { frames := 2, cells := 0, slots := 0, locals := 45 }
def f_X8_queued (N : Nat) (v1 : Int32) (X : XT) : Option (Int32 × XT) := if 0 ≤ v1 then (m_bi (f_X8_queuedAt N v1 X) fun r_4 X_4 => some (r_4, X_4)) else (some ((-2), X))
set_option maxHeartbeats 4000000 in
set_option maxRecDepth 100000 in
theorem c_X8_queued (l : Launch) (D : va_G) (a : Nat → Nat) (cy : Nat → ClassId) (hG : m_inj 6 a) (N : Nat) (v1 : Int32) (X : XT) {r0 : Int32} {X0 : XT} (hf0 : f_X8_queued N v1 X = some (r0, X0)) : Met l yX8_queued (Cond.code yX8_queued cX8_queued 2 (some .int) :: m_tbl) rm_X8_queued (va_Pc [.ref (a 0), .int v1] (m_PX D (m_tc cy) (m_WM a cy) m_ZM X)) (m_QI D (m_WM a cy) (m_AM a) r0 X0) 0 0 (m_AM a) := by
  refine m_met (own := RX8) hy_X8_queued rfl (Nat.le_of_ble_eq_true rfl) (m_wl_D hG _) m_ZM_keep ?_
  intro p e s m args below meth c C ls hl hP hS
  have hx := C.1.1
  have hb := C.1.2.1
  have hl : lv_has ls 2 [(0, .ref (a 0)), (1, .int v1)] := hl
  unfold f_X8_queued at hf0
  suffices K : ∀ (H : Heap) (locs : List Loc), va_P D vwCl (m_WM a cy X) H → va_S (m_AM a) s.heap H locs → W p l e rm_X8_queued s m args below meth c H locs 0 0 (MQ below (m_QI D (m_WM a cy) (m_AM a) r0 X0) args s 0 0 (m_AM a)) (F0 m 0 ls []) from K _ _ hP hS
  clear hP hS
  intro H locs hP hS
  refine lv_iload_n hx hb dX8_queued_0 rfl (lv_at hl 1 rfl) ?_
  refine lv_if_ge (tgt := 9) hx hb dX8_queued_1 (by decide) (fun c_1 => ?_) (fun c_1 => ?_)
  · have hf2 := m_it c_1 hf0
    clear hf0
    refine lv_aload_n hx hb dX8_queued_9 rfl (lv_at hl 0 rfl) ?_
    refine lv_iload_n hx hb dX8_queued_10 rfl (lv_at hl 1 rfl) ?_
    obtain ⟨r_4, X_4, h_4, hf5⟩ := m_bi_s hf2
    clear hf2
    refine m_callVi (q := (RX8, TX8, 13)) C [.int v1] [] (c_X8_queuedAt l D a cy hG N _ _ h_4) (m_goodV wl_X8_55 wi_X8_queuedAt ws_X8_queuedAt wn_X8 wc_X8_queuedAt) ⟨rfl, rfl⟩ hv_X8_queuedAt ⟨Nat.le_of_ble_eq_true rfl, Nat.le_of_ble_eq_true rfl⟩ rfl mM_0 hP hS rfl hl.1 rfl (Nat.le_of_ble_eq_true rfl) dX8_queued_11 (fun H locs hP hS => ?_)
    exact m_iret C hP hS dX8_queued_14 hf5
  · have hf3 := m_ie c_1 hf0
    clear hf0
    refine lv_bipush (v := (-2)) hx hb dX8_queued_4 (by decide) ?_
    refine lv_goto (tgt := 14) hx hb dX8_queued_6 (by decide) ?_
    exact m_iret C hP hS dX8_queued_14 hf3
abbrev rm_X8_queuedMany : Room := { frames := 1, cells := 0, slots := 0, locals := 22 }
def f_X8_queuedMany_4 (N : Nat) : Nat → Int32 → Int32 → XT → Option (Int32 × XT)
  | 0, _, _, _ => none
  | n + 1, v1, v2, X => m_gd (m_in 7 1816) <| m_nm (X 1 (Int32.toNatClampNeg 7)) fun y_1 => if y_1 ≤ v2 then (some (v1, X)) else (m_bi (f_X8_ofGroup N v2 0 X) fun r_7 X_7 => if r_7 = 2 then (m_nm (v1 + 1) fun y_16 => m_nm (v2 + 1) fun y_18 => f_X8_queuedMany_4 N n y_16 y_18 X_7) else (m_nm (v1 + 0) fun y_12 => m_nm (v2 + 1) fun y_14 => f_X8_queuedMany_4 N n y_12 y_14 X_7))
set_option maxHeartbeats 4000000 in
set_option maxRecDepth 100000 in
theorem w_X8_queuedMany_4 (l : Launch) (D : va_G) (a : Nat → Nat) (cy : Nat → ClassId) (hG : m_inj 6 a) (N : Nat) {p : Program} {e : Env} {s : State} {m : MethodId} {args : Array Value} {below : List Frame} {meth : Method} {c : Code} (C : m_Cx p s m args meth c cX8_queuedMany 3 RX8 (some .int) (Cond.code yX8_queuedMany cX8_queuedMany 3 (some .int)) D (m_tc cy) (m_AM a) (m_WM a cy) m_ZM) {r0 : Int32} {X0 : XT} : ∀ (n : Nat) (v1 : Int32) (v2 : Int32) (X : XT), f_X8_queuedMany_4 N n v1 v2 X = some (r0, X0) → ∀ (H : Heap) (locs : List Loc) (ls : Array Slot), va_P D vwCl (m_WM a cy X) H → va_S (m_AM a) s.heap H locs → lv_has ls 3 [(0, .ref (a 0)), (1, .int v1), (2, .int v2)] → W p l e rm_X8_queuedMany s m args below meth c H locs 0 0 (MQ below (m_QI D (m_WM a cy) (m_AM a) r0 X0) args s 0 0 (m_AM a)) (F0 m 4 ls []) := by
  have hx := C.1.1
  have hb := C.1.2.1
  intro n
  induction n with
  | zero => intro v1 v2 X hf0; rw [f_X8_queuedMany_4] at hf0; cases hf0
  | succ n ih =>
    intro v1 v2 X hf0 H locs ls hP hS hl
    rw [f_X8_queuedMany_4] at hf0
    refine lv_iload_n hx hb dX8_queuedMany_4 rfl (lv_at hl 2 rfl) ?_
    refine lv_aload_n hx hb dX8_queuedMany_5 rfl (lv_at hl 0 rfl) ?_
    refine m_get C hP mM_0 rfl inX8 0 (by decide) wf_X8_7 rfl dX8_queuedMany_6 ?_
    refine lv_bipush (v := 7) hx hb dX8_queuedMany_9 (by decide) ?_
    obtain ⟨g_1, hf2⟩ := m_gd_s hf0
    clear hf0
    refine m_ild C hP mM_1 0 rfl g_1 dX8_queuedMany_11 (fun y_1 e_1 => ?_)
    have hf3 := m_nm_s e_1 hf2
    clear hf2
    refine lv_icmp_ge (tgt := 39) hx hb dX8_queuedMany_12 (by decide) (fun c_4 => ?_) (fun c_4 => ?_)
    · have hf5 := m_it c_4 hf3
      clear hf3
      refine lv_iload_n hx hb dX8_queuedMany_39 rfl (lv_at hl 1 rfl) ?_
      exact m_iret C hP hS dX8_queuedMany_40 hf5
    · have hf6 := m_ie c_4 hf3
      clear hf3
      refine lv_iload_n hx hb dX8_queuedMany_15 rfl (lv_at hl 1 rfl) ?_
      refine lv_aload_n hx hb dX8_queuedMany_16 rfl (lv_at hl 0 rfl) ?_
      refine lv_iload_n hx hb dX8_queuedMany_17 rfl (lv_at hl 2 rfl) ?_
      refine lv_iconst (v := 0) hx hb dX8_queuedMany_18 (by decide) ?_
      obtain ⟨r_7, X_7, h_7, hf8⟩ := m_bi_s hf6
      clear hf6
      refine m_callVi (q := (RX8, TX8, 13)) C [.int v2, .int 0] [.int v1] (c_X8_ofGroup l D a cy hG N _ _ _ h_7) (m_goodV wl_X8_52 wi_X8_ofGroup ws_X8_ofGroup wn_X8 wc_X8_ofGroup) ⟨rfl, rfl⟩ hv_X8_ofGroup ⟨Nat.le_of_ble_eq_true rfl, Nat.le_of_ble_eq_true rfl⟩ rfl mM_0 hP hS rfl hl.1 rfl (Nat.le_of_ble_eq_true rfl) dX8_queuedMany_19 (fun H locs hP hS => ?_)
      refine lv_iconst (v := 2) hx hb dX8_queuedMany_22 (by decide) ?_
      refine lv_icmp_ne (tgt := 30) hx hb dX8_queuedMany_23 (by decide) (fun c_9 => ?_) (fun c_9 => ?_)
      · have hf10 := m_ie c_9 hf8
        clear hf8
        refine lv_iconst (v := 0) hx hb dX8_queuedMany_30 (by decide) ?_
        refine lv_iadd hx hb dX8_queuedMany_31 ?_
        refine lv_topi (fun y_12 e_12 => ?_)
        have hf13 := m_nm_s e_12 hf10
        clear hf10
        refine lv_istore_n (lv' := [(1, .int y_12), (0, .ref (a 0)), (2, .int v2)]) hx hb dX8_queuedMany_32 rfl hl (by decide) rfl (fun ls hl => ?_)
        obtain ⟨y_14, e_14⟩ : ∃ y : Int32, y = v2 + 1 := ⟨_, rfl⟩
        refine lv_iinc (v := y_14) (lv' := [(2, .int y_14), (1, .int y_12), (0, .ref (a 0))]) hx hb dX8_queuedMany_33 hl (k := 2) rfl (by rw [e_14]; rfl) (by decide) rfl (fun ls hl => ?_)
        have hf15 := m_nm_s e_14 hf13
        clear hf13
        refine lv_goto (tgt := 4) hx hb dX8_queuedMany_36 (by decide) ?_
        exact ih _ _ _ hf15 H locs ls hP hS (lv_sub hl [2, 1, 0] rfl)
      · have hf11 := m_it c_9 hf8
        clear hf8
        refine lv_iconst (v := 1) hx hb dX8_queuedMany_26 (by decide) ?_
        refine lv_goto (tgt := 31) hx hb dX8_queuedMany_27 (by decide) ?_
        refine lv_iadd hx hb dX8_queuedMany_31 ?_
        refine lv_topi (fun y_16 e_16 => ?_)
        have hf17 := m_nm_s e_16 hf11
        clear hf11
        refine lv_istore_n (lv' := [(1, .int y_16), (0, .ref (a 0)), (2, .int v2)]) hx hb dX8_queuedMany_32 rfl hl (by decide) rfl (fun ls hl => ?_)
        obtain ⟨y_18, e_18⟩ : ∃ y : Int32, y = v2 + 1 := ⟨_, rfl⟩
        refine lv_iinc (v := y_18) (lv' := [(2, .int y_18), (1, .int y_16), (0, .ref (a 0))]) hx hb dX8_queuedMany_33 hl (k := 2) rfl (by rw [e_18]; rfl) (by decide) rfl (fun ls hl => ?_)
        have hf19 := m_nm_s e_18 hf17
        clear hf17
        refine lv_goto (tgt := 4) hx hb dX8_queuedMany_36 (by decide) ?_
        exact ih _ _ _ hf19 H locs ls hP hS (lv_sub hl [2, 1, 0] rfl)
def f_X8_queuedMany (N : Nat) (X : XT) : Option (Int32 × XT) := f_X8_queuedMany_4 N N 0 0 X
set_option maxHeartbeats 4000000 in
set_option maxRecDepth 100000 in
theorem c_X8_queuedMany (l : Launch) (D : va_G) (a : Nat → Nat) (cy : Nat → ClassId) (hG : m_inj 6 a) (N : Nat) (X : XT) {r0 : Int32} {X0 : XT} (hf0 : f_X8_queuedMany N X = some (r0, X0)) : Met l yX8_queuedMany (Cond.code yX8_queuedMany cX8_queuedMany 3 (some .int) :: m_tbl) rm_X8_queuedMany (va_Pc [.ref (a 0)] (m_PX D (m_tc cy) (m_WM a cy) m_ZM X)) (m_QI D (m_WM a cy) (m_AM a) r0 X0) 0 0 (m_AM a) := by
  refine m_met (own := RX8) hy_X8_queuedMany rfl (Nat.le_of_ble_eq_true rfl) (m_wl_D hG _) m_ZM_keep ?_
  intro p e s m args below meth c C ls hl hP hS
  have hx := C.1.1
  have hb := C.1.2.1
  have hl : lv_has ls 3 [(0, .ref (a 0))] := hl
  unfold f_X8_queuedMany at hf0
  suffices K : ∀ (H : Heap) (locs : List Loc), va_P D vwCl (m_WM a cy X) H → va_S (m_AM a) s.heap H locs → W p l e rm_X8_queuedMany s m args below meth c H locs 0 0 (MQ below (m_QI D (m_WM a cy) (m_AM a) r0 X0) args s 0 0 (m_AM a)) (F0 m 0 ls []) from K _ _ hP hS
  clear hP hS
  intro H locs hP hS
  refine lv_iconst (v := 0) hx hb dX8_queuedMany_0 (by decide) ?_
  refine lv_istore_n (lv' := [(1, .int 0), (0, .ref (a 0))]) hx hb dX8_queuedMany_1 rfl hl (by decide) rfl (fun ls hl => ?_)
  refine lv_iconst (v := 0) hx hb dX8_queuedMany_2 (by decide) ?_
  refine lv_istore_n (lv' := [(2, .int 0), (1, .int 0), (0, .ref (a 0))]) hx hb dX8_queuedMany_3 rfl hl (by decide) rfl (fun ls hl => ?_)
  exact w_X8_queuedMany_4 l D a cy hG N C _ _ _ _ hf0 H locs ls hP hS (lv_sub hl [2, 1, 0] rfl)
abbrev rm_X8_busyMany : Room := { frames := 1, cells := 0, slots := 0, locals := 22 }
def f_X8_busyMany_4 (N : Nat) : Nat → Int32 → Int32 → XT → Option (Int32 × XT)
  | 0, _, _, _ => none
  | n + 1, v1, v2, X => m_gd (m_in 6 1816) <| m_nm (X 1 (Int32.toNatClampNeg 6)) fun y_1 => if y_1 ≤ v2 then (some (v1, X)) else (m_bi (f_X8_of N v2 3 X) fun r_7 X_7 => if 4 ≤ r_7 then (m_nm (v1 + 0) fun y_12 => m_nm (v2 + 1) fun y_14 => f_X8_busyMany_4 N n y_12 y_14 X_7) else (m_nm (v1 + 1) fun y_16 => m_nm (v2 + 1) fun y_18 => f_X8_busyMany_4 N n y_16 y_18 X_7))
set_option maxHeartbeats 4000000 in
set_option maxRecDepth 100000 in
theorem w_X8_busyMany_4 (l : Launch) (D : va_G) (a : Nat → Nat) (cy : Nat → ClassId) (hG : m_inj 6 a) (N : Nat) {p : Program} {e : Env} {s : State} {m : MethodId} {args : Array Value} {below : List Frame} {meth : Method} {c : Code} (C : m_Cx p s m args meth c cX8_busyMany 3 RX8 (some .int) (Cond.code yX8_busyMany cX8_busyMany 3 (some .int)) D (m_tc cy) (m_AM a) (m_WM a cy) m_ZM) {r0 : Int32} {X0 : XT} : ∀ (n : Nat) (v1 : Int32) (v2 : Int32) (X : XT), f_X8_busyMany_4 N n v1 v2 X = some (r0, X0) → ∀ (H : Heap) (locs : List Loc) (ls : Array Slot), va_P D vwCl (m_WM a cy X) H → va_S (m_AM a) s.heap H locs → lv_has ls 3 [(0, .ref (a 0)), (1, .int v1), (2, .int v2)] → W p l e rm_X8_busyMany s m args below meth c H locs 0 0 (MQ below (m_QI D (m_WM a cy) (m_AM a) r0 X0) args s 0 0 (m_AM a)) (F0 m 4 ls []) := by
  have hx := C.1.1
  have hb := C.1.2.1
  intro n
  induction n with
  | zero => intro v1 v2 X hf0; rw [f_X8_busyMany_4] at hf0; cases hf0
  | succ n ih =>
    intro v1 v2 X hf0 H locs ls hP hS hl
    rw [f_X8_busyMany_4] at hf0
    refine lv_iload_n hx hb dX8_busyMany_4 rfl (lv_at hl 2 rfl) ?_
    refine lv_aload_n hx hb dX8_busyMany_5 rfl (lv_at hl 0 rfl) ?_
    refine m_get C hP mM_0 rfl inX8 0 (by decide) wf_X8_7 rfl dX8_busyMany_6 ?_
    refine lv_bipush (v := 6) hx hb dX8_busyMany_9 (by decide) ?_
    obtain ⟨g_1, hf2⟩ := m_gd_s hf0
    clear hf0
    refine m_ild C hP mM_1 0 rfl g_1 dX8_busyMany_11 (fun y_1 e_1 => ?_)
    have hf3 := m_nm_s e_1 hf2
    clear hf2
    refine lv_icmp_ge (tgt := 39) hx hb dX8_busyMany_12 (by decide) (fun c_4 => ?_) (fun c_4 => ?_)
    · have hf5 := m_it c_4 hf3
      clear hf3
      refine lv_iload_n hx hb dX8_busyMany_39 rfl (lv_at hl 1 rfl) ?_
      exact m_iret C hP hS dX8_busyMany_40 hf5
    · have hf6 := m_ie c_4 hf3
      clear hf3
      refine lv_iload_n hx hb dX8_busyMany_15 rfl (lv_at hl 1 rfl) ?_
      refine lv_aload_n hx hb dX8_busyMany_16 rfl (lv_at hl 0 rfl) ?_
      refine lv_iload_n hx hb dX8_busyMany_17 rfl (lv_at hl 2 rfl) ?_
      refine lv_iconst (v := 3) hx hb dX8_busyMany_18 (by decide) ?_
      obtain ⟨r_7, X_7, h_7, hf8⟩ := m_bi_s hf6
      clear hf6
      refine m_callVi (q := (RX8, TX8, 13)) C [.int v2, .int 3] [.int v1] (c_X8_of l D a cy hG N _ _ _ h_7) (m_goodV wl_X8_40 wi_X8_of ws_X8_of wn_X8 wc_X8_of) ⟨rfl, rfl⟩ hv_X8_of ⟨Nat.le_of_ble_eq_true rfl, Nat.le_of_ble_eq_true rfl⟩ rfl mM_0 hP hS rfl hl.1 rfl (Nat.le_of_ble_eq_true rfl) dX8_busyMany_19 (fun H locs hP hS => ?_)
      refine lv_iconst (v := 4) hx hb dX8_busyMany_22 (by decide) ?_
      refine lv_icmp_ge (tgt := 30) hx hb dX8_busyMany_23 (by decide) (fun c_9 => ?_) (fun c_9 => ?_)
      · have hf10 := m_it c_9 hf8
        clear hf8
        refine lv_iconst (v := 0) hx hb dX8_busyMany_30 (by decide) ?_
        refine lv_iadd hx hb dX8_busyMany_31 ?_
        refine lv_topi (fun y_12 e_12 => ?_)
        have hf13 := m_nm_s e_12 hf10
        clear hf10
        refine lv_istore_n (lv' := [(1, .int y_12), (0, .ref (a 0)), (2, .int v2)]) hx hb dX8_busyMany_32 rfl hl (by decide) rfl (fun ls hl => ?_)
        obtain ⟨y_14, e_14⟩ : ∃ y : Int32, y = v2 + 1 := ⟨_, rfl⟩
        refine lv_iinc (v := y_14) (lv' := [(2, .int y_14), (1, .int y_12), (0, .ref (a 0))]) hx hb dX8_busyMany_33 hl (k := 2) rfl (by rw [e_14]; rfl) (by decide) rfl (fun ls hl => ?_)
        have hf15 := m_nm_s e_14 hf13
        clear hf13
        refine lv_goto (tgt := 4) hx hb dX8_busyMany_36 (by decide) ?_
        exact ih _ _ _ hf15 H locs ls hP hS (lv_sub hl [2, 1, 0] rfl)
      · have hf11 := m_ie c_9 hf8
        clear hf8
        refine lv_iconst (v := 1) hx hb dX8_busyMany_26 (by decide) ?_
        refine lv_goto (tgt := 31) hx hb dX8_busyMany_27 (by decide) ?_
        refine lv_iadd hx hb dX8_busyMany_31 ?_
        refine lv_topi (fun y_16 e_16 => ?_)
        have hf17 := m_nm_s e_16 hf11
        clear hf11
        refine lv_istore_n (lv' := [(1, .int y_16), (0, .ref (a 0)), (2, .int v2)]) hx hb dX8_busyMany_32 rfl hl (by decide) rfl (fun ls hl => ?_)
        obtain ⟨y_18, e_18⟩ : ∃ y : Int32, y = v2 + 1 := ⟨_, rfl⟩
        refine lv_iinc (v := y_18) (lv' := [(2, .int y_18), (1, .int y_16), (0, .ref (a 0))]) hx hb dX8_busyMany_33 hl (k := 2) rfl (by rw [e_18]; rfl) (by decide) rfl (fun ls hl => ?_)
        have hf19 := m_nm_s e_18 hf17
        clear hf17
        refine lv_goto (tgt := 4) hx hb dX8_busyMany_36 (by decide) ?_
        exact ih _ _ _ hf19 H locs ls hP hS (lv_sub hl [2, 1, 0] rfl)
def f_X8_busyMany (N : Nat) (X : XT) : Option (Int32 × XT) := f_X8_busyMany_4 N N 0 0 X
set_option maxHeartbeats 4000000 in
set_option maxRecDepth 100000 in
theorem c_X8_busyMany (l : Launch) (D : va_G) (a : Nat → Nat) (cy : Nat → ClassId) (hG : m_inj 6 a) (N : Nat) (X : XT) {r0 : Int32} {X0 : XT} (hf0 : f_X8_busyMany N X = some (r0, X0)) : Met l yX8_busyMany (Cond.code yX8_busyMany cX8_busyMany 3 (some .int) :: m_tbl) rm_X8_busyMany (va_Pc [.ref (a 0)] (m_PX D (m_tc cy) (m_WM a cy) m_ZM X)) (m_QI D (m_WM a cy) (m_AM a) r0 X0) 0 0 (m_AM a) := by
  refine m_met (own := RX8) hy_X8_busyMany rfl (Nat.le_of_ble_eq_true rfl) (m_wl_D hG _) m_ZM_keep ?_
  intro p e s m args below meth c C ls hl hP hS
  have hx := C.1.1
  have hb := C.1.2.1
  have hl : lv_has ls 3 [(0, .ref (a 0))] := hl
  unfold f_X8_busyMany at hf0
  suffices K : ∀ (H : Heap) (locs : List Loc), va_P D vwCl (m_WM a cy X) H → va_S (m_AM a) s.heap H locs → W p l e rm_X8_busyMany s m args below meth c H locs 0 0 (MQ below (m_QI D (m_WM a cy) (m_AM a) r0 X0) args s 0 0 (m_AM a)) (F0 m 0 ls []) from K _ _ hP hS
  clear hP hS
  intro H locs hP hS
  refine lv_iconst (v := 0) hx hb dX8_busyMany_0 (by decide) ?_
  refine lv_istore_n (lv' := [(1, .int 0), (0, .ref (a 0))]) hx hb dX8_busyMany_1 rfl hl (by decide) rfl (fun ls hl => ?_)
  refine lv_iconst (v := 0) hx hb dX8_busyMany_2 (by decide) ?_
  refine lv_istore_n (lv' := [(2, .int 0), (1, .int 0), (0, .ref (a 0))]) hx hb dX8_busyMany_3 rfl hl (by decide) rfl (fun ls hl => ?_)
  exact w_X8_busyMany_4 l D a cy hG N C _ _ _ _ hf0 H locs ls hP hS (lv_sub hl [2, 1, 0] rfl)
abbrev rm_X8_count : Room := { frames := 2, cells := 0, slots := 0, locals := 44 }
def f_X8_count (N : Nat) (v1 : Int32) (X : XT) : Option (Int32 × XT) := if v1 = 0 then (m_gd (m_in 0 1816) <| m_nm (X 1 (Int32.toNatClampNeg 0)) fun y_4 => some (y_4, X)) else (if v1 = 1 then (m_gd (m_in 1 1816) <| m_nm (X 1 (Int32.toNatClampNeg 1)) fun y_10 => some (y_10, X)) else (if v1 = 2 then (m_gd (m_in 8 1816) <| m_nm (X 1 (Int32.toNatClampNeg 8)) fun y_16 => some (y_16, X)) else (if v1 = 3 then (m_gd (m_in 9 1816) <| m_nm (X 1 (Int32.toNatClampNeg 9)) fun y_22 => some (y_22, X)) else (if v1 = 4 then (m_bi (f_X8_queuedMany N X) fun r_28 X_28 => some (r_28, X_28)) else (if v1 = 5 then (m_bi (f_X8_busyMany N X) fun r_33 X_33 => some (r_33, X_33)) else (if v1 = 6 then (m_nm ((2 : Int32) + v1) fun y_38 => m_nm (y_38 - 6) fun y_40 => m_gd (m_in y_40 1816) <| m_nm (X 1 (Int32.toNatClampNeg y_40)) fun y_42 => some (y_42, X)) else (if v1 = 7 then (m_nm ((2 : Int32) + v1) fun y_48 => m_nm (y_48 - 6) fun y_50 => m_gd (m_in y_50 1816) <| m_nm (X 1 (Int32.toNatClampNeg y_50)) fun y_52 => some (y_52, X)) else (if v1 = 8 then (m_nm ((2 : Int32) + v1) fun y_58 => m_nm (y_58 - 6) fun y_60 => m_gd (m_in y_60 1816) <| m_nm (X 1 (Int32.toNatClampNeg y_60)) fun y_62 => some (y_62, X)) else (if v1 = 9 then (m_nm ((2 : Int32) + v1) fun y_68 => m_nm (y_68 - 6) fun y_70 => m_gd (m_in y_70 1816) <| m_nm (X 1 (Int32.toNatClampNeg y_70)) fun y_72 => some (y_72, X)) else (if v1 = 10 then (some ((X 0 3), X)) else (if v1 = 11 then (some ((X 0 7), X)) else (some ((-2), X)))))))))))))
set_option maxHeartbeats 4000000 in
set_option maxRecDepth 100000 in
theorem c_X8_count (l : Launch) (D : va_G) (a : Nat → Nat) (cy : Nat → ClassId) (hG : m_inj 6 a) (N : Nat) (v1 : Int32) (X : XT) {r0 : Int32} {X0 : XT} (hf0 : f_X8_count N v1 X = some (r0, X0)) : Met l yX8_count (Cond.code yX8_count cX8_count 2 (some .int) :: m_tbl) rm_X8_count (va_Pc [.ref (a 0), .int v1] (m_PX D (m_tc cy) (m_WM a cy) m_ZM X)) (m_QI D (m_WM a cy) (m_AM a) r0 X0) 0 0 (m_AM a) := by
  refine m_met (own := RX8) hy_X8_count rfl (Nat.le_of_ble_eq_true rfl) (m_wl_D hG _) m_ZM_keep ?_
  intro p e s m args below meth c C ls hl hP hS
  have hx := C.1.1
  have hb := C.1.2.1
  have hl : lv_has ls 2 [(0, .ref (a 0)), (1, .int v1)] := hl
  unfold f_X8_count at hf0
  suffices K : ∀ (H : Heap) (locs : List Loc), va_P D vwCl (m_WM a cy X) H → va_S (m_AM a) s.heap H locs → W p l e rm_X8_count s m args below meth c H locs 0 0 (MQ below (m_QI D (m_WM a cy) (m_AM a) r0 X0) args s 0 0 (m_AM a)) (F0 m 0 ls []) from K _ _ hP hS
  clear hP hS
  intro H locs hP hS
  refine lv_iload_n hx hb dX8_count_0 rfl (lv_at hl 1 rfl) ?_
  by_cases c_1 : v1 = 0
  · have hf2 := m_it c_1 hf0
    clear hf0
    refine lv_tableIn (tgt := 64) hx hb dX8_count_1 (by rw [c_1]; decide) (by rw [c_1]; decide) (by rw [c_1]; rfl) (by decide) ?_
    refine lv_aload_n hx hb dX8_count_64 rfl (lv_at hl 0 rfl) ?_
    refine m_get C hP mM_0 rfl inX8 0 (by decide) wf_X8_7 rfl dX8_count_65 ?_
    refine lv_iconst (v := 0) hx hb dX8_count_68 (by decide) ?_
    obtain ⟨g_4, hf5⟩ := m_gd_s hf2
    clear hf2
    refine m_ild C hP mM_1 0 rfl g_4 dX8_count_69 (fun y_4 e_4 => ?_)
    have hf6 := m_nm_s e_4 hf5
    clear hf5
    exact m_iret C hP hS dX8_count_70 hf6
  · have hf3 := m_ie c_1 hf0
    clear hf0
    by_cases c_7 : v1 = 1
    · have hf8 := m_it c_7 hf3
      clear hf3
      refine lv_tableIn (tgt := 71) hx hb dX8_count_1 (by rw [c_7]; decide) (by rw [c_7]; decide) (by rw [c_7]; rfl) (by decide) ?_
      refine lv_aload_n hx hb dX8_count_71 rfl (lv_at hl 0 rfl) ?_
      refine m_get C hP mM_0 rfl inX8 0 (by decide) wf_X8_7 rfl dX8_count_72 ?_
      refine lv_iconst (v := 1) hx hb dX8_count_75 (by decide) ?_
      obtain ⟨g_10, hf11⟩ := m_gd_s hf8
      clear hf8
      refine m_ild C hP mM_1 0 rfl g_10 dX8_count_76 (fun y_10 e_10 => ?_)
      have hf12 := m_nm_s e_10 hf11
      clear hf11
      exact m_iret C hP hS dX8_count_77 hf12
    · have hf9 := m_ie c_7 hf3
      clear hf3
      by_cases c_13 : v1 = 2
      · have hf14 := m_it c_13 hf9
        clear hf9
        refine lv_tableIn (tgt := 78) hx hb dX8_count_1 (by rw [c_13]; decide) (by rw [c_13]; decide) (by rw [c_13]; rfl) (by decide) ?_
        refine lv_aload_n hx hb dX8_count_78 rfl (lv_at hl 0 rfl) ?_
        refine m_get C hP mM_0 rfl inX8 0 (by decide) wf_X8_7 rfl dX8_count_79 ?_
        refine lv_bipush (v := 8) hx hb dX8_count_82 (by decide) ?_
        obtain ⟨g_16, hf17⟩ := m_gd_s hf14
        clear hf14
        refine m_ild C hP mM_1 0 rfl g_16 dX8_count_84 (fun y_16 e_16 => ?_)
        have hf18 := m_nm_s e_16 hf17
        clear hf17
        exact m_iret C hP hS dX8_count_85 hf18
      · have hf15 := m_ie c_13 hf9
        clear hf9
        by_cases c_19 : v1 = 3
        · have hf20 := m_it c_19 hf15
          clear hf15
          refine lv_tableIn (tgt := 86) hx hb dX8_count_1 (by rw [c_19]; decide) (by rw [c_19]; decide) (by rw [c_19]; rfl) (by decide) ?_
          refine lv_aload_n hx hb dX8_count_86 rfl (lv_at hl 0 rfl) ?_
          refine m_get C hP mM_0 rfl inX8 0 (by decide) wf_X8_7 rfl dX8_count_87 ?_
          refine lv_bipush (v := 9) hx hb dX8_count_90 (by decide) ?_
          obtain ⟨g_22, hf23⟩ := m_gd_s hf20
          clear hf20
          refine m_ild C hP mM_1 0 rfl g_22 dX8_count_92 (fun y_22 e_22 => ?_)
          have hf24 := m_nm_s e_22 hf23
          clear hf23
          exact m_iret C hP hS dX8_count_93 hf24
        · have hf21 := m_ie c_19 hf15
          clear hf15
          by_cases c_25 : v1 = 4
          · have hf26 := m_it c_25 hf21
            clear hf21
            refine lv_tableIn (tgt := 94) hx hb dX8_count_1 (by rw [c_25]; decide) (by rw [c_25]; decide) (by rw [c_25]; rfl) (by decide) ?_
            refine lv_aload_n hx hb dX8_count_94 rfl (lv_at hl 0 rfl) ?_
            obtain ⟨r_28, X_28, h_28, hf29⟩ := m_bi_s hf26
            clear hf26
            refine m_callVi (q := (RX8, TX8, 13)) C [] [] (c_X8_queuedMany l D a cy hG N _ h_28) (m_goodV wl_X8_176 wi_X8_queuedMany ws_X8_queuedMany wn_X8 wc_X8_queuedMany) ⟨rfl, rfl⟩ hv_X8_queuedMany ⟨Nat.le_of_ble_eq_true rfl, Nat.le_of_ble_eq_true rfl⟩ rfl mM_0 hP hS rfl hl.1 rfl (Nat.le_of_ble_eq_true rfl) dX8_count_95 (fun H locs hP hS => ?_)
            exact m_iret C hP hS dX8_count_98 hf29
          · have hf27 := m_ie c_25 hf21
            clear hf21
            by_cases c_30 : v1 = 5
            · have hf31 := m_it c_30 hf27
              clear hf27
              refine lv_tableIn (tgt := 99) hx hb dX8_count_1 (by rw [c_30]; decide) (by rw [c_30]; decide) (by rw [c_30]; rfl) (by decide) ?_
              refine lv_aload_n hx hb dX8_count_99 rfl (lv_at hl 0 rfl) ?_
              obtain ⟨r_33, X_33, h_33, hf34⟩ := m_bi_s hf31
              clear hf31
              refine m_callVi (q := (RX8, TX8, 13)) C [] [] (c_X8_busyMany l D a cy hG N _ h_33) (m_goodV wl_X8_179 wi_X8_busyMany ws_X8_busyMany wn_X8 wc_X8_busyMany) ⟨rfl, rfl⟩ hv_X8_busyMany ⟨Nat.le_of_ble_eq_true rfl, Nat.le_of_ble_eq_true rfl⟩ rfl mM_0 hP hS rfl hl.1 rfl (Nat.le_of_ble_eq_true rfl) dX8_count_100 (fun H locs hP hS => ?_)
              exact m_iret C hP hS dX8_count_103 hf34
            · have hf32 := m_ie c_30 hf27
              clear hf27
              by_cases c_35 : v1 = 6
              · have hf36 := m_it c_35 hf32
                clear hf32
                refine lv_tableIn (tgt := 104) hx hb dX8_count_1 (by rw [c_35]; decide) (by rw [c_35]; decide) (by rw [c_35]; rfl) (by decide) ?_
                refine lv_aload_n hx hb dX8_count_104 rfl (lv_at hl 0 rfl) ?_
                refine m_get C hP mM_0 rfl inX8 0 (by decide) wf_X8_7 rfl dX8_count_105 ?_
                refine lv_iconst (v := 2) hx hb dX8_count_108 (by decide) ?_
                refine lv_iload_n hx hb dX8_count_109 rfl (lv_at hl 1 rfl) ?_
                refine lv_iadd hx hb dX8_count_110 ?_
                refine lv_topi (fun y_38 e_38 => ?_)
                have hf39 := m_nm_s e_38 hf36
                clear hf36
                refine lv_bipush (v := 6) hx hb dX8_count_111 (by decide) ?_
                refine lv_isub hx hb dX8_count_113 ?_
                refine lv_topi (fun y_40 e_40 => ?_)
                have hf41 := m_nm_s e_40 hf39
                clear hf39
                obtain ⟨g_42, hf43⟩ := m_gd_s hf41
                clear hf41
                refine m_ild C hP mM_1 0 rfl g_42 dX8_count_114 (fun y_42 e_42 => ?_)
                have hf44 := m_nm_s e_42 hf43
                clear hf43
                exact m_iret C hP hS dX8_count_115 hf44
              · have hf37 := m_ie c_35 hf32
                clear hf32
                by_cases c_45 : v1 = 7
                · have hf46 := m_it c_45 hf37
                  clear hf37
                  refine lv_tableIn (tgt := 104) hx hb dX8_count_1 (by rw [c_45]; decide) (by rw [c_45]; decide) (by rw [c_45]; rfl) (by decide) ?_
                  refine lv_aload_n hx hb dX8_count_104 rfl (lv_at hl 0 rfl) ?_
                  refine m_get C hP mM_0 rfl inX8 0 (by decide) wf_X8_7 rfl dX8_count_105 ?_
                  refine lv_iconst (v := 2) hx hb dX8_count_108 (by decide) ?_
                  refine lv_iload_n hx hb dX8_count_109 rfl (lv_at hl 1 rfl) ?_
                  refine lv_iadd hx hb dX8_count_110 ?_
                  refine lv_topi (fun y_48 e_48 => ?_)
                  have hf49 := m_nm_s e_48 hf46
                  clear hf46
                  refine lv_bipush (v := 6) hx hb dX8_count_111 (by decide) ?_
                  refine lv_isub hx hb dX8_count_113 ?_
                  refine lv_topi (fun y_50 e_50 => ?_)
                  have hf51 := m_nm_s e_50 hf49
                  clear hf49
                  obtain ⟨g_52, hf53⟩ := m_gd_s hf51
                  clear hf51
                  refine m_ild C hP mM_1 0 rfl g_52 dX8_count_114 (fun y_52 e_52 => ?_)
                  have hf54 := m_nm_s e_52 hf53
                  clear hf53
                  exact m_iret C hP hS dX8_count_115 hf54
                · have hf47 := m_ie c_45 hf37
                  clear hf37
                  by_cases c_55 : v1 = 8
                  · have hf56 := m_it c_55 hf47
                    clear hf47
                    refine lv_tableIn (tgt := 104) hx hb dX8_count_1 (by rw [c_55]; decide) (by rw [c_55]; decide) (by rw [c_55]; rfl) (by decide) ?_
                    refine lv_aload_n hx hb dX8_count_104 rfl (lv_at hl 0 rfl) ?_
                    refine m_get C hP mM_0 rfl inX8 0 (by decide) wf_X8_7 rfl dX8_count_105 ?_
                    refine lv_iconst (v := 2) hx hb dX8_count_108 (by decide) ?_
                    refine lv_iload_n hx hb dX8_count_109 rfl (lv_at hl 1 rfl) ?_
                    refine lv_iadd hx hb dX8_count_110 ?_
                    refine lv_topi (fun y_58 e_58 => ?_)
                    have hf59 := m_nm_s e_58 hf56
                    clear hf56
                    refine lv_bipush (v := 6) hx hb dX8_count_111 (by decide) ?_
                    refine lv_isub hx hb dX8_count_113 ?_
                    refine lv_topi (fun y_60 e_60 => ?_)
                    have hf61 := m_nm_s e_60 hf59
                    clear hf59
                    obtain ⟨g_62, hf63⟩ := m_gd_s hf61
                    clear hf61
                    refine m_ild C hP mM_1 0 rfl g_62 dX8_count_114 (fun y_62 e_62 => ?_)
                    have hf64 := m_nm_s e_62 hf63
                    clear hf63
                    exact m_iret C hP hS dX8_count_115 hf64
                  · have hf57 := m_ie c_55 hf47
                    clear hf47
                    by_cases c_65 : v1 = 9
                    · have hf66 := m_it c_65 hf57
                      clear hf57
                      refine lv_tableIn (tgt := 104) hx hb dX8_count_1 (by rw [c_65]; decide) (by rw [c_65]; decide) (by rw [c_65]; rfl) (by decide) ?_
                      refine lv_aload_n hx hb dX8_count_104 rfl (lv_at hl 0 rfl) ?_
                      refine m_get C hP mM_0 rfl inX8 0 (by decide) wf_X8_7 rfl dX8_count_105 ?_
                      refine lv_iconst (v := 2) hx hb dX8_count_108 (by decide) ?_
                      refine lv_iload_n hx hb dX8_count_109 rfl (lv_at hl 1 rfl) ?_
                      refine lv_iadd hx hb dX8_count_110 ?_
                      refine lv_topi (fun y_68 e_68 => ?_)
                      have hf69 := m_nm_s e_68 hf66
                      clear hf66
                      refine lv_bipush (v := 6) hx hb dX8_count_111 (by decide) ?_
                      refine lv_isub hx hb dX8_count_113 ?_
                      refine lv_topi (fun y_70 e_70 => ?_)
                      have hf71 := m_nm_s e_70 hf69
                      clear hf69
                      obtain ⟨g_72, hf73⟩ := m_gd_s hf71
                      clear hf71
                      refine m_ild C hP mM_1 0 rfl g_72 dX8_count_114 (fun y_72 e_72 => ?_)
                      have hf74 := m_nm_s e_72 hf73
                      clear hf73
                      exact m_iret C hP hS dX8_count_115 hf74
                    · have hf67 := m_ie c_65 hf57
                      clear hf57
                      by_cases c_75 : v1 = 10
                      · have hf76 := m_it c_75 hf67
                        clear hf67
                        refine lv_tableIn (tgt := 116) hx hb dX8_count_1 (by rw [c_75]; decide) (by rw [c_75]; decide) (by rw [c_75]; rfl) (by decide) ?_
                        refine lv_aload_n hx hb dX8_count_116 rfl (lv_at hl 0 rfl) ?_
                        refine m_get C hP mM_0 rfl inX8 3 (by decide) wf_X8_29 rfl dX8_count_117 ?_
                        exact m_iret C hP hS dX8_count_120 hf76
                      · have hf77 := m_ie c_75 hf67
                        clear hf67
                        by_cases c_78 : v1 = 11
                        · have hf79 := m_it c_78 hf77
                          clear hf77
                          refine lv_tableIn (tgt := 121) hx hb dX8_count_1 (by rw [c_78]; decide) (by rw [c_78]; decide) (by rw [c_78]; rfl) (by decide) ?_
                          refine lv_aload_n hx hb dX8_count_121 rfl (lv_at hl 0 rfl) ?_
                          refine m_get C hP mM_0 rfl inX8 7 (by decide) wf_X8_134 rfl dX8_count_122 ?_
                          exact m_iret C hP hS dX8_count_125 hf79
                        · have hf80 := m_ie c_78 hf77
                          clear hf77
                          have n_1 := lv_neT (a := 0) c_1 (by decide)
                          have n_7 := lv_neT (a := 1) c_7 (by decide)
                          have n_13 := lv_neT (a := 2) c_13 (by decide)
                          have n_19 := lv_neT (a := 3) c_19 (by decide)
                          have n_25 := lv_neT (a := 4) c_25 (by decide)
                          have n_30 := lv_neT (a := 5) c_30 (by decide)
                          have n_35 := lv_neT (a := 6) c_35 (by decide)
                          have n_45 := lv_neT (a := 7) c_45 (by decide)
                          have n_55 := lv_neT (a := 8) c_55 (by decide)
                          have n_65 := lv_neT (a := 9) c_65 (by decide)
                          have n_75 := lv_neT (a := 10) c_75 (by decide)
                          have n_78 := lv_neT (a := 11) c_78 (by decide)
                          refine lv_tableOut (tgt := 126) hx hb dX8_count_1 (by omega) (by decide) ?_
                          refine lv_bipush (v := (-2)) hx hb dX8_count_126 (by decide) ?_
                          exact m_iret C hP hS dX8_count_128 hf80
abbrev rm_X8_total : Room := { frames := 0, cells := 0, slots := 0, locals := 0 }
def f_X8_total (N : Nat) (v1 : Int32) (X : XT) : Option (Int32 × XT) := if v1 = 0 then (m_gd (m_in 6 1816) <| m_nm (X 1 (Int32.toNatClampNeg 6)) fun y_4 => some (y_4, X)) else (if v1 = 1 then (m_nm ((10 : Int32) + v1) fun y_10 => m_nm (y_10 - 1) fun y_12 => m_gd (m_in y_12 1816) <| m_nm (X 1 (Int32.toNatClampNeg y_12)) fun y_14 => some (y_14, X)) else (if v1 = 2 then (m_nm ((10 : Int32) + v1) fun y_20 => m_nm (y_20 - 1) fun y_22 => m_gd (m_in y_22 1816) <| m_nm (X 1 (Int32.toNatClampNeg y_22)) fun y_24 => some (y_24, X)) else (if v1 = 3 then (m_nm ((10 : Int32) + v1) fun y_30 => m_nm (y_30 - 1) fun y_32 => m_gd (m_in y_32 1816) <| m_nm (X 1 (Int32.toNatClampNeg y_32)) fun y_34 => some (y_34, X)) else (if v1 = 4 then (m_gd (m_in 7 1816) <| m_nm (X 1 (Int32.toNatClampNeg 7)) fun y_40 => some (y_40, X)) else (if v1 = 5 then (m_nm ((13 : Int32) + v1) fun y_46 => m_nm (y_46 - 5) fun y_48 => m_gd (m_in y_48 1816) <| m_nm (X 1 (Int32.toNatClampNeg y_48)) fun y_50 => some (y_50, X)) else (if v1 = 6 then (m_nm ((13 : Int32) + v1) fun y_56 => m_nm (y_56 - 5) fun y_58 => m_gd (m_in y_58 1816) <| m_nm (X 1 (Int32.toNatClampNeg y_58)) fun y_60 => some (y_60, X)) else (if v1 = 7 then (m_nm ((13 : Int32) + v1) fun y_66 => m_nm (y_66 - 5) fun y_68 => m_gd (m_in y_68 1816) <| m_nm (X 1 (Int32.toNatClampNeg y_68)) fun y_70 => some (y_70, X)) else (some ((-2), X)))))))))
set_option maxHeartbeats 4000000 in
set_option maxRecDepth 100000 in
theorem c_X8_total (l : Launch) (D : va_G) (a : Nat → Nat) (cy : Nat → ClassId) (hG : m_inj 6 a) (N : Nat) (v1 : Int32) (X : XT) {r0 : Int32} {X0 : XT} (hf0 : f_X8_total N v1 X = some (r0, X0)) : Met l yX8_total (Cond.code yX8_total cX8_total 2 (some .int) :: m_tbl) rm_X8_total (va_Pc [.ref (a 0), .int v1] (m_PX D (m_tc cy) (m_WM a cy) m_ZM X)) (m_QI D (m_WM a cy) (m_AM a) r0 X0) 0 0 (m_AM a) := by
  refine m_met (own := RX8) hy_X8_total rfl (Nat.le_of_ble_eq_true rfl) (m_wl_D hG _) m_ZM_keep ?_
  intro p e s m args below meth c C ls hl hP hS
  have hx := C.1.1
  have hb := C.1.2.1
  have hl : lv_has ls 2 [(0, .ref (a 0)), (1, .int v1)] := hl
  unfold f_X8_total at hf0
  suffices K : ∀ (H : Heap) (locs : List Loc), va_P D vwCl (m_WM a cy X) H → va_S (m_AM a) s.heap H locs → W p l e rm_X8_total s m args below meth c H locs 0 0 (MQ below (m_QI D (m_WM a cy) (m_AM a) r0 X0) args s 0 0 (m_AM a)) (F0 m 0 ls []) from K _ _ hP hS
  clear hP hS
  intro H locs hP hS
  refine lv_iload_n hx hb dX8_total_0 rfl (lv_at hl 1 rfl) ?_
  by_cases c_1 : v1 = 0
  · have hf2 := m_it c_1 hf0
    clear hf0
    refine lv_tableIn (tgt := 48) hx hb dX8_total_1 (by rw [c_1]; decide) (by rw [c_1]; decide) (by rw [c_1]; rfl) (by decide) ?_
    refine lv_aload_n hx hb dX8_total_48 rfl (lv_at hl 0 rfl) ?_
    refine m_get C hP mM_0 rfl inX8 0 (by decide) wf_X8_7 rfl dX8_total_49 ?_
    refine lv_bipush (v := 6) hx hb dX8_total_52 (by decide) ?_
    obtain ⟨g_4, hf5⟩ := m_gd_s hf2
    clear hf2
    refine m_ild C hP mM_1 0 rfl g_4 dX8_total_54 (fun y_4 e_4 => ?_)
    have hf6 := m_nm_s e_4 hf5
    clear hf5
    exact m_iret C hP hS dX8_total_55 hf6
  · have hf3 := m_ie c_1 hf0
    clear hf0
    by_cases c_7 : v1 = 1
    · have hf8 := m_it c_7 hf3
      clear hf3
      refine lv_tableIn (tgt := 56) hx hb dX8_total_1 (by rw [c_7]; decide) (by rw [c_7]; decide) (by rw [c_7]; rfl) (by decide) ?_
      refine lv_aload_n hx hb dX8_total_56 rfl (lv_at hl 0 rfl) ?_
      refine m_get C hP mM_0 rfl inX8 0 (by decide) wf_X8_7 rfl dX8_total_57 ?_
      refine lv_bipush (v := 10) hx hb dX8_total_60 (by decide) ?_
      refine lv_iload_n hx hb dX8_total_62 rfl (lv_at hl 1 rfl) ?_
      refine lv_iadd hx hb dX8_total_63 ?_
      refine lv_topi (fun y_10 e_10 => ?_)
      have hf11 := m_nm_s e_10 hf8
      clear hf8
      refine lv_iconst (v := 1) hx hb dX8_total_64 (by decide) ?_
      refine lv_isub hx hb dX8_total_65 ?_
      refine lv_topi (fun y_12 e_12 => ?_)
      have hf13 := m_nm_s e_12 hf11
      clear hf11
      obtain ⟨g_14, hf15⟩ := m_gd_s hf13
      clear hf13
      refine m_ild C hP mM_1 0 rfl g_14 dX8_total_66 (fun y_14 e_14 => ?_)
      have hf16 := m_nm_s e_14 hf15
      clear hf15
      exact m_iret C hP hS dX8_total_67 hf16
    · have hf9 := m_ie c_7 hf3
      clear hf3
      by_cases c_17 : v1 = 2
      · have hf18 := m_it c_17 hf9
        clear hf9
        refine lv_tableIn (tgt := 56) hx hb dX8_total_1 (by rw [c_17]; decide) (by rw [c_17]; decide) (by rw [c_17]; rfl) (by decide) ?_
        refine lv_aload_n hx hb dX8_total_56 rfl (lv_at hl 0 rfl) ?_
        refine m_get C hP mM_0 rfl inX8 0 (by decide) wf_X8_7 rfl dX8_total_57 ?_
        refine lv_bipush (v := 10) hx hb dX8_total_60 (by decide) ?_
        refine lv_iload_n hx hb dX8_total_62 rfl (lv_at hl 1 rfl) ?_
        refine lv_iadd hx hb dX8_total_63 ?_
        refine lv_topi (fun y_20 e_20 => ?_)
        have hf21 := m_nm_s e_20 hf18
        clear hf18
        refine lv_iconst (v := 1) hx hb dX8_total_64 (by decide) ?_
        refine lv_isub hx hb dX8_total_65 ?_
        refine lv_topi (fun y_22 e_22 => ?_)
        have hf23 := m_nm_s e_22 hf21
        clear hf21
        obtain ⟨g_24, hf25⟩ := m_gd_s hf23
        clear hf23
        refine m_ild C hP mM_1 0 rfl g_24 dX8_total_66 (fun y_24 e_24 => ?_)
        have hf26 := m_nm_s e_24 hf25
        clear hf25
        exact m_iret C hP hS dX8_total_67 hf26
      · have hf19 := m_ie c_17 hf9
        clear hf9
        by_cases c_27 : v1 = 3
        · have hf28 := m_it c_27 hf19
          clear hf19
          refine lv_tableIn (tgt := 56) hx hb dX8_total_1 (by rw [c_27]; decide) (by rw [c_27]; decide) (by rw [c_27]; rfl) (by decide) ?_
          refine lv_aload_n hx hb dX8_total_56 rfl (lv_at hl 0 rfl) ?_
          refine m_get C hP mM_0 rfl inX8 0 (by decide) wf_X8_7 rfl dX8_total_57 ?_
          refine lv_bipush (v := 10) hx hb dX8_total_60 (by decide) ?_
          refine lv_iload_n hx hb dX8_total_62 rfl (lv_at hl 1 rfl) ?_
          refine lv_iadd hx hb dX8_total_63 ?_
          refine lv_topi (fun y_30 e_30 => ?_)
          have hf31 := m_nm_s e_30 hf28
          clear hf28
          refine lv_iconst (v := 1) hx hb dX8_total_64 (by decide) ?_
          refine lv_isub hx hb dX8_total_65 ?_
          refine lv_topi (fun y_32 e_32 => ?_)
          have hf33 := m_nm_s e_32 hf31
          clear hf31
          obtain ⟨g_34, hf35⟩ := m_gd_s hf33
          clear hf33
          refine m_ild C hP mM_1 0 rfl g_34 dX8_total_66 (fun y_34 e_34 => ?_)
          have hf36 := m_nm_s e_34 hf35
          clear hf35
          exact m_iret C hP hS dX8_total_67 hf36
        · have hf29 := m_ie c_27 hf19
          clear hf19
          by_cases c_37 : v1 = 4
          · have hf38 := m_it c_37 hf29
            clear hf29
            refine lv_tableIn (tgt := 68) hx hb dX8_total_1 (by rw [c_37]; decide) (by rw [c_37]; decide) (by rw [c_37]; rfl) (by decide) ?_
            refine lv_aload_n hx hb dX8_total_68 rfl (lv_at hl 0 rfl) ?_
            refine m_get C hP mM_0 rfl inX8 0 (by decide) wf_X8_7 rfl dX8_total_69 ?_
            refine lv_bipush (v := 7) hx hb dX8_total_72 (by decide) ?_
            obtain ⟨g_40, hf41⟩ := m_gd_s hf38
            clear hf38
            refine m_ild C hP mM_1 0 rfl g_40 dX8_total_74 (fun y_40 e_40 => ?_)
            have hf42 := m_nm_s e_40 hf41
            clear hf41
            exact m_iret C hP hS dX8_total_75 hf42
          · have hf39 := m_ie c_37 hf29
            clear hf29
            by_cases c_43 : v1 = 5
            · have hf44 := m_it c_43 hf39
              clear hf39
              refine lv_tableIn (tgt := 76) hx hb dX8_total_1 (by rw [c_43]; decide) (by rw [c_43]; decide) (by rw [c_43]; rfl) (by decide) ?_
              refine lv_aload_n hx hb dX8_total_76 rfl (lv_at hl 0 rfl) ?_
              refine m_get C hP mM_0 rfl inX8 0 (by decide) wf_X8_7 rfl dX8_total_77 ?_
              refine lv_bipush (v := 13) hx hb dX8_total_80 (by decide) ?_
              refine lv_iload_n hx hb dX8_total_82 rfl (lv_at hl 1 rfl) ?_
              refine lv_iadd hx hb dX8_total_83 ?_
              refine lv_topi (fun y_46 e_46 => ?_)
              have hf47 := m_nm_s e_46 hf44
              clear hf44
              refine lv_iconst (v := 5) hx hb dX8_total_84 (by decide) ?_
              refine lv_isub hx hb dX8_total_85 ?_
              refine lv_topi (fun y_48 e_48 => ?_)
              have hf49 := m_nm_s e_48 hf47
              clear hf47
              obtain ⟨g_50, hf51⟩ := m_gd_s hf49
              clear hf49
              refine m_ild C hP mM_1 0 rfl g_50 dX8_total_86 (fun y_50 e_50 => ?_)
              have hf52 := m_nm_s e_50 hf51
              clear hf51
              exact m_iret C hP hS dX8_total_87 hf52
            · have hf45 := m_ie c_43 hf39
              clear hf39
              by_cases c_53 : v1 = 6
              · have hf54 := m_it c_53 hf45
                clear hf45
                refine lv_tableIn (tgt := 76) hx hb dX8_total_1 (by rw [c_53]; decide) (by rw [c_53]; decide) (by rw [c_53]; rfl) (by decide) ?_
                refine lv_aload_n hx hb dX8_total_76 rfl (lv_at hl 0 rfl) ?_
                refine m_get C hP mM_0 rfl inX8 0 (by decide) wf_X8_7 rfl dX8_total_77 ?_
                refine lv_bipush (v := 13) hx hb dX8_total_80 (by decide) ?_
                refine lv_iload_n hx hb dX8_total_82 rfl (lv_at hl 1 rfl) ?_
                refine lv_iadd hx hb dX8_total_83 ?_
                refine lv_topi (fun y_56 e_56 => ?_)
                have hf57 := m_nm_s e_56 hf54
                clear hf54
                refine lv_iconst (v := 5) hx hb dX8_total_84 (by decide) ?_
                refine lv_isub hx hb dX8_total_85 ?_
                refine lv_topi (fun y_58 e_58 => ?_)
                have hf59 := m_nm_s e_58 hf57
                clear hf57
                obtain ⟨g_60, hf61⟩ := m_gd_s hf59
                clear hf59
                refine m_ild C hP mM_1 0 rfl g_60 dX8_total_86 (fun y_60 e_60 => ?_)
                have hf62 := m_nm_s e_60 hf61
                clear hf61
                exact m_iret C hP hS dX8_total_87 hf62
              · have hf55 := m_ie c_53 hf45
                clear hf45
                by_cases c_63 : v1 = 7
                · have hf64 := m_it c_63 hf55
                  clear hf55
                  refine lv_tableIn (tgt := 76) hx hb dX8_total_1 (by rw [c_63]; decide) (by rw [c_63]; decide) (by rw [c_63]; rfl) (by decide) ?_
                  refine lv_aload_n hx hb dX8_total_76 rfl (lv_at hl 0 rfl) ?_
                  refine m_get C hP mM_0 rfl inX8 0 (by decide) wf_X8_7 rfl dX8_total_77 ?_
                  refine lv_bipush (v := 13) hx hb dX8_total_80 (by decide) ?_
                  refine lv_iload_n hx hb dX8_total_82 rfl (lv_at hl 1 rfl) ?_
                  refine lv_iadd hx hb dX8_total_83 ?_
                  refine lv_topi (fun y_66 e_66 => ?_)
                  have hf67 := m_nm_s e_66 hf64
                  clear hf64
                  refine lv_iconst (v := 5) hx hb dX8_total_84 (by decide) ?_
                  refine lv_isub hx hb dX8_total_85 ?_
                  refine lv_topi (fun y_68 e_68 => ?_)
                  have hf69 := m_nm_s e_68 hf67
                  clear hf67
                  obtain ⟨g_70, hf71⟩ := m_gd_s hf69
                  clear hf69
                  refine m_ild C hP mM_1 0 rfl g_70 dX8_total_86 (fun y_70 e_70 => ?_)
                  have hf72 := m_nm_s e_70 hf71
                  clear hf71
                  exact m_iret C hP hS dX8_total_87 hf72
                · have hf65 := m_ie c_63 hf55
                  clear hf55
                  have n_1 := lv_neT (a := 0) c_1 (by decide)
                  have n_7 := lv_neT (a := 1) c_7 (by decide)
                  have n_17 := lv_neT (a := 2) c_17 (by decide)
                  have n_27 := lv_neT (a := 3) c_27 (by decide)
                  have n_37 := lv_neT (a := 4) c_37 (by decide)
                  have n_43 := lv_neT (a := 5) c_43 (by decide)
                  have n_53 := lv_neT (a := 6) c_53 (by decide)
                  have n_63 := lv_neT (a := 7) c_63 (by decide)
                  refine lv_tableOut (tgt := 88) hx hb dX8_total_1 (by omega) (by decide) ?_
                  refine lv_bipush (v := (-2)) hx hb dX8_total_88 (by decide) ?_
                  exact m_iret C hP hS dX8_total_90 hf65
abbrev rm_X8_ticksFor : Room := { frames := 6, cells := 0, slots := 0, locals := 135 }
def f_X8_ticksFor_2 (N : Nat) : Nat → Int32 → Int32 → XT → Option (Int32 × XT)
  | 0, _, _, _ => none
  | n + 1, v1, v2, X => m_bi (f_X8_of N v1 3 X) fun r_1 X_1 => if 4 ≤ r_1 then (some (v2, X_1)) else (m_bi (f_X8_tickOnce N X_1) fun r_6 X_6 => m_nm (v2 + 1) fun y_8 => f_X8_ticksFor_2 N n v1 y_8 X_6)
set_option maxHeartbeats 4000000 in
set_option maxRecDepth 100000 in
theorem w_X8_ticksFor_2 (l : Launch) (D : va_G) (a : Nat → Nat) (cy : Nat → ClassId) (hG : m_inj 6 a) (N : Nat) {p : Program} {e : Env} {s : State} {m : MethodId} {args : Array Value} {below : List Frame} {meth : Method} {c : Code} (C : m_Cx p s m args meth c cX8_ticksFor 3 RX8 (some .int) (Cond.code yX8_ticksFor cX8_ticksFor 3 (some .int)) D (m_tc cy) (m_AM a) (m_WM a cy) m_ZM) {r0 : Int32} {X0 : XT} : ∀ (n : Nat) (v1 : Int32) (v2 : Int32) (X : XT), f_X8_ticksFor_2 N n v1 v2 X = some (r0, X0) → ∀ (H : Heap) (locs : List Loc) (ls : Array Slot), va_P D vwCl (m_WM a cy X) H → va_S (m_AM a) s.heap H locs → lv_has ls 3 [(0, .ref (a 0)), (1, .int v1), (2, .int v2)] → W p l e rm_X8_ticksFor s m args below meth c H locs 0 0 (MQ below (m_QI D (m_WM a cy) (m_AM a) r0 X0) args s 0 0 (m_AM a)) (F0 m 2 ls []) := by
  have hx := C.1.1
  have hb := C.1.2.1
  intro n
  induction n with
  | zero => intro v1 v2 X hf0; rw [f_X8_ticksFor_2] at hf0; cases hf0
  | succ n ih =>
    intro v1 v2 X hf0 H locs ls hP hS hl
    rw [f_X8_ticksFor_2] at hf0
    refine lv_aload_n hx hb dX8_ticksFor_2 rfl (lv_at hl 0 rfl) ?_
    refine lv_iload_n hx hb dX8_ticksFor_3 rfl (lv_at hl 1 rfl) ?_
    refine lv_iconst (v := 3) hx hb dX8_ticksFor_4 (by decide) ?_
    obtain ⟨r_1, X_1, h_1, hf2⟩ := m_bi_s hf0
    clear hf0
    refine m_callVi (q := (RX8, TX8, 13)) C [.int v1, .int 3] [] (c_X8_of l D a cy hG N _ _ _ h_1) (m_goodV wl_X8_40 wi_X8_of ws_X8_of wn_X8 wc_X8_of) ⟨rfl, rfl⟩ hv_X8_of ⟨Nat.le_of_ble_eq_true rfl, Nat.le_of_ble_eq_true rfl⟩ rfl mM_0 hP hS rfl hl.1 rfl (Nat.le_of_ble_eq_true rfl) dX8_ticksFor_5 (fun H locs hP hS => ?_)
    refine lv_iconst (v := 4) hx hb dX8_ticksFor_8 (by decide) ?_
    refine lv_icmp_ge (tgt := 23) hx hb dX8_ticksFor_9 (by decide) (fun c_3 => ?_) (fun c_3 => ?_)
    · have hf4 := m_it c_3 hf2
      clear hf2
      refine lv_iload_n hx hb dX8_ticksFor_23 rfl (lv_at hl 2 rfl) ?_
      exact m_iret C hP hS dX8_ticksFor_24 hf4
    · have hf5 := m_ie c_3 hf2
      clear hf2
      refine lv_aload_n hx hb dX8_ticksFor_12 rfl (lv_at hl 0 rfl) ?_
      obtain ⟨r_6, X_6, h_6, hf7⟩ := m_bi_s hf5
      clear hf5
      refine m_callVi (q := (RX8, TX8, 13)) C [] [] (c_X8_tickOnce l D a cy hG N _ h_6) (m_goodV wl_X8_85 wi_X8_tickOnce ws_X8_tickOnce wn_X8 wc_X8_tickOnce) ⟨rfl, rfl⟩ hv_X8_tickOnce ⟨Nat.le_of_ble_eq_true rfl, Nat.le_of_ble_eq_true rfl⟩ rfl mM_0 hP hS rfl hl.1 rfl (Nat.le_of_ble_eq_true rfl) dX8_ticksFor_13 (fun H locs hP hS => ?_)
      refine lv_pop hx hb dX8_ticksFor_16 rfl ?_
      obtain ⟨y_8, e_8⟩ : ∃ y : Int32, y = v2 + 1 := ⟨_, rfl⟩
      refine lv_iinc (v := y_8) (lv' := [(2, .int y_8), (0, .ref (a 0)), (1, .int v1)]) hx hb dX8_ticksFor_17 hl (k := 2) rfl (by rw [e_8]; rfl) (by decide) rfl (fun ls hl => ?_)
      have hf9 := m_nm_s e_8 hf7
      clear hf7
      refine lv_goto (tgt := 2) hx hb dX8_ticksFor_20 (by decide) ?_
      exact ih _ _ _ hf9 H locs ls hP hS (lv_sub hl [1, 2, 0] rfl)
def f_X8_ticksFor (N : Nat) (v1 : Int32) (X : XT) : Option (Int32 × XT) := f_X8_ticksFor_2 N N v1 0 X
set_option maxHeartbeats 4000000 in
set_option maxRecDepth 100000 in
theorem c_X8_ticksFor (l : Launch) (D : va_G) (a : Nat → Nat) (cy : Nat → ClassId) (hG : m_inj 6 a) (N : Nat) (v1 : Int32) (X : XT) {r0 : Int32} {X0 : XT} (hf0 : f_X8_ticksFor N v1 X = some (r0, X0)) : Met l yX8_ticksFor (Cond.code yX8_ticksFor cX8_ticksFor 3 (some .int) :: m_tbl) rm_X8_ticksFor (va_Pc [.ref (a 0), .int v1] (m_PX D (m_tc cy) (m_WM a cy) m_ZM X)) (m_QI D (m_WM a cy) (m_AM a) r0 X0) 0 0 (m_AM a) := by
  refine m_met (own := RX8) hy_X8_ticksFor rfl (Nat.le_of_ble_eq_true rfl) (m_wl_D hG _) m_ZM_keep ?_
  intro p e s m args below meth c C ls hl hP hS
  have hx := C.1.1
  have hb := C.1.2.1
  have hl : lv_has ls 3 [(0, .ref (a 0)), (1, .int v1)] := hl
  unfold f_X8_ticksFor at hf0
  suffices K : ∀ (H : Heap) (locs : List Loc), va_P D vwCl (m_WM a cy X) H → va_S (m_AM a) s.heap H locs → W p l e rm_X8_ticksFor s m args below meth c H locs 0 0 (MQ below (m_QI D (m_WM a cy) (m_AM a) r0 X0) args s 0 0 (m_AM a)) (F0 m 0 ls []) from K _ _ hP hS
  clear hP hS
  intro H locs hP hS
  refine lv_iconst (v := 0) hx hb dX8_ticksFor_0 (by decide) ?_
  refine lv_istore_n (lv' := [(2, .int 0), (0, .ref (a 0)), (1, .int v1)]) hx hb dX8_ticksFor_1 rfl hl (by decide) rfl (fun ls hl => ?_)
  exact w_X8_ticksFor_2 l D a cy hG N C _ _ _ _ hf0 H locs ls hP hS (lv_sub hl [1, 2, 0] rfl)
abbrev rm_X8_answeredIn : Room := { frames := 7, cells := 0, slots := 0, locals := 157 }
def f_X8_answeredIn (N : Nat) (v1 : Int32) (X : XT) : Option (Int32 × XT) := m_bi (f_X8_isClient N v1 X) fun r_1 X_1 => if r_1 = 0 then (some ((-1), X_1)) else (m_bi (f_X8_openOf N v1 X_1) fun r_6 X_6 => if r_6 = (-5) then (some ((-5), X_6)) else (m_bv (f_X8_putAside N X_6) fun X_11 => m_bi (f_X8_ticksFor N r_6 X_11) fun r_13 X_13 => m_bv (f_X8_takeBack N X_13) fun X_15 => some (r_13, X_15)))
set_option maxHeartbeats 4000000 in
set_option maxRecDepth 100000 in
theorem c_X8_answeredIn (l : Launch) (D : va_G) (a : Nat → Nat) (cy : Nat → ClassId) (hG : m_inj 6 a) (N : Nat) (v1 : Int32) (X : XT) {r0 : Int32} {X0 : XT} (hf0 : f_X8_answeredIn N v1 X = some (r0, X0)) : Met l yX8_answeredIn (Cond.code yX8_answeredIn cX8_answeredIn 4 (some .int) :: m_tbl) rm_X8_answeredIn (va_Pc [.ref (a 0), .int v1] (m_PX D (m_tc cy) (m_WM a cy) m_ZM X)) (m_QI D (m_WM a cy) (m_AM a) r0 X0) 0 0 (m_AM a) := by
  refine m_met (own := RX8) hy_X8_answeredIn rfl (Nat.le_of_ble_eq_true rfl) (m_wl_D hG _) m_ZM_keep ?_
  intro p e s m args below meth c C ls hl hP hS
  have hx := C.1.1
  have hb := C.1.2.1
  have hl : lv_has ls 4 [(0, .ref (a 0)), (1, .int v1)] := hl
  unfold f_X8_answeredIn at hf0
  suffices K : ∀ (H : Heap) (locs : List Loc), va_P D vwCl (m_WM a cy X) H → va_S (m_AM a) s.heap H locs → W p l e rm_X8_answeredIn s m args below meth c H locs 0 0 (MQ below (m_QI D (m_WM a cy) (m_AM a) r0 X0) args s 0 0 (m_AM a)) (F0 m 0 ls []) from K _ _ hP hS
  clear hP hS
  intro H locs hP hS
  refine lv_iload_n hx hb dX8_answeredIn_0 rfl (lv_at hl 1 rfl) ?_
  obtain ⟨r_1, X_1, h_1, hf2⟩ := m_bi_s hf0
  clear hf0
  refine m_callSi C [.int v1] [] (c_X8_isClient l D a cy hG N _ _ h_1) (m_goodS wl_X8_92 wst_X8_isClient wn_X8 wc_X8_isClient) ⟨rfl, rfl⟩ hv_X8_isClient ⟨Nat.le_of_ble_eq_true rfl, Nat.le_of_ble_eq_true rfl⟩ hP hS rfl hl.1 rfl (Nat.le_of_ble_eq_true rfl) dX8_answeredIn_1 (fun H locs hP hS => ?_)
  refine lv_if_ne (tgt := 9) hx hb dX8_answeredIn_4 (by decide) (fun c_3 => ?_) (fun c_3 => ?_)
  · have hf4 := m_ie c_3 hf2
    clear hf2
    refine lv_aload_n hx hb dX8_answeredIn_9 rfl (lv_at hl 0 rfl) ?_
    refine lv_iload_n hx hb dX8_answeredIn_10 rfl (lv_at hl 1 rfl) ?_
    obtain ⟨r_6, X_6, h_6, hf7⟩ := m_bi_s hf4
    clear hf4
    refine m_callVi (q := (RX8, TX8, 13)) C [.int v1] [] (c_X8_openOf l D a cy hG N _ _ h_6) (m_goodV wl_X8_96 wi_X8_openOf ws_X8_openOf wn_X8 wc_X8_openOf) ⟨rfl, rfl⟩ hv_X8_openOf ⟨Nat.le_of_ble_eq_true rfl, Nat.le_of_ble_eq_true rfl⟩ rfl mM_0 hP hS rfl hl.1 rfl (Nat.le_of_ble_eq_true rfl) dX8_answeredIn_11 (fun H locs hP hS => ?_)
    refine lv_istore_n (lv' := [(2, .int r_6), (0, .ref (a 0)), (1, .int v1)]) hx hb dX8_answeredIn_14 rfl hl (by decide) rfl (fun ls hl => ?_)
    refine lv_iload_n hx hb dX8_answeredIn_15 rfl (lv_at hl 0 rfl) ?_
    refine lv_bipush (v := (-5)) hx hb dX8_answeredIn_16 (by decide) ?_
    refine lv_icmp_ne (tgt := 24) hx hb dX8_answeredIn_18 (by decide) (fun c_8 => ?_) (fun c_8 => ?_)
    · have hf9 := m_ie c_8 hf7
      clear hf7
      refine lv_aload_n hx hb dX8_answeredIn_24 rfl (lv_at hl 1 rfl) ?_
      obtain ⟨X_11, h_11, hf12⟩ := m_bv_s hf9
      clear hf9
      refine m_callVv (q := (RX8, TX8, 13)) C [] [] (c_X8_putAside l D a cy hG N _ h_11) (m_goodV wl_X8_182 wi_X8_putAside ws_X8_putAside wn_X8 wc_X8_putAside) ⟨rfl, rfl⟩ hv_X8_putAside ⟨Nat.le_of_ble_eq_true rfl, Nat.le_of_ble_eq_true rfl⟩ rfl mM_0 hP hS rfl hl.1 rfl (Nat.le_of_ble_eq_true rfl) dX8_answeredIn_25 (fun H locs hP hS => ?_)
      refine lv_aload_n hx hb dX8_answeredIn_28 rfl (lv_at hl 1 rfl) ?_
      refine lv_iload_n hx hb dX8_answeredIn_29 rfl (lv_at hl 0 rfl) ?_
      obtain ⟨r_13, X_13, h_13, hf14⟩ := m_bi_s hf12
      clear hf12
      refine m_callVi (q := (RX8, TX8, 13)) C [.int r_6] [] (c_X8_ticksFor l D a cy hG N _ _ h_13) (m_goodV wl_X8_185 wi_X8_ticksFor ws_X8_ticksFor wn_X8 wc_X8_ticksFor) ⟨rfl, rfl⟩ hv_X8_ticksFor ⟨Nat.le_of_ble_eq_true rfl, Nat.le_of_ble_eq_true rfl⟩ rfl mM_0 hP hS rfl hl.1 rfl (Nat.le_of_ble_eq_true rfl) dX8_answeredIn_30 (fun H locs hP hS => ?_)
      refine lv_istore_n (lv' := [(3, .int r_13), (2, .int r_6), (0, .ref (a 0)), (1, .int v1)]) hx hb dX8_answeredIn_33 rfl hl (by decide) rfl (fun ls hl => ?_)
      refine lv_aload_n hx hb dX8_answeredIn_34 rfl (lv_at hl 2 rfl) ?_
      obtain ⟨X_15, h_15, hf16⟩ := m_bv_s hf14
      clear hf14
      refine m_callVv (q := (RX8, TX8, 13)) C [] [] (c_X8_takeBack l D a cy hG N _ h_15) (m_goodV wl_X8_188 wi_X8_takeBack ws_X8_takeBack wn_X8 wc_X8_takeBack) ⟨rfl, rfl⟩ hv_X8_takeBack ⟨Nat.le_of_ble_eq_true rfl, Nat.le_of_ble_eq_true rfl⟩ rfl mM_0 hP hS rfl hl.1 rfl (Nat.le_of_ble_eq_true rfl) dX8_answeredIn_35 (fun H locs hP hS => ?_)
      refine lv_iload_n hx hb dX8_answeredIn_38 rfl (lv_at hl 0 rfl) ?_
      exact m_iret C hP hS dX8_answeredIn_39 hf16
    · have hf10 := m_it c_8 hf7
      clear hf7
      refine lv_bipush (v := (-5)) hx hb dX8_answeredIn_21 (by decide) ?_
      exact m_iret C hP hS dX8_answeredIn_23 hf10
  · have hf5 := m_it c_3 hf2
    clear hf2
    refine lv_iconst (v := (-1)) hx hb dX8_answeredIn_7 (by decide) ?_
    exact m_iret C hP hS dX8_answeredIn_8 hf5
abbrev rm_X8_lowestFree : Room := { frames := 2, cells := 0, slots := 0, locals := 44 }
def f_X8_lowestFree_2 (N : Nat) : Nat → Int32 → XT → Option (Int32 × XT)
  | 0, _, _ => none
  | n + 1, v1, X => if 12 ≤ v1 then (some ((-5), X)) else (m_bi (f_X8_openOf N v1 X) fun r_4 X_4 => if r_4 = (-5) then (some (v1, X_4)) else (m_nm (v1 + 1) fun y_9 => f_X8_lowestFree_2 N n y_9 X_4))
set_option maxHeartbeats 4000000 in
set_option maxRecDepth 100000 in
theorem w_X8_lowestFree_2 (l : Launch) (D : va_G) (a : Nat → Nat) (cy : Nat → ClassId) (hG : m_inj 6 a) (N : Nat) {p : Program} {e : Env} {s : State} {m : MethodId} {args : Array Value} {below : List Frame} {meth : Method} {c : Code} (C : m_Cx p s m args meth c cX8_lowestFree 2 RX8 (some .int) (Cond.code yX8_lowestFree cX8_lowestFree 2 (some .int)) D (m_tc cy) (m_AM a) (m_WM a cy) m_ZM) {r0 : Int32} {X0 : XT} : ∀ (n : Nat) (v1 : Int32) (X : XT), f_X8_lowestFree_2 N n v1 X = some (r0, X0) → ∀ (H : Heap) (locs : List Loc) (ls : Array Slot), va_P D vwCl (m_WM a cy X) H → va_S (m_AM a) s.heap H locs → lv_has ls 2 [(0, .ref (a 0)), (1, .int v1)] → W p l e rm_X8_lowestFree s m args below meth c H locs 0 0 (MQ below (m_QI D (m_WM a cy) (m_AM a) r0 X0) args s 0 0 (m_AM a)) (F0 m 2 ls []) := by
  have hx := C.1.1
  have hb := C.1.2.1
  intro n
  induction n with
  | zero => intro v1 X hf0; rw [f_X8_lowestFree_2] at hf0; cases hf0
  | succ n ih =>
    intro v1 X hf0 H locs ls hP hS hl
    rw [f_X8_lowestFree_2] at hf0
    refine lv_iload_n hx hb dX8_lowestFree_2 rfl (lv_at hl 1 rfl) ?_
    refine lv_bipush (v := 12) hx hb dX8_lowestFree_3 (by decide) ?_
    refine lv_icmp_ge (tgt := 26) hx hb dX8_lowestFree_5 (by decide) (fun c_1 => ?_) (fun c_1 => ?_)
    · have hf2 := m_it c_1 hf0
      clear hf0
      refine lv_bipush (v := (-5)) hx hb dX8_lowestFree_26 (by decide) ?_
      exact m_iret C hP hS dX8_lowestFree_28 hf2
    · have hf3 := m_ie c_1 hf0
      clear hf0
      refine lv_aload_n hx hb dX8_lowestFree_8 rfl (lv_at hl 0 rfl) ?_
      refine lv_iload_n hx hb dX8_lowestFree_9 rfl (lv_at hl 1 rfl) ?_
      obtain ⟨r_4, X_4, h_4, hf5⟩ := m_bi_s hf3
      clear hf3
      refine m_callVi (q := (RX8, TX8, 13)) C [.int v1] [] (c_X8_openOf l D a cy hG N _ _ h_4) (m_goodV wl_X8_96 wi_X8_openOf ws_X8_openOf wn_X8 wc_X8_openOf) ⟨rfl, rfl⟩ hv_X8_openOf ⟨Nat.le_of_ble_eq_true rfl, Nat.le_of_ble_eq_true rfl⟩ rfl mM_0 hP hS rfl hl.1 rfl (Nat.le_of_ble_eq_true rfl) dX8_lowestFree_10 (fun H locs hP hS => ?_)
      refine lv_bipush (v := (-5)) hx hb dX8_lowestFree_13 (by decide) ?_
      refine lv_icmp_ne (tgt := 20) hx hb dX8_lowestFree_15 (by decide) (fun c_6 => ?_) (fun c_6 => ?_)
      · have hf7 := m_ie c_6 hf5
        clear hf5
        obtain ⟨y_9, e_9⟩ : ∃ y : Int32, y = v1 + 1 := ⟨_, rfl⟩
        refine lv_iinc (v := y_9) (lv' := [(1, .int y_9), (0, .ref (a 0))]) hx hb dX8_lowestFree_20 hl (k := 1) rfl (by rw [e_9]; rfl) (by decide) rfl (fun ls hl => ?_)
        have hf10 := m_nm_s e_9 hf7
        clear hf7
        refine lv_goto (tgt := 2) hx hb dX8_lowestFree_23 (by decide) ?_
        exact ih _ _ hf10 H locs ls hP hS (lv_sub hl [1, 0] rfl)
      · have hf8 := m_it c_6 hf5
        clear hf5
        refine lv_iload_n hx hb dX8_lowestFree_18 rfl (lv_at hl 1 rfl) ?_
        exact m_iret C hP hS dX8_lowestFree_19 hf8
def f_X8_lowestFree (N : Nat) (X : XT) : Option (Int32 × XT) := f_X8_lowestFree_2 N N 0 X
set_option maxHeartbeats 4000000 in
set_option maxRecDepth 100000 in
theorem c_X8_lowestFree (l : Launch) (D : va_G) (a : Nat → Nat) (cy : Nat → ClassId) (hG : m_inj 6 a) (N : Nat) (X : XT) {r0 : Int32} {X0 : XT} (hf0 : f_X8_lowestFree N X = some (r0, X0)) : Met l yX8_lowestFree (Cond.code yX8_lowestFree cX8_lowestFree 2 (some .int) :: m_tbl) rm_X8_lowestFree (va_Pc [.ref (a 0)] (m_PX D (m_tc cy) (m_WM a cy) m_ZM X)) (m_QI D (m_WM a cy) (m_AM a) r0 X0) 0 0 (m_AM a) := by
  refine m_met (own := RX8) hy_X8_lowestFree rfl (Nat.le_of_ble_eq_true rfl) (m_wl_D hG _) m_ZM_keep ?_
  intro p e s m args below meth c C ls hl hP hS
  have hx := C.1.1
  have hb := C.1.2.1
  have hl : lv_has ls 2 [(0, .ref (a 0))] := hl
  unfold f_X8_lowestFree at hf0
  suffices K : ∀ (H : Heap) (locs : List Loc), va_P D vwCl (m_WM a cy X) H → va_S (m_AM a) s.heap H locs → W p l e rm_X8_lowestFree s m args below meth c H locs 0 0 (MQ below (m_QI D (m_WM a cy) (m_AM a) r0 X0) args s 0 0 (m_AM a)) (F0 m 0 ls []) from K _ _ hP hS
  clear hP hS
  intro H locs hP hS
  refine lv_iconst (v := 0) hx hb dX8_lowestFree_0 (by decide) ?_
  refine lv_istore_n (lv' := [(1, .int 0), (0, .ref (a 0))]) hx hb dX8_lowestFree_1 rfl hl (by decide) rfl (fun ls hl => ?_)
  exact w_X8_lowestFree_2 l D a cy hG N C _ _ _ hf0 H locs ls hP hS (lv_sub hl [1, 0] rfl)
abbrev rm_X8_ifSubmitted : Room := { frames := 7, cells := 0, slots := 0, locals := 157 }
def f_X8_ifSubmitted (N : Nat) (v1 : Int32) (v2 : Int32) (X : XT) : Option (Int32 × XT) := m_bi (f_X8_within N v1 1 8 X) fun r_1 X_1 => if r_1 = 0 then (some ((-2), X_1)) else (m_gd (m_in 6 1816) <| m_nm (X_1 1 (Int32.toNatClampNeg 6)) fun y_6 => if y_6 = 150 then (some ((-3), X_1)) else (m_bi (f_X8_lowestFree N X_1) fun r_12 X_12 => if r_12 = (-5) then (some ((-4), X_12)) else (m_bv (f_X8_putAside N X_12) fun X_17 => m_bi (f_X8_doesSubmit N r_12 v1 v2 X_17) fun r_19 X_19 => m_bi (f_X8_ticksFor N r_19 X_19) fun r_21 X_21 => m_bv (f_X8_takeBack N X_21) fun X_23 => some (r_21, X_23))))
set_option maxHeartbeats 4000000 in
set_option maxRecDepth 100000 in
theorem c_X8_ifSubmitted (l : Launch) (D : va_G) (a : Nat → Nat) (cy : Nat → ClassId) (hG : m_inj 6 a) (N : Nat) (v1 : Int32) (v2 : Int32) (X : XT) {r0 : Int32} {X0 : XT} (hf0 : f_X8_ifSubmitted N v1 v2 X = some (r0, X0)) : Met l yX8_ifSubmitted (Cond.code yX8_ifSubmitted cX8_ifSubmitted 5 (some .int) :: m_tbl) rm_X8_ifSubmitted (va_Pc [.ref (a 0), .int v1, .int v2] (m_PX D (m_tc cy) (m_WM a cy) m_ZM X)) (m_QI D (m_WM a cy) (m_AM a) r0 X0) 0 0 (m_AM a) := by
  refine m_met (own := RX8) hy_X8_ifSubmitted rfl (Nat.le_of_ble_eq_true rfl) (m_wl_D hG _) m_ZM_keep ?_
  intro p e s m args below meth c C ls hl hP hS
  have hx := C.1.1
  have hb := C.1.2.1
  have hl : lv_has ls 5 [(0, .ref (a 0)), (1, .int v1), (2, .int v2)] := hl
  unfold f_X8_ifSubmitted at hf0
  suffices K : ∀ (H : Heap) (locs : List Loc), va_P D vwCl (m_WM a cy X) H → va_S (m_AM a) s.heap H locs → W p l e rm_X8_ifSubmitted s m args below meth c H locs 0 0 (MQ below (m_QI D (m_WM a cy) (m_AM a) r0 X0) args s 0 0 (m_AM a)) (F0 m 0 ls []) from K _ _ hP hS
  clear hP hS
  intro H locs hP hS
  refine lv_iload_n hx hb dX8_ifSubmitted_0 rfl (lv_at hl 1 rfl) ?_
  refine lv_iconst (v := 1) hx hb dX8_ifSubmitted_1 (by decide) ?_
  refine lv_bipush (v := 8) hx hb dX8_ifSubmitted_2 (by decide) ?_
  obtain ⟨r_1, X_1, h_1, hf2⟩ := m_bi_s hf0
  clear hf0
  refine m_callSi C [.int v1, .int 1, .int 8] [] (c_X8_within l D a cy hG N _ _ _ _ h_1) (m_goodS wl_X8_25 wst_X8_within wn_X8 wc_X8_within) ⟨rfl, rfl⟩ hv_X8_within ⟨Nat.le_of_ble_eq_true rfl, Nat.le_of_ble_eq_true rfl⟩ hP hS rfl hl.1 rfl (Nat.le_of_ble_eq_true rfl) dX8_ifSubmitted_4 (fun H locs hP hS => ?_)
  refine lv_if_ne (tgt := 13) hx hb dX8_ifSubmitted_7 (by decide) (fun c_3 => ?_) (fun c_3 => ?_)
  · have hf4 := m_ie c_3 hf2
    clear hf2
    refine lv_aload_n hx hb dX8_ifSubmitted_13 rfl (lv_at hl 0 rfl) ?_
    refine m_get C hP mM_0 rfl inX8 0 (by decide) wf_X8_7 rfl dX8_ifSubmitted_14 ?_
    refine lv_bipush (v := 6) hx hb dX8_ifSubmitted_17 (by decide) ?_
    obtain ⟨g_6, hf7⟩ := m_gd_s hf4
    clear hf4
    refine m_ild C hP mM_1 0 rfl g_6 dX8_ifSubmitted_19 (fun y_6 e_6 => ?_)
    have hf8 := m_nm_s e_6 hf7
    clear hf7
    refine lv_sipush (v := 150) hx hb dX8_ifSubmitted_20 (by decide) ?_
    refine lv_icmp_ne (tgt := 29) hx hb dX8_ifSubmitted_23 (by decide) (fun c_9 => ?_) (fun c_9 => ?_)
    · have hf10 := m_ie c_9 hf8
      clear hf8
      refine lv_aload_n hx hb dX8_ifSubmitted_29 rfl (lv_at hl 0 rfl) ?_
      obtain ⟨r_12, X_12, h_12, hf13⟩ := m_bi_s hf10
      clear hf10
      refine m_callVi (q := (RX8, TX8, 13)) C [] [] (c_X8_lowestFree l D a cy hG N _ h_12) (m_goodV wl_X8_191 wi_X8_lowestFree ws_X8_lowestFree wn_X8 wc_X8_lowestFree) ⟨rfl, rfl⟩ hv_X8_lowestFree ⟨Nat.le_of_ble_eq_true rfl, Nat.le_of_ble_eq_true rfl⟩ rfl mM_0 hP hS rfl hl.1 rfl (Nat.le_of_ble_eq_true rfl) dX8_ifSubmitted_30 (fun H locs hP hS => ?_)
      refine lv_istore_n (lv' := [(3, .int r_12), (0, .ref (a 0)), (1, .int v1), (2, .int v2)]) hx hb dX8_ifSubmitted_33 rfl hl (by decide) rfl (fun ls hl => ?_)
      refine lv_iload_n hx hb dX8_ifSubmitted_34 rfl (lv_at hl 0 rfl) ?_
      refine lv_bipush (v := (-5)) hx hb dX8_ifSubmitted_35 (by decide) ?_
      refine lv_icmp_ne (tgt := 43) hx hb dX8_ifSubmitted_37 (by decide) (fun c_14 => ?_) (fun c_14 => ?_)
      · have hf15 := m_ie c_14 hf13
        clear hf13
        refine lv_aload_n hx hb dX8_ifSubmitted_43 rfl (lv_at hl 1 rfl) ?_
        obtain ⟨X_17, h_17, hf18⟩ := m_bv_s hf15
        clear hf15
        refine m_callVv (q := (RX8, TX8, 13)) C [] [] (c_X8_putAside l D a cy hG N _ h_17) (m_goodV wl_X8_182 wi_X8_putAside ws_X8_putAside wn_X8 wc_X8_putAside) ⟨rfl, rfl⟩ hv_X8_putAside ⟨Nat.le_of_ble_eq_true rfl, Nat.le_of_ble_eq_true rfl⟩ rfl mM_0 hP hS rfl hl.1 rfl (Nat.le_of_ble_eq_true rfl) dX8_ifSubmitted_44 (fun H locs hP hS => ?_)
        refine lv_aload_n hx hb dX8_ifSubmitted_47 rfl (lv_at hl 1 rfl) ?_
        refine lv_aload_n hx hb dX8_ifSubmitted_48 rfl (lv_at hl 1 rfl) ?_
        refine lv_iload_n hx hb dX8_ifSubmitted_49 rfl (lv_at hl 0 rfl) ?_
        refine lv_iload_n hx hb dX8_ifSubmitted_50 rfl (lv_at hl 2 rfl) ?_
        refine lv_iload_n hx hb dX8_ifSubmitted_51 rfl (lv_at hl 3 rfl) ?_
        obtain ⟨r_19, X_19, h_19, hf20⟩ := m_bi_s hf18
        clear hf18
        refine m_callVi (q := (RX8, TX8, 13)) C [.int r_12, .int v1, .int v2] [.ref (a 0)] (c_X8_doesSubmit l D a cy hG N _ _ _ _ h_19) (m_goodV wl_X8_109 wi_X8_doesSubmit ws_X8_doesSubmit wn_X8 wc_X8_doesSubmit) ⟨rfl, rfl⟩ hv_X8_doesSubmit ⟨Nat.le_of_ble_eq_true rfl, Nat.le_of_ble_eq_true rfl⟩ rfl mM_0 hP hS rfl hl.1 rfl (Nat.le_of_ble_eq_true rfl) dX8_ifSubmitted_52 (fun H locs hP hS => ?_)
        obtain ⟨r_21, X_21, h_21, hf22⟩ := m_bi_s hf20
        clear hf20
        refine m_callVi (q := (RX8, TX8, 13)) C [.int r_19] [] (c_X8_ticksFor l D a cy hG N _ _ h_21) (m_goodV wl_X8_185 wi_X8_ticksFor ws_X8_ticksFor wn_X8 wc_X8_ticksFor) ⟨rfl, rfl⟩ hv_X8_ticksFor ⟨Nat.le_of_ble_eq_true rfl, Nat.le_of_ble_eq_true rfl⟩ rfl mM_0 hP hS rfl hl.1 rfl (Nat.le_of_ble_eq_true rfl) dX8_ifSubmitted_55 (fun H locs hP hS => ?_)
        refine lv_istore (lv' := [(4, .int r_21), (3, .int r_12), (0, .ref (a 0)), (1, .int v1), (2, .int v2)]) hx hb dX8_ifSubmitted_58 hl (by decide) rfl (fun ls hl => ?_)
        refine lv_aload_n hx hb dX8_ifSubmitted_60 rfl (lv_at hl 2 rfl) ?_
        obtain ⟨X_23, h_23, hf24⟩ := m_bv_s hf22
        clear hf22
        refine m_callVv (q := (RX8, TX8, 13)) C [] [] (c_X8_takeBack l D a cy hG N _ h_23) (m_goodV wl_X8_188 wi_X8_takeBack ws_X8_takeBack wn_X8 wc_X8_takeBack) ⟨rfl, rfl⟩ hv_X8_takeBack ⟨Nat.le_of_ble_eq_true rfl, Nat.le_of_ble_eq_true rfl⟩ rfl mM_0 hP hS rfl hl.1 rfl (Nat.le_of_ble_eq_true rfl) dX8_ifSubmitted_61 (fun H locs hP hS => ?_)
        refine lv_iload hx hb dX8_ifSubmitted_64 (lv_at hl 0 rfl) ?_
        exact m_iret C hP hS dX8_ifSubmitted_66 hf24
      · have hf16 := m_it c_14 hf13
        clear hf13
        refine lv_bipush (v := (-4)) hx hb dX8_ifSubmitted_40 (by decide) ?_
        exact m_iret C hP hS dX8_ifSubmitted_42 hf16
    · have hf11 := m_it c_9 hf8
      clear hf8
      refine lv_bipush (v := (-3)) hx hb dX8_ifSubmitted_26 (by decide) ?_
      exact m_iret C hP hS dX8_ifSubmitted_28 hf11
  · have hf5 := m_it c_3 hf2
    clear hf2
    refine lv_bipush (v := (-2)) hx hb dX8_ifSubmitted_10 (by decide) ?_
    exact m_iret C hP hS dX8_ifSubmitted_12 hf5
abbrev rm_X8_idleIn : Room := { frames := 6, cells := 0, slots := 0, locals := 135 }
def f_X8_idleIn_24 (N : Nat) (v1 : Int32) (X : XT) : Option (Int32 × XT) := m_bv (f_X8_takeBack N X) fun X_8 => some (v1, X_8)
set_option maxHeartbeats 4000000 in
set_option maxRecDepth 100000 in
theorem w_X8_idleIn_24 (l : Launch) (D : va_G) (a : Nat → Nat) (cy : Nat → ClassId) (hG : m_inj 6 a) (N : Nat) {p : Program} {e : Env} {s : State} {m : MethodId} {args : Array Value} {below : List Frame} {meth : Method} {c : Code} (C : m_Cx p s m args meth c cX8_idleIn 2 RX8 (some .int) (Cond.code yX8_idleIn cX8_idleIn 2 (some .int)) D (m_tc cy) (m_AM a) (m_WM a cy) m_ZM) {r0 : Int32} {X0 : XT} (v1 : Int32) (X : XT) (hf0 : f_X8_idleIn_24 N v1 X = some (r0, X0)) : ∀ (H : Heap) (locs : List Loc) (ls : Array Slot), va_P D vwCl (m_WM a cy X) H → va_S (m_AM a) s.heap H locs → lv_has ls 2 [(0, .ref (a 0)), (1, .int v1)] → W p l e rm_X8_idleIn s m args below meth c H locs 0 0 (MQ below (m_QI D (m_WM a cy) (m_AM a) r0 X0) args s 0 0 (m_AM a)) (F0 m 24 ls []) := by
  have hx := C.1.1
  have hb := C.1.2.1
  intro H locs ls hP hS hl
  unfold f_X8_idleIn_24 at hf0
  refine lv_aload_n hx hb dX8_idleIn_24 rfl (lv_at hl 0 rfl) ?_
  obtain ⟨X_8, h_8, hf9⟩ := m_bv_s hf0
  clear hf0
  refine m_callVv (q := (RX8, TX8, 13)) C [] [] (c_X8_takeBack l D a cy hG N _ h_8) (m_goodV wl_X8_188 wi_X8_takeBack ws_X8_takeBack wn_X8 wc_X8_takeBack) ⟨rfl, rfl⟩ hv_X8_takeBack ⟨Nat.le_of_ble_eq_true rfl, Nat.le_of_ble_eq_true rfl⟩ rfl mM_0 hP hS rfl hl.1 rfl (Nat.le_of_ble_eq_true rfl) dX8_idleIn_25 (fun H locs hP hS => ?_)
  refine lv_iload_n hx hb dX8_idleIn_28 rfl (lv_at hl 1 rfl) ?_
  exact m_iret C hP hS dX8_idleIn_29 hf9
def f_X8_idleIn_6 (N : Nat) : Nat → Int32 → XT → Option (Int32 × XT)
  | 0, _, _ => none
  | n + 1, v1, X => m_bi (f_X8_busyMany N X) fun r_3 X_3 => if r_3 ≤ 0 then (f_X8_idleIn_24 N v1 X_3) else (m_bi (f_X8_tickOnce N X_3) fun r_10 X_10 => m_nm (v1 + 1) fun y_12 => f_X8_idleIn_6 N n y_12 X_10)
set_option maxHeartbeats 4000000 in
set_option maxRecDepth 100000 in
theorem w_X8_idleIn_6 (l : Launch) (D : va_G) (a : Nat → Nat) (cy : Nat → ClassId) (hG : m_inj 6 a) (N : Nat) {p : Program} {e : Env} {s : State} {m : MethodId} {args : Array Value} {below : List Frame} {meth : Method} {c : Code} (C : m_Cx p s m args meth c cX8_idleIn 2 RX8 (some .int) (Cond.code yX8_idleIn cX8_idleIn 2 (some .int)) D (m_tc cy) (m_AM a) (m_WM a cy) m_ZM) {r0 : Int32} {X0 : XT} : ∀ (n : Nat) (v1 : Int32) (X : XT), f_X8_idleIn_6 N n v1 X = some (r0, X0) → ∀ (H : Heap) (locs : List Loc) (ls : Array Slot), va_P D vwCl (m_WM a cy X) H → va_S (m_AM a) s.heap H locs → lv_has ls 2 [(0, .ref (a 0)), (1, .int v1)] → W p l e rm_X8_idleIn s m args below meth c H locs 0 0 (MQ below (m_QI D (m_WM a cy) (m_AM a) r0 X0) args s 0 0 (m_AM a)) (F0 m 6 ls []) := by
  have hx := C.1.1
  have hb := C.1.2.1
  intro n
  induction n with
  | zero => intro v1 X hf0; rw [f_X8_idleIn_6] at hf0; cases hf0
  | succ n ih =>
    intro v1 X hf0 H locs ls hP hS hl
    rw [f_X8_idleIn_6] at hf0
    refine lv_aload_n hx hb dX8_idleIn_6 rfl (lv_at hl 0 rfl) ?_
    obtain ⟨r_3, X_3, h_3, hf4⟩ := m_bi_s hf0
    clear hf0
    refine m_callVi (q := (RX8, TX8, 13)) C [] [] (c_X8_busyMany l D a cy hG N _ h_3) (m_goodV wl_X8_179 wi_X8_busyMany ws_X8_busyMany wn_X8 wc_X8_busyMany) ⟨rfl, rfl⟩ hv_X8_busyMany ⟨Nat.le_of_ble_eq_true rfl, Nat.le_of_ble_eq_true rfl⟩ rfl mM_0 hP hS rfl hl.1 rfl (Nat.le_of_ble_eq_true rfl) dX8_idleIn_7 (fun H locs hP hS => ?_)
    refine lv_if_le (tgt := 24) hx hb dX8_idleIn_10 (by decide) (fun c_5 => ?_) (fun c_5 => ?_)
    · have hf6 := m_it c_5 hf4
      clear hf4
      exact w_X8_idleIn_24 l D a cy hG N C _ _ hf6 H locs ls hP hS (lv_sub hl [0, 1] rfl)
    · have hf7 := m_ie c_5 hf4
      clear hf4
      refine lv_aload_n hx hb dX8_idleIn_13 rfl (lv_at hl 0 rfl) ?_
      obtain ⟨r_10, X_10, h_10, hf11⟩ := m_bi_s hf7
      clear hf7
      refine m_callVi (q := (RX8, TX8, 13)) C [] [] (c_X8_tickOnce l D a cy hG N _ h_10) (m_goodV wl_X8_85 wi_X8_tickOnce ws_X8_tickOnce wn_X8 wc_X8_tickOnce) ⟨rfl, rfl⟩ hv_X8_tickOnce ⟨Nat.le_of_ble_eq_true rfl, Nat.le_of_ble_eq_true rfl⟩ rfl mM_0 hP hS rfl hl.1 rfl (Nat.le_of_ble_eq_true rfl) dX8_idleIn_14 (fun H locs hP hS => ?_)
      refine lv_pop hx hb dX8_idleIn_17 rfl ?_
      obtain ⟨y_12, e_12⟩ : ∃ y : Int32, y = v1 + 1 := ⟨_, rfl⟩
      refine lv_iinc (v := y_12) (lv' := [(1, .int y_12), (0, .ref (a 0))]) hx hb dX8_idleIn_18 hl (k := 1) rfl (by rw [e_12]; rfl) (by decide) rfl (fun ls hl => ?_)
      have hf13 := m_nm_s e_12 hf11
      clear hf11
      refine lv_goto (tgt := 6) hx hb dX8_idleIn_21 (by decide) ?_
      exact ih _ _ hf13 H locs ls hP hS (lv_sub hl [1, 0] rfl)
def f_X8_idleIn (N : Nat) (X : XT) : Option (Int32 × XT) := m_bv (f_X8_putAside N X) fun X_1 => f_X8_idleIn_6 N N 0 X_1
set_option maxHeartbeats 4000000 in
set_option maxRecDepth 100000 in
theorem c_X8_idleIn (l : Launch) (D : va_G) (a : Nat → Nat) (cy : Nat → ClassId) (hG : m_inj 6 a) (N : Nat) (X : XT) {r0 : Int32} {X0 : XT} (hf0 : f_X8_idleIn N X = some (r0, X0)) : Met l yX8_idleIn (Cond.code yX8_idleIn cX8_idleIn 2 (some .int) :: m_tbl) rm_X8_idleIn (va_Pc [.ref (a 0)] (m_PX D (m_tc cy) (m_WM a cy) m_ZM X)) (m_QI D (m_WM a cy) (m_AM a) r0 X0) 0 0 (m_AM a) := by
  refine m_met (own := RX8) hy_X8_idleIn rfl (Nat.le_of_ble_eq_true rfl) (m_wl_D hG _) m_ZM_keep ?_
  intro p e s m args below meth c C ls hl hP hS
  have hx := C.1.1
  have hb := C.1.2.1
  have hl : lv_has ls 2 [(0, .ref (a 0))] := hl
  unfold f_X8_idleIn at hf0
  suffices K : ∀ (H : Heap) (locs : List Loc), va_P D vwCl (m_WM a cy X) H → va_S (m_AM a) s.heap H locs → W p l e rm_X8_idleIn s m args below meth c H locs 0 0 (MQ below (m_QI D (m_WM a cy) (m_AM a) r0 X0) args s 0 0 (m_AM a)) (F0 m 0 ls []) from K _ _ hP hS
  clear hP hS
  intro H locs hP hS
  refine lv_aload_n hx hb dX8_idleIn_0 rfl (lv_at hl 0 rfl) ?_
  obtain ⟨X_1, h_1, hf2⟩ := m_bv_s hf0
  clear hf0
  refine m_callVv (q := (RX8, TX8, 13)) C [] [] (c_X8_putAside l D a cy hG N _ h_1) (m_goodV wl_X8_182 wi_X8_putAside ws_X8_putAside wn_X8 wc_X8_putAside) ⟨rfl, rfl⟩ hv_X8_putAside ⟨Nat.le_of_ble_eq_true rfl, Nat.le_of_ble_eq_true rfl⟩ rfl mM_0 hP hS rfl hl.1 rfl (Nat.le_of_ble_eq_true rfl) dX8_idleIn_1 (fun H locs hP hS => ?_)
  refine lv_iconst (v := 0) hx hb dX8_idleIn_4 (by decide) ?_
  refine lv_istore_n (lv' := [(1, .int 0), (0, .ref (a 0))]) hx hb dX8_idleIn_5 rfl hl (by decide) rfl (fun ls hl => ?_)
  exact w_X8_idleIn_6 l D a cy hG N C _ _ _ hf2 H locs ls hP hS (lv_sub hl [1, 0] rfl)
