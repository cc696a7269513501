-- written by wip/gen/gen.py
abbrev rm_X5_add : Room := { frames := 0, cells := 0, slots := 0, locals := 0 }
def f_X5_add (N : Nat) (v1 : Int32) (X : XT) : Option (Int32 × XT) := if v1 < 32 then (some ((-2), X)) else (if v1 ≤ 126 then (if (X 129 1) < 80 then (m_nm ((v1.toUInt32 % 65536).toInt32) fun y_10 => m_gd (m_in (X 129 1) 80) <| m_nm (m_up X 130 (upd (X 130) (Int32.toNatClampNeg (X 129 1)) (vp_nar .char y_10))) fun X_12 => m_nm ((X_12 129 1) + 1) fun y_15 => m_nm (m_up X_12 129 (upd (X_12 129) 1 y_15)) fun X_17 => some ((X_17 129 1), X_17)) else (some ((-3), X))) else (some ((-2), X)))
set_option maxHeartbeats 4000000 in
set_option maxRecDepth 100000 in
theorem c_X5_add (l : Launch) (D : va_G) (a : Nat → Nat) (cy : Nat → ClassId) (hG : m_inj 131 a) (N : Nat) (v1 : Int32) (X : XT) {r0 : Int32} {X0 : XT} (hf0 : f_X5_add N v1 X = some (r0, X0)) : Met l yX5_add (Cond.code yX5_add cX5_add 2 (some .int) :: m_tbl) rm_X5_add (va_Pc [.ref (a 129), .int v1] (m_PX D (m_tc cy) (m_WC a cy) (m_ZC a) X)) (m_QI D (m_WC a cy) (m_AC a) r0 X0) 0 0 (m_AC a) := by
  refine m_met (own := RX5) hy_X5_add rfl (Nat.le_of_ble_eq_true rfl) (m_wl_D hG _) m_ZC_keep ?_
  intro p e s m args below meth c C ls hl hP hS
  have hx := C.1.1
  have hb := C.1.2.1
  have hl : lv_has ls 2 [(0, .ref (a 129)), (1, .int v1)] := hl
  unfold f_X5_add at hf0
  suffices K : ∀ (H : Heap) (locs : List Loc), va_P D vwCl (m_WC a cy X) H → va_S (m_AC a) s.heap H locs → W p l e rm_X5_add s m args below meth c H locs 0 0 (MQ below (m_QI D (m_WC a cy) (m_AC a) r0 X0) args s 0 0 (m_AC a)) (F0 m 0 ls []) from K _ _ hP hS
  clear hP hS
  intro H locs hP hS
  refine lv_iload_n hx hb dX5_add_0 rfl (lv_at hl 1 rfl) ?_
  refine lv_bipush (v := 32) hx hb dX5_add_1 (by decide) ?_
  refine lv_icmp_lt (tgt := 12) hx hb dX5_add_3 (by decide) (fun c_1 => ?_) (fun c_1 => ?_)
  · have hf2 := m_it c_1 hf0
    clear hf0
    refine lv_bipush (v := (-2)) hx hb dX5_add_12 (by decide) ?_
    exact m_iret C hP hS dX5_add_14 hf2
  · have hf3 := m_ie c_1 hf0
    clear hf0
    refine lv_iload_n hx hb dX5_add_6 rfl (lv_at hl 1 rfl) ?_
    refine lv_bipush (v := 126) hx hb dX5_add_7 (by decide) ?_
    refine lv_icmp_le (tgt := 15) hx hb dX5_add_9 (by decide) (fun c_4 => ?_) (fun c_4 => ?_)
    · have hf5 := m_it c_4 hf3
      clear hf3
      refine lv_aload_n hx hb dX5_add_15 rfl (lv_at hl 0 rfl) ?_
      refine m_get C hP mC_129 rfl inX5 1 (by decide) wf_X5_15 rfl dX5_add_16 ?_
      refine lv_bipush (v := 80) hx hb dX5_add_19 (by decide) ?_
      refine lv_icmp_lt (tgt := 27) hx hb dX5_add_21 (by decide) (fun c_7 => ?_) (fun c_7 => ?_)
      · have hf8 := m_it c_7 hf5
        clear hf5
        refine lv_aload_n hx hb dX5_add_27 rfl (lv_at hl 0 rfl) ?_
        refine m_get C hP mC_129 rfl inX5 0 (by decide) wf_X5_11 rfl dX5_add_28 ?_
        refine lv_aload_n hx hb dX5_add_31 rfl (lv_at hl 0 rfl) ?_
        refine m_get C hP mC_129 rfl inX5 1 (by decide) wf_X5_15 rfl dX5_add_32 ?_
        refine lv_iload_n hx hb dX5_add_35 rfl (lv_at hl 1 rfl) ?_
        refine lv_i2c hx hb dX5_add_36 rfl ?_
        refine lv_topi (fun y_10 e_10 => ?_)
        have hf11 := m_nm_s e_10 hf8
        clear hf8
        obtain ⟨g_12, hf13⟩ := m_gd_s hf11
        clear hf11
        refine m_cst C hP hS mC_130 2 rfl g_12 mCs_130 dX5_add_37 (fun X_12 e_12 H locs hP hS => ?_)
        have hf14 := m_nm_s e_12 hf13
        clear hf13
        refine lv_aload_n hx hb dX5_add_38 rfl (lv_at hl 0 rfl) ?_
        refine lv_dup hx hb dX5_add_39 rfl ?_
        refine m_get C hP mC_129 rfl inX5 1 (by decide) wf_X5_15 rfl dX5_add_40 ?_
        refine lv_iconst (v := 1) hx hb dX5_add_43 (by decide) ?_
        refine lv_iadd hx hb dX5_add_44 ?_
        refine lv_topi (fun y_15 e_15 => ?_)
        have hf16 := m_nm_s e_15 hf14
        clear hf14
        refine m_put C hP hS mC_129 rfl inX5 tyX5_ok nmX5 1 (by decide) wf_X5_15 rfl rfl rfl (Nat.le_of_ble_eq_true rfl) mC_129_1 dX5_add_45 (fun X_17 e_17 H locs hP hS => ?_)
        have hf18 := m_nm_s e_17 hf16
        clear hf16
        refine lv_aload_n hx hb dX5_add_48 rfl (lv_at hl 0 rfl) ?_
        refine m_get C hP mC_129 rfl inX5 1 (by decide) wf_X5_15 rfl dX5_add_49 ?_
        exact m_iret C hP hS dX5_add_52 hf18
      · have hf9 := m_ie c_7 hf5
        clear hf5
        refine lv_bipush (v := (-3)) hx hb dX5_add_24 (by decide) ?_
        exact m_iret C hP hS dX5_add_26 hf9
    · have hf6 := m_ie c_4 hf3
      clear hf3
      refine lv_bipush (v := (-2)) hx hb dX5_add_12 (by decide) ?_
      exact m_iret C hP hS dX5_add_14 hf6
abbrev rm_X5_empty : Room := { frames := 0, cells := 0, slots := 0, locals := 0 }
def f_X5_empty (N : Nat) (X : XT) : Option (Int32 × XT) := m_nm (m_up X 129 (upd (X 129) 1 0)) fun X_1 => some ((X 129 1), X_1)
set_option maxHeartbeats 4000000 in
set_option maxRecDepth 100000 in
theorem c_X5_empty (l : Launch) (D : va_G) (a : Nat → Nat) (cy : Nat → ClassId) (hG : m_inj 131 a) (N : Nat) (X : XT) {r0 : Int32} {X0 : XT} (hf0 : f_X5_empty N X = some (r0, X0)) : Met l yX5_empty (Cond.code yX5_empty cX5_empty 2 (some .int) :: m_tbl) rm_X5_empty (va_Pc [.ref (a 129)] (m_PX D (m_tc cy) (m_WC a cy) (m_ZC a) X)) (m_QI D (m_WC a cy) (m_AC a) r0 X0) 0 0 (m_AC a) := by
  refine m_met (own := RX5) hy_X5_empty rfl (Nat.le_of_ble_eq_true rfl) (m_wl_D hG _) m_ZC_keep ?_
  intro p e s m args below meth c C ls hl hP hS
  have hx := C.1.1
  have hb := C.1.2.1
  have hl : lv_has ls 2 [(0, .ref (a 129))] := hl
  unfold f_X5_empty at hf0
  suffices K : ∀ (H : Heap) (locs : List Loc), va_P D vwCl (m_WC a cy X) H → va_S (m_AC a) s.heap H locs → W p l e rm_X5_empty s m args below meth c H locs 0 0 (MQ below (m_QI D (m_WC a cy) (m_AC a) r0 X0) args s 0 0 (m_AC a)) (F0 m 0 ls []) from K _ _ hP hS
  clear hP hS
  intro H locs hP hS
  refine lv_aload_n hx hb dX5_empty_0 rfl (lv_at hl 0 rfl) ?_
  refine m_get C hP mC_129 rfl inX5 1 (by decide) wf_X5_15 rfl dX5_empty_1 ?_
  refine lv_istore_n (lv' := [(1, .int (X 129 1)), (0, .ref (a 129))]) hx hb dX5_empty_4 rfl hl (by decide) rfl (fun ls hl => ?_)
  refine lv_aload_n hx hb dX5_empty_5 rfl (lv_at hl 1 rfl) ?_
  refine lv_iconst (v := 0) hx hb dX5_empty_6 (by decide) ?_
  refine m_put C hP hS mC_129 rfl inX5 tyX5_ok nmX5 1 (by decide) wf_X5_15 rfl rfl rfl (Nat.le_of_ble_eq_true rfl) mC_129_1 dX5_empty_7 (fun X_1 e_1 H locs hP hS => ?_)
  have hf2 := m_nm_s e_1 hf0
  clear hf0
  refine lv_iload_n hx hb dX5_empty_10 rfl (lv_at hl 0 rfl) ?_
  exact m_iret C hP hS dX5_empty_11 hf2
abbrev rm_X5_characterAt : Room := { frames := 0, cells := 0, slots := 0, locals := 0 }
def f_X5_characterAt (N : Nat) (v1 : Int32) (X : XT) : Option (Int32 × XT) := if v1 < 0 then (some (0, X)) else (if (X 129 1) ≤ v1 then (some (0, X)) else (m_gd (m_in v1 80) <| m_nm (X 130 (Int32.toNatClampNeg v1)) fun y_7 => m_gd (vp_nar .char y_7 = y_7) <| some (y_7, X)))
set_option maxHeartbeats 4000000 in
set_option maxRecDepth 100000 in
theorem c_X5_characterAt (l : Launch) (D : va_G) (a : Nat → Nat) (cy : Nat → ClassId) (hG : m_inj 131 a) (N : Nat) (v1 : Int32) (X : XT) {r0 : Int32} {X0 : XT} (hf0 : f_X5_characterAt N v1 X = some (r0, X0)) : Met l yX5_characterAt (Cond.code yX5_characterAt cX5_characterAt 2 (some .char) :: m_tbl) rm_X5_characterAt (va_Pc [.ref (a 129), .int v1] (m_PX D (m_tc cy) (m_WC a cy) (m_ZC a) X)) (m_QI D (m_WC a cy) (m_AC a) r0 X0) 0 0 (m_AC a) := by
  refine m_met (own := RX5) hy_X5_characterAt rfl (Nat.le_of_ble_eq_true rfl) (m_wl_D hG _) m_ZC_keep ?_
  intro p e s m args below meth c C ls hl hP hS
  have hx := C.1.1
  have hb := C.1.2.1
  have hl : lv_has ls 2 [(0, .ref (a 129)), (1, .int v1)] := hl
  unfold f_X5_characterAt at hf0
  suffices K : ∀ (H : Heap) (locs : List Loc), va_P D vwCl (m_WC a cy X) H → va_S (m_AC a) s.heap H locs → W p l e rm_X5_characterAt s m args below meth c H locs 0 0 (MQ below (m_QI D (m_WC a cy) (m_AC a) r0 X0) args s 0 0 (m_AC a)) (F0 m 0 ls []) from K _ _ hP hS
  clear hP hS
  intro H locs hP hS
  refine lv_iload_n hx hb dX5_characterAt_0 rfl (lv_at hl 1 rfl) ?_
  refine lv_if_lt (tgt := 21) hx hb dX5_characterAt_1 (by decide) (fun c_1 => ?_) (fun c_1 => ?_)
  · have hf2 := m_it c_1 hf0
    clear hf0
    refine lv_iconst (v := 0) hx hb dX5_characterAt_21 (by decide) ?_
    exact m_zret C hP hS dX5_characterAt_22 (by decide) hf2
  · have hf3 := m_ie c_1 hf0
    clear hf0
    refine lv_iload_n hx hb dX5_characterAt_4 rfl (lv_at hl 1 rfl) ?_
    refine lv_aload_n hx hb dX5_characterAt_5 rfl (lv_at hl 0 rfl) ?_
    refine m_get C hP mC_129 rfl inX5 1 (by decide) wf_X5_15 rfl dX5_characterAt_6 ?_
    refine lv_icmp_ge (tgt := 21) hx hb dX5_characterAt_9 (by decide) (fun c_4 => ?_) (fun c_4 => ?_)
    · have hf5 := m_it c_4 hf3
      clear hf3
      refine lv_iconst (v := 0) hx hb dX5_characterAt_21 (by decide) ?_
      exact m_zret C hP hS dX5_characterAt_22 (by decide) hf5
    · have hf6 := m_ie c_4 hf3
      clear hf3
      refine lv_aload_n hx hb dX5_characterAt_12 rfl (lv_at hl 0 rfl) ?_
      refine m_get C hP mC_129 rfl inX5 0 (by decide) wf_X5_11 rfl dX5_characterAt_13 ?_
      refine lv_iload_n hx hb dX5_characterAt_16 rfl (lv_at hl 1 rfl) ?_
      obtain ⟨g_7, hf8⟩ := m_gd_s hf6
      clear hf6
      refine m_cld C hP mC_130 2 rfl g_7 dX5_characterAt_17 (fun y_7 e_7 => ?_)
      have hf9 := m_nm_s e_7 hf8
      clear hf8
      refine lv_goto (tgt := 22) hx hb dX5_characterAt_18 (by decide) ?_
      obtain ⟨g_10, hf11⟩ := m_gd_s hf9
      clear hf9
      exact m_zret C hP hS dX5_characterAt_22 (m_char g_10) hf11
abbrev rm_X5_isComplete : Room := { frames := 0, cells := 0, slots := 0, locals := 0 }
def f_X5_isComplete (N : Nat) (v0 : Int32) (X : XT) : Option (Int32 × XT) := if v0 = 4 then (some (1, X)) else (if v0 = 6 then (some (1, X)) else (if v0 = 8 then (some (1, X)) else (if v0 = 9 then (some (1, X)) else (some (0, X)))))
set_option maxHeartbeats 4000000 in
set_option maxRecDepth 100000 in
theorem c_X5_isComplete (l : Launch) (D : va_G) (a : Nat → Nat) (cy : Nat → ClassId) (hG : m_inj 131 a) (N : Nat) (v0 : Int32) (X : XT) {r0 : Int32} {X0 : XT} (hf0 : f_X5_isComplete N v0 X = some (r0, X0)) : Met l yX5_isComplete (Cond.code yX5_isComplete cX5_isComplete 1 (some .boolean) :: m_tbl) rm_X5_isComplete (va_Pc [.int v0] (m_PX D (m_tc cy) (m_WC a cy) (m_ZC a) X)) (m_QI D (m_WC a cy) (m_AC a) r0 X0) 0 0 (m_AC a) := by
  refine m_met (own := RX5) hy_X5_isComplete rfl (Nat.le_of_ble_eq_true rfl) (m_wl_D hG _) m_ZC_keep ?_
  intro p e s m args below meth c C ls hl hP hS
  have hx := C.1.1
  have hb := C.1.2.1
  have hl : lv_has ls 1 [(0, .int v0)] := hl
  unfold f_X5_isComplete at hf0
  suffices K : ∀ (H : Heap) (locs : List Loc), va_P D vwCl (m_WC a cy X) H → va_S (m_AC a) s.heap H locs → W p l e rm_X5_isComplete s m args below meth c H locs 0 0 (MQ below (m_QI D (m_WC a cy) (m_AC a) r0 X0) args s 0 0 (m_AC a)) (F0 m 0 ls []) from K _ _ hP hS
  clear hP hS
  intro H locs hP hS
  refine lv_iload_n hx hb dX5_isComplete_0 rfl (lv_at hl 0 rfl) ?_
  refine lv_iconst (v := 4) hx hb dX5_isComplete_1 (by decide) ?_
  refine lv_icmp_eq (tgt := 23) hx hb dX5_isComplete_2 (by decide) (fun c_1 => ?_) (fun c_1 => ?_)
  · have hf2 := m_it c_1 hf0
    clear hf0
    refine lv_iconst (v := 1) hx hb dX5_isComplete_23 (by decide) ?_
    refine lv_goto (tgt := 28) hx hb dX5_isComplete_24 (by decide) ?_
    exact m_zret C hP hS dX5_isComplete_28 (by decide) hf2
  · have hf3 := m_ie c_1 hf0
    clear hf0
    refine lv_iload_n hx hb dX5_isComplete_5 rfl (lv_at hl 0 rfl) ?_
    refine lv_bipush (v := 6) hx hb dX5_isComplete_6 (by decide) ?_
    refine lv_icmp_eq (tgt := 23) hx hb dX5_isComplete_8 (by decide) (fun c_4 => ?_) (fun c_4 => ?_)
    · have hf5 := m_it c_4 hf3
      clear hf3
      refine lv_iconst (v := 1) hx hb dX5_isComplete_23 (by decide) ?_
      refine lv_goto (tgt := 28) hx hb dX5_isComplete_24 (by decide) ?_
      exact m_zret C hP hS dX5_isComplete_28 (by decide) hf5
    · have hf6 := m_ie c_4 hf3
      clear hf3
      refine lv_iload_n hx hb dX5_isComplete_11 rfl (lv_at hl 0 rfl) ?_
      refine lv_bipush (v := 8) hx hb dX5_isComplete_12 (by decide) ?_
      refine lv_icmp_eq (tgt := 23) hx hb dX5_isComplete_14 (by decide) (fun c_7 => ?_) (fun c_7 => ?_)
      · have hf8 := m_it c_7 hf6
        clear hf6
        refine lv_iconst (v := 1) hx hb dX5_isComplete_23 (by decide) ?_
        refine lv_goto (tgt := 28) hx hb dX5_isComplete_24 (by decide) ?_
        exact m_zret C hP hS dX5_isComplete_28 (by decide) hf8
      · have hf9 := m_ie c_7 hf6
        clear hf6
        refine lv_iload_n hx hb dX5_isComplete_17 rfl (lv_at hl 0 rfl) ?_
        refine lv_bipush (v := 9) hx hb dX5_isComplete_18 (by decide) ?_
        refine lv_icmp_ne (tgt := 27) hx hb dX5_isComplete_20 (by decide) (fun c_10 => ?_) (fun c_10 => ?_)
        · have hf11 := m_ie c_10 hf9
          clear hf9
          refine lv_iconst (v := 0) hx hb dX5_isComplete_27 (by decide) ?_
          exact m_zret C hP hS dX5_isComplete_28 (by decide) hf11
        · have hf12 := m_it c_10 hf9
          clear hf9
          refine lv_iconst (v := 1) hx hb dX5_isComplete_23 (by decide) ?_
          refine lv_goto (tgt := 28) hx hb dX5_isComplete_24 (by decide) ?_
          exact m_zret C hP hS dX5_isComplete_28 (by decide) hf12
abbrev rm_X5_isDigit : Room := { frames := 0, cells := 0, slots := 0, locals := 0 }
def f_X5_isDigit (N : Nat) (v0 : Int32) (X : XT) : Option (Int32 × XT) := if v0 < 48 then (some (0, X)) else (if 57 < v0 then (some (0, X)) else (some (1, X)))
set_option maxHeartbeats 4000000 in
set_option maxRecDepth 100000 in
theorem c_X5_isDigit (l : Launch) (D : va_G) (a : Nat → Nat) (cy : Nat → ClassId) (hG : m_inj 131 a) (N : Nat) (v0 : Int32) (X : XT) {r0 : Int32} {X0 : XT} (hf0 : f_X5_isDigit N v0 X = some (r0, X0)) : Met l yX5_isDigit (Cond.code yX5_isDigit cX5_isDigit 1 (some .boolean) :: m_tbl) rm_X5_isDigit (va_Pc [.int v0] (m_PX D (m_tc cy) (m_WC a cy) (m_ZC a) X)) (m_QI D (m_WC a cy) (m_AC a) r0 X0) 0 0 (m_AC a) := by
  refine m_met (own := RX5) hy_X5_isDigit rfl (Nat.le_of_ble_eq_true rfl) (m_wl_D hG _) m_ZC_keep ?_
  intro p e s m args below meth c C ls hl hP hS
  have hx := C.1.1
  have hb := C.1.2.1
  have hl : lv_has ls 1 [(0, .int v0)] := hl
  unfold f_X5_isDigit at hf0
  suffices K : ∀ (H : Heap) (locs : List Loc), va_P D vwCl (m_WC a cy X) H → va_S (m_AC a) s.heap H locs → W p l e rm_X5_isDigit s m args below meth c H locs 0 0 (MQ below (m_QI D (m_WC a cy) (m_AC a) r0 X0) args s 0 0 (m_AC a)) (F0 m 0 ls []) from K _ _ hP hS
  clear hP hS
  intro H locs hP hS
  refine lv_iload_n hx hb dX5_isDigit_0 rfl (lv_at hl 0 rfl) ?_
  refine lv_bipush (v := 48) hx hb dX5_isDigit_1 (by decide) ?_
  refine lv_icmp_lt (tgt := 16) hx hb dX5_isDigit_3 (by decide) (fun c_1 => ?_) (fun c_1 => ?_)
  · have hf2 := m_it c_1 hf0
    clear hf0
    refine lv_iconst (v := 0) hx hb dX5_isDigit_16 (by decide) ?_
    exact m_zret C hP hS dX5_isDigit_17 (by decide) hf2
  · have hf3 := m_ie c_1 hf0
    clear hf0
    refine lv_iload_n hx hb dX5_isDigit_6 rfl (lv_at hl 0 rfl) ?_
    refine lv_bipush (v := 57) hx hb dX5_isDigit_7 (by decide) ?_
    refine lv_icmp_gt (tgt := 16) hx hb dX5_isDigit_9 (by decide) (fun c_4 => ?_) (fun c_4 => ?_)
    · have hf5 := m_it c_4 hf3
      clear hf3
      refine lv_iconst (v := 0) hx hb dX5_isDigit_16 (by decide) ?_
      exact m_zret C hP hS dX5_isDigit_17 (by decide) hf5
    · have hf6 := m_ie c_4 hf3
      clear hf3
      refine lv_iconst (v := 1) hx hb dX5_isDigit_12 (by decide) ?_
      refine lv_goto (tgt := 17) hx hb dX5_isDigit_13 (by decide) ?_
      exact m_zret C hP hS dX5_isDigit_17 (by decide) hf6
abbrev rm_X5_afterFirst : Room := { frames := 1, cells := 0, slots := 0, locals := 20 }
def f_X5_afterFirst (N : Nat) (v0 : Int32) (X : XT) : Option (Int32 × XT) := if v0 = 49 then (some (1, X)) else (m_bi (f_X5_isDigit N v0 X) fun r_4 X_4 => if r_4 = 0 then (if v0 = 102 then (some (5, X_4)) else (if v0 = 119 then (some (5, X_4)) else (if v0 = 43 then (some (7, X_4)) else (if v0 = 42 then (some (9, X_4)) else (some ((-1), X_4)))))) else (some (2, X_4)))
set_option maxHeartbeats 4000000 in
set_option maxRecDepth 100000 in
theorem c_X5_afterFirst (l : Launch) (D : va_G) (a : Nat → Nat) (cy : Nat → ClassId) (hG : m_inj 131 a) (N : Nat) (v0 : Int32) (X : XT) {r0 : Int32} {X0 : XT} (hf0 : f_X5_afterFirst N v0 X = some (r0, X0)) : Met l yX5_afterFirst (Cond.code yX5_afterFirst cX5_afterFirst 1 (some .int) :: m_tbl) rm_X5_afterFirst (va_Pc [.int v0] (m_PX D (m_tc cy) (m_WC a cy) (m_ZC a) X)) (m_QI D (m_WC a cy) (m_AC a) r0 X0) 0 0 (m_AC a) := by
  refine m_met (own := RX5) hy_X5_afterFirst rfl (Nat.le_of_ble_eq_true rfl) (m_wl_D hG _) m_ZC_keep ?_
  intro p e s m args below meth c C ls hl hP hS
  have hx := C.1.1
  have hb := C.1.2.1
  have hl : lv_has ls 1 [(0, .int v0)] := hl
  unfold f_X5_afterFirst at hf0
  suffices K : ∀ (H : Heap) (locs : List Loc), va_P D vwCl (m_WC a cy X) H → va_S (m_AC a) s.heap H locs → W p l e rm_X5_afterFirst s m args below meth c H locs 0 0 (MQ below (m_QI D (m_WC a cy) (m_AC a) r0 X0) args s 0 0 (m_AC a)) (F0 m 0 ls []) from K _ _ hP hS
  clear hP hS
  intro H locs hP hS
  refine lv_iload_n hx hb dX5_afterFirst_0 rfl (lv_at hl 0 rfl) ?_
  refine lv_bipush (v := 49) hx hb dX5_afterFirst_1 (by decide) ?_
  refine lv_icmp_ne (tgt := 8) hx hb dX5_afterFirst_3 (by decide) (fun c_1 => ?_) (fun c_1 => ?_)
  · have hf2 := m_ie c_1 hf0
    clear hf0
    refine lv_iload_n hx hb dX5_afterFirst_8 rfl (lv_at hl 0 rfl) ?_
    obtain ⟨r_4, X_4, h_4, hf5⟩ := m_bi_s hf2
    clear hf2
    refine m_callSi C [.int v0] [] (c_X5_isDigit l D a cy hG N _ _ h_4) (m_goodS wl_X5_35 wst_X5_isDigit wn_X5 wc_X5_isDigit) ⟨rfl, rfl⟩ hv_X5_isDigit ⟨Nat.le_of_ble_eq_true rfl, Nat.le_of_ble_eq_true rfl⟩ hP hS rfl hl.1 rfl (Nat.le_of_ble_eq_true rfl) dX5_afterFirst_9 (fun H locs hP hS => ?_)
    refine lv_if_eq (tgt := 17) hx hb dX5_afterFirst_12 (by decide) (fun c_6 => ?_) (fun c_6 => ?_)
    · have hf7 := m_it c_6 hf5
      clear hf5
      refine lv_iload_n hx hb dX5_afterFirst_17 rfl (lv_at hl 0 rfl) ?_
      refine lv_bipush (v := 102) hx hb dX5_afterFirst_18 (by decide) ?_
      refine lv_icmp_eq (tgt := 29) hx hb dX5_afterFirst_20 (by decide) (fun c_9 => ?_) (fun c_9 => ?_)
      · have hf10 := m_it c_9 hf7
        clear hf7
        refine lv_iconst (v := 5) hx hb dX5_afterFirst_29 (by decide) ?_
        exact m_iret C hP hS dX5_afterFirst_30 hf10
      · have hf11 := m_ie c_9 hf7
        clear hf7
        refine lv_iload_n hx hb dX5_afterFirst_23 rfl (lv_at hl 0 rfl) ?_
        refine lv_bipush (v := 119) hx hb dX5_afterFirst_24 (by decide) ?_
        refine lv_icmp_ne (tgt := 31) hx hb dX5_afterFirst_26 (by decide) (fun c_12 => ?_) (fun c_12 => ?_)
        · have hf13 := m_ie c_12 hf11
          clear hf11
          refine lv_iload_n hx hb dX5_afterFirst_31 rfl (lv_at hl 0 rfl) ?_
          refine lv_bipush (v := 43) hx hb dX5_afterFirst_32 (by decide) ?_
          refine lv_icmp_ne (tgt := 40) hx hb dX5_afterFirst_34 (by decide) (fun c_15 => ?_) (fun c_15 => ?_)
          · have hf16 := m_ie c_15 hf13
            clear hf13
            refine lv_iload_n hx hb dX5_afterFirst_40 rfl (lv_at hl 0 rfl) ?_
            refine lv_bipush (v := 42) hx hb dX5_afterFirst_41 (by decide) ?_
            refine lv_icmp_ne (tgt := 51) hx hb dX5_afterFirst_43 (by decide) (fun c_18 => ?_) (fun c_18 => ?_)
            · have hf19 := m_ie c_18 hf16
              clear hf16
              refine lv_iconst (v := (-1)) hx hb dX5_afterFirst_51 (by decide) ?_
              exact m_iret C hP hS dX5_afterFirst_52 hf19
            · have hf20 := m_it c_18 hf16
              clear hf16
              refine lv_bipush (v := 9) hx hb dX5_afterFirst_46 (by decide) ?_
              refine lv_goto (tgt := 52) hx hb dX5_afterFirst_48 (by decide) ?_
              exact m_iret C hP hS dX5_afterFirst_52 hf20
          · have hf17 := m_it c_15 hf13
            clear hf13
            refine lv_bipush (v := 7) hx hb dX5_afterFirst_37 (by decide) ?_
            exact m_iret C hP hS dX5_afterFirst_39 hf17
        · have hf14 := m_it c_12 hf11
          clear hf11
          refine lv_iconst (v := 5) hx hb dX5_afterFirst_29 (by decide) ?_
          exact m_iret C hP hS dX5_afterFirst_30 hf14
    · have hf8 := m_ie c_6 hf5
      clear hf5
      refine lv_iconst (v := 2) hx hb dX5_afterFirst_15 (by decide) ?_
      exact m_iret C hP hS dX5_afterFirst_16 hf8
  · have hf3 := m_it c_1 hf0
    clear hf0
    refine lv_iconst (v := 1) hx hb dX5_afterFirst_6 (by decide) ?_
    exact m_iret C hP hS dX5_afterFirst_7 hf3
abbrev rm_X5_after : Room := { frames := 2, cells := 0, slots := 0, locals := 40 }
def f_X5_after (N : Nat) (v0 : Int32) (v1 : Int32) (X : XT) : Option (Int32 × XT) := if v1 = 59 then (m_bi (f_X5_isComplete N v0 X) fun r_81 X_81 => if r_81 = 0 then (some ((-1), X_81)) else (some (0, X_81))) else (if v0 = 0 then (m_bi (f_X5_afterFirst N v1 X) fun r_7 X_7 => some (r_7, X_7)) else (if v0 = 1 then (if v1 = 58 then (some (3, X)) else (if v1 = 48 then (some (2, X)) else (if v1 = 49 then (some (2, X)) else (some ((-1), X))))) else (if v0 = 2 then (if v1 = 58 then (some (3, X)) else (some ((-1), X))) else (if v0 = 3 then (if v1 < 49 then (some ((-1), X)) else (if 56 < v1 then (some ((-1), X)) else (some (4, X)))) else (if v0 = 4 then (if v1 = 33 then (some (9, X)) else (some ((-1), X))) else (if v0 = 5 then (if v1 = 49 then (some (6, X)) else (m_bi (f_X5_isDigit N v1 X) fun r_48 X_48 => if r_48 = 0 then (some ((-1), X_48)) else (some (9, X_48)))) else (if v0 = 6 then (if v1 = 48 then (some (9, X)) else (if v1 = 49 then (some (9, X)) else (some ((-1), X)))) else (if v0 = 7 then (m_bi (f_X5_isDigit N v1 X) fun r_65 X_65 => if r_65 = 0 then (some ((-1), X_65)) else (if v1 = 48 then (some ((-1), X_65)) else (some (8, X_65)))) else (if v0 = 8 then (m_bi (f_X5_isDigit N v1 X) fun r_76 X_76 => if r_76 = 0 then (some ((-1), X_76)) else (some (9, X_76))) else (some ((-1), X)))))))))))
set_option maxHeartbeats 4000000 in
set_option maxRecDepth 100000 in
theorem c_X5_after (l : Launch) (D : va_G) (a : Nat → Nat) (cy : Nat → ClassId) (hG : m_inj 131 a) (N : Nat) (v0 : Int32) (v1 : Int32) (X : XT) {r0 : Int32} {X0 : XT} (hf0 : f_X5_after N v0 v1 X = some (r0, X0)) : Met l yX5_after (Cond.code yX5_after cX5_after 2 (some .int) :: m_tbl) rm_X5_after (va_Pc [.int v0, .int v1] (m_PX D (m_tc cy) (m_WC a cy) (m_ZC a) X)) (m_QI D (m_WC a cy) (m_AC a) r0 X0) 0 0 (m_AC a) := by
  refine m_met (own := RX5) hy_X5_after rfl (Nat.le_of_ble_eq_true rfl) (m_wl_D hG _) m_ZC_keep ?_
  intro p e s m args below meth c C ls hl hP hS
  have hx := C.1.1
  have hb := C.1.2.1
  have hl : lv_has ls 2 [(0, .int v0), (1, .int v1)] := hl
  unfold f_X5_after at hf0
  suffices K : ∀ (H : Heap) (locs : List Loc), va_P D vwCl (m_WC a cy X) H → va_S (m_AC a) s.heap H locs → W p l e rm_X5_after s m args below meth c H locs 0 0 (MQ below (m_QI D (m_WC a cy) (m_AC a) r0 X0) args s 0 0 (m_AC a)) (F0 m 0 ls []) from K _ _ hP hS
  clear hP hS
  intro H locs hP hS
  refine lv_iload_n hx hb dX5_after_0 rfl (lv_at hl 1 rfl) ?_
  refine lv_bipush (v := 59) hx hb dX5_after_1 (by decide) ?_
  refine lv_icmp_ne (tgt := 19) hx hb dX5_after_3 (by decide) (fun c_1 => ?_) (fun c_1 => ?_)
  · have hf2 := m_ie c_1 hf0
    clear hf0
    refine lv_iload_n hx hb dX5_after_19 rfl (lv_at hl 0 rfl) ?_
    by_cases c_4 : v0 = 0
    · have hf5 := m_it c_4 hf2
      clear hf2
      refine lv_tableIn (tgt := 72) hx hb dX5_after_20 (by rw [c_4]; decide) (by rw [c_4]; decide) (by rw [c_4]; rfl) (by decide) ?_
      refine lv_iload_n hx hb dX5_after_72 rfl (lv_at hl 1 rfl) ?_
      obtain ⟨r_7, X_7, h_7, hf8⟩ := m_bi_s hf5
      clear hf5
      refine m_callSi C [.int v1] [] (c_X5_afterFirst l D a cy hG N _ _ h_7) (m_goodS wl_X5_31 wst_X5_afterFirst wn_X5 wc_X5_afterFirst) ⟨rfl, rfl⟩ hv_X5_afterFirst ⟨Nat.le_of_ble_eq_true rfl, Nat.le_of_ble_eq_true rfl⟩ hP hS rfl hl.1 rfl (Nat.le_of_ble_eq_true rfl) dX5_after_73 (fun H locs hP hS => ?_)
      exact m_iret C hP hS dX5_after_76 hf8
    · have hf6 := m_ie c_4 hf2
      clear hf2
      by_cases c_9 : v0 = 1
      · have hf10 := m_it c_9 hf6
        clear hf6
        refine lv_tableIn (tgt := 77) hx hb dX5_after_20 (by rw [c_9]; decide) (by rw [c_9]; decide) (by rw [c_9]; rfl) (by decide) ?_
        refine lv_iload_n hx hb dX5_after_77 rfl (lv_at hl 1 rfl) ?_
        refine lv_bipush (v := 58) hx hb dX5_after_78 (by decide) ?_
        refine lv_icmp_ne (tgt := 85) hx hb dX5_after_80 (by decide) (fun c_12 => ?_) (fun c_12 => ?_)
        · have hf13 := m_ie c_12 hf10
          clear hf10
          refine lv_iload_n hx hb dX5_after_85 rfl (lv_at hl 1 rfl) ?_
          refine lv_bipush (v := 48) hx hb dX5_after_86 (by decide) ?_
          refine lv_icmp_eq (tgt := 97) hx hb dX5_after_88 (by decide) (fun c_15 => ?_) (fun c_15 => ?_)
          · have hf16 := m_it c_15 hf13
            clear hf13
            refine lv_iconst (v := 2) hx hb dX5_after_97 (by decide) ?_
            refine lv_goto (tgt := 102) hx hb dX5_after_98 (by decide) ?_
            exact m_iret C hP hS dX5_after_102 hf16
          · have hf17 := m_ie c_15 hf13
            clear hf13
            refine lv_iload_n hx hb dX5_after_91 rfl (lv_at hl 1 rfl) ?_
            refine lv_bipush (v := 49) hx hb dX5_after_92 (by decide) ?_
            refine lv_icmp_ne (tgt := 101) hx hb dX5_after_94 (by decide) (fun c_18 => ?_) (fun c_18 => ?_)
            · have hf19 := m_ie c_18 hf17
              clear hf17
              refine lv_iconst (v := (-1)) hx hb dX5_after_101 (by decide) ?_
              exact m_iret C hP hS dX5_after_102 hf19
            · have hf20 := m_it c_18 hf17
              clear hf17
              refine lv_iconst (v := 2) hx hb dX5_after_97 (by decide) ?_
              refine lv_goto (tgt := 102) hx hb dX5_after_98 (by decide) ?_
              exact m_iret C hP hS dX5_after_102 hf20
        · have hf14 := m_it c_12 hf10
          clear hf10
          refine lv_iconst (v := 3) hx hb dX5_after_83 (by decide) ?_
          exact m_iret C hP hS dX5_after_84 hf14
      · have hf11 := m_ie c_9 hf6
        clear hf6
        by_cases c_21 : v0 = 2
        · have hf22 := m_it c_21 hf11
          clear hf11
          refine lv_tableIn (tgt := 103) hx hb dX5_after_20 (by rw [c_21]; decide) (by rw [c_21]; decide) (by rw [c_21]; rfl) (by decide) ?_
          refine lv_iload_n hx hb dX5_after_103 rfl (lv_at hl 1 rfl) ?_
          refine lv_bipush (v := 58) hx hb dX5_after_104 (by decide) ?_
          refine lv_icmp_ne (tgt := 113) hx hb dX5_after_106 (by decide) (fun c_24 => ?_) (fun c_24 => ?_)
          · have hf25 := m_ie c_24 hf22
            clear hf22
            refine lv_iconst (v := (-1)) hx hb dX5_after_113 (by decide) ?_
            exact m_iret C hP hS dX5_after_114 hf25
          · have hf26 := m_it c_24 hf22
            clear hf22
            refine lv_iconst (v := 3) hx hb dX5_after_109 (by decide) ?_
            refine lv_goto (tgt := 114) hx hb dX5_after_110 (by decide) ?_
            exact m_iret C hP hS dX5_after_114 hf26
        · have hf23 := m_ie c_21 hf11
          clear hf11
          by_cases c_27 : v0 = 3
          · have hf28 := m_it c_27 hf23
            clear hf23
            refine lv_tableIn (tgt := 115) hx hb dX5_after_20 (by rw [c_27]; decide) (by rw [c_27]; decide) (by rw [c_27]; rfl) (by decide) ?_
            refine lv_iload_n hx hb dX5_after_115 rfl (lv_at hl 1 rfl) ?_
            refine lv_bipush (v := 49) hx hb dX5_after_116 (by decide) ?_
            refine lv_icmp_lt (tgt := 131) hx hb dX5_after_118 (by decide) (fun c_30 => ?_) (fun c_30 => ?_)
            · have hf31 := m_it c_30 hf28
              clear hf28
              refine lv_iconst (v := (-1)) hx hb dX5_after_131 (by decide) ?_
              exact m_iret C hP hS dX5_after_132 hf31
            · have hf32 := m_ie c_30 hf28
              clear hf28
              refine lv_iload_n hx hb dX5_after_121 rfl (lv_at hl 1 rfl) ?_
              refine lv_bipush (v := 56) hx hb dX5_after_122 (by decide) ?_
              refine lv_icmp_gt (tgt := 131) hx hb dX5_after_124 (by decide) (fun c_33 => ?_) (fun c_33 => ?_)
              · have hf34 := m_it c_33 hf32
                clear hf32
                refine lv_iconst (v := (-1)) hx hb dX5_after_131 (by decide) ?_
                exact m_iret C hP hS dX5_after_132 hf34
              · have hf35 := m_ie c_33 hf32
                clear hf32
                refine lv_iconst (v := 4) hx hb dX5_after_127 (by decide) ?_
                refine lv_goto (tgt := 132) hx hb dX5_after_128 (by decide) ?_
                exact m_iret C hP hS dX5_after_132 hf35
          · have hf29 := m_ie c_27 hf23
            clear hf23
            by_cases c_36 : v0 = 4
            · have hf37 := m_it c_36 hf29
              clear hf29
              refine lv_tableIn (tgt := 133) hx hb dX5_after_20 (by rw [c_36]; decide) (by rw [c_36]; decide) (by rw [c_36]; rfl) (by decide) ?_
              refine lv_iload_n hx hb dX5_after_133 rfl (lv_at hl 1 rfl) ?_
              refine lv_bipush (v := 33) hx hb dX5_after_134 (by decide) ?_
              refine lv_icmp_ne (tgt := 144) hx hb dX5_after_136 (by decide) (fun c_39 => ?_) (fun c_39 => ?_)
              · have hf40 := m_ie c_39 hf37
                clear hf37
                refine lv_iconst (v := (-1)) hx hb dX5_after_144 (by decide) ?_
                exact m_iret C hP hS dX5_after_145 hf40
              · have hf41 := m_it c_39 hf37
                clear hf37
                refine lv_bipush (v := 9) hx hb dX5_after_139 (by decide) ?_
                refine lv_goto (tgt := 145) hx hb dX5_after_141 (by decide) ?_
                exact m_iret C hP hS dX5_after_145 hf41
            · have hf38 := m_ie c_36 hf29
              clear hf29
              by_cases c_42 : v0 = 5
              · have hf43 := m_it c_42 hf38
                clear hf38
                refine lv_tableIn (tgt := 146) hx hb dX5_after_20 (by rw [c_42]; decide) (by rw [c_42]; decide) (by rw [c_42]; rfl) (by decide) ?_
                refine lv_iload_n hx hb dX5_after_146 rfl (lv_at hl 1 rfl) ?_
                refine lv_bipush (v := 49) hx hb dX5_after_147 (by decide) ?_
                refine lv_icmp_ne (tgt := 155) hx hb dX5_after_149 (by decide) (fun c_45 => ?_) (fun c_45 => ?_)
                · have hf46 := m_ie c_45 hf43
                  clear hf43
                  refine lv_iload_n hx hb dX5_after_155 rfl (lv_at hl 1 rfl) ?_
                  obtain ⟨r_48, X_48, h_48, hf49⟩ := m_bi_s hf46
                  clear hf46
                  refine m_callSi C [.int v1] [] (c_X5_isDigit l D a cy hG N _ _ h_48) (m_goodS wl_X5_35 wst_X5_isDigit wn_X5 wc_X5_isDigit) ⟨rfl, rfl⟩ hv_X5_isDigit ⟨Nat.le_of_ble_eq_true rfl, Nat.le_of_ble_eq_true rfl⟩ hP hS rfl hl.1 rfl (Nat.le_of_ble_eq_true rfl) dX5_after_156 (fun H locs hP hS => ?_)
                  refine lv_if_eq (tgt := 167) hx hb dX5_after_159 (by decide) (fun c_50 => ?_) (fun c_50 => ?_)
                  · have hf51 := m_it c_50 hf49
                    clear hf49
                    refine lv_iconst (v := (-1)) hx hb dX5_after_167 (by decide) ?_
                    exact m_iret C hP hS dX5_after_168 hf51
                  · have hf52 := m_ie c_50 hf49
                    clear hf49
                    refine lv_bipush (v := 9) hx hb dX5_after_162 (by decide) ?_
                    refine lv_goto (tgt := 168) hx hb dX5_after_164 (by decide) ?_
                    exact m_iret C hP hS dX5_after_168 hf52
                · have hf47 := m_it c_45 hf43
                  clear hf43
                  refine lv_bipush (v := 6) hx hb dX5_after_152 (by decide) ?_
                  exact m_iret C hP hS dX5_after_154 hf47
              · have hf44 := m_ie c_42 hf38
                clear hf38
                by_cases c_53 : v0 = 6
                · have hf54 := m_it c_53 hf44
                  clear hf44
                  refine lv_tableIn (tgt := 169) hx hb dX5_after_20 (by rw [c_53]; decide) (by rw [c_53]; decide) (by rw [c_53]; rfl) (by decide) ?_
                  refine lv_iload_n hx hb dX5_after_169 rfl (lv_at hl 1 rfl) ?_
                  refine lv_bipush (v := 48) hx hb dX5_after_170 (by decide) ?_
                  refine lv_icmp_eq (tgt := 181) hx hb dX5_after_172 (by decide) (fun c_56 => ?_) (fun c_56 => ?_)
                  · have hf57 := m_it c_56 hf54
                    clear hf54
                    refine lv_bipush (v := 9) hx hb dX5_after_181 (by decide) ?_
                    refine lv_goto (tgt := 187) hx hb dX5_after_183 (by decide) ?_
                    exact m_iret C hP hS dX5_after_187 hf57
                  · have hf58 := m_ie c_56 hf54
                    clear hf54
                    refine lv_iload_n hx hb dX5_after_175 rfl (lv_at hl 1 rfl) ?_
                    refine lv_bipush (v := 49) hx hb dX5_after_176 (by decide) ?_
                    refine lv_icmp_ne (tgt := 186) hx hb dX5_after_178 (by decide) (fun c_59 => ?_) (fun c_59 => ?_)
                    · have hf60 := m_ie c_59 hf58
                      clear hf58
                      refine lv_iconst (v := (-1)) hx hb dX5_after_186 (by decide) ?_
                      exact m_iret C hP hS dX5_after_187 hf60
                    · have hf61 := m_it c_59 hf58
                      clear hf58
                      refine lv_bipush (v := 9) hx hb dX5_after_181 (by decide) ?_
                      refine lv_goto (tgt := 187) hx hb dX5_after_183 (by decide) ?_
                      exact m_iret C hP hS dX5_after_187 hf61
                · have hf55 := m_ie c_53 hf44
                  clear hf44
                  by_cases c_62 : v0 = 7
                  · have hf63 := m_it c_62 hf55
                    clear hf55
                    refine lv_tableIn (tgt := 188) hx hb dX5_after_20 (by rw [c_62]; decide) (by rw [c_62]; decide) (by rw [c_62]; rfl) (by decide) ?_
                    refine lv_iload_n hx hb dX5_after_188 rfl (lv_at hl 1 rfl) ?_
                    obtain ⟨r_65, X_65, h_65, hf66⟩ := m_bi_s hf63
                    clear hf63
                    refine m_callSi C [.int v1] [] (c_X5_isDigit l D a cy hG N _ _ h_65) (m_goodS wl_X5_35 wst_X5_isDigit wn_X5 wc_X5_isDigit) ⟨rfl, rfl⟩ hv_X5_isDigit ⟨Nat.le_of_ble_eq_true rfl, Nat.le_of_ble_eq_true rfl⟩ hP hS rfl hl.1 rfl (Nat.le_of_ble_eq_true rfl) dX5_after_189 (fun H locs hP hS => ?_)
                    refine lv_if_eq (tgt := 206) hx hb dX5_after_192 (by decide) (fun c_67 => ?_) (fun c_67 => ?_)
                    · have hf68 := m_it c_67 hf66
                      clear hf66
                      refine lv_iconst (v := (-1)) hx hb dX5_after_206 (by decide) ?_
                      exact m_iret C hP hS dX5_after_207 hf68
                    · have hf69 := m_ie c_67 hf66
                      clear hf66
                      refine lv_iload_n hx hb dX5_after_195 rfl (lv_at hl 1 rfl) ?_
                      refine lv_bipush (v := 48) hx hb dX5_after_196 (by decide) ?_
                      refine lv_icmp_eq (tgt := 206) hx hb dX5_after_198 (by decide) (fun c_70 => ?_) (fun c_70 => ?_)
                      · have hf71 := m_it c_70 hf69
                        clear hf69
                        refine lv_iconst (v := (-1)) hx hb dX5_after_206 (by decide) ?_
                        exact m_iret C hP hS dX5_after_207 hf71
                      · have hf72 := m_ie c_70 hf69
                        clear hf69
                        refine lv_bipush (v := 8) hx hb dX5_after_201 (by decide) ?_
                        refine lv_goto (tgt := 207) hx hb dX5_after_203 (by decide) ?_
                        exact m_iret C hP hS dX5_after_207 hf72
                  · have hf64 := m_ie c_62 hf55
                    clear hf55
                    by_cases c_73 : v0 = 8
                    · have hf74 := m_it c_73 hf64
                      clear hf64
                      refine lv_tableIn (tgt := 208) hx hb dX5_after_20 (by rw [c_73]; decide) (by rw [c_73]; decide) (by rw [c_73]; rfl) (by decide) ?_
                      refine lv_iload_n hx hb dX5_after_208 rfl (lv_at hl 1 rfl) ?_
                      obtain ⟨r_76, X_76, h_76, hf77⟩ := m_bi_s hf74
                      clear hf74
                      refine m_callSi C [.int v1] [] (c_X5_isDigit l D a cy hG N _ _ h_76) (m_goodS wl_X5_35 wst_X5_isDigit wn_X5 wc_X5_isDigit) ⟨rfl, rfl⟩ hv_X5_isDigit ⟨Nat.le_of_ble_eq_true rfl, Nat.le_of_ble_eq_true rfl⟩ hP hS rfl hl.1 rfl (Nat.le_of_ble_eq_true rfl) dX5_after_209 (fun H locs hP hS => ?_)
                      refine lv_if_eq (tgt := 220) hx hb dX5_after_212 (by decide) (fun c_78 => ?_) (fun c_78 => ?_)
                      · have hf79 := m_it c_78 hf77
                        clear hf77
                        refine lv_iconst (v := (-1)) hx hb dX5_after_220 (by decide) ?_
                        exact m_iret C hP hS dX5_after_221 hf79
                      · have hf80 := m_ie c_78 hf77
                        clear hf77
                        refine lv_bipush (v := 9) hx hb dX5_after_215 (by decide) ?_
                        refine lv_goto (tgt := 221) hx hb dX5_after_217 (by decide) ?_
                        exact m_iret C hP hS dX5_after_221 hf80
                    · have hf75 := m_ie c_73 hf64
                      clear hf64
                      have n_4 := lv_neT (a := 0) c_4 (by decide)
                      have n_9 := lv_neT (a := 1) c_9 (by decide)
                      have n_21 := lv_neT (a := 2) c_21 (by decide)
                      have n_27 := lv_neT (a := 3) c_27 (by decide)
                      have n_36 := lv_neT (a := 4) c_36 (by decide)
                      have n_42 := lv_neT (a := 5) c_42 (by decide)
                      have n_53 := lv_neT (a := 6) c_53 (by decide)
                      have n_62 := lv_neT (a := 7) c_62 (by decide)
                      have n_73 := lv_neT (a := 8) c_73 (by decide)
                      refine lv_tableOut (tgt := 222) hx hb dX5_after_20 (by omega) (by decide) ?_
                      refine lv_iconst (v := (-1)) hx hb dX5_after_222 (by decide) ?_
                      exact m_iret C hP hS dX5_after_223 hf75
  · have hf3 := m_it c_1 hf0
    clear hf0
    refine lv_iload_n hx hb dX5_after_6 rfl (lv_at hl 0 rfl) ?_
    obtain ⟨r_81, X_81, h_81, hf82⟩ := m_bi_s hf3
    clear hf3
    refine m_callSi C [.int v0] [] (c_X5_isComplete l D a cy hG N _ _ h_81) (m_goodS wl_X5_27 wst_X5_isComplete wn_X5 wc_X5_isComplete) ⟨rfl, rfl⟩ hv_X5_isComplete ⟨Nat.le_of_ble_eq_true rfl, Nat.le_of_ble_eq_true rfl⟩ hP hS rfl hl.1 rfl (Nat.le_of_ble_eq_true rfl) dX5_after_7 (fun H locs hP hS => ?_)
    refine lv_if_eq (tgt := 17) hx hb dX5_after_10 (by decide) (fun c_83 => ?_) (fun c_83 => ?_)
    · have hf84 := m_it c_83 hf82
      clear hf82
      refine lv_iconst (v := (-1)) hx hb dX5_after_17 (by decide) ?_
      exact m_iret C hP hS dX5_after_18 hf84
    · have hf85 := m_ie c_83 hf82
      clear hf82
      refine lv_iconst (v := 0) hx hb dX5_after_13 (by decide) ?_
      refine lv_goto (tgt := 18) hx hb dX5_after_14 (by decide) ?_
      exact m_iret C hP hS dX5_after_18 hf85
abbrev rm_X5_firstFault : Room := { frames := 3, cells := 0, slots := 0, locals := 61 }
def f_X5_firstFault_35 (N : Nat) (v1 : Int32) (X : XT) : Option (Int32 × XT) := m_bi (f_X5_isComplete N v1 X) fun r_4 X_4 => if r_4 = 0 then (some ((X_4 129 1), X_4)) else (some ((-5), X_4))
set_option maxHeartbeats 4000000 in
set_option maxRecDepth 100000 in
theorem w_X5_firstFault_35 (l : Launch) (D : va_G) (a : Nat → Nat) (cy : Nat → ClassId) (hG : m_inj 131 a) (N : Nat) {p : Program} {e : Env} {s : State} {m : MethodId} {args : Array Value} {below : List Frame} {meth : Method} {c : Code} (C : m_Cx p s m args meth c cX5_firstFault 3 RX5 (some .int) (Cond.code yX5_firstFault cX5_firstFault 3 (some .int)) D (m_tc cy) (m_AC a) (m_WC a cy) (m_ZC a)) {r0 : Int32} {X0 : XT} (v1 : Int32) (X : XT) (hf0 : f_X5_firstFault_35 N v1 X = some (r0, X0)) : ∀ (H : Heap) (locs : List Loc) (ls : Array Slot), va_P D vwCl (m_WC a cy X) H → va_S (m_AC a) s.heap H locs → lv_has ls 3 [(0, .ref (a 129)), (1, .int v1)] → W p l e rm_X5_firstFault s m args below meth c H locs 0 0 (MQ below (m_QI D (m_WC a cy) (m_AC a) r0 X0) args s 0 0 (m_AC a)) (F0 m 35 ls []) := by
  have hx := C.1.1
  have hb := C.1.2.1
  intro H locs ls hP hS hl
  unfold f_X5_firstFault_35 at hf0
  refine lv_iload_n hx hb dX5_firstFault_35 rfl (lv_at hl 1 rfl) ?_
  obtain ⟨r_4, X_4, h_4, hf5⟩ := m_bi_s hf0
  clear hf0
  refine m_callSi C [.int v1] [] (c_X5_isComplete l D a cy hG N _ _ h_4) (m_goodS wl_X5_27 wst_X5_isComplete wn_X5 wc_X5_isComplete) ⟨rfl, rfl⟩ hv_X5_isComplete ⟨Nat.le_of_ble_eq_true rfl, Nat.le_of_ble_eq_true rfl⟩ hP hS rfl hl.1 rfl (Nat.le_of_ble_eq_true rfl) dX5_firstFault_36 (fun H locs hP hS => ?_)
  refine lv_if_eq (tgt := 47) hx hb dX5_firstFault_39 (by decide) (fun c_6 => ?_) (fun c_6 => ?_)
  · have hf7 := m_it c_6 hf5
    clear hf5
    refine lv_aload_n hx hb dX5_firstFault_47 rfl (lv_at hl 0 rfl) ?_
    refine m_get C hP mC_129 rfl inX5 1 (by decide) wf_X5_15 rfl dX5_firstFault_48 ?_
    exact m_iret C hP hS dX5_firstFault_51 hf7
  · have hf8 := m_ie c_6 hf5
    clear hf5
    refine lv_bipush (v := (-5)) hx hb dX5_firstFault_42 (by decide) ?_
    refine lv_goto (tgt := 51) hx hb dX5_firstFault_44 (by decide) ?_
    exact m_iret C hP hS dX5_firstFault_51 hf8
def f_X5_firstFault_4 (N : Nat) : Nat → Int32 → Int32 → XT → Option (Int32 × XT)
  | 0, _, _, _ => none
  | n + 1, v1, v2, X => if (X 129 1) ≤ v2 then (f_X5_firstFault_35 N v1 X) else (m_bi (f_X5_characterAt N v2 X) fun r_9 X_9 => m_bi (f_X5_after N v1 r_9 X_9) fun r_11 X_11 => if r_11 = (-1) then (some (v2, X_11)) else (m_nm (v2 + 1) fun y_16 => f_X5_firstFault_4 N n r_11 y_16 X_11))
set_option maxHeartbeats 4000000 in
set_option maxRecDepth 100000 in
theorem w_X5_firstFault_4 (l : Launch) (D : va_G) (a : Nat → Nat) (cy : Nat → ClassId) (hG : m_inj 131 a) (N : Nat) {p : Program} {e : Env} {s : State} {m : MethodId} {args : Array Value} {below : List Frame} {meth : Method} {c : Code} (C : m_Cx p s m args meth c cX5_firstFault 3 RX5 (some .int) (Cond.code yX5_firstFault cX5_firstFault 3 (some .int)) D (m_tc cy) (m_AC a) (m_WC a cy) (m_ZC a)) {r0 : Int32} {X0 : XT} : ∀ (n : Nat) (v1 : Int32) (v2 : Int32) (X : XT), f_X5_firstFault_4 N n v1 v2 X = some (r0, X0) → ∀ (H : Heap) (locs : List Loc) (ls : Array Slot), va_P D vwCl (m_WC a cy X) H → va_S (m_AC a) s.heap H locs → lv_has ls 3 [(0, .ref (a 129)), (1, .int v1), (2, .int v2)] → W p l e rm_X5_firstFault s m args below meth c H locs 0 0 (MQ below (m_QI D (m_WC a cy) (m_AC a) r0 X0) args s 0 0 (m_AC a)) (F0 m 4 ls []) := by
  have hx := C.1.1
  have hb := C.1.2.1
  intro n
  induction n with
  | zero => intro v1 v2 X hf0; rw [f_X5_firstFault_4] at hf0; cases hf0
  | succ n ih =>
    intro v1 v2 X hf0 H locs ls hP hS hl
    rw [f_X5_firstFault_4] at hf0
    refine lv_iload_n hx hb dX5_firstFault_4 rfl (lv_at hl 2 rfl) ?_
    refine lv_aload_n hx hb dX5_firstFault_5 rfl (lv_at hl 0 rfl) ?_
    refine m_get C hP mC_129 rfl inX5 1 (by decide) wf_X5_15 rfl dX5_firstFault_6 ?_
    refine lv_icmp_ge (tgt := 35) hx hb dX5_firstFault_9 (by decide) (fun c_1 => ?_) (fun c_1 => ?_)
    · have hf2 := m_it c_1 hf0
      clear hf0
      exact w_X5_firstFault_35 l D a cy hG N C _ _ hf2 H locs ls hP hS (lv_sub hl [0, 1] rfl)
    · have hf3 := m_ie c_1 hf0
      clear hf0
      refine lv_iload_n hx hb dX5_firstFault_12 rfl (lv_at hl 1 rfl) ?_
      refine lv_aload_n hx hb dX5_firstFault_13 rfl (lv_at hl 0 rfl) ?_
      refine lv_iload_n hx hb dX5_firstFault_14 rfl (lv_at hl 2 rfl) ?_
      obtain ⟨r_9, X_9, h_9, hf10⟩ := m_bi_s hf3
      clear hf3
      refine m_callVi (q := (RX5, TX5, 7)) C [.int v2] [.int v1] (c_X5_characterAt l D a cy hG N _ _ h_9) (m_goodV wl_X5_19 wi_X5_characterAt ws_X5_characterAt wn_X5 wc_X5_characterAt) ⟨rfl, rfl⟩ hv_X5_characterAt ⟨Nat.le_of_ble_eq_true rfl, Nat.le_of_ble_eq_true rfl⟩ rfl mC_129 hP hS rfl hl.1 rfl (Nat.le_of_ble_eq_true rfl) dX5_firstFault_15 (fun H locs hP hS => ?_)
      obtain ⟨r_11, X_11, h_11, hf12⟩ := m_bi_s hf10
      clear hf10
      refine m_callSi C [.int v1, .int r_9] [] (c_X5_after l D a cy hG N _ _ _ h_11) (m_goodS wl_X5_23 wst_X5_after wn_X5 wc_X5_after) ⟨rfl, rfl⟩ hv_X5_after ⟨Nat.le_of_ble_eq_true rfl, Nat.le_of_ble_eq_true rfl⟩ hP hS rfl hl.1 rfl (Nat.le_of_ble_eq_true rfl) dX5_firstFault_18 (fun H locs hP hS => ?_)
      refine lv_istore_n (lv' := [(1, .int r_11), (0, .ref (a 129)), (2, .int v2)]) hx hb dX5_firstFault_21 rfl hl (by decide) rfl (fun ls hl => ?_)
      refine lv_iload_n hx hb dX5_firstFault_22 rfl (lv_at hl 0 rfl) ?_
      refine lv_iconst (v := (-1)) hx hb dX5_firstFault_23 (by decide) ?_
      refine lv_icmp_ne (tgt := 29) hx hb dX5_firstFault_24 (by decide) (fun c_13 => ?_) (fun c_13 => ?_)
      · have hf14 := m_ie c_13 hf12
        clear hf12
        obtain ⟨y_16, e_16⟩ : ∃ y : Int32, y = v2 + 1 := ⟨_, rfl⟩
        refine lv_iinc (v := y_16) (lv' := [(2, .int y_16), (1, .int r_11), (0, .ref (a 129))]) hx hb dX5_firstFault_29 hl (k := 2) rfl (by rw [e_16]; rfl) (by decide) rfl (fun ls hl => ?_)
        have hf17 := m_nm_s e_16 hf14
        clear hf14
        refine lv_goto (tgt := 4) hx hb dX5_firstFault_32 (by decide) ?_
        exact ih _ _ _ hf17 H locs ls hP hS (lv_sub hl [2, 1, 0] rfl)
      · have hf15 := m_it c_13 hf12
        clear hf12
        refine lv_iload_n hx hb dX5_firstFault_27 rfl (lv_at hl 2 rfl) ?_
        exact m_iret C hP hS dX5_firstFault_28 hf15
def f_X5_firstFault (N : Nat) (X : XT) : Option (Int32 × XT) := f_X5_firstFault_4 N N 0 0 X
set_option maxHeartbeats 4000000 in
set_option maxRecDepth 100000 in
theorem c_X5_firstFault (l : Launch) (D : va_G) (a : Nat → Nat) (cy : Nat → ClassId) (hG : m_inj 131 a) (N : Nat) (X : XT) {r0 : Int32} {X0 : XT} (hf0 : f_X5_firstFault N X = some (r0, X0)) : Met l yX5_firstFault (Cond.code yX5_firstFault cX5_firstFault 3 (some .int) :: m_tbl) rm_X5_firstFault (va_Pc [.ref (a 129)] (m_PX D (m_tc cy) (m_WC a cy) (m_ZC a) X)) (m_QI D (m_WC a cy) (m_AC a) r0 X0) 0 0 (m_AC a) := by
  refine m_met (own := RX5) hy_X5_firstFault rfl (Nat.le_of_ble_eq_true rfl) (m_wl_D hG _) m_ZC_keep ?_
  intro p e s m args below meth c C ls hl hP hS
  have hx := C.1.1
  have hb := C.1.2.1
  have hl : lv_has ls 3 [(0, .ref (a 129))] := hl
  unfold f_X5_firstFault at hf0
  suffices K : ∀ (H : Heap) (locs : List Loc), va_P D vwCl (m_WC a cy X) H → va_S (m_AC a) s.heap H locs → W p l e rm_X5_firstFault s m args below meth c H locs 0 0 (MQ below (m_QI D (m_WC a cy) (m_AC a) r0 X0) args s 0 0 (m_AC a)) (F0 m 0 ls []) from K _ _ hP hS
  clear hP hS
  intro H locs hP hS
  refine lv_iconst (v := 0) hx hb dX5_firstFault_0 (by decide) ?_
  refine lv_istore_n (lv' := [(1, .int 0), (0, .ref (a 129))]) hx hb dX5_firstFault_1 rfl hl (by decide) rfl (fun ls hl => ?_)
  refine lv_iconst (v := 0) hx hb dX5_firstFault_2 (by decide) ?_
  refine lv_istore_n (lv' := [(2, .int 0), (1, .int 0), (0, .ref (a 129))]) hx hb dX5_firstFault_3 rfl hl (by decide) rfl (fun ls hl => ?_)
  exact w_X5_firstFault_4 l D a cy hG N C _ _ _ _ hf0 H locs ls hP hS (lv_sub hl [2, 1, 0] rfl)
abbrev rm_X5_orders : Room := { frames := 1, cells := 0, slots := 0, locals := 21 }
def f_X5_orders_4 (N : Nat) : Nat → Int32 → Int32 → XT → Option (Int32 × XT)
  | 0, _, _, _ => none
  | n + 1, v1, v2, X => if (X 129 1) ≤ v2 then (some (v1, X)) else (m_bi (f_X5_characterAt N v2 X) fun r_4 X_4 => if r_4 = 59 then (m_nm (v1 + 1) fun y_11 => m_nm (v2 + 1) fun y_13 => f_X5_orders_4 N n y_11 y_13 X_4) else (m_nm (v2 + 1) fun y_9 => f_X5_orders_4 N n v1 y_9 X_4))
set_option maxHeartbeats 4000000 in
set_option maxRecDepth 100000 in
theorem w_X5_orders_4 (l : Launch) (D : va_G) (a : Nat → Nat) (cy : Nat → ClassId) (hG : m_inj 131 a) (N : Nat) {p : Program} {e : Env} {s : State} {m : MethodId} {args : Array Value} {below : List Frame} {meth : Method} {c : Code} (C : m_Cx p s m args meth c cX5_orders 3 RX5 (some .int) (Cond.code yX5_orders cX5_orders 3 (some .int)) D (m_tc cy) (m_AC a) (m_WC a cy) (m_ZC a)) {r0 : Int32} {X0 : XT} : ∀ (n : Nat) (v1 : Int32) (v2 : Int32) (X : XT), f_X5_orders_4 N n v1 v2 X = some (r0, X0) → ∀ (H : Heap) (locs : List Loc) (ls : Array Slot), va_P D vwCl (m_WC a cy X) H → va_S (m_AC a) s.heap H locs → lv_has ls 3 [(0, .ref (a 129)), (1, .int v1), (2, .int v2)] → W p l e rm_X5_orders s m args below meth c H locs 0 0 (MQ below (m_QI D (m_WC a cy) (m_AC a) r0 X0) args s 0 0 (m_AC a)) (F0 m 4 ls []) := by
  have hx := C.1.1
  have hb := C.1.2.1
  intro n
  induction n with
  | zero => intro v1 v2 X hf0; rw [f_X5_orders_4] at hf0; cases hf0
  | succ n ih =>
    intro v1 v2 X hf0 H locs ls hP hS hl
    rw [f_X5_orders_4] at hf0
    refine lv_iload_n hx hb dX5_orders_4 rfl (lv_at hl 2 rfl) ?_
    refine lv_aload_n hx hb dX5_orders_5 rfl (lv_at hl 0 rfl) ?_
    refine m_get C hP mC_129 rfl inX5 1 (by decide) wf_X5_15 rfl dX5_orders_6 ?_
    refine lv_icmp_ge (tgt := 31) hx hb dX5_orders_9 (by decide) (fun c_1 => ?_) (fun c_1 => ?_)
    · have hf2 := m_it c_1 hf0
      clear hf0
      refine lv_iload_n hx hb dX5_orders_31 rfl (lv_at hl 1 rfl) ?_
      exact m_iret C hP hS dX5_orders_32 hf2
    · have hf3 := m_ie c_1 hf0
      clear hf0
      refine lv_aload_n hx hb dX5_orders_12 rfl (lv_at hl 0 rfl) ?_
      refine lv_iload_n hx hb dX5_orders_13 rfl (lv_at hl 2 rfl) ?_
      obtain ⟨r_4, X_4, h_4, hf5⟩ := m_bi_s hf3
      clear hf3
      refine m_callVi (q := (RX5, TX5, 7)) C [.int v2] [] (c_X5_characterAt l D a cy hG N _ _ h_4) (m_goodV wl_X5_19 wi_X5_characterAt ws_X5_characterAt wn_X5 wc_X5_characterAt) ⟨rfl, rfl⟩ hv_X5_characterAt ⟨Nat.le_of_ble_eq_true rfl, Nat.le_of_ble_eq_true rfl⟩ rfl mC_129 hP hS rfl hl.1 rfl (Nat.le_of_ble_eq_true rfl) dX5_orders_14 (fun H locs hP hS => ?_)
      refine lv_bipush (v := 59) hx hb dX5_orders_17 (by decide) ?_
      refine lv_icmp_ne (tgt := 25) hx hb dX5_orders_19 (by decide) (fun c_6 => ?_) (fun c_6 => ?_)
      · have hf7 := m_ie c_6 hf5
        clear hf5
        obtain ⟨y_9, e_9⟩ : ∃ y : Int32, y = v2 + 1 := ⟨_, rfl⟩
        refine lv_iinc (v := y_9) (lv' := [(2, .int y_9), (0, .ref (a 129)), (1, .int v1)]) hx hb dX5_orders_25 hl (k := 2) rfl (by rw [e_9]; rfl) (by decide) rfl (fun ls hl => ?_)
        have hf10 := m_nm_s e_9 hf7
        clear hf7
        refine lv_goto (tgt := 4) hx hb dX5_orders_28 (by decide) ?_
        exact ih _ _ _ hf10 H locs ls hP hS (lv_sub hl [1, 2, 0] rfl)
      · have hf8 := m_it c_6 hf5
        clear hf5
        obtain ⟨y_11, e_11⟩ : ∃ y : Int32, y = v1 + 1 := ⟨_, rfl⟩
        refine lv_iinc (v := y_11) (lv' := [(1, .int y_11), (0, .ref (a 129)), (2, .int v2)]) hx hb dX5_orders_22 hl (k := 1) rfl (by rw [e_11]; rfl) (by decide) rfl (fun ls hl => ?_)
        have hf12 := m_nm_s e_11 hf8
        clear hf8
        obtain ⟨y_13, e_13⟩ : ∃ y : Int32, y = v2 + 1 := ⟨_, rfl⟩
        refine lv_iinc (v := y_13) (lv' := [(2, .int y_13), (1, .int y_11), (0, .ref (a 129))]) hx hb dX5_orders_25 hl (k := 2) rfl (by rw [e_13]; rfl) (by decide) rfl (fun ls hl => ?_)
        have hf14 := m_nm_s e_13 hf12
        clear hf12
        refine lv_goto (tgt := 4) hx hb dX5_orders_28 (by decide) ?_
        exact ih _ _ _ hf14 H locs ls hP hS (lv_sub hl [2, 1, 0] rfl)
def f_X5_orders (N : Nat) (X : XT) : Option (Int32 × XT) := f_X5_orders_4 N N 1 0 X
set_option maxHeartbeats 4000000 in
set_option maxRecDepth 100000 in
theorem c_X5_orders (l : Launch) (D : va_G) (a : Nat → Nat) (cy : Nat → ClassId) (hG : m_inj 131 a) (N : Nat) (X : XT) {r0 : Int32} {X0 : XT} (hf0 : f_X5_orders N X = some (r0, X0)) : Met l yX5_orders (Cond.code yX5_orders cX5_orders 3 (some .int) :: m_tbl) rm_X5_orders (va_Pc [.ref (a 129)] (m_PX D (m_tc cy) (m_WC a cy) (m_ZC a) X)) (m_QI D (m_WC a cy) (m_AC a) r0 X0) 0 0 (m_AC a) := by
  refine m_met (own := RX5) hy_X5_orders rfl (Nat.le_of_ble_eq_true rfl) (m_wl_D hG _) m_ZC_keep ?_
  intro p e s m args below meth c C ls hl hP hS
  have hx := C.1.1
  have hb := C.1.2.1
  have hl : lv_has ls 3 [(0, .ref (a 129))] := hl
  unfold f_X5_orders at hf0
  suffices K : ∀ (H : Heap) (locs : List Loc), va_P D vwCl (m_WC a cy X) H → va_S (m_AC a) s.heap H locs → W p l e rm_X5_orders s m args below meth c H locs 0 0 (MQ below (m_QI D (m_WC a cy) (m_AC a) r0 X0) args s 0 0 (m_AC a)) (F0 m 0 ls []) from K _ _ hP hS
  clear hP hS
  intro H locs hP hS
  refine lv_iconst (v := 1) hx hb dX5_orders_0 (by decide) ?_
  refine lv_istore_n (lv' := [(1, .int 1), (0, .ref (a 129))]) hx hb dX5_orders_1 rfl hl (by decide) rfl (fun ls hl => ?_)
  refine lv_iconst (v := 0) hx hb dX5_orders_2 (by decide) ?_
  refine lv_istore_n (lv' := [(2, .int 0), (1, .int 1), (0, .ref (a 129))]) hx hb dX5_orders_3 rfl hl (by decide) rfl (fun ls hl => ?_)
  exact w_X5_orders_4 l D a cy hG N C _ _ _ _ hf0 H locs ls hP hS (lv_sub hl [2, 1, 0] rfl)
abbrev rm_X5_goToStart : Room := { frames := 0, cells := 0, slots := 0, locals := 0 }
def f_X5_goToStart (N : Nat) (X : XT) : Option XT := m_nm (m_up X 129 (upd (X 129) 2 0)) fun X_1 => some X_1
set_option maxHeartbeats 4000000 in
set_option maxRecDepth 100000 in
theorem c_X5_goToStart (l : Launch) (D : va_G) (a : Nat → Nat) (cy : Nat → ClassId) (hG : m_inj 131 a) (N : Nat) (X : XT) {X0 : XT} (hf0 : f_X5_goToStart N X = some X0) : Met l yX5_goToStart (Cond.code yX5_goToStart cX5_goToStart 1 none :: m_tbl) rm_X5_goToStart (va_Pc [.ref (a 129)] (m_PX D (m_tc cy) (m_WC a cy) (m_ZC a) X)) (m_QV D (m_WC a cy) (m_AC a) X0) 0 0 (m_AC a) := by
  refine m_met (own := RX5) hy_X5_goToStart rfl (Nat.le_of_ble_eq_true rfl) (m_wl_D hG _) m_ZC_keep ?_
  intro p e s m args below meth c C ls hl hP hS
  have hx := C.1.1
  have hb := C.1.2.1
  have hl : lv_has ls 1 [(0, .ref (a 129))] := hl
  unfold f_X5_goToStart at hf0
  suffices K : ∀ (H : Heap) (locs : List Loc), va_P D vwCl (m_WC a cy X) H → va_S (m_AC a) s.heap H locs → W p l e rm_X5_goToStart s m args below meth c H locs 0 0 (MQ below (m_QV D (m_WC a cy) (m_AC a) X0) args s 0 0 (m_AC a)) (F0 m 0 ls []) from K _ _ hP hS
  clear hP hS
  intro H locs hP hS
  refine lv_aload_n hx hb dX5_goToStart_0 rfl (lv_at hl 0 rfl) ?_
  refine lv_iconst (v := 0) hx hb dX5_goToStart_1 (by decide) ?_
  refine m_put C hP hS mC_129 rfl inX5 tyX5_ok nmX5 2 (by decide) wf_X5_39 rfl rfl rfl (Nat.le_of_ble_eq_true rfl) mC_129_2 dX5_goToStart_2 (fun X_1 e_1 H locs hP hS => ?_)
  have hf2 := m_nm_s e_1 hf0
  clear hf0
  exact m_vret C hP hS dX5_goToStart_5 hf2
abbrev rm_X5_kindOf : Room := { frames := 0, cells := 0, slots := 0, locals := 0 }
def f_X5_kindOf (N : Nat) (v0 : Int32) (X : XT) : Option (Int32 × XT) := if v0 = 42 then (some (4, X)) else (if v0 = 43 then (some (3, X)) else (if v0 = 102 then (some (1, X)) else (if v0 = 119 then (some (2, X)) else (some (0, X)))))
set_option maxHeartbeats 4000000 in
set_option maxRecDepth 100000 in
theorem c_X5_kindOf (l : Launch) (D : va_G) (a : Nat → Nat) (cy : Nat → ClassId) (hG : m_inj 131 a) (N : Nat) (v0 : Int32) (X : XT) {r0 : Int32} {X0 : XT} (hf0 : f_X5_kindOf N v0 X = some (r0, X0)) : Met l yX5_kindOf (Cond.code yX5_kindOf cX5_kindOf 1 (some .int) :: m_tbl) rm_X5_kindOf (va_Pc [.int v0] (m_PX D (m_tc cy) (m_WC a cy) (m_ZC a) X)) (m_QI D (m_WC a cy) (m_AC a) r0 X0) 0 0 (m_AC a) := by
  refine m_met (own := RX5) hy_X5_kindOf rfl (Nat.le_of_ble_eq_true rfl) (m_wl_D hG _) m_ZC_keep ?_
  intro p e s m args below meth c C ls hl hP hS
  have hx := C.1.1
  have hb := C.1.2.1
  have hl : lv_has ls 1 [(0, .int v0)] := hl
  unfold f_X5_kindOf at hf0
  suffices K : ∀ (H : Heap) (locs : List Loc), va_P D vwCl (m_WC a cy X) H → va_S (m_AC a) s.heap H locs → W p l e rm_X5_kindOf s m args below meth c H locs 0 0 (MQ below (m_QI D (m_WC a cy) (m_AC a) r0 X0) args s 0 0 (m_AC a)) (F0 m 0 ls []) from K _ _ hP hS
  clear hP hS
  intro H locs hP hS
  refine lv_iload_n hx hb dX5_kindOf_0 rfl (lv_at hl 0 rfl) ?_
  by_cases c_1 : v0 = 42
  · have hf2 := m_it c_1 hf0
    clear hf0
    refine lv_lookup (tgt := 50) (off := 49) hx hb dX5_kindOf_1 (by decide) (by rw [c_1]; rfl) (by decide) ?_
    refine lv_iconst (v := 4) hx hb dX5_kindOf_50 (by decide) ?_
    exact m_iret C hP hS dX5_kindOf_51 hf2
  · have hf3 := m_ie c_1 hf0
    clear hf0
    by_cases c_4 : v0 = 43
    · have hf5 := m_it c_4 hf3
      clear hf3
      refine lv_lookup (tgt := 48) (off := 47) hx hb dX5_kindOf_1 (by decide) (by rw [c_4]; rfl) (by decide) ?_
      refine lv_iconst (v := 3) hx hb dX5_kindOf_48 (by decide) ?_
      exact m_iret C hP hS dX5_kindOf_49 hf5
    · have hf6 := m_ie c_4 hf3
      clear hf3
      by_cases c_7 : v0 = 102
      · have hf8 := m_it c_7 hf6
        clear hf6
        refine lv_lookup (tgt := 44) (off := 43) hx hb dX5_kindOf_1 (by decide) (by rw [c_7]; rfl) (by decide) ?_
        refine lv_iconst (v := 1) hx hb dX5_kindOf_44 (by decide) ?_
        exact m_iret C hP hS dX5_kindOf_45 hf8
      · have hf9 := m_ie c_7 hf6
        clear hf6
        by_cases c_10 : v0 = 119
        · have hf11 := m_it c_10 hf9
          clear hf9
          refine lv_lookup (tgt := 46) (off := 45) hx hb dX5_kindOf_1 (by decide) (by rw [c_10]; rfl) (by decide) ?_
          refine lv_iconst (v := 2) hx hb dX5_kindOf_46 (by decide) ?_
          exact m_iret C hP hS dX5_kindOf_47 hf11
        · have hf12 := m_ie c_10 hf9
          clear hf9
          refine lv_lookup (tgt := 52) (off := 51) hx hb dX5_kindOf_1 (by decide) ((lv_osw c_1 (by decide)).trans ((lv_osw c_4 (by decide)).trans ((lv_osw c_7 (by decide)).trans ((lv_osw c_10 (by decide)).trans rfl)))) (by decide) ?_
          refine lv_iconst (v := 0) hx hb dX5_kindOf_52 (by decide) ?_
          exact m_iret C hP hS dX5_kindOf_53 hf12
abbrev rm_X5_readNumber : Room := { frames := 1, cells := 0, slots := 0, locals := 21 }
def f_X5_readNumber_4 (N : Nat) : Nat → Int32 → Int32 → XT → Option (Int32 × XT)
  | 0, _, _, _ => none
  | n + 1, v1, v2, X => if 2 ≤ v2 then (some (v1, X)) else (m_bi (f_X5_characterAt N (X 129 2) X) fun r_4 X_4 => m_bi (f_X5_isDigit N r_4 X_4) fun r_6 X_6 => if r_6 = 0 then (some (v1, X_6)) else (m_nm ((10 : Int32) * v1) fun y_11 => m_bi (f_X5_characterAt N (X_6 129 2) X_6) fun r_13 X_13 => m_nm (r_13 - 48) fun y_15 => m_nm (y_11 + y_15) fun y_17 => m_nm ((X_13 129 2) + 1) fun y_19 => m_nm (m_up X_13 129 (upd (X_13 129) 2 y_19)) fun X_21 => m_nm (v2 + 1) fun y_23 => f_X5_readNumber_4 N n y_17 y_23 X_21))
set_option maxHeartbeats 4000000 in
set_option maxRecDepth 100000 in
theorem w_X5_readNumber_4 (l : Launch) (D : va_G) (a : Nat → Nat) (cy : Nat → ClassId) (hG : m_inj 131 a) (N : Nat) {p : Program} {e : Env} {s : State} {m : MethodId} {args : Array Value} {below : List Frame} {meth : Method} {c : Code} (C : m_Cx p s m args meth c cX5_readNumber 3 RX5 (some .int) (Cond.code yX5_readNumber cX5_readNumber 3 (some .int)) D (m_tc cy) (m_AC a) (m_WC a cy) (m_ZC a)) {r0 : Int32} {X0 : XT} : ∀ (n : Nat) (v1 : Int32) (v2 : Int32) (X : XT), f_X5_readNumber_4 N n v1 v2 X = some (r0, X0) → ∀ (H : Heap) (locs : List Loc) (ls : Array Slot), va_P D vwCl (m_WC a cy X) H → va_S (m_AC a) s.heap H locs → lv_has ls 3 [(0, .ref (a 129)), (1, .int v1), (2, .int v2)] → W p l e rm_X5_readNumber s m args below meth c H locs 0 0 (MQ below (m_QI D (m_WC a cy) (m_AC a) r0 X0) args s 0 0 (m_AC a)) (F0 m 4 ls []) := by
  have hx := C.1.1
  have hb := C.1.2.1
  intro n
  induction n with
  | zero => intro v1 v2 X hf0; rw [f_X5_readNumber_4] at hf0; cases hf0
  | succ n ih =>
    intro v1 v2 X hf0 H locs ls hP hS hl
    rw [f_X5_readNumber_4] at hf0
    refine lv_iload_n hx hb dX5_readNumber_4 rfl (lv_at hl 2 rfl) ?_
    refine lv_iconst (v := 2) hx hb dX5_readNumber_5 (by decide) ?_
    refine lv_icmp_ge (tgt := 56) hx hb dX5_readNumber_6 (by decide) (fun c_1 => ?_) (fun c_1 => ?_)
    · have hf2 := m_it c_1 hf0
      clear hf0
      refine lv_iload_n hx hb dX5_readNumber_56 rfl (lv_at hl 1 rfl) ?_
      exact m_iret C hP hS dX5_readNumber_57 hf2
    · have hf3 := m_ie c_1 hf0
      clear hf0
      refine lv_aload_n hx hb dX5_readNumber_9 rfl (lv_at hl 0 rfl) ?_
      refine lv_aload_n hx hb dX5_readNumber_10 rfl (lv_at hl 0 rfl) ?_
      refine m_get C hP mC_129 rfl inX5 2 (by decide) wf_X5_39 rfl dX5_readNumber_11 ?_
      obtain ⟨r_4, X_4, h_4, hf5⟩ := m_bi_s hf3
      clear hf3
      refine m_callVi (q := (RX5, TX5, 7)) C [.int (X 129 2)] [] (c_X5_characterAt l D a cy hG N _ _ h_4) (m_goodV wl_X5_19 wi_X5_characterAt ws_X5_characterAt wn_X5 wc_X5_characterAt) ⟨rfl, rfl⟩ hv_X5_characterAt ⟨Nat.le_of_ble_eq_true rfl, Nat.le_of_ble_eq_true rfl⟩ rfl mC_129 hP hS rfl hl.1 rfl (Nat.le_of_ble_eq_true rfl) dX5_readNumber_14 (fun H locs hP hS => ?_)
      obtain ⟨r_6, X_6, h_6, hf7⟩ := m_bi_s hf5
      clear hf5
      refine m_callSi C [.int r_4] [] (c_X5_isDigit l D a cy hG N _ _ h_6) (m_goodS wl_X5_35 wst_X5_isDigit wn_X5 wc_X5_isDigit) ⟨rfl, rfl⟩ hv_X5_isDigit ⟨Nat.le_of_ble_eq_true rfl, Nat.le_of_ble_eq_true rfl⟩ hP hS rfl hl.1 rfl (Nat.le_of_ble_eq_true rfl) dX5_readNumber_17 (fun H locs hP hS => ?_)
      refine lv_if_eq (tgt := 56) hx hb dX5_readNumber_20 (by decide) (fun c_8 => ?_) (fun c_8 => ?_)
      · have hf9 := m_it c_8 hf7
        clear hf7
        refine lv_iload_n hx hb dX5_readNumber_56 rfl (lv_at hl 1 rfl) ?_
        exact m_iret C hP hS dX5_readNumber_57 hf9
      · have hf10 := m_ie c_8 hf7
        clear hf7
        refine lv_bipush (v := 10) hx hb dX5_readNumber_23 (by decide) ?_
        refine lv_iload_n hx hb dX5_readNumber_25 rfl (lv_at hl 1 rfl) ?_
        refine lv_imul hx hb dX5_readNumber_26 ?_
        refine lv_topi (fun y_11 e_11 => ?_)
        have hf12 := m_nm_s e_11 hf10
        clear hf10
        refine lv_aload_n hx hb dX5_readNumber_27 rfl (lv_at hl 0 rfl) ?_
        refine lv_aload_n hx hb dX5_readNumber_28 rfl (lv_at hl 0 rfl) ?_
        refine m_get C hP mC_129 rfl inX5 2 (by decide) wf_X5_39 rfl dX5_readNumber_29 ?_
        obtain ⟨r_13, X_13, h_13, hf14⟩ := m_bi_s hf12
        clear hf12
        refine m_callVi (q := (RX5, TX5, 7)) C [.int (X_6 129 2)] [.int y_11] (c_X5_characterAt l D a cy hG N _ _ h_13) (m_goodV wl_X5_19 wi_X5_characterAt ws_X5_characterAt wn_X5 wc_X5_characterAt) ⟨rfl, rfl⟩ hv_X5_characterAt ⟨Nat.le_of_ble_eq_true rfl, Nat.le_of_ble_eq_true rfl⟩ rfl mC_129 hP hS rfl hl.1 rfl (Nat.le_of_ble_eq_true rfl) dX5_readNumber_32 (fun H locs hP hS => ?_)
        refine lv_bipush (v := 48) hx hb dX5_readNumber_35 (by decide) ?_
        refine lv_isub hx hb dX5_readNumber_37 ?_
        refine lv_topi (fun y_15 e_15 => ?_)
        have hf16 := m_nm_s e_15 hf14
        clear hf14
        refine lv_iadd hx hb dX5_readNumber_38 ?_
        refine lv_topi (fun y_17 e_17 => ?_)
        have hf18 := m_nm_s e_17 hf16
        clear hf16
        refine lv_istore_n (lv' := [(1, .int y_17), (0, .ref (a 129)), (2, .int v2)]) hx hb dX5_readNumber_39 rfl hl (by decide) rfl (fun ls hl => ?_)
        refine lv_aload_n hx hb dX5_readNumber_40 rfl (lv_at hl 1 rfl) ?_
        refine lv_dup hx hb dX5_readNumber_41 rfl ?_
        refine m_get C hP mC_129 rfl inX5 2 (by decide) wf_X5_39 rfl dX5_readNumber_42 ?_
        refine lv_iconst (v := 1) hx hb dX5_readNumber_45 (by decide) ?_
        refine lv_iadd hx hb dX5_readNumber_46 ?_
        refine lv_topi (fun y_19 e_19 => ?_)
        have hf20 := m_nm_s e_19 hf18
        clear hf18
        refine m_put C hP hS mC_129 rfl inX5 tyX5_ok nmX5 2 (by decide) wf_X5_39 rfl rfl rfl (Nat.le_of_ble_eq_true rfl) mC_129_2 dX5_readNumber_47 (fun X_21 e_21 H locs hP hS => ?_)
        have hf22 := m_nm_s e_21 hf20
        clear hf20
        obtain ⟨y_23, e_23⟩ : ∃ y : Int32, y = v2 + 1 := ⟨_, rfl⟩
        refine lv_iinc (v := y_23) (lv' := [(2, .int y_23), (1, .int y_17), (0, .ref (a 129))]) hx hb dX5_readNumber_50 hl (k := 2) rfl (by rw [e_23]; rfl) (by decide) rfl (fun ls hl => ?_)
        have hf24 := m_nm_s e_23 hf22
        clear hf22
        refine lv_goto (tgt := 4) hx hb dX5_readNumber_53 (by decide) ?_
        exact ih _ _ _ hf24 H locs ls hP hS (lv_sub hl [2, 1, 0] rfl)
def f_X5_readNumber (N : Nat) (X : XT) : Option (Int32 × XT) := f_X5_readNumber_4 N N 0 0 X
set_option maxHeartbeats 4000000 in
set_option maxRecDepth 100000 in
theorem c_X5_readNumber (l : Launch) (D : va_G) (a : Nat → Nat) (cy : Nat → ClassId) (hG : m_inj 131 a) (N : Nat) (X : XT) {r0 : Int32} {X0 : XT} (hf0 : f_X5_readNumber N X = some (r0, X0)) : Met l yX5_readNumber (Cond.code yX5_readNumber cX5_readNumber 3 (some .int) :: m_tbl) rm_X5_readNumber (va_Pc [.ref (a 129)] (m_PX D (m_tc cy) (m_WC a cy) (m_ZC a) X)) (m_QI D (m_WC a cy) (m_AC a) r0 X0) 0 0 (m_AC a) := by
  refine m_met (own := RX5) hy_X5_readNumber rfl (Nat.le_of_ble_eq_true rfl) (m_wl_D hG _) m_ZC_keep ?_
  intro p e s m args below meth c C ls hl hP hS
  have hx := C.1.1
  have hb := C.1.2.1
  have hl : lv_has ls 3 [(0, .ref (a 129))] := hl
  unfold f_X5_readNumber at hf0
  suffices K : ∀ (H : Heap) (locs : List Loc), va_P D vwCl (m_WC a cy X) H → va_S (m_AC a) s.heap H locs → W p l e rm_X5_readNumber s m args below meth c H locs 0 0 (MQ below (m_QI D (m_WC a cy) (m_AC a) r0 X0) args s 0 0 (m_AC a)) (F0 m 0 ls []) from K _ _ hP hS
  clear hP hS
  intro H locs hP hS
  refine lv_iconst (v := 0) hx hb dX5_readNumber_0 (by decide) ?_
  refine lv_istore_n (lv' := [(1, .int 0), (0, .ref (a 129))]) hx hb dX5_readNumber_1 rfl hl (by decide) rfl (fun ls hl => ?_)
  refine lv_iconst (v := 0) hx hb dX5_readNumber_2 (by decide) ?_
  refine lv_istore_n (lv' := [(2, .int 0), (1, .int 0), (0, .ref (a 129))]) hx hb dX5_readNumber_3 rfl hl (by decide) rfl (fun ls hl => ?_)
  exact w_X5_readNumber_4 l D a cy hG N C _ _ _ _ hf0 H locs ls hP hS (lv_sub hl [2, 1, 0] rfl)
abbrev rm_X5_readRecords : Room := { frames := 1, cells := 0, slots := 0, locals := 21 }
def f_X5_readRecords_54 (N : Nat) (u0 : Int32) (X : XT) : Option XT := m_gd (u0 = 0 ∨ u0 = 1) <| m_nm (m_up X 129 (upd (X 129) 6 u0)) fun X_20 => if (X_20 129 6) = 0 then (some X_20) else (m_nm ((X_20 129 2) + 1) fun y_26 => m_nm (m_up X_20 129 (upd (X_20 129) 2 y_26)) fun X_28 => some X_28)
set_option maxHeartbeats 4000000 in
set_option maxRecDepth 100000 in
theorem w_X5_readRecords_54 (l : Launch) (D : va_G) (a : Nat → Nat) (cy : Nat → ClassId) (hG : m_inj 131 a) (N : Nat) {p : Program} {e : Env} {s : State} {m : MethodId} {args : Array Value} {below : List Frame} {meth : Method} {c : Code} (C : m_Cx p s m args meth c cX5_readRecords 1 RX5 none (Cond.code yX5_readRecords cX5_readRecords 1 none) D (m_tc cy) (m_AC a) (m_WC a cy) (m_ZC a)) {X0 : XT} (u0 : Int32) (X : XT) (hf0 : f_X5_readRecords_54 N u0 X = some X0) : ∀ (H : Heap) (locs : List Loc) (ls : Array Slot), va_P D vwCl (m_WC a cy X) H → va_S (m_AC a) s.heap H locs → lv_has ls 1 [(0, .ref (a 129))] → W p l e rm_X5_readRecords s m args below meth c H locs 0 0 (MQ below (m_QV D (m_WC a cy) (m_AC a) X0) args s 0 0 (m_AC a)) (F0 m 54 ls [.int u0, .ref (a 129)]) := by
  have hx := C.1.1
  have hb := C.1.2.1
  intro H locs ls hP hS hl
  unfold f_X5_readRecords_54 at hf0
  obtain ⟨g_20, hf21⟩ := m_gd_s hf0
  clear hf0
  refine m_put C hP hS mC_129 rfl inX5 tyX5_ok nmX5 6 (by decide) wf_X5_61 rfl (m_bool g_20).1 (m_bool g_20).2 (Nat.le_of_ble_eq_true rfl) mC_129_6 dX5_readRecords_54 (fun X_20 e_20 H locs hP hS => ?_)
  have hf22 := m_nm_s e_20 hf21
  clear hf21
  refine lv_aload_n hx hb dX5_readRecords_57 rfl (lv_at hl 0 rfl) ?_
  refine m_get C hP mC_129 rfl inX5 6 (by decide) wf_X5_61 rfl dX5_readRecords_58 ?_
  refine lv_if_eq (tgt := 74) hx hb dX5_readRecords_61 (by decide) (fun c_23 => ?_) (fun c_23 => ?_)
  · have hf24 := m_it c_23 hf22
    clear hf22
    exact m_vret C hP hS dX5_readRecords_74 hf24
  · have hf25 := m_ie c_23 hf22
    clear hf22
    refine lv_aload_n hx hb dX5_readRecords_64 rfl (lv_at hl 0 rfl) ?_
    refine lv_dup hx hb dX5_readRecords_65 rfl ?_
    refine m_get C hP mC_129 rfl inX5 2 (by decide) wf_X5_39 rfl dX5_readRecords_66 ?_
    refine lv_iconst (v := 1) hx hb dX5_readRecords_69 (by decide) ?_
    refine lv_iadd hx hb dX5_readRecords_70 ?_
    refine lv_topi (fun y_26 e_26 => ?_)
    have hf27 := m_nm_s e_26 hf25
    clear hf25
    refine m_put C hP hS mC_129 rfl inX5 tyX5_ok nmX5 2 (by decide) wf_X5_39 rfl rfl rfl (Nat.le_of_ble_eq_true rfl) mC_129_2 dX5_readRecords_71 (fun X_28 e_28 H locs hP hS => ?_)
    have hf29 := m_nm_s e_28 hf27
    clear hf27
    exact m_vret C hP hS dX5_readRecords_74 hf29
def f_X5_readRecords (N : Nat) (X : XT) : Option XT := m_nm ((X 129 2) + 1) fun y_1 => m_nm (m_up X 129 (upd (X 129) 2 y_1)) fun X_3 => m_bi (f_X5_characterAt N (X_3 129 2) X_3) fun r_5 X_5 => m_nm (r_5 - 48) fun y_7 => m_nm (m_up X_5 129 (upd (X_5 129) 5 y_7)) fun X_9 => m_nm ((X_9 129 2) + 1) fun y_11 => m_nm (m_up X_9 129 (upd (X_9 129) 2 y_11)) fun X_13 => m_bi (f_X5_characterAt N (X_13 129 2) X_13) fun r_15 X_15 => if r_15 = 33 then (f_X5_readRecords_54 N 1 X_15) else (f_X5_readRecords_54 N 0 X_15)
set_option maxHeartbeats 4000000 in
set_option maxRecDepth 100000 in
theorem c_X5_readRecords (l : Launch) (D : va_G) (a : Nat → Nat) (cy : Nat → ClassId) (hG : m_inj 131 a) (N : Nat) (X : XT) {X0 : XT} (hf0 : f_X5_readRecords N X = some X0) : Met l yX5_readRecords (Cond.code yX5_readRecords cX5_readRecords 1 none :: m_tbl) rm_X5_readRecords (va_Pc [.ref (a 129)] (m_PX D (m_tc cy) (m_WC a cy) (m_ZC a) X)) (m_QV D (m_WC a cy) (m_AC a) X0) 0 0 (m_AC a) := by
  refine m_met (own := RX5) hy_X5_readRecords rfl (Nat.le_of_ble_eq_true rfl) (m_wl_D hG _) m_ZC_keep ?_
  intro p e s m args below meth c C ls hl hP hS
  have hx := C.1.1
  have hb := C.1.2.1
  have hl : lv_has ls 1 [(0, .ref (a 129))] := hl
  unfold f_X5_readRecords at hf0
  suffices K : ∀ (H : Heap) (locs : List Loc), va_P D vwCl (m_WC a cy X) H → va_S (m_AC a) s.heap H locs → W p l e rm_X5_readRecords s m args below meth c H locs 0 0 (MQ below (m_QV D (m_WC a cy) (m_AC a) X0) args s 0 0 (m_AC a)) (F0 m 0 ls []) from K _ _ hP hS
  clear hP hS
  intro H locs hP hS
  refine lv_aload_n hx hb dX5_readRecords_0 rfl (lv_at hl 0 rfl) ?_
  refine lv_dup hx hb dX5_readRecords_1 rfl ?_
  refine m_get C hP mC_129 rfl inX5 2 (by decide) wf_X5_39 rfl dX5_readRecords_2 ?_
  refine lv_iconst (v := 1) hx hb dX5_readRecords_5 (by decide) ?_
  refine lv_iadd hx hb dX5_readRecords_6 ?_
  refine lv_topi (fun y_1 e_1 => ?_)
  have hf2 := m_nm_s e_1 hf0
  clear hf0
  refine m_put C hP hS mC_129 rfl inX5 tyX5_ok nmX5 2 (by decide) wf_X5_39 rfl rfl rfl (Nat.le_of_ble_eq_true rfl) mC_129_2 dX5_readRecords_7 (fun X_3 e_3 H locs hP hS => ?_)
  have hf4 := m_nm_s e_3 hf2
  clear hf2
  refine lv_aload_n hx hb dX5_readRecords_10 rfl (lv_at hl 0 rfl) ?_
  refine lv_aload_n hx hb dX5_readRecords_11 rfl (lv_at hl 0 rfl) ?_
  refine lv_aload_n hx hb dX5_readRecords_12 rfl (lv_at hl 0 rfl) ?_
  refine m_get C hP mC_129 rfl inX5 2 (by decide) wf_X5_39 rfl dX5_readRecords_13 ?_
  obtain ⟨r_5, X_5, h_5, hf6⟩ := m_bi_s hf4
  clear hf4
  refine m_callVi (q := (RX5, TX5, 7)) C [.int (X_3 129 2)] [.ref (a 129)] (c_X5_characterAt l D a cy hG N _ _ h_5) (m_goodV wl_X5_19 wi_X5_characterAt ws_X5_characterAt wn_X5 wc_X5_characterAt) ⟨rfl, rfl⟩ hv_X5_characterAt ⟨Nat.le_of_ble_eq_true rfl, Nat.le_of_ble_eq_true rfl⟩ rfl mC_129 hP hS rfl hl.1 rfl (Nat.le_of_ble_eq_true rfl) dX5_readRecords_16 (fun H locs hP hS => ?_)
  refine lv_bipush (v := 48) hx hb dX5_readRecords_19 (by decide) ?_
  refine lv_isub hx hb dX5_readRecords_21 ?_
  refine lv_topi (fun y_7 e_7 => ?_)
  have hf8 := m_nm_s e_7 hf6
  clear hf6
  refine m_put C hP hS mC_129 rfl inX5 tyX5_ok nmX5 5 (by decide) wf_X5_58 rfl rfl rfl (Nat.le_of_ble_eq_true rfl) mC_129_5 dX5_readRecords_22 (fun X_9 e_9 H locs hP hS => ?_)
  have hf10 := m_nm_s e_9 hf8
  clear hf8
  refine lv_aload_n hx hb dX5_readRecords_25 rfl (lv_at hl 0 rfl) ?_
  refine lv_dup hx hb dX5_readRecords_26 rfl ?_
  refine m_get C hP mC_129 rfl inX5 2 (by decide) wf_X5_39 rfl dX5_readRecords_27 ?_
  refine lv_iconst (v := 1) hx hb dX5_readRecords_30 (by decide) ?_
  refine lv_iadd hx hb dX5_readRecords_31 ?_
  refine lv_topi (fun y_11 e_11 => ?_)
  have hf12 := m_nm_s e_11 hf10
  clear hf10
  refine m_put C hP hS mC_129 rfl inX5 tyX5_ok nmX5 2 (by decide) wf_X5_39 rfl rfl rfl (Nat.le_of_ble_eq_true rfl) mC_129_2 dX5_readRecords_32 (fun X_13 e_13 H locs hP hS => ?_)
  have hf14 := m_nm_s e_13 hf12
  clear hf12
  refine lv_aload_n hx hb dX5_readRecords_35 rfl (lv_at hl 0 rfl) ?_
  refine lv_aload_n hx hb dX5_readRecords_36 rfl (lv_at hl 0 rfl) ?_
  refine lv_aload_n hx hb dX5_readRecords_37 rfl (lv_at hl 0 rfl) ?_
  refine m_get C hP mC_129 rfl inX5 2 (by decide) wf_X5_39 rfl dX5_readRecords_38 ?_
  obtain ⟨r_15, X_15, h_15, hf16⟩ := m_bi_s hf14
  clear hf14
  refine m_callVi (q := (RX5, TX5, 7)) C [.int (X_13 129 2)] [.ref (a 129)] (c_X5_characterAt l D a cy hG N _ _ h_15) (m_goodV wl_X5_19 wi_X5_characterAt ws_X5_characterAt wn_X5 wc_X5_characterAt) ⟨rfl, rfl⟩ hv_X5_characterAt ⟨Nat.le_of_ble_eq_true rfl, Nat.le_of_ble_eq_true rfl⟩ rfl mC_129 hP hS rfl hl.1 rfl (Nat.le_of_ble_eq_true rfl) dX5_readRecords_41 (fun H locs hP hS => ?_)
  refine lv_bipush (v := 33) hx hb dX5_readRecords_44 (by decide) ?_
  refine lv_icmp_ne (tgt := 53) hx hb dX5_readRecords_46 (by decide) (fun c_17 => ?_) (fun c_17 => ?_)
  · have hf18 := m_ie c_17 hf16
    clear hf16
    refine lv_iconst (v := 0) hx hb dX5_readRecords_53 (by decide) ?_
    exact w_X5_readRecords_54 l D a cy hG N C _ _ hf18 H locs ls hP hS (lv_sub hl [0] rfl)
  · have hf19 := m_it c_17 hf16
    clear hf16
    refine lv_iconst (v := 1) hx hb dX5_readRecords_49 (by decide) ?_
    refine lv_goto (tgt := 54) hx hb dX5_readRecords_50 (by decide) ?_
    exact w_X5_readRecords_54 l D a cy hG N C _ _ hf19 H locs ls hP hS (lv_sub hl [0] rfl)
abbrev rm_X5_readOrder : Room := { frames := 2, cells := 0, slots := 0, locals := 43 }
def f_X5_readOrder_51 (N : Nat) (X : XT) : Option XT := m_nm ((X 129 2) + 1) fun y_17 => m_nm (m_up X 129 (upd (X 129) 2 y_17)) fun X_19 => some X_19
set_option maxHeartbeats 4000000 in
set_option maxRecDepth 100000 in
theorem w_X5_readOrder_51 (l : Launch) (D : va_G) (a : Nat → Nat) (cy : Nat → ClassId) (hG : m_inj 131 a) (N : Nat) {p : Program} {e : Env} {s : State} {m : MethodId} {args : Array Value} {below : List Frame} {meth : Method} {c : Code} (C : m_Cx p s m args meth c cX5_readOrder 1 RX5 none (Cond.code yX5_readOrder cX5_readOrder 1 none) D (m_tc cy) (m_AC a) (m_WC a cy) (m_ZC a)) {X0 : XT} (X : XT) (hf0 : f_X5_readOrder_51 N X = some X0) : ∀ (H : Heap) (locs : List Loc) (ls : Array Slot), va_P D vwCl (m_WC a cy X) H → va_S (m_AC a) s.heap H locs → lv_has ls 1 [(0, .ref (a 129))] → W p l e rm_X5_readOrder s m args below meth c H locs 0 0 (MQ below (m_QV D (m_WC a cy) (m_AC a) X0) args s 0 0 (m_AC a)) (F0 m 51 ls []) := by
  have hx := C.1.1
  have hb := C.1.2.1
  intro H locs ls hP hS hl
  unfold f_X5_readOrder_51 at hf0
  refine lv_aload_n hx hb dX5_readOrder_51 rfl (lv_at hl 0 rfl) ?_
  refine lv_dup hx hb dX5_readOrder_52 rfl ?_
  refine m_get C hP mC_129 rfl inX5 2 (by decide) wf_X5_39 rfl dX5_readOrder_53 ?_
  refine lv_iconst (v := 1) hx hb dX5_readOrder_56 (by decide) ?_
  refine lv_iadd hx hb dX5_readOrder_57 ?_
  refine lv_topi (fun y_17 e_17 => ?_)
  have hf18 := m_nm_s e_17 hf0
  clear hf0
  refine m_put C hP hS mC_129 rfl inX5 tyX5_ok nmX5 2 (by decide) wf_X5_39 rfl rfl rfl (Nat.le_of_ble_eq_true rfl) mC_129_2 dX5_readOrder_58 (fun X_19 e_19 H locs hP hS => ?_)
  have hf20 := m_nm_s e_19 hf18
  clear hf18
  exact m_vret C hP hS dX5_readOrder_61 hf20
def f_X5_readOrder_32 (N : Nat) (X : XT) : Option XT := m_bi (f_X5_readNumber N X) fun r_10 X_10 => m_nm (m_up X_10 129 (upd (X_10 129) 4 r_10)) fun X_12 => if (X_12 129 3) = 0 then (m_bv (f_X5_readRecords N X_12) fun X_21 => f_X5_readOrder_51 N  X_21) else (f_X5_readOrder_51 N  X_12)
set_option maxHeartbeats 4000000 in
set_option maxRecDepth 100000 in
theorem w_X5_readOrder_32 (l : Launch) (D : va_G) (a : Nat → Nat) (cy : Nat → ClassId) (hG : m_inj 131 a) (N : Nat) {p : Program} {e : Env} {s : State} {m : MethodId} {args : Array Value} {below : List Frame} {meth : Method} {c : Code} (C : m_Cx p s m args meth c cX5_readOrder 1 RX5 none (Cond.code yX5_readOrder cX5_readOrder 1 none) D (m_tc cy) (m_AC a) (m_WC a cy) (m_ZC a)) {X0 : XT} (X : XT) (hf0 : f_X5_readOrder_32 N X = some X0) : ∀ (H : Heap) (locs : List Loc) (ls : Array Slot), va_P D vwCl (m_WC a cy X) H → va_S (m_AC a) s.heap H locs → lv_has ls 1 [(0, .ref (a 129))] → W p l e rm_X5_readOrder s m args below meth c H locs 0 0 (MQ below (m_QV D (m_WC a cy) (m_AC a) X0) args s 0 0 (m_AC a)) (F0 m 32 ls []) := by
  have hx := C.1.1
  have hb := C.1.2.1
  intro H locs ls hP hS hl
  unfold f_X5_readOrder_32 at hf0
  refine lv_aload_n hx hb dX5_readOrder_32 rfl (lv_at hl 0 rfl) ?_
  refine lv_aload_n hx hb dX5_readOrder_33 rfl (lv_at hl 0 rfl) ?_
  obtain ⟨r_10, X_10, h_10, hf11⟩ := m_bi_s hf0
  clear hf0
  refine m_callVi (q := (RX5, TX5, 7)) C [] [.ref (a 129)] (c_X5_readNumber l D a cy hG N _ h_10) (m_goodV wl_X5_48 wi_X5_readNumber ws_X5_readNumber wn_X5 wc_X5_readNumber) ⟨rfl, rfl⟩ hv_X5_readNumber ⟨Nat.le_of_ble_eq_true rfl, Nat.le_of_ble_eq_true rfl⟩ rfl mC_129 hP hS rfl hl.1 rfl (Nat.le_of_ble_eq_true rfl) dX5_readOrder_34 (fun H locs hP hS => ?_)
  refine m_put C hP hS mC_129 rfl inX5 tyX5_ok nmX5 4 (by decide) wf_X5_52 rfl rfl rfl (Nat.le_of_ble_eq_true rfl) mC_129_4 dX5_readOrder_37 (fun X_12 e_12 H locs hP hS => ?_)
  have hf13 := m_nm_s e_12 hf11
  clear hf11
  refine lv_aload_n hx hb dX5_readOrder_40 rfl (lv_at hl 0 rfl) ?_
  refine m_get C hP mC_129 rfl inX5 3 (by decide) wf_X5_45 rfl dX5_readOrder_41 ?_
  refine lv_if_ne (tgt := 51) hx hb dX5_readOrder_44 (by decide) (fun c_14 => ?_) (fun c_14 => ?_)
  · have hf15 := m_ie c_14 hf13
    clear hf13
    exact w_X5_readOrder_51 l D a cy hG N C  _ hf15 H locs ls hP hS (lv_sub hl [0] rfl)
  · have hf16 := m_it c_14 hf13
    clear hf13
    refine lv_aload_n hx hb dX5_readOrder_47 rfl (lv_at hl 0 rfl) ?_
    obtain ⟨X_21, h_21, hf22⟩ := m_bv_s hf16
    clear hf16
    refine m_callVv (q := (RX5, TX5, 7)) C [] [] (c_X5_readRecords l D a cy hG N _ h_21) (m_goodV wl_X5_55 wi_X5_readRecords ws_X5_readRecords wn_X5 wc_X5_readRecords) ⟨rfl, rfl⟩ hv_X5_readRecords ⟨Nat.le_of_ble_eq_true rfl, Nat.le_of_ble_eq_true rfl⟩ rfl mC_129 hP hS rfl hl.1 rfl (Nat.le_of_ble_eq_true rfl) dX5_readOrder_48 (fun H locs hP hS => ?_)
    exact w_X5_readOrder_51 l D a cy hG N C  _ hf22 H locs ls hP hS (lv_sub hl [0] rfl)
def f_X5_readOrder (N : Nat) (X : XT) : Option XT := m_bi (f_X5_characterAt N (X 129 2) X) fun r_1 X_1 => m_bi (f_X5_kindOf N r_1 X_1) fun r_3 X_3 => m_nm (m_up X_3 129 (upd (X_3 129) 3 r_3)) fun X_5 => if (X_5 129 3) = 0 then (f_X5_readOrder_32 N  X_5) else (m_nm ((X_5 129 2) + 1) fun y_23 => m_nm (m_up X_5 129 (upd (X_5 129) 2 y_23)) fun X_25 => f_X5_readOrder_32 N  X_25)
set_option maxHeartbeats 4000000 in
set_option maxRecDepth 100000 in
theorem c_X5_readOrder (l : Launch) (D : va_G) (a : Nat → Nat) (cy : Nat → ClassId) (hG : m_inj 131 a) (N : Nat) (X : XT) {X0 : XT} (hf0 : f_X5_readOrder N X = some X0) : Met l yX5_readOrder (Cond.code yX5_readOrder cX5_readOrder 1 none :: m_tbl) rm_X5_readOrder (va_Pc [.ref (a 129)] (m_PX D (m_tc cy) (m_WC a cy) (m_ZC a) X)) (m_QV D (m_WC a cy) (m_AC a) X0) 0 0 (m_AC a) := by
  refine m_met (own := RX5) hy_X5_readOrder rfl (Nat.le_of_ble_eq_true rfl) (m_wl_D hG _) m_ZC_keep ?_
  intro p e s m args below meth c C ls hl hP hS
  have hx := C.1.1
  have hb := C.1.2.1
  have hl : lv_has ls 1 [(0, .ref (a 129))] := hl
  unfold f_X5_readOrder at hf0
  suffices K : ∀ (H : Heap) (locs : List Loc), va_P D vwCl (m_WC a cy X) H → va_S (m_AC a) s.heap H locs → W p l e rm_X5_readOrder s m args below meth c H locs 0 0 (MQ below (m_QV D (m_WC a cy) (m_AC a) X0) args s 0 0 (m_AC a)) (F0 m 0 ls []) from K _ _ hP hS
  clear hP hS
  intro H locs hP hS
  refine lv_aload_n hx hb dX5_readOrder_0 rfl (lv_at hl 0 rfl) ?_
  refine lv_aload_n hx hb dX5_readOrder_1 rfl (lv_at hl 0 rfl) ?_
  refine lv_aload_n hx hb dX5_readOrder_2 rfl (lv_at hl 0 rfl) ?_
  refine m_get C hP mC_129 rfl inX5 2 (by decide) wf_X5_39 rfl dX5_readOrder_3 ?_
  obtain ⟨r_1, X_1, h_1, hf2⟩ := m_bi_s hf0
  clear hf0
  refine m_callVi (q := (RX5, TX5, 7)) C [.int (X 129 2)] [.ref (a 129)] (c_X5_characterAt l D a cy hG N _ _ h_1) (m_goodV wl_X5_19 wi_X5_characterAt ws_X5_characterAt wn_X5 wc_X5_characterAt) ⟨rfl, rfl⟩ hv_X5_characterAt ⟨Nat.le_of_ble_eq_true rfl, Nat.le_of_ble_eq_true rfl⟩ rfl mC_129 hP hS rfl hl.1 rfl (Nat.le_of_ble_eq_true rfl) dX5_readOrder_6 (fun H locs hP hS => ?_)
  obtain ⟨r_3, X_3, h_3, hf4⟩ := m_bi_s hf2
  clear hf2
  refine m_callSi C [.int r_1] [.ref (a 129)] (c_X5_kindOf l D a cy hG N _ _ h_3) (m_goodS wl_X5_42 wst_X5_kindOf wn_X5 wc_X5_kindOf) ⟨rfl, rfl⟩ hv_X5_kindOf ⟨Nat.le_of_ble_eq_true rfl, Nat.le_of_ble_eq_true rfl⟩ hP hS rfl hl.1 rfl (Nat.le_of_ble_eq_true rfl) dX5_readOrder_9 (fun H locs hP hS => ?_)
  refine m_put C hP hS mC_129 rfl inX5 tyX5_ok nmX5 3 (by decide) wf_X5_45 rfl rfl rfl (Nat.le_of_ble_eq_true rfl) mC_129_3 dX5_readOrder_12 (fun X_5 e_5 H locs hP hS => ?_)
  have hf6 := m_nm_s e_5 hf4
  clear hf4
  refine lv_aload_n hx hb dX5_readOrder_15 rfl (lv_at hl 0 rfl) ?_
  refine m_get C hP mC_129 rfl inX5 3 (by decide) wf_X5_45 rfl dX5_readOrder_16 ?_
  refine lv_if_eq (tgt := 32) hx hb dX5_readOrder_19 (by decide) (fun c_7 => ?_) (fun c_7 => ?_)
  · have hf8 := m_it c_7 hf6
    clear hf6
    exact w_X5_readOrder_32 l D a cy hG N C  _ hf8 H locs ls hP hS (lv_sub hl [0] rfl)
  · have hf9 := m_ie c_7 hf6
    clear hf6
    refine lv_aload_n hx hb dX5_readOrder_22 rfl (lv_at hl 0 rfl) ?_
    refine lv_dup hx hb dX5_readOrder_23 rfl ?_
    refine m_get C hP mC_129 rfl inX5 2 (by decide) wf_X5_39 rfl dX5_readOrder_24 ?_
    refine lv_iconst (v := 1) hx hb dX5_readOrder_27 (by decide) ?_
    refine lv_iadd hx hb dX5_readOrder_28 ?_
    refine lv_topi (fun y_23 e_23 => ?_)
    have hf24 := m_nm_s e_23 hf9
    clear hf9
    refine m_put C hP hS mC_129 rfl inX5 tyX5_ok nmX5 2 (by decide) wf_X5_39 rfl rfl rfl (Nat.le_of_ble_eq_true rfl) mC_129_2 dX5_readOrder_29 (fun X_25 e_25 H locs hP hS => ?_)
    have hf26 := m_nm_s e_25 hf24
    clear hf24
    exact w_X5_readOrder_32 l D a cy hG N C  _ hf26 H locs ls hP hS (lv_sub hl [0] rfl)
abbrev rm_X5_number : Room := { frames := 0, cells := 0, slots := 0, locals := 0 }
def f_X5_number (N : Nat) (X : XT) : Option (Int32 × XT) := some ((X 129 4), X)
set_option maxHeartbeats 4000000 in
set_option maxRecDepth 100000 in
theorem c_X5_number (l : Launch) (D : va_G) (a : Nat → Nat) (cy : Nat → ClassId) (hG : m_inj 131 a) (N : Nat) (X : XT) {r0 : Int32} {X0 : XT} (hf0 : f_X5_number N X = some (r0, X0)) : Met l yX5_number (Cond.code yX5_number cX5_number 1 (some .int) :: m_tbl) rm_X5_number (va_Pc [.ref (a 129)] (m_PX D (m_tc cy) (m_WC a cy) (m_ZC a) X)) (m_QI D (m_WC a cy) (m_AC a) r0 X0) 0 0 (m_AC a) := by
  refine m_met (own := RX5) hy_X5_number rfl (Nat.le_of_ble_eq_true rfl) (m_wl_D hG _) m_ZC_keep ?_
  intro p e s m args below meth c C ls hl hP hS
  have hx := C.1.1
  have hb := C.1.2.1
  have hl : lv_has ls 1 [(0, .ref (a 129))] := hl
  unfold f_X5_number at hf0
  suffices K : ∀ (H : Heap) (locs : List Loc), va_P D vwCl (m_WC a cy X) H → va_S (m_AC a) s.heap H locs → W p l e rm_X5_number s m args below meth c H locs 0 0 (MQ below (m_QI D (m_WC a cy) (m_AC a) r0 X0) args s 0 0 (m_AC a)) (F0 m 0 ls []) from K _ _ hP hS
  clear hP hS
  intro H locs hP hS
  refine lv_aload_n hx hb dX5_number_0 rfl (lv_at hl 0 rfl) ?_
  refine m_get C hP mC_129 rfl inX5 4 (by decide) wf_X5_52 rfl dX5_number_1 ?_
  exact m_iret C hP hS dX5_number_4 hf0
abbrev rm_X5_kind : Room := { frames := 0, cells := 0, slots := 0, locals := 0 }
def f_X5_kind (N : Nat) (X : XT) : Option (Int32 × XT) := some ((X 129 3), X)
set_option maxHeartbeats 4000000 in
set_option maxRecDepth 100000 in
theorem c_X5_kind (l : Launch) (D : va_G) (a : Nat → Nat) (cy : Nat → ClassId) (hG : m_inj 131 a) (N : Nat) (X : XT) {r0 : Int32} {X0 : XT} (hf0 : f_X5_kind N X = some (r0, X0)) : Met l yX5_kind (Cond.code yX5_kind cX5_kind 1 (some .int) :: m_tbl) rm_X5_kind (va_Pc [.ref (a 129)] (m_PX D (m_tc cy) (m_WC a cy) (m_ZC a) X)) (m_QI D (m_WC a cy) (m_AC a) r0 X0) 0 0 (m_AC a) := by
  refine m_met (own := RX5) hy_X5_kind rfl (Nat.le_of_ble_eq_true rfl) (m_wl_D hG _) m_ZC_keep ?_
  intro p e s m args below meth c C ls hl hP hS
  have hx := C.1.1
  have hb := C.1.2.1
  have hl : lv_has ls 1 [(0, .ref (a 129))] := hl
  unfold f_X5_kind at hf0
  suffices K : ∀ (H : Heap) (locs : List Loc), va_P D vwCl (m_WC a cy X) H → va_S (m_AC a) s.heap H locs → W p l e rm_X5_kind s m args below meth c H locs 0 0 (MQ below (m_QI D (m_WC a cy) (m_AC a) r0 X0) args s 0 0 (m_AC a)) (F0 m 0 ls []) from K _ _ hP hS
  clear hP hS
  intro H locs hP hS
  refine lv_aload_n hx hb dX5_kind_0 rfl (lv_at hl 0 rfl) ?_
  refine m_get C hP mC_129 rfl inX5 3 (by decide) wf_X5_45 rfl dX5_kind_1 ?_
  exact m_iret C hP hS dX5_kind_4 hf0
abbrev rm_X5_records : Room := { frames := 0, cells := 0, slots := 0, locals := 0 }
def f_X5_records (N : Nat) (X : XT) : Option (Int32 × XT) := some ((X 129 5), X)
set_option maxHeartbeats 4000000 in
set_option maxRecDepth 100000 in
theorem c_X5_records (l : Launch) (D : va_G) (a : Nat → Nat) (cy : Nat → ClassId) (hG : m_inj 131 a) (N : Nat) (X : XT) {r0 : Int32} {X0 : XT} (hf0 : f_X5_records N X = some (r0, X0)) : Met l yX5_records (Cond.code yX5_records cX5_records 1 (some .int) :: m_tbl) rm_X5_records (va_Pc [.ref (a 129)] (m_PX D (m_tc cy) (m_WC a cy) (m_ZC a) X)) (m_QI D (m_WC a cy) (m_AC a) r0 X0) 0 0 (m_AC a) := by
  refine m_met (own := RX5) hy_X5_records rfl (Nat.le_of_ble_eq_true rfl) (m_wl_D hG _) m_ZC_keep ?_
  intro p e s m args below meth c C ls hl hP hS
  have hx := C.1.1
  have hb := C.1.2.1
  have hl : lv_has ls 1 [(0, .ref (a 129))] := hl
  unfold f_X5_records at hf0
  suffices K : ∀ (H : Heap) (locs : List Loc), va_P D vwCl (m_WC a cy X) H → va_S (m_AC a) s.heap H locs → W p l e rm_X5_records s m args below meth c H locs 0 0 (MQ below (m_QI D (m_WC a cy) (m_AC a) r0 X0) args s 0 0 (m_AC a)) (F0 m 0 ls []) from K _ _ hP hS
  clear hP hS
  intro H locs hP hS
  refine lv_aload_n hx hb dX5_records_0 rfl (lv_at hl 0 rfl) ?_
  refine m_get C hP mC_129 rfl inX5 5 (by decide) wf_X5_58 rfl dX5_records_1 ?_
  exact m_iret C hP hS dX5_records_4 hf0
abbrev rm_X5_isUrgent : Room := { frames := 0, cells := 0, slots := 0, locals := 0 }
def f_X5_isUrgent (N : Nat) (X : XT) : Option (Int32 × XT) := m_gd ((X 129 6) = 0 ∨ (X 129 6) = 1) <| some ((X 129 6), X)
set_option maxHeartbeats 4000000 in
set_option maxRecDepth 100000 in
theorem c_X5_isUrgent (l : Launch) (D : va_G) (a : Nat → Nat) (cy : Nat → ClassId) (hG : m_inj 131 a) (N : Nat) (X : XT) {r0 : Int32} {X0 : XT} (hf0 : f_X5_isUrgent N X = some (r0, X0)) : Met l yX5_isUrgent (Cond.code yX5_isUrgent cX5_isUrgent 1 (some .boolean) :: m_tbl) rm_X5_isUrgent (va_Pc [.ref (a 129)] (m_PX D (m_tc cy) (m_WC a cy) (m_ZC a) X)) (m_QI D (m_WC a cy) (m_AC a) r0 X0) 0 0 (m_AC a) := by
  refine m_met (own := RX5) hy_X5_isUrgent rfl (Nat.le_of_ble_eq_true rfl) (m_wl_D hG _) m_ZC_keep ?_
  intro p e s m args below meth c C ls hl hP hS
  have hx := C.1.1
  have hb := C.1.2.1
  have hl : lv_has ls 1 [(0, .ref (a 129))] := hl
  unfold f_X5_isUrgent at hf0
  suffices K : ∀ (H : Heap) (locs : List Loc), va_P D vwCl (m_WC a cy X) H → va_S (m_AC a) s.heap H locs → W p l e rm_X5_isUrgent s m args below meth c H locs 0 0 (MQ below (m_QI D (m_WC a cy) (m_AC a) r0 X0) args s 0 0 (m_AC a)) (F0 m 0 ls []) from K _ _ hP hS
  clear hP hS
  intro H locs hP hS
  refine lv_aload_n hx hb dX5_isUrgent_0 rfl (lv_at hl 0 rfl) ?_
  refine m_get C hP mC_129 rfl inX5 6 (by decide) wf_X5_61 rfl dX5_isUrgent_1 ?_
  obtain ⟨g_1, hf2⟩ := m_gd_s hf0
  clear hf0
  exact m_zret C hP hS dX5_isUrgent_4 (m_bool g_1).1 hf2
abbrev rm_X5_length : Room := { frames := 0, cells := 0, slots := 0, locals := 0 }
def f_X5_length (N : Nat) (X : XT) : Option (Int32 × XT) := some ((X 129 1), X)
set_option maxHeartbeats 4000000 in
set_option maxRecDepth 100000 in
theorem c_X5_length (l : Launch) (D : va_G) (a : Nat → Nat) (cy : Nat → ClassId) (hG : m_inj 131 a) (N : Nat) (X : XT) {r0 : Int32} {X0 : XT} (hf0 : f_X5_length N X = some (r0, X0)) : Met l yX5_length (Cond.code yX5_length cX5_length 1 (some .int) :: m_tbl) rm_X5_length (va_Pc [.ref (a 129)] (m_PX D (m_tc cy) (m_WC a cy) (m_ZC a) X)) (m_QI D (m_WC a cy) (m_AC a) r0 X0) 0 0 (m_AC a) := by
  refine m_met (own := RX5) hy_X5_length rfl (Nat.le_of_ble_eq_true rfl) (m_wl_D hG _) m_ZC_keep ?_
  intro p e s m args below meth c C ls hl hP hS
  have hx := C.1.1
  have hb := C.1.2.1
  have hl : lv_has ls 1 [(0, .ref (a 129))] := hl
  unfold f_X5_length at hf0
  suffices K : ∀ (H : Heap) (locs : List Loc), va_P D vwCl (m_WC a cy X) H → va_S (m_AC a) s.heap H locs → W p l e rm_X5_length s m args below meth c H locs 0 0 (MQ below (m_QI D (m_WC a cy) (m_AC a) r0 X0) args s 0 0 (m_AC a)) (F0 m 0 ls []) from K _ _ hP hS
  clear hP hS
  intro H locs hP hS
  refine lv_aload_n hx hb dX5_length_0 rfl (lv_at hl 0 rfl) ?_
  refine m_get C hP mC_129 rfl inX5 1 (by decide) wf_X5_15 rfl dX5_length_1 ?_
  exact m_iret C hP hS dX5_length_4 hf0
