-- written by wip/gen/gen.py
abbrev rm_X1_copyFrom : Room := { frames := 1, cells := 0, slots := 0, locals := 40 }
def f_X1_copyFrom (N : Nat) (k1 : Nat) (k2 : Nat) (X : XT) : Option XT := m_nm (m_up X (21 * k1 + 11) (va_cpy (X (21 * k2 + 11)) (X (21 * k1 + 11)) 0 0 150)) fun X_1 => m_nm (m_up X_1 (21 * k1 + 12) (va_cpy (X_1 (21 * k2 + 12)) (X_1 (21 * k1 + 12)) 0 0 150)) fun X_3 => m_nm (m_up X_3 (21 * k1 + 13) (va_cpy (X_3 (21 * k2 + 13)) (X_3 (21 * k1 + 13)) 0 0 150)) fun X_5 => m_nm (m_up X_5 (21 * k1 + 14) (va_cpy (X_5 (21 * k2 + 14)) (X_5 (21 * k1 + 14)) 0 0 150)) fun X_7 => m_nm (m_up X_7 (21 * k1 + 10) (upd (X_7 (21 * k1 + 10)) 4 (X_7 (21 * k2 + 10) 4))) fun X_9 => some X_9
set_option maxHeartbeats 4000000 in
set_option maxRecDepth 100000 in
theorem c_X1_copyFrom (l : Launch) (D : va_G) (a : Nat → Nat) (cy : Nat → ClassId) (hG : m_inj 138 a) (N : Nat) (k1 : Nat) (k2 : Nat) (hk1 : k1 < 6) (hk2 : k2 < 6) (X : XT) {X0 : XT} (hf0 : f_X1_copyFrom N k1 k2 X = some X0) : Met l yX1_copyFrom (Cond.code yX1_copyFrom cX1_copyFrom 2 none :: m_tbl) rm_X1_copyFrom (va_Pc [.ref (a (21 * k1 + 10)), .ref (a (21 * k2 + 10))] (m_PX D (m_tc cy) (m_WC a cy) (m_ZC a) X)) (m_QV D (m_WC a cy) (m_AC a) X0) 0 0 (m_AC a) := by
  refine m_met (own := RX1) hy_X1_copyFrom rfl (Nat.le_of_ble_eq_true rfl) (m_wl_D hG _) m_ZC_keep ?_
  intro p e s m args below meth c C ls hl hP hS
  have hx := C.1.1
  have hb := C.1.2.1
  have hl : lv_has ls 2 [(0, .ref (a (21 * k1 + 10))), (1, .ref (a (21 * k2 + 10)))] := hl
  unfold f_X1_copyFrom at hf0
  suffices K : ∀ (H : Heap) (locs : List Loc), va_P D vwCl (m_WC a cy X) H → va_S (m_AC a) s.heap H locs → W p l e rm_X1_copyFrom s m args below meth c H locs 0 0 (MQ below (m_QV D (m_WC a cy) (m_AC a) X0) args s 0 0 (m_AC a)) (F0 m 0 ls []) from K _ _ hP hS
  clear hP hS
  intro H locs hP hS
  refine lv_aload_n hx hb dX1_copyFrom_0 rfl (lv_at hl 1 rfl) ?_
  refine m_get C hP (mK_10 hk2) rfl inX1 0 (by decide) wf_X1_13 rfl dX1_copyFrom_1 ?_
  refine lv_iconst (v := 0) hx hb dX1_copyFrom_4 (by decide) ?_
  refine lv_aload_n hx hb dX1_copyFrom_5 rfl (lv_at hl 0 rfl) ?_
  refine m_get C hP (mK_10 hk1) rfl inX1 0 (by decide) wf_X1_13 rfl dX1_copyFrom_6 ?_
  refine lv_iconst (v := 0) hx hb dX1_copyFrom_9 (by decide) ?_
  refine lv_sipush (v := 150) hx hb dX1_copyFrom_10 (by decide) ?_
  refine m_copy C hP hS hl.1 (mK_11 hk2) (mK_11 hk1) 0 0 rfl rfl rfl wl_X1_26 wnat_arraycopyName wst_arraycopyName wn_java_lang_System (nn := 150) rfl (by decide) (Nat.le_of_ble_eq_true rfl) (Nat.le_of_ble_eq_true rfl) (fun _ _ => rfl) (Nat.le_of_ble_eq_true rfl) (Nat.le_of_ble_eq_true rfl) (mKs_11 hk1) dX1_copyFrom_13 (fun X_1 e_1 H locs hP hS => ?_)
  have hf2 := m_nm_s e_1 hf0
  clear hf0
  refine lv_aload_n hx hb dX1_copyFrom_16 rfl (lv_at hl 1 rfl) ?_
  refine m_get C hP (mK_10 hk2) rfl inX1 1 (by decide) wf_X1_17 rfl dX1_copyFrom_17 ?_
  refine lv_iconst (v := 0) hx hb dX1_copyFrom_20 (by decide) ?_
  refine lv_aload_n hx hb dX1_copyFrom_21 rfl (lv_at hl 0 rfl) ?_
  refine m_get C hP (mK_10 hk1) rfl inX1 1 (by decide) wf_X1_17 rfl dX1_copyFrom_22 ?_
  refine lv_iconst (v := 0) hx hb dX1_copyFrom_25 (by decide) ?_
  refine lv_sipush (v := 150) hx hb dX1_copyFrom_26 (by decide) ?_
  refine m_copy C hP hS hl.1 (mK_12 hk2) (mK_12 hk1) 0 0 rfl rfl rfl wl_X1_26 wnat_arraycopyName wst_arraycopyName wn_java_lang_System (nn := 150) rfl (by decide) (Nat.le_of_ble_eq_true rfl) (Nat.le_of_ble_eq_true rfl) (fun _ _ => rfl) (Nat.le_of_ble_eq_true rfl) (Nat.le_of_ble_eq_true rfl) (mKs_12 hk1) dX1_copyFrom_29 (fun X_3 e_3 H locs hP hS => ?_)
  have hf4 := m_nm_s e_3 hf2
  clear hf2
  refine lv_aload_n hx hb dX1_copyFrom_32 rfl (lv_at hl 1 rfl) ?_
  refine m_get C hP (mK_10 hk2) rfl inX1 2 (by decide) wf_X1_20 rfl dX1_copyFrom_33 ?_
  refine lv_iconst (v := 0) hx hb dX1_copyFrom_36 (by decide) ?_
  refine lv_aload_n hx hb dX1_copyFrom_37 rfl (lv_at hl 0 rfl) ?_
  refine m_get C hP (mK_10 hk1) rfl inX1 2 (by decide) wf_X1_20 rfl dX1_copyFrom_38 ?_
  refine lv_iconst (v := 0) hx hb dX1_copyFrom_41 (by decide) ?_
  refine lv_sipush (v := 150) hx hb dX1_copyFrom_42 (by decide) ?_
  refine m_copy C hP hS hl.1 (mK_13 hk2) (mK_13 hk1) 0 0 rfl rfl rfl wl_X1_26 wnat_arraycopyName wst_arraycopyName wn_java_lang_System (nn := 150) rfl (by decide) (Nat.le_of_ble_eq_true rfl) (Nat.le_of_ble_eq_true rfl) (fun _ _ => rfl) (Nat.le_of_ble_eq_true rfl) (Nat.le_of_ble_eq_true rfl) (mKs_13 hk1) dX1_copyFrom_45 (fun X_5 e_5 H locs hP hS => ?_)
  have hf6 := m_nm_s e_5 hf4
  clear hf4
  refine lv_aload_n hx hb dX1_copyFrom_48 rfl (lv_at hl 1 rfl) ?_
  refine m_get C hP (mK_10 hk2) rfl inX1 3 (by decide) wf_X1_23 rfl dX1_copyFrom_49 ?_
  refine lv_iconst (v := 0) hx hb dX1_copyFrom_52 (by decide) ?_
  refine lv_aload_n hx hb dX1_copyFrom_53 rfl (lv_at hl 0 rfl) ?_
  refine m_get C hP (mK_10 hk1) rfl inX1 3 (by decide) wf_X1_23 rfl dX1_copyFrom_54 ?_
  refine lv_iconst (v := 0) hx hb dX1_copyFrom_57 (by decide) ?_
  refine lv_sipush (v := 150) hx hb dX1_copyFrom_58 (by decide) ?_
  refine m_copy C hP hS hl.1 (mK_14 hk2) (mK_14 hk1) 0 0 rfl rfl rfl wl_X1_26 wnat_arraycopyName wst_arraycopyName wn_java_lang_System (nn := 150) rfl (by decide) (Nat.le_of_ble_eq_true rfl) (Nat.le_of_ble_eq_true rfl) (fun _ _ => rfl) (Nat.le_of_ble_eq_true rfl) (Nat.le_of_ble_eq_true rfl) (mKs_14 hk1) dX1_copyFrom_61 (fun X_7 e_7 H locs hP hS => ?_)
  have hf8 := m_nm_s e_7 hf6
  clear hf6
  refine lv_aload_n hx hb dX1_copyFrom_64 rfl (lv_at hl 0 rfl) ?_
  refine lv_aload_n hx hb dX1_copyFrom_65 rfl (lv_at hl 1 rfl) ?_
  refine m_get C hP (mK_10 hk2) rfl inX1 4 (by decide) wf_X1_32 rfl dX1_copyFrom_66 ?_
  refine m_put C hP hS (mK_10 hk1) rfl inX1 tyX1_ok nmX1 4 (by decide) wf_X1_32 rfl rfl rfl (Nat.le_of_ble_eq_true rfl) (mK_10_4 hk1) dX1_copyFrom_69 (fun X_9 e_9 H locs hP hS => ?_)
  have hf10 := m_nm_s e_9 hf8
  clear hf8
  exact m_vret C hP hS dX1_copyFrom_72 hf10
abbrev rm_X1_begin : Room := { frames := 0, cells := 0, slots := 0, locals := 0 }
def f_X1_begin (N : Nat) (X : XT) : Option (Int32 × XT) := if (X 10 4) < 150 then (m_nm ((X 10 4) + 1) fun y_4 => m_nm (m_up X 10 (upd (X 10) 4 y_4)) fun X_6 => m_gd (m_in (X 10 4) 150) <| m_nm (m_up X_6 11 (upd (X_6 11) (Int32.toNatClampNeg (X 10 4)) 1)) fun X_8 => m_gd (m_in (X 10 4) 150) <| m_nm (m_up X_8 12 (upd (X_8 12) (Int32.toNatClampNeg (X 10 4)) 0)) fun X_11 => m_gd (m_in (X 10 4) 150) <| m_nm (m_up X_11 13 (upd (X_11 13) (Int32.toNatClampNeg (X 10 4)) 0)) fun X_14 => m_gd (m_in (X 10 4) 150) <| m_nm (m_up X_14 14 (upd (X_14 14) (Int32.toNatClampNeg (X 10 4)) 0)) fun X_17 => some ((X 10 4), X_17)) else (some ((-5), X))
set_option maxHeartbeats 4000000 in
set_option maxRecDepth 100000 in
theorem c_X1_begin (l : Launch) (D : va_G) (a : Nat → Nat) (cy : Nat → ClassId) (hG : m_inj 138 a) (N : Nat) (X : XT) {r0 : Int32} {X0 : XT} (hf0 : f_X1_begin N X = some (r0, X0)) : Met l yX1_begin (Cond.code yX1_begin cX1_begin 2 (some .int) :: m_tbl) rm_X1_begin (va_Pc [.ref (a 10)] (m_PX D (m_tc cy) (m_WC a cy) (m_ZC a) X)) (m_QI D (m_WC a cy) (m_AC a) r0 X0) 0 0 (m_AC a) := by
  refine m_met (own := RX1) hy_X1_begin rfl (Nat.le_of_ble_eq_true rfl) (m_wl_D hG _) m_ZC_keep ?_
  intro p e s m args below meth c C ls hl hP hS
  have hx := C.1.1
  have hb := C.1.2.1
  have hl : lv_has ls 2 [(0, .ref (a 10))] := hl
  unfold f_X1_begin at hf0
  suffices K : ∀ (H : Heap) (locs : List Loc), va_P D vwCl (m_WC a cy X) H → va_S (m_AC a) s.heap H locs → W p l e rm_X1_begin s m args below meth c H locs 0 0 (MQ below (m_QI D (m_WC a cy) (m_AC a) r0 X0) args s 0 0 (m_AC a)) (F0 m 0 ls []) from K _ _ hP hS
  clear hP hS
  intro H locs hP hS
  refine lv_aload_n hx hb dX1_begin_0 rfl (lv_at hl 0 rfl) ?_
  refine m_get C hP mC_10 rfl inX1 4 (by decide) wf_X1_32 rfl dX1_begin_1 ?_
  refine lv_sipush (v := 150) hx hb dX1_begin_4 (by decide) ?_
  refine lv_icmp_lt (tgt := 13) hx hb dX1_begin_7 (by decide) (fun c_1 => ?_) (fun c_1 => ?_)
  · have hf2 := m_it c_1 hf0
    clear hf0
    refine lv_aload_n hx hb dX1_begin_13 rfl (lv_at hl 0 rfl) ?_
    refine m_get C hP mC_10 rfl inX1 4 (by decide) wf_X1_32 rfl dX1_begin_14 ?_
    refine lv_istore_n (lv' := [(1, .int (X 10 4)), (0, .ref (a 10))]) hx hb dX1_begin_17 rfl hl (by decide) rfl (fun ls hl => ?_)
    refine lv_aload_n hx hb dX1_begin_18 rfl (lv_at hl 1 rfl) ?_
    refine lv_dup hx hb dX1_begin_19 rfl ?_
    refine m_get C hP mC_10 rfl inX1 4 (by decide) wf_X1_32 rfl dX1_begin_20 ?_
    refine lv_iconst (v := 1) hx hb dX1_begin_23 (by decide) ?_
    refine lv_iadd hx hb dX1_begin_24 ?_
    refine lv_topi (fun y_4 e_4 => ?_)
    have hf5 := m_nm_s e_4 hf2
    clear hf2
    refine m_put C hP hS mC_10 rfl inX1 tyX1_ok nmX1 4 (by decide) wf_X1_32 rfl rfl rfl (Nat.le_of_ble_eq_true rfl) mC_10_4 dX1_begin_25 (fun X_6 e_6 H locs hP hS => ?_)
    have hf7 := m_nm_s e_6 hf5
    clear hf5
    refine lv_aload_n hx hb dX1_begin_28 rfl (lv_at hl 1 rfl) ?_
    refine m_get C hP mC_10 rfl inX1 0 (by decide) wf_X1_13 rfl dX1_begin_29 ?_
    refine lv_iload_n hx hb dX1_begin_32 rfl (lv_at hl 0 rfl) ?_
    refine lv_iconst (v := 1) hx hb dX1_begin_33 (by decide) ?_
    obtain ⟨g_8, hf9⟩ := m_gd_s hf7
    clear hf7
    refine m_ist C hP hS mC_11 0 rfl g_8 mCs_11 dX1_begin_34 (fun X_8 e_8 H locs hP hS => ?_)
    have hf10 := m_nm_s e_8 hf9
    clear hf9
    refine lv_aload_n hx hb dX1_begin_35 rfl (lv_at hl 1 rfl) ?_
    refine m_get C hP mC_10 rfl inX1 1 (by decide) wf_X1_17 rfl dX1_begin_36 ?_
    refine lv_iload_n hx hb dX1_begin_39 rfl (lv_at hl 0 rfl) ?_
    refine lv_iconst (v := 0) hx hb dX1_begin_40 (by decide) ?_
    obtain ⟨g_11, hf12⟩ := m_gd_s hf10
    clear hf10
    refine m_ist C hP hS mC_12 0 rfl g_11 mCs_12 dX1_begin_41 (fun X_11 e_11 H locs hP hS => ?_)
    have hf13 := m_nm_s e_11 hf12
    clear hf12
    refine lv_aload_n hx hb dX1_begin_42 rfl (lv_at hl 1 rfl) ?_
    refine m_get C hP mC_10 rfl inX1 2 (by decide) wf_X1_20 rfl dX1_begin_43 ?_
    refine lv_iload_n hx hb dX1_begin_46 rfl (lv_at hl 0 rfl) ?_
    refine lv_iconst (v := 0) hx hb dX1_begin_47 (by decide) ?_
    obtain ⟨g_14, hf15⟩ := m_gd_s hf13
    clear hf13
    refine m_ist C hP hS mC_13 0 rfl g_14 mCs_13 dX1_begin_48 (fun X_14 e_14 H locs hP hS => ?_)
    have hf16 := m_nm_s e_14 hf15
    clear hf15
    refine lv_aload_n hx hb dX1_begin_49 rfl (lv_at hl 1 rfl) ?_
    refine m_get C hP mC_10 rfl inX1 3 (by decide) wf_X1_23 rfl dX1_begin_50 ?_
    refine lv_iload_n hx hb dX1_begin_53 rfl (lv_at hl 0 rfl) ?_
    refine lv_iconst (v := 0) hx hb dX1_begin_54 (by decide) ?_
    obtain ⟨g_17, hf18⟩ := m_gd_s hf16
    clear hf16
    refine m_ist C hP hS mC_14 0 rfl g_17 mCs_14 dX1_begin_55 (fun X_17 e_17 H locs hP hS => ?_)
    have hf19 := m_nm_s e_17 hf18
    clear hf18
    refine lv_iload_n hx hb dX1_begin_56 rfl (lv_at hl 0 rfl) ?_
    exact m_iret C hP hS dX1_begin_57 hf19
  · have hf3 := m_ie c_1 hf0
    clear hf0
    refine lv_bipush (v := (-5)) hx hb dX1_begin_10 (by decide) ?_
    exact m_iret C hP hS dX1_begin_12 hf3
abbrev rm_X1_has : Room := { frames := 0, cells := 0, slots := 0, locals := 0 }
def f_X1_has (N : Nat) (v1 : Int32) (X : XT) : Option (Int32 × XT) := if v1 < 0 then (some (0, X)) else (if (X 10 4) ≤ v1 then (some (0, X)) else (some (1, X)))
set_option maxHeartbeats 4000000 in
set_option maxRecDepth 100000 in
theorem c_X1_has (l : Launch) (D : va_G) (a : Nat → Nat) (cy : Nat → ClassId) (hG : m_inj 138 a) (N : Nat) (v1 : Int32) (X : XT) {r0 : Int32} {X0 : XT} (hf0 : f_X1_has N v1 X = some (r0, X0)) : Met l yX1_has (Cond.code yX1_has cX1_has 2 (some .boolean) :: m_tbl) rm_X1_has (va_Pc [.ref (a 10), .int v1] (m_PX D (m_tc cy) (m_WC a cy) (m_ZC a) X)) (m_QI D (m_WC a cy) (m_AC a) r0 X0) 0 0 (m_AC a) := by
  refine m_met (own := RX1) hy_X1_has rfl (Nat.le_of_ble_eq_true rfl) (m_wl_D hG _) m_ZC_keep ?_
  intro p e s m args below meth c C ls hl hP hS
  have hx := C.1.1
  have hb := C.1.2.1
  have hl : lv_has ls 2 [(0, .ref (a 10)), (1, .int v1)] := hl
  unfold f_X1_has at hf0
  suffices K : ∀ (H : Heap) (locs : List Loc), va_P D vwCl (m_WC a cy X) H → va_S (m_AC a) s.heap H locs → W p l e rm_X1_has s m args below meth c H locs 0 0 (MQ below (m_QI D (m_WC a cy) (m_AC a) r0 X0) args s 0 0 (m_AC a)) (F0 m 0 ls []) from K _ _ hP hS
  clear hP hS
  intro H locs hP hS
  refine lv_iload_n hx hb dX1_has_0 rfl (lv_at hl 1 rfl) ?_
  refine lv_if_lt (tgt := 16) hx hb dX1_has_1 (by decide) (fun c_1 => ?_) (fun c_1 => ?_)
  · have hf2 := m_it c_1 hf0
    clear hf0
    refine lv_iconst (v := 0) hx hb dX1_has_16 (by decide) ?_
    exact m_zret C hP hS dX1_has_17 (by decide) hf2
  · have hf3 := m_ie c_1 hf0
    clear hf0
    refine lv_iload_n hx hb dX1_has_4 rfl (lv_at hl 1 rfl) ?_
    refine lv_aload_n hx hb dX1_has_5 rfl (lv_at hl 0 rfl) ?_
    refine m_get C hP mC_10 rfl inX1 4 (by decide) wf_X1_32 rfl dX1_has_6 ?_
    refine lv_icmp_ge (tgt := 16) hx hb dX1_has_9 (by decide) (fun c_4 => ?_) (fun c_4 => ?_)
    · have hf5 := m_it c_4 hf3
      clear hf3
      refine lv_iconst (v := 0) hx hb dX1_has_16 (by decide) ?_
      exact m_zret C hP hS dX1_has_17 (by decide) hf5
    · have hf6 := m_ie c_4 hf3
      clear hf3
      refine lv_iconst (v := 1) hx hb dX1_has_12 (by decide) ?_
      refine lv_goto (tgt := 17) hx hb dX1_has_13 (by decide) ?_
      exact m_zret C hP hS dX1_has_17 (by decide) hf6
abbrev rm_X1_join : Room := { frames := 1, cells := 0, slots := 0, locals := 21 }
def f_X1_join (N : Nat) (v1 : Int32) (v2 : Int32) (X : XT) : Option XT := m_bi (f_X1_has N v1 X) fun r_1 X_1 => if r_1 = 0 then (some X_1) else (m_gd (m_in v1 150) <| m_nm (X_1 12 (Int32.toNatClampNeg v1)) fun y_6 => m_nm (y_6 + 1) fun y_9 => m_gd (m_in v1 150) <| m_nm (m_up X_1 12 (upd (X_1 12) (Int32.toNatClampNeg v1) y_9)) fun X_11 => m_gd (m_in v1 150) <| m_nm (X_11 13 (Int32.toNatClampNeg v1)) fun y_14 => m_nm (y_14 + v2) fun y_17 => m_gd (m_in v1 150) <| m_nm (m_up X_11 13 (upd (X_11 13) (Int32.toNatClampNeg v1) y_17)) fun X_19 => some X_19)
set_option maxHeartbeats 4000000 in
set_option maxRecDepth 100000 in
theorem c_X1_join (l : Launch) (D : va_G) (a : Nat → Nat) (cy : Nat → ClassId) (hG : m_inj 138 a) (N : Nat) (v1 : Int32) (v2 : Int32) (X : XT) {X0 : XT} (hf0 : f_X1_join N v1 v2 X = some X0) : Met l yX1_join (Cond.code yX1_join cX1_join 3 none :: m_tbl) rm_X1_join (va_Pc [.ref (a 10), .int v1, .int v2] (m_PX D (m_tc cy) (m_WC a cy) (m_ZC a) X)) (m_QV D (m_WC a cy) (m_AC a) X0) 0 0 (m_AC a) := by
  refine m_met (own := RX1) hy_X1_join rfl (Nat.le_of_ble_eq_true rfl) (m_wl_D hG _) m_ZC_keep ?_
  intro p e s m args below meth c C ls hl hP hS
  have hx := C.1.1
  have hb := C.1.2.1
  have hl : lv_has ls 3 [(0, .ref (a 10)), (1, .int v1), (2, .int v2)] := hl
  unfold f_X1_join at hf0
  suffices K : ∀ (H : Heap) (locs : List Loc), va_P D vwCl (m_WC a cy X) H → va_S (m_AC a) s.heap H locs → W p l e rm_X1_join s m args below meth c H locs 0 0 (MQ below (m_QV D (m_WC a cy) (m_AC a) X0) args s 0 0 (m_AC a)) (F0 m 0 ls []) from K _ _ hP hS
  clear hP hS
  intro H locs hP hS
  refine lv_aload_n hx hb dX1_join_0 rfl (lv_at hl 0 rfl) ?_
  refine lv_iload_n hx hb dX1_join_1 rfl (lv_at hl 1 rfl) ?_
  obtain ⟨r_1, X_1, h_1, hf2⟩ := m_bi_s hf0
  clear hf0
  refine m_callVi (q := (RX1, TX1, 5)) C [.int v1] [] (c_X1_has l D a cy hG N _ _ h_1) (m_goodV wl_X1_36 wi_X1_has ws_X1_has wn_X1 wc_X1_has) ⟨rfl, rfl⟩ hv_X1_has ⟨Nat.le_of_ble_eq_true rfl, Nat.le_of_ble_eq_true rfl⟩ rfl mC_10 hP hS rfl hl.1 rfl (Nat.le_of_ble_eq_true rfl) dX1_join_2 (fun H locs hP hS => ?_)
  refine lv_if_eq (tgt := 28) hx hb dX1_join_5 (by decide) (fun c_3 => ?_) (fun c_3 => ?_)
  · have hf4 := m_it c_3 hf2
    clear hf2
    exact m_vret C hP hS dX1_join_28 hf4
  · have hf5 := m_ie c_3 hf2
    clear hf2
    refine lv_aload_n hx hb dX1_join_8 rfl (lv_at hl 0 rfl) ?_
    refine m_get C hP mC_10 rfl inX1 1 (by decide) wf_X1_17 rfl dX1_join_9 ?_
    refine lv_iload_n hx hb dX1_join_12 rfl (lv_at hl 1 rfl) ?_
    refine lv_dup2_11 hx hb dX1_join_13 rfl rfl ?_
    obtain ⟨g_6, hf7⟩ := m_gd_s hf5
    clear hf5
    refine m_ild C hP mC_12 0 rfl g_6 dX1_join_14 (fun y_6 e_6 => ?_)
    have hf8 := m_nm_s e_6 hf7
    clear hf7
    refine lv_iconst (v := 1) hx hb dX1_join_15 (by decide) ?_
    refine lv_iadd hx hb dX1_join_16 ?_
    refine lv_topi (fun y_9 e_9 => ?_)
    have hf10 := m_nm_s e_9 hf8
    clear hf8
    obtain ⟨g_11, hf12⟩ := m_gd_s hf10
    clear hf10
    refine m_ist C hP hS mC_12 0 rfl g_11 mCs_12 dX1_join_17 (fun X_11 e_11 H locs hP hS => ?_)
    have hf13 := m_nm_s e_11 hf12
    clear hf12
    refine lv_aload_n hx hb dX1_join_18 rfl (lv_at hl 0 rfl) ?_
    refine m_get C hP mC_10 rfl inX1 2 (by decide) wf_X1_20 rfl dX1_join_19 ?_
    refine lv_iload_n hx hb dX1_join_22 rfl (lv_at hl 1 rfl) ?_
    refine lv_dup2_11 hx hb dX1_join_23 rfl rfl ?_
    obtain ⟨g_14, hf15⟩ := m_gd_s hf13
    clear hf13
    refine m_ild C hP mC_13 0 rfl g_14 dX1_join_24 (fun y_14 e_14 => ?_)
    have hf16 := m_nm_s e_14 hf15
    clear hf15
    refine lv_iload_n hx hb dX1_join_25 rfl (lv_at hl 2 rfl) ?_
    refine lv_iadd hx hb dX1_join_26 ?_
    refine lv_topi (fun y_17 e_17 => ?_)
    have hf18 := m_nm_s e_17 hf16
    clear hf16
    obtain ⟨g_19, hf20⟩ := m_gd_s hf18
    clear hf18
    refine m_ist C hP hS mC_13 0 rfl g_19 mCs_13 dX1_join_27 (fun X_19 e_19 H locs hP hS => ?_)
    have hf21 := m_nm_s e_19 hf20
    clear hf20
    exact m_vret C hP hS dX1_join_28 hf21
abbrev rm_X1_recordsOf : Room := { frames := 1, cells := 0, slots := 0, locals := 21 }
def f_X1_recordsOf (N : Nat) (v1 : Int32) (X : XT) : Option (Int32 × XT) := m_bi (f_X1_has N v1 X) fun r_1 X_1 => if r_1 = 0 then (some (0, X_1)) else (m_gd (m_in v1 150) <| m_nm (X_1 13 (Int32.toNatClampNeg v1)) fun y_6 => some (y_6, X_1))
set_option maxHeartbeats 4000000 in
set_option maxRecDepth 100000 in
theorem c_X1_recordsOf (l : Launch) (D : va_G) (a : Nat → Nat) (cy : Nat → ClassId) (hG : m_inj 138 a) (N : Nat) (v1 : Int32) (X : XT) {r0 : Int32} {X0 : XT} (hf0 : f_X1_recordsOf N v1 X = some (r0, X0)) : Met l yX1_recordsOf (Cond.code yX1_recordsOf cX1_recordsOf 2 (some .int) :: m_tbl) rm_X1_recordsOf (va_Pc [.ref (a 10), .int v1] (m_PX D (m_tc cy) (m_WC a cy) (m_ZC a) X)) (m_QI D (m_WC a cy) (m_AC a) r0 X0) 0 0 (m_AC a) := by
  refine m_met (own := RX1) hy_X1_recordsOf rfl (Nat.le_of_ble_eq_true rfl) (m_wl_D hG _) m_ZC_keep ?_
  intro p e s m args below meth c C ls hl hP hS
  have hx := C.1.1
  have hb := C.1.2.1
  have hl : lv_has ls 2 [(0, .ref (a 10)), (1, .int v1)] := hl
  unfold f_X1_recordsOf at hf0
  suffices K : ∀ (H : Heap) (locs : List Loc), va_P D vwCl (m_WC a cy X) H → va_S (m_AC a) s.heap H locs → W p l e rm_X1_recordsOf s m args below meth c H locs 0 0 (MQ below (m_QI D (m_WC a cy) (m_AC a) r0 X0) args s 0 0 (m_AC a)) (F0 m 0 ls []) from K _ _ hP hS
  clear hP hS
  intro H locs hP hS
  refine lv_aload_n hx hb dX1_recordsOf_0 rfl (lv_at hl 0 rfl) ?_
  refine lv_iload_n hx hb dX1_recordsOf_1 rfl (lv_at hl 1 rfl) ?_
  obtain ⟨r_1, X_1, h_1, hf2⟩ := m_bi_s hf0
  clear hf0
  refine m_callVi (q := (RX1, TX1, 5)) C [.int v1] [] (c_X1_has l D a cy hG N _ _ h_1) (m_goodV wl_X1_36 wi_X1_has ws_X1_has wn_X1 wc_X1_has) ⟨rfl, rfl⟩ hv_X1_has ⟨Nat.le_of_ble_eq_true rfl, Nat.le_of_ble_eq_true rfl⟩ rfl mC_10 hP hS rfl hl.1 rfl (Nat.le_of_ble_eq_true rfl) dX1_recordsOf_2 (fun H locs hP hS => ?_)
  refine lv_if_eq (tgt := 17) hx hb dX1_recordsOf_5 (by decide) (fun c_3 => ?_) (fun c_3 => ?_)
  · have hf4 := m_it c_3 hf2
    clear hf2
    refine lv_iconst (v := 0) hx hb dX1_recordsOf_17 (by decide) ?_
    exact m_iret C hP hS dX1_recordsOf_18 hf4
  · have hf5 := m_ie c_3 hf2
    clear hf2
    refine lv_aload_n hx hb dX1_recordsOf_8 rfl (lv_at hl 0 rfl) ?_
    refine m_get C hP mC_10 rfl inX1 2 (by decide) wf_X1_20 rfl dX1_recordsOf_9 ?_
    refine lv_iload_n hx hb dX1_recordsOf_12 rfl (lv_at hl 1 rfl) ?_
    obtain ⟨g_6, hf7⟩ := m_gd_s hf5
    clear hf5
    refine m_ild C hP mC_13 0 rfl g_6 dX1_recordsOf_13 (fun y_6 e_6 => ?_)
    have hf8 := m_nm_s e_6 hf7
    clear hf7
    refine lv_goto (tgt := 18) hx hb dX1_recordsOf_14 (by decide) ?_
    exact m_iret C hP hS dX1_recordsOf_18 hf8
abbrev rm_X1_close : Room := { frames := 1, cells := 0, slots := 0, locals := 21 }
def f_X1_close (N : Nat) (v1 : Int32) (v2 : Int32) (X : XT) : Option XT := m_bi (f_X1_has N v1 X) fun r_1 X_1 => if r_1 = 0 then (some X_1) else (m_gd (m_in v1 150) <| m_nm (m_up X_1 11 (upd (X_1 11) (Int32.toNatClampNeg v1) 2)) fun X_6 => m_gd (m_in v1 150) <| m_nm (m_up X_6 14 (upd (X_6 14) (Int32.toNatClampNeg v1) v2)) fun X_9 => some X_9)
set_option maxHeartbeats 4000000 in
set_option maxRecDepth 100000 in
theorem c_X1_close (l : Launch) (D : va_G) (a : Nat → Nat) (cy : Nat → ClassId) (hG : m_inj 138 a) (N : Nat) (v1 : Int32) (v2 : Int32) (X : XT) {X0 : XT} (hf0 : f_X1_close N v1 v2 X = some X0) : Met l yX1_close (Cond.code yX1_close cX1_close 3 none :: m_tbl) rm_X1_close (va_Pc [.ref (a 10), .int v1, .int v2] (m_PX D (m_tc cy) (m_WC a cy) (m_ZC a) X)) (m_QV D (m_WC a cy) (m_AC a) X0) 0 0 (m_AC a) := by
  refine m_met (own := RX1) hy_X1_close rfl (Nat.le_of_ble_eq_true rfl) (m_wl_D hG _) m_ZC_keep ?_
  intro p e s m args below meth c C ls hl hP hS
  have hx := C.1.1
  have hb := C.1.2.1
  have hl : lv_has ls 3 [(0, .ref (a 10)), (1, .int v1), (2, .int v2)] := hl
  unfold f_X1_close at hf0
  suffices K : ∀ (H : Heap) (locs : List Loc), va_P D vwCl (m_WC a cy X) H → va_S (m_AC a) s.heap H locs → W p l e rm_X1_close s m args below meth c H locs 0 0 (MQ below (m_QV D (m_WC a cy) (m_AC a) X0) args s 0 0 (m_AC a)) (F0 m 0 ls []) from K _ _ hP hS
  clear hP hS
  intro H locs hP hS
  refine lv_aload_n hx hb dX1_close_0 rfl (lv_at hl 0 rfl) ?_
  refine lv_iload_n hx hb dX1_close_1 rfl (lv_at hl 1 rfl) ?_
  obtain ⟨r_1, X_1, h_1, hf2⟩ := m_bi_s hf0
  clear hf0
  refine m_callVi (q := (RX1, TX1, 5)) C [.int v1] [] (c_X1_has l D a cy hG N _ _ h_1) (m_goodV wl_X1_36 wi_X1_has ws_X1_has wn_X1 wc_X1_has) ⟨rfl, rfl⟩ hv_X1_has ⟨Nat.le_of_ble_eq_true rfl, Nat.le_of_ble_eq_true rfl⟩ rfl mC_10 hP hS rfl hl.1 rfl (Nat.le_of_ble_eq_true rfl) dX1_close_2 (fun H locs hP hS => ?_)
  refine lv_if_eq (tgt := 22) hx hb dX1_close_5 (by decide) (fun c_3 => ?_) (fun c_3 => ?_)
  · have hf4 := m_it c_3 hf2
    clear hf2
    exact m_vret C hP hS dX1_close_22 hf4
  · have hf5 := m_ie c_3 hf2
    clear hf2
    refine lv_aload_n hx hb dX1_close_8 rfl (lv_at hl 0 rfl) ?_
    refine m_get C hP mC_10 rfl inX1 0 (by decide) wf_X1_13 rfl dX1_close_9 ?_
    refine lv_iload_n hx hb dX1_close_12 rfl (lv_at hl 1 rfl) ?_
    refine lv_iconst (v := 2) hx hb dX1_close_13 (by decide) ?_
    obtain ⟨g_6, hf7⟩ := m_gd_s hf5
    clear hf5
    refine m_ist C hP hS mC_11 0 rfl g_6 mCs_11 dX1_close_14 (fun X_6 e_6 H locs hP hS => ?_)
    have hf8 := m_nm_s e_6 hf7
    clear hf7
    refine lv_aload_n hx hb dX1_close_15 rfl (lv_at hl 0 rfl) ?_
    refine m_get C hP mC_10 rfl inX1 3 (by decide) wf_X1_23 rfl dX1_close_16 ?_
    refine lv_iload_n hx hb dX1_close_19 rfl (lv_at hl 1 rfl) ?_
    refine lv_iload_n hx hb dX1_close_20 rfl (lv_at hl 2 rfl) ?_
    obtain ⟨g_9, hf10⟩ := m_gd_s hf8
    clear hf8
    refine m_ist C hP hS mC_14 0 rfl g_9 mCs_14 dX1_close_21 (fun X_9 e_9 H locs hP hS => ?_)
    have hf11 := m_nm_s e_9 hf10
    clear hf10
    exact m_vret C hP hS dX1_close_22 hf11
abbrev rm_X1_membersOf : Room := { frames := 1, cells := 0, slots := 0, locals := 21 }
def f_X1_membersOf (N : Nat) (v1 : Int32) (X : XT) : Option (Int32 × XT) := m_bi (f_X1_has N v1 X) fun r_1 X_1 => if r_1 = 0 then (some (0, X_1)) else (m_gd (m_in v1 150) <| m_nm (X_1 12 (Int32.toNatClampNeg v1)) fun y_6 => some (y_6, X_1))
set_option maxHeartbeats 4000000 in
set_option maxRecDepth 100000 in
theorem c_X1_membersOf (l : Launch) (D : va_G) (a : Nat → Nat) (cy : Nat → ClassId) (hG : m_inj 138 a) (N : Nat) (v1 : Int32) (X : XT) {r0 : Int32} {X0 : XT} (hf0 : f_X1_membersOf N v1 X = some (r0, X0)) : Met l yX1_membersOf (Cond.code yX1_membersOf cX1_membersOf 2 (some .int) :: m_tbl) rm_X1_membersOf (va_Pc [.ref (a 10), .int v1] (m_PX D (m_tc cy) (m_WC a cy) (m_ZC a) X)) (m_QI D (m_WC a cy) (m_AC a) r0 X0) 0 0 (m_AC a) := by
  refine m_met (own := RX1) hy_X1_membersOf rfl (Nat.le_of_ble_eq_true rfl) (m_wl_D hG _) m_ZC_keep ?_
  intro p e s m args below meth c C ls hl hP hS
  have hx := C.1.1
  have hb := C.1.2.1
  have hl : lv_has ls 2 [(0, .ref (a 10)), (1, .int v1)] := hl
  unfold f_X1_membersOf at hf0
  suffices K : ∀ (H : Heap) (locs : List Loc), va_P D vwCl (m_WC a cy X) H → va_S (m_AC a) s.heap H locs → W p l e rm_X1_membersOf s m args below meth c H locs 0 0 (MQ below (m_QI D (m_WC a cy) (m_AC a) r0 X0) args s 0 0 (m_AC a)) (F0 m 0 ls []) from K _ _ hP hS
  clear hP hS
  intro H locs hP hS
  refine lv_aload_n hx hb dX1_membersOf_0 rfl (lv_at hl 0 rfl) ?_
  refine lv_iload_n hx hb dX1_membersOf_1 rfl (lv_at hl 1 rfl) ?_
  obtain ⟨r_1, X_1, h_1, hf2⟩ := m_bi_s hf0
  clear hf0
  refine m_callVi (q := (RX1, TX1, 5)) C [.int v1] [] (c_X1_has l D a cy hG N _ _ h_1) (m_goodV wl_X1_36 wi_X1_has ws_X1_has wn_X1 wc_X1_has) ⟨rfl, rfl⟩ hv_X1_has ⟨Nat.le_of_ble_eq_true rfl, Nat.le_of_ble_eq_true rfl⟩ rfl mC_10 hP hS rfl hl.1 rfl (Nat.le_of_ble_eq_true rfl) dX1_membersOf_2 (fun H locs hP hS => ?_)
  refine lv_if_eq (tgt := 17) hx hb dX1_membersOf_5 (by decide) (fun c_3 => ?_) (fun c_3 => ?_)
  · have hf4 := m_it c_3 hf2
    clear hf2
    refine lv_iconst (v := 0) hx hb dX1_membersOf_17 (by decide) ?_
    exact m_iret C hP hS dX1_membersOf_18 hf4
  · have hf5 := m_ie c_3 hf2
    clear hf2
    refine lv_aload_n hx hb dX1_membersOf_8 rfl (lv_at hl 0 rfl) ?_
    refine m_get C hP mC_10 rfl inX1 1 (by decide) wf_X1_17 rfl dX1_membersOf_9 ?_
    refine lv_iload_n hx hb dX1_membersOf_12 rfl (lv_at hl 1 rfl) ?_
    obtain ⟨g_6, hf7⟩ := m_gd_s hf5
    clear hf5
    refine m_ild C hP mC_12 0 rfl g_6 dX1_membersOf_13 (fun y_6 e_6 => ?_)
    have hf8 := m_nm_s e_6 hf7
    clear hf7
    refine lv_goto (tgt := 18) hx hb dX1_membersOf_14 (by decide) ?_
    exact m_iret C hP hS dX1_membersOf_18 hf8
abbrev rm_X1_setState : Room := { frames := 1, cells := 0, slots := 0, locals := 21 }
def f_X1_setState (N : Nat) (v1 : Int32) (v2 : Int32) (X : XT) : Option XT := m_bi (f_X1_has N v1 X) fun r_1 X_1 => if r_1 = 0 then (some X_1) else (m_gd (m_in v1 150) <| m_nm (m_up X_1 11 (upd (X_1 11) (Int32.toNatClampNeg v1) v2)) fun X_6 => some X_6)
set_option maxHeartbeats 4000000 in
set_option maxRecDepth 100000 in
theorem c_X1_setState (l : Launch) (D : va_G) (a : Nat → Nat) (cy : Nat → ClassId) (hG : m_inj 138 a) (N : Nat) (v1 : Int32) (v2 : Int32) (X : XT) {X0 : XT} (hf0 : f_X1_setState N v1 v2 X = some X0) : Met l yX1_setState (Cond.code yX1_setState cX1_setState 3 none :: m_tbl) rm_X1_setState (va_Pc [.ref (a 10), .int v1, .int v2] (m_PX D (m_tc cy) (m_WC a cy) (m_ZC a) X)) (m_QV D (m_WC a cy) (m_AC a) X0) 0 0 (m_AC a) := by
  refine m_met (own := RX1) hy_X1_setState rfl (Nat.le_of_ble_eq_true rfl) (m_wl_D hG _) m_ZC_keep ?_
  intro p e s m args below meth c C ls hl hP hS
  have hx := C.1.1
  have hb := C.1.2.1
  have hl : lv_has ls 3 [(0, .ref (a 10)), (1, .int v1), (2, .int v2)] := hl
  unfold f_X1_setState at hf0
  suffices K : ∀ (H : Heap) (locs : List Loc), va_P D vwCl (m_WC a cy X) H → va_S (m_AC a) s.heap H locs → W p l e rm_X1_setState s m args below meth c H locs 0 0 (MQ below (m_QV D (m_WC a cy) (m_AC a) X0) args s 0 0 (m_AC a)) (F0 m 0 ls []) from K _ _ hP hS
  clear hP hS
  intro H locs hP hS
  refine lv_aload_n hx hb dX1_setState_0 rfl (lv_at hl 0 rfl) ?_
  refine lv_iload_n hx hb dX1_setState_1 rfl (lv_at hl 1 rfl) ?_
  obtain ⟨r_1, X_1, h_1, hf2⟩ := m_bi_s hf0
  clear hf0
  refine m_callVi (q := (RX1, TX1, 5)) C [.int v1] [] (c_X1_has l D a cy hG N _ _ h_1) (m_goodV wl_X1_36 wi_X1_has ws_X1_has wn_X1 wc_X1_has) ⟨rfl, rfl⟩ hv_X1_has ⟨Nat.le_of_ble_eq_true rfl, Nat.le_of_ble_eq_true rfl⟩ rfl mC_10 hP hS rfl hl.1 rfl (Nat.le_of_ble_eq_true rfl) dX1_setState_2 (fun H locs hP hS => ?_)
  refine lv_if_eq (tgt := 15) hx hb dX1_setState_5 (by decide) (fun c_3 => ?_) (fun c_3 => ?_)
  · have hf4 := m_it c_3 hf2
    clear hf2
    exact m_vret C hP hS dX1_setState_15 hf4
  · have hf5 := m_ie c_3 hf2
    clear hf2
    refine lv_aload_n hx hb dX1_setState_8 rfl (lv_at hl 0 rfl) ?_
    refine m_get C hP mC_10 rfl inX1 0 (by decide) wf_X1_13 rfl dX1_setState_9 ?_
    refine lv_iload_n hx hb dX1_setState_12 rfl (lv_at hl 1 rfl) ?_
    refine lv_iload_n hx hb dX1_setState_13 rfl (lv_at hl 2 rfl) ?_
    obtain ⟨g_6, hf7⟩ := m_gd_s hf5
    clear hf5
    refine m_ist C hP hS mC_11 0 rfl g_6 mCs_11 dX1_setState_14 (fun X_6 e_6 H locs hP hS => ?_)
    have hf8 := m_nm_s e_6 hf7
    clear hf7
    exact m_vret C hP hS dX1_setState_15 hf8
abbrev rm_X1_leave : Room := { frames := 1, cells := 0, slots := 0, locals := 21 }
def f_X1_leave (N : Nat) (v1 : Int32) (v2 : Int32) (X : XT) : Option XT := m_bi (f_X1_has N v1 X) fun r_1 X_1 => if r_1 = 0 then (some X_1) else (m_gd (m_in v1 150) <| m_nm (X_1 12 (Int32.toNatClampNeg v1)) fun y_6 => m_nm (y_6 - 1) fun y_9 => m_gd (m_in v1 150) <| m_nm (m_up X_1 12 (upd (X_1 12) (Int32.toNatClampNeg v1) y_9)) fun X_11 => m_gd (m_in v1 150) <| m_nm (X_11 13 (Int32.toNatClampNeg v1)) fun y_14 => m_nm (y_14 - v2) fun y_17 => m_gd (m_in v1 150) <| m_nm (m_up X_11 13 (upd (X_11 13) (Int32.toNatClampNeg v1) y_17)) fun X_19 => some X_19)
set_option maxHeartbeats 4000000 in
set_option maxRecDepth 100000 in
theorem c_X1_leave (l : Launch) (D : va_G) (a : Nat → Nat) (cy : Nat → ClassId) (hG : m_inj 138 a) (N : Nat) (v1 : Int32) (v2 : Int32) (X : XT) {X0 : XT} (hf0 : f_X1_leave N v1 v2 X = some X0) : Met l yX1_leave (Cond.code yX1_leave cX1_leave 3 none :: m_tbl) rm_X1_leave (va_Pc [.ref (a 10), .int v1, .int v2] (m_PX D (m_tc cy) (m_WC a cy) (m_ZC a) X)) (m_QV D (m_WC a cy) (m_AC a) X0) 0 0 (m_AC a) := by
  refine m_met (own := RX1) hy_X1_leave rfl (Nat.le_of_ble_eq_true rfl) (m_wl_D hG _) m_ZC_keep ?_
  intro p e s m args below meth c C ls hl hP hS
  have hx := C.1.1
  have hb := C.1.2.1
  have hl : lv_has ls 3 [(0, .ref (a 10)), (1, .int v1), (2, .int v2)] := hl
  unfold f_X1_leave at hf0
  suffices K : ∀ (H : Heap) (locs : List Loc), va_P D vwCl (m_WC a cy X) H → va_S (m_AC a) s.heap H locs → W p l e rm_X1_leave s m args below meth c H locs 0 0 (MQ below (m_QV D (m_WC a cy) (m_AC a) X0) args s 0 0 (m_AC a)) (F0 m 0 ls []) from K _ _ hP hS
  clear hP hS
  intro H locs hP hS
  refine lv_aload_n hx hb dX1_leave_0 rfl (lv_at hl 0 rfl) ?_
  refine lv_iload_n hx hb dX1_leave_1 rfl (lv_at hl 1 rfl) ?_
  obtain ⟨r_1, X_1, h_1, hf2⟩ := m_bi_s hf0
  clear hf0
  refine m_callVi (q := (RX1, TX1, 5)) C [.int v1] [] (c_X1_has l D a cy hG N _ _ h_1) (m_goodV wl_X1_36 wi_X1_has ws_X1_has wn_X1 wc_X1_has) ⟨rfl, rfl⟩ hv_X1_has ⟨Nat.le_of_ble_eq_true rfl, Nat.le_of_ble_eq_true rfl⟩ rfl mC_10 hP hS rfl hl.1 rfl (Nat.le_of_ble_eq_true rfl) dX1_leave_2 (fun H locs hP hS => ?_)
  refine lv_if_eq (tgt := 28) hx hb dX1_leave_5 (by decide) (fun c_3 => ?_) (fun c_3 => ?_)
  · have hf4 := m_it c_3 hf2
    clear hf2
    exact m_vret C hP hS dX1_leave_28 hf4
  · have hf5 := m_ie c_3 hf2
    clear hf2
    refine lv_aload_n hx hb dX1_leave_8 rfl (lv_at hl 0 rfl) ?_
    refine m_get C hP mC_10 rfl inX1 1 (by decide) wf_X1_17 rfl dX1_leave_9 ?_
    refine lv_iload_n hx hb dX1_leave_12 rfl (lv_at hl 1 rfl) ?_
    refine lv_dup2_11 hx hb dX1_leave_13 rfl rfl ?_
    obtain ⟨g_6, hf7⟩ := m_gd_s hf5
    clear hf5
    refine m_ild C hP mC_12 0 rfl g_6 dX1_leave_14 (fun y_6 e_6 => ?_)
    have hf8 := m_nm_s e_6 hf7
    clear hf7
    refine lv_iconst (v := 1) hx hb dX1_leave_15 (by decide) ?_
    refine lv_isub hx hb dX1_leave_16 ?_
    refine lv_topi (fun y_9 e_9 => ?_)
    have hf10 := m_nm_s e_9 hf8
    clear hf8
    obtain ⟨g_11, hf12⟩ := m_gd_s hf10
    clear hf10
    refine m_ist C hP hS mC_12 0 rfl g_11 mCs_12 dX1_leave_17 (fun X_11 e_11 H locs hP hS => ?_)
    have hf13 := m_nm_s e_11 hf12
    clear hf12
    refine lv_aload_n hx hb dX1_leave_18 rfl (lv_at hl 0 rfl) ?_
    refine m_get C hP mC_10 rfl inX1 2 (by decide) wf_X1_20 rfl dX1_leave_19 ?_
    refine lv_iload_n hx hb dX1_leave_22 rfl (lv_at hl 1 rfl) ?_
    refine lv_dup2_11 hx hb dX1_leave_23 rfl rfl ?_
    obtain ⟨g_14, hf15⟩ := m_gd_s hf13
    clear hf13
    refine m_ild C hP mC_13 0 rfl g_14 dX1_leave_24 (fun y_14 e_14 => ?_)
    have hf16 := m_nm_s e_14 hf15
    clear hf15
    refine lv_iload_n hx hb dX1_leave_25 rfl (lv_at hl 2 rfl) ?_
    refine lv_isub hx hb dX1_leave_26 ?_
    refine lv_topi (fun y_17 e_17 => ?_)
    have hf18 := m_nm_s e_17 hf16
    clear hf16
    obtain ⟨g_19, hf20⟩ := m_gd_s hf18
    clear hf18
    refine m_ist C hP hS mC_13 0 rfl g_19 mCs_13 dX1_leave_27 (fun X_19 e_19 H locs hP hS => ?_)
    have hf21 := m_nm_s e_19 hf20
    clear hf20
    exact m_vret C hP hS dX1_leave_28 hf21
abbrev rm_X1_stateOf : Room := { frames := 1, cells := 0, slots := 0, locals := 21 }
def f_X1_stateOf (N : Nat) (v1 : Int32) (X : XT) : Option (Int32 × XT) := m_bi (f_X1_has N v1 X) fun r_1 X_1 => if r_1 = 0 then (some ((-5), X_1)) else (m_gd (m_in v1 150) <| m_nm (X_1 11 (Int32.toNatClampNeg v1)) fun y_6 => some (y_6, X_1))
set_option maxHeartbeats 4000000 in
set_option maxRecDepth 100000 in
theorem c_X1_stateOf (l : Launch) (D : va_G) (a : Nat → Nat) (cy : Nat → ClassId) (hG : m_inj 138 a) (N : Nat) (v1 : Int32) (X : XT) {r0 : Int32} {X0 : XT} (hf0 : f_X1_stateOf N v1 X = some (r0, X0)) : Met l yX1_stateOf (Cond.code yX1_stateOf cX1_stateOf 2 (some .int) :: m_tbl) rm_X1_stateOf (va_Pc [.ref (a 10), .int v1] (m_PX D (m_tc cy) (m_WC a cy) (m_ZC a) X)) (m_QI D (m_WC a cy) (m_AC a) r0 X0) 0 0 (m_AC a) := by
  refine m_met (own := RX1) hy_X1_stateOf rfl (Nat.le_of_ble_eq_true rfl) (m_wl_D hG _) m_ZC_keep ?_
  intro p e s m args below meth c C ls hl hP hS
  have hx := C.1.1
  have hb := C.1.2.1
  have hl : lv_has ls 2 [(0, .ref (a 10)), (1, .int v1)] := hl
  unfold f_X1_stateOf at hf0
  suffices K : ∀ (H : Heap) (locs : List Loc), va_P D vwCl (m_WC a cy X) H → va_S (m_AC a) s.heap H locs → W p l e rm_X1_stateOf s m args below meth c H locs 0 0 (MQ below (m_QI D (m_WC a cy) (m_AC a) r0 X0) args s 0 0 (m_AC a)) (F0 m 0 ls []) from K _ _ hP hS
  clear hP hS
  intro H locs hP hS
  refine lv_aload_n hx hb dX1_stateOf_0 rfl (lv_at hl 0 rfl) ?_
  refine lv_iload_n hx hb dX1_stateOf_1 rfl (lv_at hl 1 rfl) ?_
  obtain ⟨r_1, X_1, h_1, hf2⟩ := m_bi_s hf0
  clear hf0
  refine m_callVi (q := (RX1, TX1, 5)) C [.int v1] [] (c_X1_has l D a cy hG N _ _ h_1) (m_goodV wl_X1_36 wi_X1_has ws_X1_has wn_X1 wc_X1_has) ⟨rfl, rfl⟩ hv_X1_has ⟨Nat.le_of_ble_eq_true rfl, Nat.le_of_ble_eq_true rfl⟩ rfl mC_10 hP hS rfl hl.1 rfl (Nat.le_of_ble_eq_true rfl) dX1_stateOf_2 (fun H locs hP hS => ?_)
  refine lv_if_eq (tgt := 17) hx hb dX1_stateOf_5 (by decide) (fun c_3 => ?_) (fun c_3 => ?_)
  · have hf4 := m_it c_3 hf2
    clear hf2
    refine lv_bipush (v := (-5)) hx hb dX1_stateOf_17 (by decide) ?_
    exact m_iret C hP hS dX1_stateOf_19 hf4
  · have hf5 := m_ie c_3 hf2
    clear hf2
    refine lv_aload_n hx hb dX1_stateOf_8 rfl (lv_at hl 0 rfl) ?_
    refine m_get C hP mC_10 rfl inX1 0 (by decide) wf_X1_13 rfl dX1_stateOf_9 ?_
    refine lv_iload_n hx hb dX1_stateOf_12 rfl (lv_at hl 1 rfl) ?_
    obtain ⟨g_6, hf7⟩ := m_gd_s hf5
    clear hf5
    refine m_ild C hP mC_11 0 rfl g_6 dX1_stateOf_13 (fun y_6 e_6 => ?_)
    have hf8 := m_nm_s e_6 hf7
    clear hf7
    refine lv_goto (tgt := 19) hx hb dX1_stateOf_14 (by decide) ?_
    exact m_iret C hP hS dX1_stateOf_19 hf8
abbrev rm_X1_reasonOf : Room := { frames := 1, cells := 0, slots := 0, locals := 21 }
def f_X1_reasonOf (N : Nat) (v1 : Int32) (X : XT) : Option (Int32 × XT) := m_bi (f_X1_has N v1 X) fun r_1 X_1 => if r_1 = 0 then (some (0, X_1)) else (m_gd (m_in v1 150) <| m_nm (X_1 14 (Int32.toNatClampNeg v1)) fun y_6 => some (y_6, X_1))
set_option maxHeartbeats 4000000 in
set_option maxRecDepth 100000 in
theorem c_X1_reasonOf (l : Launch) (D : va_G) (a : Nat → Nat) (cy : Nat → ClassId) (hG : m_inj 138 a) (N : Nat) (v1 : Int32) (X : XT) {r0 : Int32} {X0 : XT} (hf0 : f_X1_reasonOf N v1 X = some (r0, X0)) : Met l yX1_reasonOf (Cond.code yX1_reasonOf cX1_reasonOf 2 (some .int) :: m_tbl) rm_X1_reasonOf (va_Pc [.ref (a 10), .int v1] (m_PX D (m_tc cy) (m_WC a cy) (m_ZC a) X)) (m_QI D (m_WC a cy) (m_AC a) r0 X0) 0 0 (m_AC a) := by
  refine m_met (own := RX1) hy_X1_reasonOf rfl (Nat.le_of_ble_eq_true rfl) (m_wl_D hG _) m_ZC_keep ?_
  intro p e s m args below meth c C ls hl hP hS
  have hx := C.1.1
  have hb := C.1.2.1
  have hl : lv_has ls 2 [(0, .ref (a 10)), (1, .int v1)] := hl
  unfold f_X1_reasonOf at hf0
  suffices K : ∀ (H : Heap) (locs : List Loc), va_P D vwCl (m_WC a cy X) H → va_S (m_AC a) s.heap H locs → W p l e rm_X1_reasonOf s m args below meth c H locs 0 0 (MQ below (m_QI D (m_WC a cy) (m_AC a) r0 X0) args s 0 0 (m_AC a)) (F0 m 0 ls []) from K _ _ hP hS
  clear hP hS
  intro H locs hP hS
  refine lv_aload_n hx hb dX1_reasonOf_0 rfl (lv_at hl 0 rfl) ?_
  refine lv_iload_n hx hb dX1_reasonOf_1 rfl (lv_at hl 1 rfl) ?_
  obtain ⟨r_1, X_1, h_1, hf2⟩ := m_bi_s hf0
  clear hf0
  refine m_callVi (q := (RX1, TX1, 5)) C [.int v1] [] (c_X1_has l D a cy hG N _ _ h_1) (m_goodV wl_X1_36 wi_X1_has ws_X1_has wn_X1 wc_X1_has) ⟨rfl, rfl⟩ hv_X1_has ⟨Nat.le_of_ble_eq_true rfl, Nat.le_of_ble_eq_true rfl⟩ rfl mC_10 hP hS rfl hl.1 rfl (Nat.le_of_ble_eq_true rfl) dX1_reasonOf_2 (fun H locs hP hS => ?_)
  refine lv_if_eq (tgt := 17) hx hb dX1_reasonOf_5 (by decide) (fun c_3 => ?_) (fun c_3 => ?_)
  · have hf4 := m_it c_3 hf2
    clear hf2
    refine lv_iconst (v := 0) hx hb dX1_reasonOf_17 (by decide) ?_
    exact m_iret C hP hS dX1_reasonOf_18 hf4
  · have hf5 := m_ie c_3 hf2
    clear hf2
    refine lv_aload_n hx hb dX1_reasonOf_8 rfl (lv_at hl 0 rfl) ?_
    refine m_get C hP mC_10 rfl inX1 3 (by decide) wf_X1_23 rfl dX1_reasonOf_9 ?_
    refine lv_iload_n hx hb dX1_reasonOf_12 rfl (lv_at hl 1 rfl) ?_
    obtain ⟨g_6, hf7⟩ := m_gd_s hf5
    clear hf5
    refine m_ild C hP mC_14 0 rfl g_6 dX1_reasonOf_13 (fun y_6 e_6 => ?_)
    have hf8 := m_nm_s e_6 hf7
    clear hf7
    refine lv_goto (tgt := 18) hx hb dX1_reasonOf_14 (by decide) ?_
    exact m_iret C hP hS dX1_reasonOf_18 hf8
