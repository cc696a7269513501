-- written by wip/gen/gen.py
abbrev rm_X0_isFull : Room := { frames := 0, cells := 0, slots := 0, locals := 0 }
def f_X0_isFull (N : Nat) (X : XT) : Option (Int32 × XT) := if (X 1 8) < 150 then (some (0, X)) else (some (1, X))
set_option maxHeartbeats 4000000 in
set_option maxRecDepth 100000 in
theorem c_X0_isFull (l : Launch) (D : va_G) (a : Nat → Nat) (cy : Nat → ClassId) (hG : m_inj 138 a) (N : Nat) (X : XT) {r0 : Int32} {X0 : XT} (hf0 : f_X0_isFull N X = some (r0, X0)) : Met l yX0_isFull (Cond.code yX0_isFull cX0_isFull 1 (some .boolean) :: m_tbl) rm_X0_isFull (va_Pc [.ref (a 1)] (m_PX D (m_tc cy) (m_WC a cy) (m_ZC a) X)) (m_QI D (m_WC a cy) (m_AC a) r0 X0) 0 0 (m_AC a) := by
  refine m_met (own := RX0) hy_X0_isFull rfl (Nat.le_of_ble_eq_true rfl) (m_wl_D hG _) m_ZC_keep ?_
  intro p e s m args below meth c C ls hl hP hS
  have hx := C.1.1
  have hb := C.1.2.1
  have hl : lv_has ls 1 [(0, .ref (a 1))] := hl
  unfold f_X0_isFull at hf0
  suffices K : ∀ (H : Heap) (locs : List Loc), va_P D vwCl (m_WC a cy X) H → va_S (m_AC a) s.heap H locs → W p l e rm_X0_isFull s m args below meth c H locs 0 0 (MQ below (m_QI D (m_WC a cy) (m_AC a) r0 X0) args s 0 0 (m_AC a)) (F0 m 0 ls []) from K _ _ hP hS
  clear hP hS
  intro H locs hP hS
  refine lv_aload_n hx hb dX0_isFull_0 rfl (lv_at hl 0 rfl) ?_
  refine m_get C hP mC_1 rfl inX0 8 (by decide) wf_X0_43 rfl dX0_isFull_1 ?_
  refine lv_sipush (v := 150) hx hb dX0_isFull_4 (by decide) ?_
  refine lv_icmp_lt (tgt := 14) hx hb dX0_isFull_7 (by decide) (fun c_1 => ?_) (fun c_1 => ?_)
  · have hf2 := m_it c_1 hf0
    clear hf0
    refine lv_iconst (v := 0) hx hb dX0_isFull_14 (by decide) ?_
    exact m_zret C hP hS dX0_isFull_15 (by decide) hf2
  · have hf3 := m_ie c_1 hf0
    clear hf0
    refine lv_iconst (v := 1) hx hb dX0_isFull_10 (by decide) ?_
    refine lv_goto (tgt := 15) hx hb dX0_isFull_11 (by decide) ?_
    exact m_zret C hP hS dX0_isFull_15 (by decide) hf3
abbrev rm_X0_copyFrom : Room := { frames := 1, cells := 0, slots := 0, locals := 40 }
def f_X0_copyFrom (N : Nat) (k1 : Nat) (k2 : Nat) (X : XT) : Option XT := m_nm (m_up X (21 * k1 + 2) (va_cpy (X (21 * k2 + 2)) (X (21 * k1 + 2)) 0 0 150)) fun X_1 => m_nm (m_up X_1 (21 * k1 + 3) (va_cpy (X_1 (21 * k2 + 3)) (X_1 (21 * k1 + 3)) 0 0 150)) fun X_3 => m_gd (∀ i, i < 150 → fits .boolean (.int (X_3 (21 * k2 + 4) i)) = true) <| m_nm (m_up X_3 (21 * k1 + 4) (va_cpy (X_3 (21 * k2 + 4)) (X_3 (21 * k1 + 4)) 0 0 150)) fun X_5 => m_nm (m_up X_5 (21 * k1 + 5) (va_cpy (X_5 (21 * k2 + 5)) (X_5 (21 * k1 + 5)) 0 0 150)) fun X_8 => m_nm (m_up X_8 (21 * k1 + 6) (va_cpy (X_8 (21 * k2 + 6)) (X_8 (21 * k1 + 6)) 0 0 150)) fun X_10 => m_nm (m_up X_10 (21 * k1 + 7) (va_cpy (X_10 (21 * k2 + 7)) (X_10 (21 * k1 + 7)) 0 0 150)) fun X_12 => m_nm (m_up X_12 (21 * k1 + 8) (va_cpy (X_12 (21 * k2 + 8)) (X_12 (21 * k1 + 8)) 0 0 150)) fun X_14 => m_gd (∀ i, i < 150 → fits .boolean (.int (X_14 (21 * k2 + 9) i)) = true) <| m_nm (m_up X_14 (21 * k1 + 9) (va_cpy (X_14 (21 * k2 + 9)) (X_14 (21 * k1 + 9)) 0 0 150)) fun X_16 => m_nm (m_up X_16 (21 * k1 + 1) (upd (X_16 (21 * k1 + 1)) 8 (X_16 (21 * k2 + 1) 8))) fun X_19 => some X_19
set_option maxHeartbeats 4000000 in
set_option maxRecDepth 100000 in
theorem c_X0_copyFrom (l : Launch) (D : va_G) (a : Nat → Nat) (cy : Nat → ClassId) (hG : m_inj 138 a) (N : Nat) (k1 : Nat) (k2 : Nat) (hk1 : k1 < 6) (hk2 : k2 < 6) (X : XT) {X0 : XT} (hf0 : f_X0_copyFrom N k1 k2 X = some X0) : Met l yX0_copyFrom (Cond.code yX0_copyFrom cX0_copyFrom 2 none :: m_tbl) rm_X0_copyFrom (va_Pc [.ref (a (21 * k1 + 1)), .ref (a (21 * k2 + 1))] (m_PX D (m_tc cy) (m_WC a cy) (m_ZC a) X)) (m_QV D (m_WC a cy) (m_AC a) X0) 0 0 (m_AC a) := by
  refine m_met (own := RX0) hy_X0_copyFrom rfl (Nat.le_of_ble_eq_true rfl) (m_wl_D hG _) m_ZC_keep ?_
  intro p e s m args below meth c C ls hl hP hS
  have hx := C.1.1
  have hb := C.1.2.1
  have hl : lv_has ls 2 [(0, .ref (a (21 * k1 + 1))), (1, .ref (a (21 * k2 + 1)))] := hl
  unfold f_X0_copyFrom at hf0
  suffices K : ∀ (H : Heap) (locs : List Loc), va_P D vwCl (m_WC a cy X) H → va_S (m_AC a) s.heap H locs → W p l e rm_X0_copyFrom s m args below meth c H locs 0 0 (MQ below (m_QV D (m_WC a cy) (m_AC a) X0) args s 0 0 (m_AC a)) (F0 m 0 ls []) from K _ _ hP hS
  clear hP hS
  intro H locs hP hS
  refine lv_aload_n hx hb dX0_copyFrom_0 rfl (lv_at hl 1 rfl) ?_
  refine m_get C hP (mK_1 hk2) rfl inX0 0 (by decide) wf_X0_11 rfl dX0_copyFrom_1 ?_
  refine lv_iconst (v := 0) hx hb dX0_copyFrom_4 (by decide) ?_
  refine lv_aload_n hx hb dX0_copyFrom_5 rfl (lv_at hl 0 rfl) ?_
  refine m_get C hP (mK_1 hk1) rfl inX0 0 (by decide) wf_X0_11 rfl dX0_copyFrom_6 ?_
  refine lv_iconst (v := 0) hx hb dX0_copyFrom_9 (by decide) ?_
  refine lv_sipush (v := 150) hx hb dX0_copyFrom_10 (by decide) ?_
  refine m_copy C hP hS hl.1 (mK_2 hk2) (mK_2 hk1) 0 0 rfl rfl rfl wl_X0_37 wnat_arraycopyName wst_arraycopyName wn_java_lang_System (nn := 150) rfl (by decide) (Nat.le_of_ble_eq_true rfl) (Nat.le_of_ble_eq_true rfl) (fun _ _ => rfl) (Nat.le_of_ble_eq_true rfl) (Nat.le_of_ble_eq_true rfl) (mKs_2 hk1) dX0_copyFrom_13 (fun X_1 e_1 H locs hP hS => ?_)
  have hf2 := m_nm_s e_1 hf0
  clear hf0
  refine lv_aload_n hx hb dX0_copyFrom_16 rfl (lv_at hl 1 rfl) ?_
  refine m_get C hP (mK_1 hk2) rfl inX0 1 (by decide) wf_X0_15 rfl dX0_copyFrom_17 ?_
  refine lv_iconst (v := 0) hx hb dX0_copyFrom_20 (by decide) ?_
  refine lv_aload_n hx hb dX0_copyFrom_21 rfl (lv_at hl 0 rfl) ?_
  refine m_get C hP (mK_1 hk1) rfl inX0 1 (by decide) wf_X0_15 rfl dX0_copyFrom_22 ?_
  refine lv_iconst (v := 0) hx hb dX0_copyFrom_25 (by decide) ?_
  refine lv_sipush (v := 150) hx hb dX0_copyFrom_26 (by decide) ?_
  refine m_copy C hP hS hl.1 (mK_3 hk2) (mK_3 hk1) 0 0 rfl rfl rfl wl_X0_37 wnat_arraycopyName wst_arraycopyName wn_java_lang_System (nn := 150) rfl (by decide) (Nat.le_of_ble_eq_true rfl) (Nat.le_of_ble_eq_true rfl) (fun _ _ => rfl) (Nat.le_of_ble_eq_true rfl) (Nat.le_of_ble_eq_true rfl) (mKs_3 hk1) dX0_copyFrom_29 (fun X_3 e_3 H locs hP hS => ?_)
  have hf4 := m_nm_s e_3 hf2
  clear hf2
  refine lv_aload_n hx hb dX0_copyFrom_32 rfl (lv_at hl 1 rfl) ?_
  refine m_get C hP (mK_1 hk2) rfl inX0 2 (by decide) wf_X0_18 rfl dX0_copyFrom_33 ?_
  refine lv_iconst (v := 0) hx hb dX0_copyFrom_36 (by decide) ?_
  refine lv_aload_n hx hb dX0_copyFrom_37 rfl (lv_at hl 0 rfl) ?_
  refine m_get C hP (mK_1 hk1) rfl inX0 2 (by decide) wf_X0_18 rfl dX0_copyFrom_38 ?_
  refine lv_iconst (v := 0) hx hb dX0_copyFrom_41 (by decide) ?_
  refine lv_sipush (v := 150) hx hb dX0_copyFrom_42 (by decide) ?_
  obtain ⟨g_5, hf6⟩ := m_gd_s hf4
  clear hf4
  refine m_copy C hP hS hl.1 (mK_4 hk2) (mK_4 hk1) 1 1 rfl rfl rfl wl_X0_37 wnat_arraycopyName wst_arraycopyName wn_java_lang_System (nn := 150) rfl (by decide) (Nat.le_of_ble_eq_true rfl) (Nat.le_of_ble_eq_true rfl) g_5 (Nat.le_of_ble_eq_true rfl) (Nat.le_of_ble_eq_true rfl) (mKs_4 hk1) dX0_copyFrom_45 (fun X_5 e_5 H locs hP hS => ?_)
  have hf7 := m_nm_s e_5 hf6
  clear hf6
  refine lv_aload_n hx hb dX0_copyFrom_48 rfl (lv_at hl 1 rfl) ?_
  refine m_get C hP (mK_1 hk2) rfl inX0 3 (by decide) wf_X0_22 rfl dX0_copyFrom_49 ?_
  refine lv_iconst (v := 0) hx hb dX0_copyFrom_52 (by decide) ?_
  refine lv_aload_n hx hb dX0_copyFrom_53 rfl (lv_at hl 0 rfl) ?_
  refine m_get C hP (mK_1 hk1) rfl inX0 3 (by decide) wf_X0_22 rfl dX0_copyFrom_54 ?_
  refine lv_iconst (v := 0) hx hb dX0_copyFrom_57 (by decide) ?_
  refine lv_sipush (v := 150) hx hb dX0_copyFrom_58 (by decide) ?_
  refine m_copy C hP hS hl.1 (mK_5 hk2) (mK_5 hk1) 0 0 rfl rfl rfl wl_X0_37 wnat_arraycopyName wst_arraycopyName wn_java_lang_System (nn := 150) rfl (by decide) (Nat.le_of_ble_eq_true rfl) (Nat.le_of_ble_eq_true rfl) (fun _ _ => rfl) (Nat.le_of_ble_eq_true rfl) (Nat.le_of_ble_eq_true rfl) (mKs_5 hk1) dX0_copyFrom_61 (fun X_8 e_8 H locs hP hS => ?_)
  have hf9 := m_nm_s e_8 hf7
  clear hf7
  refine lv_aload_n hx hb dX0_copyFrom_64 rfl (lv_at hl 1 rfl) ?_
  refine m_get C hP (mK_1 hk2) rfl inX0 4 (by decide) wf_X0_25 rfl dX0_copyFrom_65 ?_
  refine lv_iconst (v := 0) hx hb dX0_copyFrom_68 (by decide) ?_
  refine lv_aload_n hx hb dX0_copyFrom_69 rfl (lv_at hl 0 rfl) ?_
  refine m_get C hP (mK_1 hk1) rfl inX0 4 (by decide) wf_X0_25 rfl dX0_copyFrom_70 ?_
  refine lv_iconst (v := 0) hx hb dX0_copyFrom_73 (by decide) ?_
  refine lv_sipush (v := 150) hx hb dX0_copyFrom_74 (by decide) ?_
  refine m_copy C hP hS hl.1 (mK_6 hk2) (mK_6 hk1) 0 0 rfl rfl rfl wl_X0_37 wnat_arraycopyName wst_arraycopyName wn_java_lang_System (nn := 150) rfl (by decide) (Nat.le_of_ble_eq_true rfl) (Nat.le_of_ble_eq_true rfl) (fun _ _ => rfl) (Nat.le_of_ble_eq_true rfl) (Nat.le_of_ble_eq_true rfl) (mKs_6 hk1) dX0_copyFrom_77 (fun X_10 e_10 H locs hP hS => ?_)
  have hf11 := m_nm_s e_10 hf9
  clear hf9
  refine lv_aload_n hx hb dX0_copyFrom_80 rfl (lv_at hl 1 rfl) ?_
  refine m_get C hP (mK_1 hk2) rfl inX0 5 (by decide) wf_X0_28 rfl dX0_copyFrom_81 ?_
  refine lv_iconst (v := 0) hx hb dX0_copyFrom_84 (by decide) ?_
  refine lv_aload_n hx hb dX0_copyFrom_85 rfl (lv_at hl 0 rfl) ?_
  refine m_get C hP (mK_1 hk1) rfl inX0 5 (by decide) wf_X0_28 rfl dX0_copyFrom_86 ?_
  refine lv_iconst (v := 0) hx hb dX0_copyFrom_89 (by decide) ?_
  refine lv_sipush (v := 150) hx hb dX0_copyFrom_90 (by decide) ?_
  refine m_copy C hP hS hl.1 (mK_7 hk2) (mK_7 hk1) 0 0 rfl rfl rfl wl_X0_37 wnat_arraycopyName wst_arraycopyName wn_java_lang_System (nn := 150) rfl (by decide) (Nat.le_of_ble_eq_true rfl) (Nat.le_of_ble_eq_true rfl) (fun _ _ => rfl) (Nat.le_of_ble_eq_true rfl) (Nat.le_of_ble_eq_true rfl) (mKs_7 hk1) dX0_copyFrom_93 (fun X_12 e_12 H locs hP hS => ?_)
  have hf13 := m_nm_s e_12 hf11
  clear hf11
  refine lv_aload_n hx hb dX0_copyFrom_96 rfl (lv_at hl 1 rfl) ?_
  refine m_get C hP (mK_1 hk2) rfl inX0 6 (by decide) wf_X0_31 rfl dX0_copyFrom_97 ?_
  refine lv_iconst (v := 0) hx hb dX0_copyFrom_100 (by decide) ?_
  refine lv_aload_n hx hb dX0_copyFrom_101 rfl (lv_at hl 0 rfl) ?_
  refine m_get C hP (mK_1 hk1) rfl inX0 6 (by decide) wf_X0_31 rfl dX0_copyFrom_102 ?_
  refine lv_iconst (v := 0) hx hb dX0_copyFrom_105 (by decide) ?_
  refine lv_sipush (v := 150) hx hb dX0_copyFrom_106 (by decide) ?_
  refine m_copy C hP hS hl.1 (mK_8 hk2) (mK_8 hk1) 0 0 rfl rfl rfl wl_X0_37 wnat_arraycopyName wst_arraycopyName wn_java_lang_System (nn := 150) rfl (by decide) (Nat.le_of_ble_eq_true rfl) (Nat.le_of_ble_eq_true rfl) (fun _ _ => rfl) (Nat.le_of_ble_eq_true rfl) (Nat.le_of_ble_eq_true rfl) (mKs_8 hk1) dX0_copyFrom_109 (fun X_14 e_14 H locs hP hS => ?_)
  have hf15 := m_nm_s e_14 hf13
  clear hf13
  refine lv_aload_n hx hb dX0_copyFrom_112 rfl (lv_at hl 1 rfl) ?_
  refine m_get C hP (mK_1 hk2) rfl inX0 7 (by decide) wf_X0_34 rfl dX0_copyFrom_113 ?_
  refine lv_iconst (v := 0) hx hb dX0_copyFrom_116 (by decide) ?_
  refine lv_aload_n hx hb dX0_copyFrom_117 rfl (lv_at hl 0 rfl) ?_
  refine m_get C hP (mK_1 hk1) rfl inX0 7 (by decide) wf_X0_34 rfl dX0_copyFrom_118 ?_
  refine lv_iconst (v := 0) hx hb dX0_copyFrom_121 (by decide) ?_
  refine lv_sipush (v := 150) hx hb dX0_copyFrom_122 (by decide) ?_
  obtain ⟨g_16, hf17⟩ := m_gd_s hf15
  clear hf15
  refine m_copy C hP hS hl.1 (mK_9 hk2) (mK_9 hk1) 1 1 rfl rfl rfl wl_X0_37 wnat_arraycopyName wst_arraycopyName wn_java_lang_System (nn := 150) rfl (by decide) (Nat.le_of_ble_eq_true rfl) (Nat.le_of_ble_eq_true rfl) g_16 (Nat.le_of_ble_eq_true rfl) (Nat.le_of_ble_eq_true rfl) (mKs_9 hk1) dX0_copyFrom_125 (fun X_16 e_16 H locs hP hS => ?_)
  have hf18 := m_nm_s e_16 hf17
  clear hf17
  refine lv_aload_n hx hb dX0_copyFrom_128 rfl (lv_at hl 0 rfl) ?_
  refine lv_aload_n hx hb dX0_copyFrom_129 rfl (lv_at hl 1 rfl) ?_
  refine m_get C hP (mK_1 hk2) rfl inX0 8 (by decide) wf_X0_43 rfl dX0_copyFrom_130 ?_
  refine m_put C hP hS (mK_1 hk1) rfl inX0 tyX0_ok nmX0 8 (by decide) wf_X0_43 rfl rfl rfl (Nat.le_of_ble_eq_true rfl) (mK_1_8 hk1) dX0_copyFrom_133 (fun X_19 e_19 H locs hP hS => ?_)
  have hf20 := m_nm_s e_19 hf18
  clear hf18
  exact m_vret C hP hS dX0_copyFrom_136 hf20
abbrev rm_X0_add : Room := { frames := 1, cells := 0, slots := 0, locals := 20 }
def f_X0_add (N : Nat) (v1 : Int32) (v2 : Int32) (v3 : Int32) (v4 : Int32) (v5 : Int32) (X : XT) : Option (Int32 × XT) := m_bi (f_X0_isFull N X) fun r_1 X_1 => if r_1 = 0 then (m_nm ((X_1 1 8) + 1) fun y_6 => m_nm (m_up X_1 1 (upd (X_1 1) 8 y_6)) fun X_8 => m_gd (m_in (X_1 1 8) 150) <| m_nm (m_up X_8 2 (upd (X_8 2) (Int32.toNatClampNeg (X_1 1 8)) v1)) fun X_10 => m_gd (m_in (X_1 1 8) 150) <| m_nm (m_up X_10 3 (upd (X_10 3) (Int32.toNatClampNeg (X_1 1 8)) v2)) fun X_13 => m_gd (m_in (X_1 1 8) 150) <| m_nm (m_up X_13 4 (upd (X_13 4) (Int32.toNatClampNeg (X_1 1 8)) (vp_nar .boolean v3))) fun X_16 => m_gd (m_in (X_1 1 8) 150) <| m_nm (m_up X_16 5 (upd (X_16 5) (Int32.toNatClampNeg (X_1 1 8)) 1)) fun X_19 => m_gd (m_in (X_1 1 8) 150) <| m_nm (m_up X_19 6 (upd (X_19 6) (Int32.toNatClampNeg (X_1 1 8)) v4)) fun X_22 => m_gd (m_in (X_1 1 8) 150) <| m_nm (m_up X_22 7 (upd (X_22 7) (Int32.toNatClampNeg (X_1 1 8)) (-5))) fun X_25 => m_gd (m_in (X_1 1 8) 150) <| m_nm (m_up X_25 8 (upd (X_25 8) (Int32.toNatClampNeg (X_1 1 8)) v5)) fun X_28 => m_gd (m_in (X_1 1 8) 150) <| m_nm (m_up X_28 9 (upd (X_28 9) (Int32.toNatClampNeg (X_1 1 8)) (vp_nar .boolean 1))) fun X_31 => some ((X_1 1 8), X_31)) else (some ((-5), X_1))
set_option maxHeartbeats 4000000 in
set_option maxRecDepth 100000 in
theorem c_X0_add (l : Launch) (D : va_G) (a : Nat → Nat) (cy : Nat → ClassId) (hG : m_inj 138 a) (N : Nat) (v1 : Int32) (v2 : Int32) (v3 : Int32) (v4 : Int32) (v5 : Int32) (X : XT) {r0 : Int32} {X0 : XT} (hf0 : f_X0_add N v1 v2 v3 v4 v5 X = some (r0, X0)) : Met l yX0_add (Cond.code yX0_add cX0_add 7 (some .int) :: m_tbl) rm_X0_add (va_Pc [.ref (a 1), .int v1, .int v2, .int v3, .int v4, .int v5] (m_PX D (m_tc cy) (m_WC a cy) (m_ZC a) X)) (m_QI D (m_WC a cy) (m_AC a) r0 X0) 0 0 (m_AC a) := by
  refine m_met (own := RX0) hy_X0_add rfl (Nat.le_of_ble_eq_true rfl) (m_wl_D hG _) m_ZC_keep ?_
  intro p e s m args below meth c C ls hl hP hS
  have hx := C.1.1
  have hb := C.1.2.1
  have hl : lv_has ls 7 [(0, .ref (a 1)), (1, .int v1), (2, .int v2), (3, .int v3), (4, .int v4), (5, .int v5)] := hl
  unfold f_X0_add at hf0
  suffices K : ∀ (H : Heap) (locs : List Loc), va_P D vwCl (m_WC a cy X) H → va_S (m_AC a) s.heap H locs → W p l e rm_X0_add s m args below meth c H locs 0 0 (MQ below (m_QI D (m_WC a cy) (m_AC a) r0 X0) args s 0 0 (m_AC a)) (F0 m 0 ls []) from K _ _ hP hS
  clear hP hS
  intro H locs hP hS
  refine lv_aload_n hx hb dX0_add_0 rfl (lv_at hl 0 rfl) ?_
  obtain ⟨r_1, X_1, h_1, hf2⟩ := m_bi_s hf0
  clear hf0
  refine m_callVi (q := (RX0, TX0, 9)) C [] [] (c_X0_isFull l D a cy hG N _ h_1) (m_goodV wl_X0_47 wi_X0_isFull ws_X0_isFull wn_X0 wc_X0_isFull) ⟨rfl, rfl⟩ hv_X0_isFull ⟨Nat.le_of_ble_eq_true rfl, Nat.le_of_ble_eq_true rfl⟩ rfl mC_1 hP hS rfl hl.1 rfl (Nat.le_of_ble_eq_true rfl) dX0_add_1 (fun H locs hP hS => ?_)
  refine lv_if_eq (tgt := 10) hx hb dX0_add_4 (by decide) (fun c_3 => ?_) (fun c_3 => ?_)
  · have hf4 := m_it c_3 hf2
    clear hf2
    refine lv_aload_n hx hb dX0_add_10 rfl (lv_at hl 0 rfl) ?_
    refine m_get C hP mC_1 rfl inX0 8 (by decide) wf_X0_43 rfl dX0_add_11 ?_
    refine lv_istore (lv' := [(6, .int (X_1 1 8)), (0, .ref (a 1)), (1, .int v1), (2, .int v2), (3, .int v3), (4, .int v4), (5, .int v5)]) hx hb dX0_add_14 hl (by decide) rfl (fun ls hl => ?_)
    refine lv_aload_n hx hb dX0_add_16 rfl (lv_at hl 1 rfl) ?_
    refine lv_dup hx hb dX0_add_17 rfl ?_
    refine m_get C hP mC_1 rfl inX0 8 (by decide) wf_X0_43 rfl dX0_add_18 ?_
    refine lv_iconst (v := 1) hx hb dX0_add_21 (by decide) ?_
    refine lv_iadd hx hb dX0_add_22 ?_
    refine lv_topi (fun y_6 e_6 => ?_)
    have hf7 := m_nm_s e_6 hf4
    clear hf4
    refine m_put C hP hS mC_1 rfl inX0 tyX0_ok nmX0 8 (by decide) wf_X0_43 rfl rfl rfl (Nat.le_of_ble_eq_true rfl) mC_1_8 dX0_add_23 (fun X_8 e_8 H locs hP hS => ?_)
    have hf9 := m_nm_s e_8 hf7
    clear hf7
    refine lv_aload_n hx hb dX0_add_26 rfl (lv_at hl 1 rfl) ?_
    refine m_get C hP mC_1 rfl inX0 0 (by decide) wf_X0_11 rfl dX0_add_27 ?_
    refine lv_iload hx hb dX0_add_30 (lv_at hl 0 rfl) ?_
    refine lv_iload_n hx hb dX0_add_32 rfl (lv_at hl 2 rfl) ?_
    obtain ⟨g_10, hf11⟩ := m_gd_s hf9
    clear hf9
    refine m_ist C hP hS mC_2 0 rfl g_10 mCs_2 dX0_add_33 (fun X_10 e_10 H locs hP hS => ?_)
    have hf12 := m_nm_s e_10 hf11
    clear hf11
    refine lv_aload_n hx hb dX0_add_34 rfl (lv_at hl 1 rfl) ?_
    refine m_get C hP mC_1 rfl inX0 1 (by decide) wf_X0_15 rfl dX0_add_35 ?_
    refine lv_iload hx hb dX0_add_38 (lv_at hl 0 rfl) ?_
    refine lv_iload_n hx hb dX0_add_40 rfl (lv_at hl 3 rfl) ?_
    obtain ⟨g_13, hf14⟩ := m_gd_s hf12
    clear hf12
    refine m_ist C hP hS mC_3 0 rfl g_13 mCs_3 dX0_add_41 (fun X_13 e_13 H locs hP hS => ?_)
    have hf15 := m_nm_s e_13 hf14
    clear hf14
    refine lv_aload_n hx hb dX0_add_42 rfl (lv_at hl 1 rfl) ?_
    refine m_get C hP mC_1 rfl inX0 2 (by decide) wf_X0_18 rfl dX0_add_43 ?_
    refine lv_iload hx hb dX0_add_46 (lv_at hl 0 rfl) ?_
    refine lv_iload_n hx hb dX0_add_48 rfl (lv_at hl 4 rfl) ?_
    obtain ⟨g_16, hf17⟩ := m_gd_s hf15
    clear hf15
    refine m_zst C hP hS mC_4 1 rfl g_16 mCs_4 dX0_add_49 (fun X_16 e_16 H locs hP hS => ?_)
    have hf18 := m_nm_s e_16 hf17
    clear hf17
    refine lv_aload_n hx hb dX0_add_50 rfl (lv_at hl 1 rfl) ?_
    refine m_get C hP mC_1 rfl inX0 3 (by decide) wf_X0_22 rfl dX0_add_51 ?_
    refine lv_iload hx hb dX0_add_54 (lv_at hl 0 rfl) ?_
    refine lv_iconst (v := 1) hx hb dX0_add_56 (by decide) ?_
    obtain ⟨g_19, hf20⟩ := m_gd_s hf18
    clear hf18
    refine m_ist C hP hS mC_5 0 rfl g_19 mCs_5 dX0_add_57 (fun X_19 e_19 H locs hP hS => ?_)
    have hf21 := m_nm_s e_19 hf20
    clear hf20
    refine lv_aload_n hx hb dX0_add_58 rfl (lv_at hl 1 rfl) ?_
    refine m_get C hP mC_1 rfl inX0 4 (by decide) wf_X0_25 rfl dX0_add_59 ?_
    refine lv_iload hx hb dX0_add_62 (lv_at hl 0 rfl) ?_
    refine lv_iload hx hb dX0_add_64 (lv_at hl 5 rfl) ?_
    obtain ⟨g_22, hf23⟩ := m_gd_s hf21
    clear hf21
    refine m_ist C hP hS mC_6 0 rfl g_22 mCs_6 dX0_add_66 (fun X_22 e_22 H locs hP hS => ?_)
    have hf24 := m_nm_s e_22 hf23
    clear hf23
    refine lv_aload_n hx hb dX0_add_67 rfl (lv_at hl 1 rfl) ?_
    refine m_get C hP mC_1 rfl inX0 5 (by decide) wf_X0_28 rfl dX0_add_68 ?_
    refine lv_iload hx hb dX0_add_71 (lv_at hl 0 rfl) ?_
    refine lv_bipush (v := (-5)) hx hb dX0_add_73 (by decide) ?_
    obtain ⟨g_25, hf26⟩ := m_gd_s hf24
    clear hf24
    refine m_ist C hP hS mC_7 0 rfl g_25 mCs_7 dX0_add_75 (fun X_25 e_25 H locs hP hS => ?_)
    have hf27 := m_nm_s e_25 hf26
    clear hf26
    refine lv_aload_n hx hb dX0_add_76 rfl (lv_at hl 1 rfl) ?_
    refine m_get C hP mC_1 rfl inX0 6 (by decide) wf_X0_31 rfl dX0_add_77 ?_
    refine lv_iload hx hb dX0_add_80 (lv_at hl 0 rfl) ?_
    refine lv_iload hx hb dX0_add_82 (lv_at hl 6 rfl) ?_
    obtain ⟨g_28, hf29⟩ := m_gd_s hf27
    clear hf27
    refine m_ist C hP hS mC_8 0 rfl g_28 mCs_8 dX0_add_84 (fun X_28 e_28 H locs hP hS => ?_)
    have hf30 := m_nm_s e_28 hf29
    clear hf29
    refine lv_aload_n hx hb dX0_add_85 rfl (lv_at hl 1 rfl) ?_
    refine m_get C hP mC_1 rfl inX0 7 (by decide) wf_X0_34 rfl dX0_add_86 ?_
    refine lv_iload hx hb dX0_add_89 (lv_at hl 0 rfl) ?_
    refine lv_iconst (v := 1) hx hb dX0_add_91 (by decide) ?_
    obtain ⟨g_31, hf32⟩ := m_gd_s hf30
    clear hf30
    refine m_zst C hP hS mC_9 1 rfl g_31 mCs_9 dX0_add_92 (fun X_31 e_31 H locs hP hS => ?_)
    have hf33 := m_nm_s e_31 hf32
    clear hf32
    refine lv_iload hx hb dX0_add_93 (lv_at hl 0 rfl) ?_
    exact m_iret C hP hS dX0_add_95 hf33
  · have hf5 := m_ie c_3 hf2
    clear hf2
    refine lv_bipush (v := (-5)) hx hb dX0_add_7 (by decide) ?_
    exact m_iret C hP hS dX0_add_9 hf5
abbrev rm_X0_moveMembers : Room := { frames := 0, cells := 0, slots := 0, locals := 0 }
def f_X0_moveMembers_3 (N : Nat) : Nat → Int32 → Int32 → Int32 → Int32 → XT → Option XT
  | 0, _, _, _, _, _ => none
  | n + 1, v1, v2, v3, v4, X => if (X 1 8) ≤ v4 then (some X) else (m_gd (m_in v4 150) <| m_nm (X 9 (Int32.toNatClampNeg v4)) fun y_4 => if y_4 = 0 then (m_nm (v4 + 1) fun y_10 => f_X0_moveMembers_3 N n v1 v2 v3 y_10 X) else (m_gd (m_in v4 150) <| m_nm (X 8 (Int32.toNatClampNeg v4)) fun y_12 => if y_12 = v1 then (m_gd (m_in v4 150) <| m_nm (X 5 (Int32.toNatClampNeg v4)) fun y_20 => if y_20 = v2 then (m_gd (m_in v4 150) <| m_nm (m_up X 5 (upd (X 5) (Int32.toNatClampNeg v4) v3)) fun X_28 => m_nm (v4 + 1) fun y_31 => f_X0_moveMembers_3 N n v1 v2 v3 y_31 X_28) else (m_nm (v4 + 1) fun y_26 => f_X0_moveMembers_3 N n v1 v2 v3 y_26 X)) else (m_nm (v4 + 1) fun y_18 => f_X0_moveMembers_3 N n v1 v2 v3 y_18 X)))
set_option maxHeartbeats 4000000 in
set_option maxRecDepth 100000 in
theorem w_X0_moveMembers_3 (l : Launch) (D : va_G) (a : Nat → Nat) (cy : Nat → ClassId) (hG : m_inj 138 a) (N : Nat) {p : Program} {e : Env} {s : State} {m : MethodId} {args : Array Value} {below : List Frame} {meth : Method} {c : Code} (C : m_Cx p s m args meth c cX0_moveMembers 5 RX0 none (Cond.code yX0_moveMembers cX0_moveMembers 5 none) D (m_tc cy) (m_AC a) (m_WC a cy) (m_ZC a)) {X0 : XT} : ∀ (n : Nat) (v1 : Int32) (v2 : Int32) (v3 : Int32) (v4 : Int32) (X : XT), f_X0_moveMembers_3 N n v1 v2 v3 v4 X = some X0 → ∀ (H : Heap) (locs : List Loc) (ls : Array Slot), va_P D vwCl (m_WC a cy X) H → va_S (m_AC a) s.heap H locs → lv_has ls 5 [(0, .ref (a 1)), (1, .int v1), (2, .int v2), (3, .int v3), (4, .int v4)] → W p l e rm_X0_moveMembers s m args below meth c H locs 0 0 (MQ below (m_QV D (m_WC a cy) (m_AC a) X0) args s 0 0 (m_AC a)) (F0 m 3 ls []) := by
  have hx := C.1.1
  have hb := C.1.2.1
  intro n
  induction n with
  | zero => intro v1 v2 v3 v4 X hf0; rw [f_X0_moveMembers_3] at hf0; cases hf0
  | succ n ih =>
    intro v1 v2 v3 v4 X hf0 H locs ls hP hS hl
    rw [f_X0_moveMembers_3] at hf0
    refine lv_iload hx hb dX0_moveMembers_3 (lv_at hl 4 rfl) ?_
    refine lv_aload_n hx hb dX0_moveMembers_5 rfl (lv_at hl 0 rfl) ?_
    refine m_get C hP mC_1 rfl inX0 8 (by decide) wf_X0_43 rfl dX0_moveMembers_6 ?_
    refine lv_icmp_ge (tgt := 58) hx hb dX0_moveMembers_9 (by decide) (fun c_1 => ?_) (fun c_1 => ?_)
    · have hf2 := m_it c_1 hf0
      clear hf0
      exact m_vret C hP hS dX0_moveMembers_58 hf2
    · have hf3 := m_ie c_1 hf0
      clear hf0
      refine lv_aload_n hx hb dX0_moveMembers_12 rfl (lv_at hl 0 rfl) ?_
      refine m_get C hP mC_1 rfl inX0 7 (by decide) wf_X0_34 rfl dX0_moveMembers_13 ?_
      refine lv_iload hx hb dX0_moveMembers_16 (lv_at hl 4 rfl) ?_
      obtain ⟨g_4, hf5⟩ := m_gd_s hf3
      clear hf3
      refine m_zld C hP mC_9 1 rfl g_4 dX0_moveMembers_18 (fun y_4 e_4 => ?_)
      have hf6 := m_nm_s e_4 hf5
      clear hf5
      refine lv_if_eq (tgt := 52) hx hb dX0_moveMembers_19 (by decide) (fun c_7 => ?_) (fun c_7 => ?_)
      · have hf8 := m_it c_7 hf6
        clear hf6
        obtain ⟨y_10, e_10⟩ : ∃ y : Int32, y = v4 + 1 := ⟨_, rfl⟩
        refine lv_iinc (v := y_10) (lv' := [(4, .int y_10), (0, .ref (a 1)), (1, .int v1), (2, .int v2), (3, .int v3)]) hx hb dX0_moveMembers_52 hl (k := 4) rfl (by rw [e_10]; rfl) (by decide) rfl (fun ls hl => ?_)
        have hf11 := m_nm_s e_10 hf8
        clear hf8
        refine lv_goto (tgt := 3) hx hb dX0_moveMembers_55 (by decide) ?_
        exact ih _ _ _ _ _ hf11 H locs ls hP hS (lv_sub hl [1, 2, 3, 4, 0] rfl)
      · have hf9 := m_ie c_7 hf6
        clear hf6
        refine lv_aload_n hx hb dX0_moveMembers_22 rfl (lv_at hl 0 rfl) ?_
        refine m_get C hP mC_1 rfl inX0 6 (by decide) wf_X0_31 rfl dX0_moveMembers_23 ?_
        refine lv_iload hx hb dX0_moveMembers_26 (lv_at hl 4 rfl) ?_
        obtain ⟨g_12, hf13⟩ := m_gd_s hf9
        clear hf9
        refine m_ild C hP mC_8 0 rfl g_12 dX0_moveMembers_28 (fun y_12 e_12 => ?_)
        have hf14 := m_nm_s e_12 hf13
        clear hf13
        refine lv_iload_n hx hb dX0_moveMembers_29 rfl (lv_at hl 1 rfl) ?_
        refine lv_icmp_ne (tgt := 52) hx hb dX0_moveMembers_30 (by decide) (fun c_15 => ?_) (fun c_15 => ?_)
        · have hf16 := m_ie c_15 hf14
          clear hf14
          obtain ⟨y_18, e_18⟩ : ∃ y : Int32, y = v4 + 1 := ⟨_, rfl⟩
          refine lv_iinc (v := y_18) (lv' := [(4, .int y_18), (0, .ref (a 1)), (1, .int v1), (2, .int v2), (3, .int v3)]) hx hb dX0_moveMembers_52 hl (k := 4) rfl (by rw [e_18]; rfl) (by decide) rfl (fun ls hl => ?_)
          have hf19 := m_nm_s e_18 hf16
          clear hf16
          refine lv_goto (tgt := 3) hx hb dX0_moveMembers_55 (by decide) ?_
          exact ih _ _ _ _ _ hf19 H locs ls hP hS (lv_sub hl [1, 2, 3, 4, 0] rfl)
        · have hf17 := m_it c_15 hf14
          clear hf14
          refine lv_aload_n hx hb dX0_moveMembers_33 rfl (lv_at hl 0 rfl) ?_
          refine m_get C hP mC_1 rfl inX0 3 (by decide) wf_X0_22 rfl dX0_moveMembers_34 ?_
          refine lv_iload hx hb dX0_moveMembers_37 (lv_at hl 4 rfl) ?_
          obtain ⟨g_20, hf21⟩ := m_gd_s hf17
          clear hf17
          refine m_ild C hP mC_5 0 rfl g_20 dX0_moveMembers_39 (fun y_20 e_20 => ?_)
          have hf22 := m_nm_s e_20 hf21
          clear hf21
          refine lv_iload_n hx hb dX0_moveMembers_40 rfl (lv_at hl 2 rfl) ?_
          refine lv_icmp_ne (tgt := 52) hx hb dX0_moveMembers_41 (by decide) (fun c_23 => ?_) (fun c_23 => ?_)
          · have hf24 := m_ie c_23 hf22
            clear hf22
            obtain ⟨y_26, e_26⟩ : ∃ y : Int32, y = v4 + 1 := ⟨_, rfl⟩
            refine lv_iinc (v := y_26) (lv' := [(4, .int y_26), (0, .ref (a 1)), (1, .int v1), (2, .int v2), (3, .int v3)]) hx hb dX0_moveMembers_52 hl (k := 4) rfl (by rw [e_26]; rfl) (by decide) rfl (fun ls hl => ?_)
            have hf27 := m_nm_s e_26 hf24
            clear hf24
            refine lv_goto (tgt := 3) hx hb dX0_moveMembers_55 (by decide) ?_
            exact ih _ _ _ _ _ hf27 H locs ls hP hS (lv_sub hl [1, 2, 3, 4, 0] rfl)
          · have hf25 := m_it c_23 hf22
            clear hf22
            refine lv_aload_n hx hb dX0_moveMembers_44 rfl (lv_at hl 0 rfl) ?_
            refine m_get C hP mC_1 rfl inX0 3 (by decide) wf_X0_22 rfl dX0_moveMembers_45 ?_
            refine lv_iload hx hb dX0_moveMembers_48 (lv_at hl 4 rfl) ?_
            refine lv_iload_n hx hb dX0_moveMembers_50 rfl (lv_at hl 3 rfl) ?_
            obtain ⟨g_28, hf29⟩ := m_gd_s hf25
            clear hf25
            refine m_ist C hP hS mC_5 0 rfl g_28 mCs_5 dX0_moveMembers_51 (fun X_28 e_28 H locs hP hS => ?_)
            have hf30 := m_nm_s e_28 hf29
            clear hf29
            obtain ⟨y_31, e_31⟩ : ∃ y : Int32, y = v4 + 1 := ⟨_, rfl⟩
            refine lv_iinc (v := y_31) (lv' := [(4, .int y_31), (0, .ref (a 1)), (1, .int v1), (2, .int v2), (3, .int v3)]) hx hb dX0_moveMembers_52 hl (k := 4) rfl (by rw [e_31]; rfl) (by decide) rfl (fun ls hl => ?_)
            have hf32 := m_nm_s e_31 hf30
            clear hf30
            refine lv_goto (tgt := 3) hx hb dX0_moveMembers_55 (by decide) ?_
            exact ih _ _ _ _ _ hf32 H locs ls hP hS (lv_sub hl [1, 2, 3, 4, 0] rfl)
def f_X0_moveMembers (N : Nat) (v1 : Int32) (v2 : Int32) (v3 : Int32) (X : XT) : Option XT := f_X0_moveMembers_3 N N v1 v2 v3 0 X
set_option maxHeartbeats 4000000 in
set_option maxRecDepth 100000 in
theorem c_X0_moveMembers (l : Launch) (D : va_G) (a : Nat → Nat) (cy : Nat → ClassId) (hG : m_inj 138 a) (N : Nat) (v1 : Int32) (v2 : Int32) (v3 : Int32) (X : XT) {X0 : XT} (hf0 : f_X0_moveMembers N v1 v2 v3 X = some X0) : Met l yX0_moveMembers (Cond.code yX0_moveMembers cX0_moveMembers 5 none :: m_tbl) rm_X0_moveMembers (va_Pc [.ref (a 1), .int v1, .int v2, .int v3] (m_PX D (m_tc cy) (m_WC a cy) (m_ZC a) X)) (m_QV D (m_WC a cy) (m_AC a) X0) 0 0 (m_AC a) := by
  refine m_met (own := RX0) hy_X0_moveMembers rfl (Nat.le_of_ble_eq_true rfl) (m_wl_D hG _) m_ZC_keep ?_
  intro p e s m args below meth c C ls hl hP hS
  have hx := C.1.1
  have hb := C.1.2.1
  have hl : lv_has ls 5 [(0, .ref (a 1)), (1, .int v1), (2, .int v2), (3, .int v3)] := hl
  unfold f_X0_moveMembers at hf0
  suffices K : ∀ (H : Heap) (locs : List Loc), va_P D vwCl (m_WC a cy X) H → va_S (m_AC a) s.heap H locs → W p l e rm_X0_moveMembers s m args below meth c H locs 0 0 (MQ below (m_QV D (m_WC a cy) (m_AC a) X0) args s 0 0 (m_AC a)) (F0 m 0 ls []) from K _ _ hP hS
  clear hP hS
  intro H locs hP hS
  refine lv_iconst (v := 0) hx hb dX0_moveMembers_0 (by decide) ?_
  refine lv_istore (lv' := [(4, .int 0), (0, .ref (a 1)), (1, .int v1), (2, .int v2), (3, .int v3)]) hx hb dX0_moveMembers_1 hl (by decide) rfl (fun ls hl => ?_)
  exact w_X0_moveMembers_3 l D a cy hG N C _ _ _ _ _ _ hf0 H locs ls hP hS (lv_sub hl [1, 2, 3, 4, 0] rfl)
abbrev rm_X0_has : Room := { frames := 0, cells := 0, slots := 0, locals := 0 }
def f_X0_has (N : Nat) (v1 : Int32) (X : XT) : Option (Int32 × XT) := if v1 < 0 then (some (0, X)) else (if (X 1 8) ≤ v1 then (some (0, X)) else (some (1, X)))
set_option maxHeartbeats 4000000 in
set_option maxRecDepth 100000 in
theorem c_X0_has (l : Launch) (D : va_G) (a : Nat → Nat) (cy : Nat → ClassId) (hG : m_inj 138 a) (N : Nat) (v1 : Int32) (X : XT) {r0 : Int32} {X0 : XT} (hf0 : f_X0_has N v1 X = some (r0, X0)) : Met l yX0_has (Cond.code yX0_has cX0_has 2 (some .boolean) :: m_tbl) rm_X0_has (va_Pc [.ref (a 1), .int v1] (m_PX D (m_tc cy) (m_WC a cy) (m_ZC a) X)) (m_QI D (m_WC a cy) (m_AC a) r0 X0) 0 0 (m_AC a) := by
  refine m_met (own := RX0) hy_X0_has rfl (Nat.le_of_ble_eq_true rfl) (m_wl_D hG _) m_ZC_keep ?_
  intro p e s m args below meth c C ls hl hP hS
  have hx := C.1.1
  have hb := C.1.2.1
  have hl : lv_has ls 2 [(0, .ref (a 1)), (1, .int v1)] := hl
  unfold f_X0_has at hf0
  suffices K : ∀ (H : Heap) (locs : List Loc), va_P D vwCl (m_WC a cy X) H → va_S (m_AC a) s.heap H locs → W p l e rm_X0_has s m args below meth c H locs 0 0 (MQ below (m_QI D (m_WC a cy) (m_AC a) r0 X0) args s 0 0 (m_AC a)) (F0 m 0 ls []) from K _ _ hP hS
  clear hP hS
  intro H locs hP hS
  refine lv_iload_n hx hb dX0_has_0 rfl (lv_at hl 1 rfl) ?_
  refine lv_if_lt (tgt := 16) hx hb dX0_has_1 (by decide) (fun c_1 => ?_) (fun c_1 => ?_)
  · have hf2 := m_it c_1 hf0
    clear hf0
    refine lv_iconst (v := 0) hx hb dX0_has_16 (by decide) ?_
    exact m_zret C hP hS dX0_has_17 (by decide) hf2
  · have hf3 := m_ie c_1 hf0
    clear hf0
    refine lv_iload_n hx hb dX0_has_4 rfl (lv_at hl 1 rfl) ?_
    refine lv_aload_n hx hb dX0_has_5 rfl (lv_at hl 0 rfl) ?_
    refine m_get C hP mC_1 rfl inX0 8 (by decide) wf_X0_43 rfl dX0_has_6 ?_
    refine lv_icmp_ge (tgt := 16) hx hb dX0_has_9 (by decide) (fun c_4 => ?_) (fun c_4 => ?_)
    · have hf5 := m_it c_4 hf3
      clear hf3
      refine lv_iconst (v := 0) hx hb dX0_has_16 (by decide) ?_
      exact m_zret C hP hS dX0_has_17 (by decide) hf5
    · have hf6 := m_ie c_4 hf3
      clear hf3
      refine lv_iconst (v := 1) hx hb dX0_has_12 (by decide) ?_
      refine lv_goto (tgt := 17) hx hb dX0_has_13 (by decide) ?_
      exact m_zret C hP hS dX0_has_17 (by decide) hf6
abbrev rm_X0_stateOf : Room := { frames := 1, cells := 0, slots := 0, locals := 21 }
def f_X0_stateOf (N : Nat) (v1 : Int32) (X : XT) : Option (Int32 × XT) := m_bi (f_X0_has N v1 X) fun r_1 X_1 => if r_1 = 0 then (some ((-5), X_1)) else (m_gd (m_in v1 150) <| m_nm (X_1 5 (Int32.toNatClampNeg v1)) fun y_6 => some (y_6, X_1))
set_option maxHeartbeats 4000000 in
set_option maxRecDepth 100000 in
theorem c_X0_stateOf (l : Launch) (D : va_G) (a : Nat → Nat) (cy : Nat → ClassId) (hG : m_inj 138 a) (N : Nat) (v1 : Int32) (X : XT) {r0 : Int32} {X0 : XT} (hf0 : f_X0_stateOf N v1 X = some (r0, X0)) : Met l yX0_stateOf (Cond.code yX0_stateOf cX0_stateOf 2 (some .int) :: m_tbl) rm_X0_stateOf (va_Pc [.ref (a 1), .int v1] (m_PX D (m_tc cy) (m_WC a cy) (m_ZC a) X)) (m_QI D (m_WC a cy) (m_AC a) r0 X0) 0 0 (m_AC a) := by
  refine m_met (own := RX0) hy_X0_stateOf rfl (Nat.le_of_ble_eq_true rfl) (m_wl_D hG _) m_ZC_keep ?_
  intro p e s m args below meth c C ls hl hP hS
  have hx := C.1.1
  have hb := C.1.2.1
  have hl : lv_has ls 2 [(0, .ref (a 1)), (1, .int v1)] := hl
  unfold f_X0_stateOf at hf0
  suffices K : ∀ (H : Heap) (locs : List Loc), va_P D vwCl (m_WC a cy X) H → va_S (m_AC a) s.heap H locs → W p l e rm_X0_stateOf s m args below meth c H locs 0 0 (MQ below (m_QI D (m_WC a cy) (m_AC a) r0 X0) args s 0 0 (m_AC a)) (F0 m 0 ls []) from K _ _ hP hS
  clear hP hS
  intro H locs hP hS
  refine lv_aload_n hx hb dX0_stateOf_0 rfl (lv_at hl 0 rfl) ?_
  refine lv_iload_n hx hb dX0_stateOf_1 rfl (lv_at hl 1 rfl) ?_
  obtain ⟨r_1, X_1, h_1, hf2⟩ := m_bi_s hf0
  clear hf0
  refine m_callVi (q := (RX0, TX0, 9)) C [.int v1] [] (c_X0_has l D a cy hG N _ _ h_1) (m_goodV wl_X0_51 wi_X0_has ws_X0_has wn_X0 wc_X0_has) ⟨rfl, rfl⟩ hv_X0_has ⟨Nat.le_of_ble_eq_true rfl, Nat.le_of_ble_eq_true rfl⟩ rfl mC_1 hP hS rfl hl.1 rfl (Nat.le_of_ble_eq_true rfl) dX0_stateOf_2 (fun H locs hP hS => ?_)
  refine lv_if_eq (tgt := 17) hx hb dX0_stateOf_5 (by decide) (fun c_3 => ?_) (fun c_3 => ?_)
  · have hf4 := m_it c_3 hf2
    clear hf2
    refine lv_bipush (v := (-5)) hx hb dX0_stateOf_17 (by decide) ?_
    exact m_iret C hP hS dX0_stateOf_19 hf4
  · have hf5 := m_ie c_3 hf2
    clear hf2
    refine lv_aload_n hx hb dX0_stateOf_8 rfl (lv_at hl 0 rfl) ?_
    refine m_get C hP mC_1 rfl inX0 3 (by decide) wf_X0_22 rfl dX0_stateOf_9 ?_
    refine lv_iload_n hx hb dX0_stateOf_12 rfl (lv_at hl 1 rfl) ?_
    obtain ⟨g_6, hf7⟩ := m_gd_s hf5
    clear hf5
    refine m_ild C hP mC_5 0 rfl g_6 dX0_stateOf_13 (fun y_6 e_6 => ?_)
    have hf8 := m_nm_s e_6 hf7
    clear hf7
    refine lv_goto (tgt := 19) hx hb dX0_stateOf_14 (by decide) ?_
    exact m_iret C hP hS dX0_stateOf_19 hf8
abbrev rm_X0_memberAt : Room := { frames := 0, cells := 0, slots := 0, locals := 0 }
def f_X0_memberAt_5 (N : Nat) : Nat → Int32 → Int32 → Int32 → Int32 → XT → Option (Int32 × XT)
  | 0, _, _, _, _, _ => none
  | n + 1, v1, v2, v3, v4, X => if (X 1 8) ≤ v4 then (some ((-5), X)) else (m_gd (m_in v4 150) <| m_nm (X 9 (Int32.toNatClampNeg v4)) fun y_4 => if y_4 = 0 then (m_nm (v4 + 1) fun y_10 => f_X0_memberAt_5 N n v1 v2 v3 y_10 X) else (m_gd (m_in v4 150) <| m_nm (X 8 (Int32.toNatClampNeg v4)) fun y_12 => if y_12 = v1 then (if v3 = v2 then (some (v4, X)) else (m_nm (v3 + 1) fun y_23 => m_nm (v4 + 1) fun y_25 => f_X0_memberAt_5 N n v1 v2 y_23 y_25 X)) else (m_nm (v4 + 1) fun y_18 => f_X0_memberAt_5 N n v1 v2 v3 y_18 X)))
set_option maxHeartbeats 4000000 in
set_option maxRecDepth 100000 in
theorem w_X0_memberAt_5 (l : Launch) (D : va_G) (a : Nat → Nat) (cy : Nat → ClassId) (hG : m_inj 138 a) (N : Nat) {p : Program} {e : Env} {s : State} {m : MethodId} {args : Array Value} {below : List Frame} {meth : Method} {c : Code} (C : m_Cx p s m args meth c cX0_memberAt 5 RX0 (some .int) (Cond.code yX0_memberAt cX0_memberAt 5 (some .int)) D (m_tc cy) (m_AC a) (m_WC a cy) (m_ZC a)) {r0 : Int32} {X0 : XT} : ∀ (n : Nat) (v1 : Int32) (v2 : Int32) (v3 : Int32) (v4 : Int32) (X : XT), f_X0_memberAt_5 N n v1 v2 v3 v4 X = some (r0, X0) → ∀ (H : Heap) (locs : List Loc) (ls : Array Slot), va_P D vwCl (m_WC a cy X) H → va_S (m_AC a) s.heap H locs → lv_has ls 5 [(0, .ref (a 1)), (1, .int v1), (2, .int v2), (3, .int v3), (4, .int v4)] → W p l e rm_X0_memberAt s m args below meth c H locs 0 0 (MQ below (m_QI D (m_WC a cy) (m_AC a) r0 X0) args s 0 0 (m_AC a)) (F0 m 5 ls []) := by
  have hx := C.1.1
  have hb := C.1.2.1
  intro n
  induction n with
  | zero => intro v1 v2 v3 v4 X hf0; rw [f_X0_memberAt_5] at hf0; cases hf0
  | succ n ih =>
    intro v1 v2 v3 v4 X hf0 H locs ls hP hS hl
    rw [f_X0_memberAt_5] at hf0
    refine lv_iload hx hb dX0_memberAt_5 (lv_at hl 4 rfl) ?_
    refine lv_aload_n hx hb dX0_memberAt_7 rfl (lv_at hl 0 rfl) ?_
    refine m_get C hP mC_1 rfl inX0 8 (by decide) wf_X0_43 rfl dX0_memberAt_8 ?_
    refine lv_icmp_ge (tgt := 52) hx hb dX0_memberAt_11 (by decide) (fun c_1 => ?_) (fun c_1 => ?_)
    · have hf2 := m_it c_1 hf0
      clear hf0
      refine lv_bipush (v := (-5)) hx hb dX0_memberAt_52 (by decide) ?_
      exact m_iret C hP hS dX0_memberAt_54 hf2
    · have hf3 := m_ie c_1 hf0
      clear hf0
      refine lv_aload_n hx hb dX0_memberAt_14 rfl (lv_at hl 0 rfl) ?_
      refine m_get C hP mC_1 rfl inX0 7 (by decide) wf_X0_34 rfl dX0_memberAt_15 ?_
      refine lv_iload hx hb dX0_memberAt_18 (lv_at hl 4 rfl) ?_
      obtain ⟨g_4, hf5⟩ := m_gd_s hf3
      clear hf3
      refine m_zld C hP mC_9 1 rfl g_4 dX0_memberAt_20 (fun y_4 e_4 => ?_)
      have hf6 := m_nm_s e_4 hf5
      clear hf5
      refine lv_if_eq (tgt := 46) hx hb dX0_memberAt_21 (by decide) (fun c_7 => ?_) (fun c_7 => ?_)
      · have hf8 := m_it c_7 hf6
        clear hf6
        obtain ⟨y_10, e_10⟩ : ∃ y : Int32, y = v4 + 1 := ⟨_, rfl⟩
        refine lv_iinc (v := y_10) (lv' := [(4, .int y_10), (0, .ref (a 1)), (1, .int v1), (2, .int v2), (3, .int v3)]) hx hb dX0_memberAt_46 hl (k := 4) rfl (by rw [e_10]; rfl) (by decide) rfl (fun ls hl => ?_)
        have hf11 := m_nm_s e_10 hf8
        clear hf8
        refine lv_goto (tgt := 5) hx hb dX0_memberAt_49 (by decide) ?_
        exact ih _ _ _ _ _ hf11 H locs ls hP hS (lv_sub hl [1, 2, 3, 4, 0] rfl)
      · have hf9 := m_ie c_7 hf6
        clear hf6
        refine lv_aload_n hx hb dX0_memberAt_24 rfl (lv_at hl 0 rfl) ?_
        refine m_get C hP mC_1 rfl inX0 6 (by decide) wf_X0_31 rfl dX0_memberAt_25 ?_
        refine lv_iload hx hb dX0_memberAt_28 (lv_at hl 4 rfl) ?_
        obtain ⟨g_12, hf13⟩ := m_gd_s hf9
        clear hf9
        refine m_ild C hP mC_8 0 rfl g_12 dX0_memberAt_30 (fun y_12 e_12 => ?_)
        have hf14 := m_nm_s e_12 hf13
        clear hf13
        refine lv_iload_n hx hb dX0_memberAt_31 rfl (lv_at hl 1 rfl) ?_
        refine lv_icmp_ne (tgt := 46) hx hb dX0_memberAt_32 (by decide) (fun c_15 => ?_) (fun c_15 => ?_)
        · have hf16 := m_ie c_15 hf14
          clear hf14
          obtain ⟨y_18, e_18⟩ : ∃ y : Int32, y = v4 + 1 := ⟨_, rfl⟩
          refine lv_iinc (v := y_18) (lv' := [(4, .int y_18), (0, .ref (a 1)), (1, .int v1), (2, .int v2), (3, .int v3)]) hx hb dX0_memberAt_46 hl (k := 4) rfl (by rw [e_18]; rfl) (by decide) rfl (fun ls hl => ?_)
          have hf19 := m_nm_s e_18 hf16
          clear hf16
          refine lv_goto (tgt := 5) hx hb dX0_memberAt_49 (by decide) ?_
          exact ih _ _ _ _ _ hf19 H locs ls hP hS (lv_sub hl [1, 2, 3, 4, 0] rfl)
        · have hf17 := m_it c_15 hf14
          clear hf14
          refine lv_iload_n hx hb dX0_memberAt_35 rfl (lv_at hl 3 rfl) ?_
          refine lv_iload_n hx hb dX0_memberAt_36 rfl (lv_at hl 2 rfl) ?_
          refine lv_icmp_ne (tgt := 43) hx hb dX0_memberAt_37 (by decide) (fun c_20 => ?_) (fun c_20 => ?_)
          · have hf21 := m_ie c_20 hf17
            clear hf17
            obtain ⟨y_23, e_23⟩ : ∃ y : Int32, y = v3 + 1 := ⟨_, rfl⟩
            refine lv_iinc (v := y_23) (lv' := [(3, .int y_23), (0, .ref (a 1)), (1, .int v1), (2, .int v2), (4, .int v4)]) hx hb dX0_memberAt_43 hl (k := 3) rfl (by rw [e_23]; rfl) (by decide) rfl (fun ls hl => ?_)
            have hf24 := m_nm_s e_23 hf21
            clear hf21
            obtain ⟨y_25, e_25⟩ : ∃ y : Int32, y = v4 + 1 := ⟨_, rfl⟩
            refine lv_iinc (v := y_25) (lv' := [(4, .int y_25), (3, .int y_23), (0, .ref (a 1)), (1, .int v1), (2, .int v2)]) hx hb dX0_memberAt_46 hl (k := 4) rfl (by rw [e_25]; rfl) (by decide) rfl (fun ls hl => ?_)
            have hf26 := m_nm_s e_25 hf24
            clear hf24
            refine lv_goto (tgt := 5) hx hb dX0_memberAt_49 (by decide) ?_
            exact ih _ _ _ _ _ hf26 H locs ls hP hS (lv_sub hl [2, 3, 4, 1, 0] rfl)
          · have hf22 := m_it c_20 hf17
            clear hf17
            refine lv_iload hx hb dX0_memberAt_40 (lv_at hl 4 rfl) ?_
            exact m_iret C hP hS dX0_memberAt_42 hf22
def f_X0_memberAt (N : Nat) (v1 : Int32) (v2 : Int32) (X : XT) : Option (Int32 × XT) := f_X0_memberAt_5 N N v1 v2 0 0 X
set_option maxHeartbeats 4000000 in
set_option maxRecDepth 100000 in
theorem c_X0_memberAt (l : Launch) (D : va_G) (a : Nat → Nat) (cy : Nat → ClassId) (hG : m_inj 138 a) (N : Nat) (v1 : Int32) (v2 : Int32) (X : XT) {r0 : Int32} {X0 : XT} (hf0 : f_X0_memberAt N v1 v2 X = some (r0, X0)) : Met l yX0_memberAt (Cond.code yX0_memberAt cX0_memberAt 5 (some .int) :: m_tbl) rm_X0_memberAt (va_Pc [.ref (a 1), .int v1, .int v2] (m_PX D (m_tc cy) (m_WC a cy) (m_ZC a) X)) (m_QI D (m_WC a cy) (m_AC a) r0 X0) 0 0 (m_AC a) := by
  refine m_met (own := RX0) hy_X0_memberAt rfl (Nat.le_of_ble_eq_true rfl) (m_wl_D hG _) m_ZC_keep ?_
  intro p e s m args below meth c C ls hl hP hS
  have hx := C.1.1
  have hb := C.1.2.1
  have hl : lv_has ls 5 [(0, .ref (a 1)), (1, .int v1), (2, .int v2)] := hl
  unfold f_X0_memberAt at hf0
  suffices K : ∀ (H : Heap) (locs : List Loc), va_P D vwCl (m_WC a cy X) H → va_S (m_AC a) s.heap H locs → W p l e rm_X0_memberAt s m args below meth c H locs 0 0 (MQ below (m_QI D (m_WC a cy) (m_AC a) r0 X0) args s 0 0 (m_AC a)) (F0 m 0 ls []) from K _ _ hP hS
  clear hP hS
  intro H locs hP hS
  refine lv_iconst (v := 0) hx hb dX0_memberAt_0 (by decide) ?_
  refine lv_istore_n (lv' := [(3, .int 0), (0, .ref (a 1)), (1, .int v1), (2, .int v2)]) hx hb dX0_memberAt_1 rfl hl (by decide) rfl (fun ls hl => ?_)
  refine lv_iconst (v := 0) hx hb dX0_memberAt_2 (by decide) ?_
  refine lv_istore (lv' := [(4, .int 0), (3, .int 0), (0, .ref (a 1)), (1, .int v1), (2, .int v2)]) hx hb dX0_memberAt_3 hl (by decide) rfl (fun ls hl => ?_)
  exact w_X0_memberAt_5 l D a cy hG N C _ _ _ _ _ _ hf0 H locs ls hP hS (lv_sub hl [2, 3, 4, 1, 0] rfl)
abbrev rm_X0_leaveGroup : Room := { frames := 1, cells := 0, slots := 0, locals := 21 }
def f_X0_leaveGroup (N : Nat) (v1 : Int32) (X : XT) : Option XT := m_bi (f_X0_has N v1 X) fun r_1 X_1 => if r_1 = 0 then (some X_1) else (m_gd (m_in v1 150) <| m_nm (m_up X_1 9 (upd (X_1 9) (Int32.toNatClampNeg v1) (vp_nar .boolean 0))) fun X_6 => some X_6)
set_option maxHeartbeats 4000000 in
set_option maxRecDepth 100000 in
theorem c_X0_leaveGroup (l : Launch) (D : va_G) (a : Nat → Nat) (cy : Nat → ClassId) (hG : m_inj 138 a) (N : Nat) (v1 : Int32) (X : XT) {X0 : XT} (hf0 : f_X0_leaveGroup N v1 X = some X0) : Met l yX0_leaveGroup (Cond.code yX0_leaveGroup cX0_leaveGroup 2 none :: m_tbl) rm_X0_leaveGroup (va_Pc [.ref (a 1), .int v1] (m_PX D (m_tc cy) (m_WC a cy) (m_ZC a) X)) (m_QV D (m_WC a cy) (m_AC a) X0) 0 0 (m_AC a) := by
  refine m_met (own := RX0) hy_X0_leaveGroup rfl (Nat.le_of_ble_eq_true rfl) (m_wl_D hG _) m_ZC_keep ?_
  intro p e s m args below meth c C ls hl hP hS
  have hx := C.1.1
  have hb := C.1.2.1
  have hl : lv_has ls 2 [(0, .ref (a 1)), (1, .int v1)] := hl
  unfold f_X0_leaveGroup at hf0
  suffices K : ∀ (H : Heap) (locs : List Loc), va_P D vwCl (m_WC a cy X) H → va_S (m_AC a) s.heap H locs → W p l e rm_X0_leaveGroup s m args below meth c H locs 0 0 (MQ below (m_QV D (m_WC a cy) (m_AC a) X0) args s 0 0 (m_AC a)) (F0 m 0 ls []) from K _ _ hP hS
  clear hP hS
  intro H locs hP hS
  refine lv_aload_n hx hb dX0_leaveGroup_0 rfl (lv_at hl 0 rfl) ?_
  refine lv_iload_n hx hb dX0_leaveGroup_1 rfl (lv_at hl 1 rfl) ?_
  obtain ⟨r_1, X_1, h_1, hf2⟩ := m_bi_s hf0
  clear hf0
  refine m_callVi (q := (RX0, TX0, 9)) C [.int v1] [] (c_X0_has l D a cy hG N _ _ h_1) (m_goodV wl_X0_51 wi_X0_has ws_X0_has wn_X0 wc_X0_has) ⟨rfl, rfl⟩ hv_X0_has ⟨Nat.le_of_ble_eq_true rfl, Nat.le_of_ble_eq_true rfl⟩ rfl mC_1 hP hS rfl hl.1 rfl (Nat.le_of_ble_eq_true rfl) dX0_leaveGroup_2 (fun H locs hP hS => ?_)
  refine lv_if_eq (tgt := 15) hx hb dX0_leaveGroup_5 (by decide) (fun c_3 => ?_) (fun c_3 => ?_)
  · have hf4 := m_it c_3 hf2
    clear hf2
    exact m_vret C hP hS dX0_leaveGroup_15 hf4
  · have hf5 := m_ie c_3 hf2
    clear hf2
    refine lv_aload_n hx hb dX0_leaveGroup_8 rfl (lv_at hl 0 rfl) ?_
    refine m_get C hP mC_1 rfl inX0 7 (by decide) wf_X0_34 rfl dX0_leaveGroup_9 ?_
    refine lv_iload_n hx hb dX0_leaveGroup_12 rfl (lv_at hl 1 rfl) ?_
    refine lv_iconst (v := 0) hx hb dX0_leaveGroup_13 (by decide) ?_
    obtain ⟨g_6, hf7⟩ := m_gd_s hf5
    clear hf5
    refine m_zst C hP hS mC_9 1 rfl g_6 mCs_9 dX0_leaveGroup_14 (fun X_6 e_6 H locs hP hS => ?_)
    have hf8 := m_nm_s e_6 hf7
    clear hf7
    exact m_vret C hP hS dX0_leaveGroup_15 hf8
abbrev rm_X0_recordsOf : Room := { frames := 1, cells := 0, slots := 0, locals := 21 }
def f_X0_recordsOf (N : Nat) (v1 : Int32) (X : XT) : Option (Int32 × XT) := m_bi (f_X0_has N v1 X) fun r_1 X_1 => if r_1 = 0 then (some (0, X_1)) else (m_gd (m_in v1 150) <| m_nm (X_1 3 (Int32.toNatClampNeg v1)) fun y_6 => some (y_6, X_1))
set_option maxHeartbeats 4000000 in
set_option maxRecDepth 100000 in
theorem c_X0_recordsOf (l : Launch) (D : va_G) (a : Nat → Nat) (cy : Nat → ClassId) (hG : m_inj 138 a) (N : Nat) (v1 : Int32) (X : XT) {r0 : Int32} {X0 : XT} (hf0 : f_X0_recordsOf N v1 X = some (r0, X0)) : Met l yX0_recordsOf (Cond.code yX0_recordsOf cX0_recordsOf 2 (some .int) :: m_tbl) rm_X0_recordsOf (va_Pc [.ref (a 1), .int v1] (m_PX D (m_tc cy) (m_WC a cy) (m_ZC a) X)) (m_QI D (m_WC a cy) (m_AC a) r0 X0) 0 0 (m_AC a) := by
  refine m_met (own := RX0) hy_X0_recordsOf rfl (Nat.le_of_ble_eq_true rfl) (m_wl_D hG _) m_ZC_keep ?_
  intro p e s m args below meth c C ls hl hP hS
  have hx := C.1.1
  have hb := C.1.2.1
  have hl : lv_has ls 2 [(0, .ref (a 1)), (1, .int v1)] := hl
  unfold f_X0_recordsOf at hf0
  suffices K : ∀ (H : Heap) (locs : List Loc), va_P D vwCl (m_WC a cy X) H → va_S (m_AC a) s.heap H locs → W p l e rm_X0_recordsOf s m args below meth c H locs 0 0 (MQ below (m_QI D (m_WC a cy) (m_AC a) r0 X0) args s 0 0 (m_AC a)) (F0 m 0 ls []) from K _ _ hP hS
  clear hP hS
  intro H locs hP hS
  refine lv_aload_n hx hb dX0_recordsOf_0 rfl (lv_at hl 0 rfl) ?_
  refine lv_iload_n hx hb dX0_recordsOf_1 rfl (lv_at hl 1 rfl) ?_
  obtain ⟨r_1, X_1, h_1, hf2⟩ := m_bi_s hf0
  clear hf0
  refine m_callVi (q := (RX0, TX0, 9)) C [.int v1] [] (c_X0_has l D a cy hG N _ _ h_1) (m_goodV wl_X0_51 wi_X0_has ws_X0_has wn_X0 wc_X0_has) ⟨rfl, rfl⟩ hv_X0_has ⟨Nat.le_of_ble_eq_true rfl, Nat.le_of_ble_eq_true rfl⟩ rfl mC_1 hP hS rfl hl.1 rfl (Nat.le_of_ble_eq_true rfl) dX0_recordsOf_2 (fun H locs hP hS => ?_)
  refine lv_if_eq (tgt := 17) hx hb dX0_recordsOf_5 (by decide) (fun c_3 => ?_) (fun c_3 => ?_)
  · have hf4 := m_it c_3 hf2
    clear hf2
    refine lv_iconst (v := 0) hx hb dX0_recordsOf_17 (by decide) ?_
    exact m_iret C hP hS dX0_recordsOf_18 hf4
  · have hf5 := m_ie c_3 hf2
    clear hf2
    refine lv_aload_n hx hb dX0_recordsOf_8 rfl (lv_at hl 0 rfl) ?_
    refine m_get C hP mC_1 rfl inX0 1 (by decide) wf_X0_15 rfl dX0_recordsOf_9 ?_
    refine lv_iload_n hx hb dX0_recordsOf_12 rfl (lv_at hl 1 rfl) ?_
    obtain ⟨g_6, hf7⟩ := m_gd_s hf5
    clear hf5
    refine m_ild C hP mC_3 0 rfl g_6 dX0_recordsOf_13 (fun y_6 e_6 => ?_)
    have hf8 := m_nm_s e_6 hf7
    clear hf7
    refine lv_goto (tgt := 18) hx hb dX0_recordsOf_14 (by decide) ?_
    exact m_iret C hP hS dX0_recordsOf_18 hf8
abbrev rm_X0_setState : Room := { frames := 1, cells := 0, slots := 0, locals := 21 }
def f_X0_setState (N : Nat) (v1 : Int32) (v2 : Int32) (X : XT) : Option XT := m_bi (f_X0_has N v1 X) fun r_1 X_1 => if r_1 = 0 then (some X_1) else (m_gd (m_in v1 150) <| m_nm (m_up X_1 5 (upd (X_1 5) (Int32.toNatClampNeg v1) v2)) fun X_6 => some X_6)
set_option maxHeartbeats 4000000 in
set_option maxRecDepth 100000 in
theorem c_X0_setState (l : Launch) (D : va_G) (a : Nat → Nat) (cy : Nat → ClassId) (hG : m_inj 138 a) (N : Nat) (v1 : Int32) (v2 : Int32) (X : XT) {X0 : XT} (hf0 : f_X0_setState N v1 v2 X = some X0) : Met l yX0_setState (Cond.code yX0_setState cX0_setState 3 none :: m_tbl) rm_X0_setState (va_Pc [.ref (a 1), .int v1, .int v2] (m_PX D (m_tc cy) (m_WC a cy) (m_ZC a) X)) (m_QV D (m_WC a cy) (m_AC a) X0) 0 0 (m_AC a) := by
  refine m_met (own := RX0) hy_X0_setState rfl (Nat.le_of_ble_eq_true rfl) (m_wl_D hG _) m_ZC_keep ?_
  intro p e s m args below meth c C ls hl hP hS
  have hx := C.1.1
  have hb := C.1.2.1
  have hl : lv_has ls 3 [(0, .ref (a 1)), (1, .int v1), (2, .int v2)] := hl
  unfold f_X0_setState at hf0
  suffices K : ∀ (H : Heap) (locs : List Loc), va_P D vwCl (m_WC a cy X) H → va_S (m_AC a) s.heap H locs → W p l e rm_X0_setState s m args below meth c H locs 0 0 (MQ below (m_QV D (m_WC a cy) (m_AC a) X0) args s 0 0 (m_AC a)) (F0 m 0 ls []) from K _ _ hP hS
  clear hP hS
  intro H locs hP hS
  refine lv_aload_n hx hb dX0_setState_0 rfl (lv_at hl 0 rfl) ?_
  refine lv_iload_n hx hb dX0_setState_1 rfl (lv_at hl 1 rfl) ?_
  obtain ⟨r_1, X_1, h_1, hf2⟩ := m_bi_s hf0
  clear hf0
  refine m_callVi (q := (RX0, TX0, 9)) C [.int v1] [] (c_X0_has l D a cy hG N _ _ h_1) (m_goodV wl_X0_51 wi_X0_has ws_X0_has wn_X0 wc_X0_has) ⟨rfl, rfl⟩ hv_X0_has ⟨Nat.le_of_ble_eq_true rfl, Nat.le_of_ble_eq_true rfl⟩ rfl mC_1 hP hS rfl hl.1 rfl (Nat.le_of_ble_eq_true rfl) dX0_setState_2 (fun H locs hP hS => ?_)
  refine lv_if_eq (tgt := 15) hx hb dX0_setState_5 (by decide) (fun c_3 => ?_) (fun c_3 => ?_)
  · have hf4 := m_it c_3 hf2
    clear hf2
    exact m_vret C hP hS dX0_setState_15 hf4
  · have hf5 := m_ie c_3 hf2
    clear hf2
    refine lv_aload_n hx hb dX0_setState_8 rfl (lv_at hl 0 rfl) ?_
    refine m_get C hP mC_1 rfl inX0 3 (by decide) wf_X0_22 rfl dX0_setState_9 ?_
    refine lv_iload_n hx hb dX0_setState_12 rfl (lv_at hl 1 rfl) ?_
    refine lv_iload_n hx hb dX0_setState_13 rfl (lv_at hl 2 rfl) ?_
    obtain ⟨g_6, hf7⟩ := m_gd_s hf5
    clear hf5
    refine m_ist C hP hS mC_5 0 rfl g_6 mCs_5 dX0_setState_14 (fun X_6 e_6 H locs hP hS => ?_)
    have hf8 := m_nm_s e_6 hf7
    clear hf7
    exact m_vret C hP hS dX0_setState_15 hf8
abbrev rm_X0_clientOf : Room := { frames := 1, cells := 0, slots := 0, locals := 21 }
def f_X0_clientOf (N : Nat) (v1 : Int32) (X : XT) : Option (Int32 × XT) := m_bi (f_X0_has N v1 X) fun r_1 X_1 => if r_1 = 0 then (some ((-5), X_1)) else (m_gd (m_in v1 150) <| m_nm (X_1 2 (Int32.toNatClampNeg v1)) fun y_6 => some (y_6, X_1))
set_option maxHeartbeats 4000000 in
set_option maxRecDepth 100000 in
theorem c_X0_clientOf (l : Launch) (D : va_G) (a : Nat → Nat) (cy : Nat → ClassId) (hG : m_inj 138 a) (N : Nat) (v1 : Int32) (X : XT) {r0 : Int32} {X0 : XT} (hf0 : f_X0_clientOf N v1 X = some (r0, X0)) : Met l yX0_clientOf (Cond.code yX0_clientOf cX0_clientOf 2 (some .int) :: m_tbl) rm_X0_clientOf (va_Pc [.ref (a 1), .int v1] (m_PX D (m_tc cy) (m_WC a cy) (m_ZC a) X)) (m_QI D (m_WC a cy) (m_AC a) r0 X0) 0 0 (m_AC a) := by
  refine m_met (own := RX0) hy_X0_clientOf rfl (Nat.le_of_ble_eq_true rfl) (m_wl_D hG _) m_ZC_keep ?_
  intro p e s m args below meth c C ls hl hP hS
  have hx := C.1.1
  have hb := C.1.2.1
  have hl : lv_has ls 2 [(0, .ref (a 1)), (1, .int v1)] := hl
  unfold f_X0_clientOf at hf0
  suffices K : ∀ (H : Heap) (locs : List Loc), va_P D vwCl (m_WC a cy X) H → va_S (m_AC a) s.heap H locs → W p l e rm_X0_clientOf s m args below meth c H locs 0 0 (MQ below (m_QI D (m_WC a cy) (m_AC a) r0 X0) args s 0 0 (m_AC a)) (F0 m 0 ls []) from K _ _ hP hS
  clear hP hS
  intro H locs hP hS
  refine lv_aload_n hx hb dX0_clientOf_0 rfl (lv_at hl 0 rfl) ?_
  refine lv_iload_n hx hb dX0_clientOf_1 rfl (lv_at hl 1 rfl) ?_
  obtain ⟨r_1, X_1, h_1, hf2⟩ := m_bi_s hf0
  clear hf0
  refine m_callVi (q := (RX0, TX0, 9)) C [.int v1] [] (c_X0_has l D a cy hG N _ _ h_1) (m_goodV wl_X0_51 wi_X0_has ws_X0_has wn_X0 wc_X0_has) ⟨rfl, rfl⟩ hv_X0_has ⟨Nat.le_of_ble_eq_true rfl, Nat.le_of_ble_eq_true rfl⟩ rfl mC_1 hP hS rfl hl.1 rfl (Nat.le_of_ble_eq_true rfl) dX0_clientOf_2 (fun H locs hP hS => ?_)
  refine lv_if_eq (tgt := 17) hx hb dX0_clientOf_5 (by decide) (fun c_3 => ?_) (fun c_3 => ?_)
  · have hf4 := m_it c_3 hf2
    clear hf2
    refine lv_bipush (v := (-5)) hx hb dX0_clientOf_17 (by decide) ?_
    exact m_iret C hP hS dX0_clientOf_19 hf4
  · have hf5 := m_ie c_3 hf2
    clear hf2
    refine lv_aload_n hx hb dX0_clientOf_8 rfl (lv_at hl 0 rfl) ?_
    refine m_get C hP mC_1 rfl inX0 0 (by decide) wf_X0_11 rfl dX0_clientOf_9 ?_
    refine lv_iload_n hx hb dX0_clientOf_12 rfl (lv_at hl 1 rfl) ?_
    obtain ⟨g_6, hf7⟩ := m_gd_s hf5
    clear hf5
    refine m_ild C hP mC_2 0 rfl g_6 dX0_clientOf_13 (fun y_6 e_6 => ?_)
    have hf8 := m_nm_s e_6 hf7
    clear hf7
    refine lv_goto (tgt := 19) hx hb dX0_clientOf_14 (by decide) ?_
    exact m_iret C hP hS dX0_clientOf_19 hf8
abbrev rm_X0_groupOf : Room := { frames := 1, cells := 0, slots := 0, locals := 21 }
def f_X0_groupOf (N : Nat) (v1 : Int32) (X : XT) : Option (Int32 × XT) := m_bi (f_X0_has N v1 X) fun r_1 X_1 => if r_1 = 0 then (some ((-5), X_1)) else (m_gd (m_in v1 150) <| m_nm (X_1 8 (Int32.toNatClampNeg v1)) fun y_6 => some (y_6, X_1))
set_option maxHeartbeats 4000000 in
set_option maxRecDepth 100000 in
theorem c_X0_groupOf (l : Launch) (D : va_G) (a : Nat → Nat) (cy : Nat → ClassId) (hG : m_inj 138 a) (N : Nat) (v1 : Int32) (X : XT) {r0 : Int32} {X0 : XT} (hf0 : f_X0_groupOf N v1 X = some (r0, X0)) : Met l yX0_groupOf (Cond.code yX0_groupOf cX0_groupOf 2 (some .int) :: m_tbl) rm_X0_groupOf (va_Pc [.ref (a 1), .int v1] (m_PX D (m_tc cy) (m_WC a cy) (m_ZC a) X)) (m_QI D (m_WC a cy) (m_AC a) r0 X0) 0 0 (m_AC a) := by
  refine m_met (own := RX0) hy_X0_groupOf rfl (Nat.le_of_ble_eq_true rfl) (m_wl_D hG _) m_ZC_keep ?_
  intro p e s m args below meth c C ls hl hP hS
  have hx := C.1.1
  have hb := C.1.2.1
  have hl : lv_has ls 2 [(0, .ref (a 1)), (1, .int v1)] := hl
  unfold f_X0_groupOf at hf0
  suffices K : ∀ (H : Heap) (locs : List Loc), va_P D vwCl (m_WC a cy X) H → va_S (m_AC a) s.heap H locs → W p l e rm_X0_groupOf s m args below meth c H locs 0 0 (MQ below (m_QI D (m_WC a cy) (m_AC a) r0 X0) args s 0 0 (m_AC a)) (F0 m 0 ls []) from K _ _ hP hS
  clear hP hS
  intro H locs hP hS
  refine lv_aload_n hx hb dX0_groupOf_0 rfl (lv_at hl 0 rfl) ?_
  refine lv_iload_n hx hb dX0_groupOf_1 rfl (lv_at hl 1 rfl) ?_
  obtain ⟨r_1, X_1, h_1, hf2⟩ := m_bi_s hf0
  clear hf0
  refine m_callVi (q := (RX0, TX0, 9)) C [.int v1] [] (c_X0_has l D a cy hG N _ _ h_1) (m_goodV wl_X0_51 wi_X0_has ws_X0_has wn_X0 wc_X0_has) ⟨rfl, rfl⟩ hv_X0_has ⟨Nat.le_of_ble_eq_true rfl, Nat.le_of_ble_eq_true rfl⟩ rfl mC_1 hP hS rfl hl.1 rfl (Nat.le_of_ble_eq_true rfl) dX0_groupOf_2 (fun H locs hP hS => ?_)
  refine lv_if_eq (tgt := 17) hx hb dX0_groupOf_5 (by decide) (fun c_3 => ?_) (fun c_3 => ?_)
  · have hf4 := m_it c_3 hf2
    clear hf2
    refine lv_bipush (v := (-5)) hx hb dX0_groupOf_17 (by decide) ?_
    exact m_iret C hP hS dX0_groupOf_19 hf4
  · have hf5 := m_ie c_3 hf2
    clear hf2
    refine lv_aload_n hx hb dX0_groupOf_8 rfl (lv_at hl 0 rfl) ?_
    refine m_get C hP mC_1 rfl inX0 6 (by decide) wf_X0_31 rfl dX0_groupOf_9 ?_
    refine lv_iload_n hx hb dX0_groupOf_12 rfl (lv_at hl 1 rfl) ?_
    obtain ⟨g_6, hf7⟩ := m_gd_s hf5
    clear hf5
    refine m_ild C hP mC_8 0 rfl g_6 dX0_groupOf_13 (fun y_6 e_6 => ?_)
    have hf8 := m_nm_s e_6 hf7
    clear hf7
    refine lv_goto (tgt := 19) hx hb dX0_groupOf_14 (by decide) ?_
    exact m_iret C hP hS dX0_groupOf_19 hf8
abbrev rm_X0_answer : Room := { frames := 1, cells := 0, slots := 0, locals := 21 }
def f_X0_answer (N : Nat) (v1 : Int32) (v2 : Int32) (X : XT) : Option XT := m_bi (f_X0_has N v1 X) fun r_1 X_1 => if r_1 = 0 then (some X_1) else (m_gd (m_in v1 150) <| m_nm (m_up X_1 5 (upd (X_1 5) (Int32.toNatClampNeg v1) 4)) fun X_6 => m_gd (m_in v1 150) <| m_nm (m_up X_6 7 (upd (X_6 7) (Int32.toNatClampNeg v1) v2)) fun X_9 => some X_9)
set_option maxHeartbeats 4000000 in
set_option maxRecDepth 100000 in
theorem c_X0_answer (l : Launch) (D : va_G) (a : Nat → Nat) (cy : Nat → ClassId) (hG : m_inj 138 a) (N : Nat) (v1 : Int32) (v2 : Int32) (X : XT) {X0 : XT} (hf0 : f_X0_answer N v1 v2 X = some X0) : Met l yX0_answer (Cond.code yX0_answer cX0_answer 3 none :: m_tbl) rm_X0_answer (va_Pc [.ref (a 1), .int v1, .int v2] (m_PX D (m_tc cy) (m_WC a cy) (m_ZC a) X)) (m_QV D (m_WC a cy) (m_AC a) X0) 0 0 (m_AC a) := by
  refine m_met (own := RX0) hy_X0_answer rfl (Nat.le_of_ble_eq_true rfl) (m_wl_D hG _) m_ZC_keep ?_
  intro p e s m args below meth c C ls hl hP hS
  have hx := C.1.1
  have hb := C.1.2.1
  have hl : lv_has ls 3 [(0, .ref (a 1)), (1, .int v1), (2, .int v2)] := hl
  unfold f_X0_answer at hf0
  suffices K : ∀ (H : Heap) (locs : List Loc), va_P D vwCl (m_WC a cy X) H → va_S (m_AC a) s.heap H locs → W p l e rm_X0_answer s m args below meth c H locs 0 0 (MQ below (m_QV D (m_WC a cy) (m_AC a) X0) args s 0 0 (m_AC a)) (F0 m 0 ls []) from K _ _ hP hS
  clear hP hS
  intro H locs hP hS
  refine lv_aload_n hx hb dX0_answer_0 rfl (lv_at hl 0 rfl) ?_
  refine lv_iload_n hx hb dX0_answer_1 rfl (lv_at hl 1 rfl) ?_
  obtain ⟨r_1, X_1, h_1, hf2⟩ := m_bi_s hf0
  clear hf0
  refine m_callVi (q := (RX0, TX0, 9)) C [.int v1] [] (c_X0_has l D a cy hG N _ _ h_1) (m_goodV wl_X0_51 wi_X0_has ws_X0_has wn_X0 wc_X0_has) ⟨rfl, rfl⟩ hv_X0_has ⟨Nat.le_of_ble_eq_true rfl, Nat.le_of_ble_eq_true rfl⟩ rfl mC_1 hP hS rfl hl.1 rfl (Nat.le_of_ble_eq_true rfl) dX0_answer_2 (fun H locs hP hS => ?_)
  refine lv_if_eq (tgt := 22) hx hb dX0_answer_5 (by decide) (fun c_3 => ?_) (fun c_3 => ?_)
  · have hf4 := m_it c_3 hf2
    clear hf2
    exact m_vret C hP hS dX0_answer_22 hf4
  · have hf5 := m_ie c_3 hf2
    clear hf2
    refine lv_aload_n hx hb dX0_answer_8 rfl (lv_at hl 0 rfl) ?_
    refine m_get C hP mC_1 rfl inX0 3 (by decide) wf_X0_22 rfl dX0_answer_9 ?_
    refine lv_iload_n hx hb dX0_answer_12 rfl (lv_at hl 1 rfl) ?_
    refine lv_iconst (v := 4) hx hb dX0_answer_13 (by decide) ?_
    obtain ⟨g_6, hf7⟩ := m_gd_s hf5
    clear hf5
    refine m_ist C hP hS mC_5 0 rfl g_6 mCs_5 dX0_answer_14 (fun X_6 e_6 H locs hP hS => ?_)
    have hf8 := m_nm_s e_6 hf7
    clear hf7
    refine lv_aload_n hx hb dX0_answer_15 rfl (lv_at hl 0 rfl) ?_
    refine m_get C hP mC_1 rfl inX0 5 (by decide) wf_X0_28 rfl dX0_answer_16 ?_
    refine lv_iload_n hx hb dX0_answer_19 rfl (lv_at hl 1 rfl) ?_
    refine lv_iload_n hx hb dX0_answer_20 rfl (lv_at hl 2 rfl) ?_
    obtain ⟨g_9, hf10⟩ := m_gd_s hf8
    clear hf8
    refine m_ist C hP hS mC_7 0 rfl g_9 mCs_7 dX0_answer_21 (fun X_9 e_9 H locs hP hS => ?_)
    have hf11 := m_nm_s e_9 hf10
    clear hf10
    exact m_vret C hP hS dX0_answer_22 hf11
abbrev rm_X0_submitTimeOf : Room := { frames := 1, cells := 0, slots := 0, locals := 21 }
def f_X0_submitTimeOf (N : Nat) (v1 : Int32) (X : XT) : Option (Int32 × XT) := m_bi (f_X0_has N v1 X) fun r_1 X_1 => if r_1 = 0 then (some ((-5), X_1)) else (m_gd (m_in v1 150) <| m_nm (X_1 6 (Int32.toNatClampNeg v1)) fun y_6 => some (y_6, X_1))
set_option maxHeartbeats 4000000 in
set_option maxRecDepth 100000 in
theorem c_X0_submitTimeOf (l : Launch) (D : va_G) (a : Nat → Nat) (cy : Nat → ClassId) (hG : m_inj 138 a) (N : Nat) (v1 : Int32) (X : XT) {r0 : Int32} {X0 : XT} (hf0 : f_X0_submitTimeOf N v1 X = some (r0, X0)) : Met l yX0_submitTimeOf (Cond.code yX0_submitTimeOf cX0_submitTimeOf 2 (some .int) :: m_tbl) rm_X0_submitTimeOf (va_Pc [.ref (a 1), .int v1] (m_PX D (m_tc cy) (m_WC a cy) (m_ZC a) X)) (m_QI D (m_WC a cy) (m_AC a) r0 X0) 0 0 (m_AC a) := by
  refine m_met (own := RX0) hy_X0_submitTimeOf rfl (Nat.le_of_ble_eq_true rfl) (m_wl_D hG _) m_ZC_keep ?_
  intro p e s m args below meth c C ls hl hP hS
  have hx := C.1.1
  have hb := C.1.2.1
  have hl : lv_has ls 2 [(0, .ref (a 1)), (1, .int v1)] := hl
  unfold f_X0_submitTimeOf at hf0
  suffices K : ∀ (H : Heap) (locs : List Loc), va_P D vwCl (m_WC a cy X) H → va_S (m_AC a) s.heap H locs → W p l e rm_X0_submitTimeOf s m args below meth c H locs 0 0 (MQ below (m_QI D (m_WC a cy) (m_AC a) r0 X0) args s 0 0 (m_AC a)) (F0 m 0 ls []) from K _ _ hP hS
  clear hP hS
  intro H locs hP hS
  refine lv_aload_n hx hb dX0_submitTimeOf_0 rfl (lv_at hl 0 rfl) ?_
  refine lv_iload_n hx hb dX0_submitTimeOf_1 rfl (lv_at hl 1 rfl) ?_
  obtain ⟨r_1, X_1, h_1, hf2⟩ := m_bi_s hf0
  clear hf0
  refine m_callVi (q := (RX0, TX0, 9)) C [.int v1] [] (c_X0_has l D a cy hG N _ _ h_1) (m_goodV wl_X0_51 wi_X0_has ws_X0_has wn_X0 wc_X0_has) ⟨rfl, rfl⟩ hv_X0_has ⟨Nat.le_of_ble_eq_true rfl, Nat.le_of_ble_eq_true rfl⟩ rfl mC_1 hP hS rfl hl.1 rfl (Nat.le_of_ble_eq_true rfl) dX0_submitTimeOf_2 (fun H locs hP hS => ?_)
  refine lv_if_eq (tgt := 17) hx hb dX0_submitTimeOf_5 (by decide) (fun c_3 => ?_) (fun c_3 => ?_)
  · have hf4 := m_it c_3 hf2
    clear hf2
    refine lv_bipush (v := (-5)) hx hb dX0_submitTimeOf_17 (by decide) ?_
    exact m_iret C hP hS dX0_submitTimeOf_19 hf4
  · have hf5 := m_ie c_3 hf2
    clear hf2
    refine lv_aload_n hx hb dX0_submitTimeOf_8 rfl (lv_at hl 0 rfl) ?_
    refine m_get C hP mC_1 rfl inX0 4 (by decide) wf_X0_25 rfl dX0_submitTimeOf_9 ?_
    refine lv_iload_n hx hb dX0_submitTimeOf_12 rfl (lv_at hl 1 rfl) ?_
    obtain ⟨g_6, hf7⟩ := m_gd_s hf5
    clear hf5
    refine m_ild C hP mC_6 0 rfl g_6 dX0_submitTimeOf_13 (fun y_6 e_6 => ?_)
    have hf8 := m_nm_s e_6 hf7
    clear hf7
    refine lv_goto (tgt := 19) hx hb dX0_submitTimeOf_14 (by decide) ?_
    exact m_iret C hP hS dX0_submitTimeOf_19 hf8
abbrev rm_X0_isUrgent : Room := { frames := 1, cells := 0, slots := 0, locals := 21 }
def f_X0_isUrgent (N : Nat) (v1 : Int32) (X : XT) : Option (Int32 × XT) := m_bi (f_X0_has N v1 X) fun r_1 X_1 => if r_1 = 0 then (some (0, X_1)) else (m_gd (m_in v1 150) <| m_nm (X_1 4 (Int32.toNatClampNeg v1)) fun y_6 => if y_6 = 0 then (some (0, X_1)) else (some (1, X_1)))
set_option maxHeartbeats 4000000 in
set_option maxRecDepth 100000 in
theorem c_X0_isUrgent (l : Launch) (D : va_G) (a : Nat → Nat) (cy : Nat → ClassId) (hG : m_inj 138 a) (N : Nat) (v1 : Int32) (X : XT) {r0 : Int32} {X0 : XT} (hf0 : f_X0_isUrgent N v1 X = some (r0, X0)) : Met l yX0_isUrgent (Cond.code yX0_isUrgent cX0_isUrgent 2 (some .boolean) :: m_tbl) rm_X0_isUrgent (va_Pc [.ref (a 1), .int v1] (m_PX D (m_tc cy) (m_WC a cy) (m_ZC a) X)) (m_QI D (m_WC a cy) (m_AC a) r0 X0) 0 0 (m_AC a) := by
  refine m_met (own := RX0) hy_X0_isUrgent rfl (Nat.le_of_ble_eq_true rfl) (m_wl_D hG _) m_ZC_keep ?_
  intro p e s m args below meth c C ls hl hP hS
  have hx := C.1.1
  have hb := C.1.2.1
  have hl : lv_has ls 2 [(0, .ref (a 1)), (1, .int v1)] := hl
  unfold f_X0_isUrgent at hf0
  suffices K : ∀ (H : Heap) (locs : List Loc), va_P D vwCl (m_WC a cy X) H → va_S (m_AC a) s.heap H locs → W p l e rm_X0_isUrgent s m args below meth c H locs 0 0 (MQ below (m_QI D (m_WC a cy) (m_AC a) r0 X0) args s 0 0 (m_AC a)) (F0 m 0 ls []) from K _ _ hP hS
  clear hP hS
  intro H locs hP hS
  refine lv_aload_n hx hb dX0_isUrgent_0 rfl (lv_at hl 0 rfl) ?_
  refine lv_iload_n hx hb dX0_isUrgent_1 rfl (lv_at hl 1 rfl) ?_
  obtain ⟨r_1, X_1, h_1, hf2⟩ := m_bi_s hf0
  clear hf0
  refine m_callVi (q := (RX0, TX0, 9)) C [.int v1] [] (c_X0_has l D a cy hG N _ _ h_1) (m_goodV wl_X0_51 wi_X0_has ws_X0_has wn_X0 wc_X0_has) ⟨rfl, rfl⟩ hv_X0_has ⟨Nat.le_of_ble_eq_true rfl, Nat.le_of_ble_eq_true rfl⟩ rfl mC_1 hP hS rfl hl.1 rfl (Nat.le_of_ble_eq_true rfl) dX0_isUrgent_2 (fun H locs hP hS => ?_)
  refine lv_if_eq (tgt := 21) hx hb dX0_isUrgent_5 (by decide) (fun c_3 => ?_) (fun c_3 => ?_)
  · have hf4 := m_it c_3 hf2
    clear hf2
    refine lv_iconst (v := 0) hx hb dX0_isUrgent_21 (by decide) ?_
    exact m_zret C hP hS dX0_isUrgent_22 (by decide) hf4
  · have hf5 := m_ie c_3 hf2
    clear hf2
    refine lv_aload_n hx hb dX0_isUrgent_8 rfl (lv_at hl 0 rfl) ?_
    refine m_get C hP mC_1 rfl inX0 2 (by decide) wf_X0_18 rfl dX0_isUrgent_9 ?_
    refine lv_iload_n hx hb dX0_isUrgent_12 rfl (lv_at hl 1 rfl) ?_
    obtain ⟨g_6, hf7⟩ := m_gd_s hf5
    clear hf5
    refine m_zld C hP mC_4 1 rfl g_6 dX0_isUrgent_13 (fun y_6 e_6 => ?_)
    have hf8 := m_nm_s e_6 hf7
    clear hf7
    refine lv_if_eq (tgt := 21) hx hb dX0_isUrgent_14 (by decide) (fun c_9 => ?_) (fun c_9 => ?_)
    · have hf10 := m_it c_9 hf8
      clear hf8
      refine lv_iconst (v := 0) hx hb dX0_isUrgent_21 (by decide) ?_
      exact m_zret C hP hS dX0_isUrgent_22 (by decide) hf10
    · have hf11 := m_ie c_9 hf8
      clear hf8
      refine lv_iconst (v := 1) hx hb dX0_isUrgent_17 (by decide) ?_
      refine lv_goto (tgt := 22) hx hb dX0_isUrgent_18 (by decide) ?_
      exact m_zret C hP hS dX0_isUrgent_22 (by decide) hf11
abbrev rm_X0_answerTimeOf : Room := { frames := 1, cells := 0, slots := 0, locals := 21 }
def f_X0_answerTimeOf (N : Nat) (v1 : Int32) (X : XT) : Option (Int32 × XT) := m_bi (f_X0_has N v1 X) fun r_1 X_1 => if r_1 = 0 then (some ((-5), X_1)) else (m_gd (m_in v1 150) <| m_nm (X_1 7 (Int32.toNatClampNeg v1)) fun y_6 => some (y_6, X_1))
set_option maxHeartbeats 4000000 in
set_option maxRecDepth 100000 in
theorem c_X0_answerTimeOf (l : Launch) (D : va_G) (a : Nat → Nat) (cy : Nat → ClassId) (hG : m_inj 138 a) (N : Nat) (v1 : Int32) (X : XT) {r0 : Int32} {X0 : XT} (hf0 : f_X0_answerTimeOf N v1 X = some (r0, X0)) : Met l yX0_answerTimeOf (Cond.code yX0_answerTimeOf cX0_answerTimeOf 2 (some .int) :: m_tbl) rm_X0_answerTimeOf (va_Pc [.ref (a 1), .int v1] (m_PX D (m_tc cy) (m_WC a cy) (m_ZC a) X)) (m_QI D (m_WC a cy) (m_AC a) r0 X0) 0 0 (m_AC a) := by
  refine m_met (own := RX0) hy_X0_answerTimeOf rfl (Nat.le_of_ble_eq_true rfl) (m_wl_D hG _) m_ZC_keep ?_
  intro p e s m args below meth c C ls hl hP hS
  have hx := C.1.1
  have hb := C.1.2.1
  have hl : lv_has ls 2 [(0, .ref (a 1)), (1, .int v1)] := hl
  unfold f_X0_answerTimeOf at hf0
  suffices K : ∀ (H : Heap) (locs : List Loc), va_P D vwCl (m_WC a cy X) H → va_S (m_AC a) s.heap H locs → W p l e rm_X0_answerTimeOf s m args below meth c H locs 0 0 (MQ below (m_QI D (m_WC a cy) (m_AC a) r0 X0) args s 0 0 (m_AC a)) (F0 m 0 ls []) from K _ _ hP hS
  clear hP hS
  intro H locs hP hS
  refine lv_aload_n hx hb dX0_answerTimeOf_0 rfl (lv_at hl 0 rfl) ?_
  refine lv_iload_n hx hb dX0_answerTimeOf_1 rfl (lv_at hl 1 rfl) ?_
  obtain ⟨r_1, X_1, h_1, hf2⟩ := m_bi_s hf0
  clear hf0
  refine m_callVi (q := (RX0, TX0, 9)) C [.int v1] [] (c_X0_has l D a cy hG N _ _ h_1) (m_goodV wl_X0_51 wi_X0_has ws_X0_has wn_X0 wc_X0_has) ⟨rfl, rfl⟩ hv_X0_has ⟨Nat.le_of_ble_eq_true rfl, Nat.le_of_ble_eq_true rfl⟩ rfl mC_1 hP hS rfl hl.1 rfl (Nat.le_of_ble_eq_true rfl) dX0_answerTimeOf_2 (fun H locs hP hS => ?_)
  refine lv_if_eq (tgt := 17) hx hb dX0_answerTimeOf_5 (by decide) (fun c_3 => ?_) (fun c_3 => ?_)
  · have hf4 := m_it c_3 hf2
    clear hf2
    refine lv_bipush (v := (-5)) hx hb dX0_answerTimeOf_17 (by decide) ?_
    exact m_iret C hP hS dX0_answerTimeOf_19 hf4
  · have hf5 := m_ie c_3 hf2
    clear hf2
    refine lv_aload_n hx hb dX0_answerTimeOf_8 rfl (lv_at hl 0 rfl) ?_
    refine m_get C hP mC_1 rfl inX0 5 (by decide) wf_X0_28 rfl dX0_answerTimeOf_9 ?_
    refine lv_iload_n hx hb dX0_answerTimeOf_12 rfl (lv_at hl 1 rfl) ?_
    obtain ⟨g_6, hf7⟩ := m_gd_s hf5
    clear hf5
    refine m_ild C hP mC_7 0 rfl g_6 dX0_answerTimeOf_13 (fun y_6 e_6 => ?_)
    have hf8 := m_nm_s e_6 hf7
    clear hf7
    refine lv_goto (tgt := 19) hx hb dX0_answerTimeOf_14 (by decide) ?_
    exact m_iret C hP hS dX0_answerTimeOf_19 hf8
