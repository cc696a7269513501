-- written by wip/gen/gen.py
abbrev rm_X4_copyFrom : Room := { frames := 1, cells := 0, slots := 0, locals := 40 }
def f_X4_copyFrom (N : Nat) (k1 : Nat) (k2 : Nat) (X : XT) : Option XT := m_nm (m_up X (21 * k1 + 16) (va_cpy (X (21 * k2 + 16)) (X (21 * k1 + 16)) 0 0 150)) fun X_1 => m_nm (m_up X_1 (21 * k1 + 15) (upd (X_1 (21 * k1 + 15)) 1 (X_1 (21 * k2 + 15) 1))) fun X_3 => m_nm (m_up X_3 (21 * k1 + 15) (upd (X_3 (21 * k1 + 15)) 2 (X_3 (21 * k2 + 15) 2))) fun X_5 => some X_5
set_option maxHeartbeats 4000000 in
set_option maxRecDepth 100000 in
theorem c_X4_copyFrom (l : Launch) (D : va_G) (a : Nat → Nat) (cy : Nat → ClassId) (hG : m_inj 138 a) (N : Nat) (k1 : Nat) (k2 : Nat) (hk1 : k1 < 6) (hk2 : k2 < 6) (X : XT) {X0 : XT} (hf0 : f_X4_copyFrom N k1 k2 X = some X0) : Met l yX4_copyFrom (Cond.code yX4_copyFrom cX4_copyFrom 2 none :: m_tbl) rm_X4_copyFrom (va_Pc [.ref (a (21 * k1 + 15)), .ref (a (21 * k2 + 15))] (m_PX D (m_tc cy) (m_WC a cy) (m_ZC a) X)) (m_QV D (m_WC a cy) (m_AC a) X0) 0 0 (m_AC a) := by
  refine m_met (own := RX4) hy_X4_copyFrom rfl (Nat.le_of_ble_eq_true rfl) (m_wl_D hG _) m_ZC_keep ?_
  intro p e s m args below meth c C ls hl hP hS
  have hx := C.1.1
  have hb := C.1.2.1
  have hl : lv_has ls 2 [(0, .ref (a (21 * k1 + 15))), (1, .ref (a (21 * k2 + 15)))] := hl
  unfold f_X4_copyFrom at hf0
  suffices K : ∀ (H : Heap) (locs : List Loc), va_P D vwCl (m_WC a cy X) H → va_S (m_AC a) s.heap H locs → W p l e rm_X4_copyFrom s m args below meth c H locs 0 0 (MQ below (m_QV D (m_WC a cy) (m_AC a) X0) args s 0 0 (m_AC a)) (F0 m 0 ls []) from K _ _ hP hS
  clear hP hS
  intro H locs hP hS
  refine lv_aload_n hx hb dX4_copyFrom_0 rfl (lv_at hl 1 rfl) ?_
  refine m_get C hP (mK_15 hk2) rfl inX4 0 (by decide) wf_X4_13 rfl dX4_copyFrom_1 ?_
  refine lv_iconst (v := 0) hx hb dX4_copyFrom_4 (by decide) ?_
  refine lv_aload_n hx hb dX4_copyFrom_5 rfl (lv_at hl 0 rfl) ?_
  refine m_get C hP (mK_15 hk1) rfl inX4 0 (by decide) wf_X4_13 rfl dX4_copyFrom_6 ?_
  refine lv_iconst (v := 0) hx hb dX4_copyFrom_9 (by decide) ?_
  refine lv_sipush (v := 150) hx hb dX4_copyFrom_10 (by decide) ?_
  refine m_copy C hP hS hl.1 (mK_16 hk2) (mK_16 hk1) 0 0 rfl rfl rfl wl_X4_17 wnat_arraycopyName wst_arraycopyName wn_java_lang_System (nn := 150) rfl (by decide) (Nat.le_of_ble_eq_true rfl) (Nat.le_of_ble_eq_true rfl) (fun _ _ => rfl) (Nat.le_of_ble_eq_true rfl) (Nat.le_of_ble_eq_true rfl) (mKs_16 hk1) dX4_copyFrom_13 (fun X_1 e_1 H locs hP hS => ?_)
  have hf2 := m_nm_s e_1 hf0
  clear hf0
  refine lv_aload_n hx hb dX4_copyFrom_16 rfl (lv_at hl 0 rfl) ?_
  refine lv_aload_n hx hb dX4_copyFrom_17 rfl (lv_at hl 1 rfl) ?_
  refine m_get C hP (mK_15 hk2) rfl inX4 1 (by decide) wf_X4_23 rfl dX4_copyFrom_18 ?_
  refine m_put C hP hS (mK_15 hk1) rfl inX4 tyX4_ok nmX4 1 (by decide) wf_X4_23 rfl rfl rfl (Nat.le_of_ble_eq_true rfl) (mK_15_1 hk1) dX4_copyFrom_21 (fun X_3 e_3 H locs hP hS => ?_)
  have hf4 := m_nm_s e_3 hf2
  clear hf2
  refine lv_aload_n hx hb dX4_copyFrom_24 rfl (lv_at hl 0 rfl) ?_
  refine lv_aload_n hx hb dX4_copyFrom_25 rfl (lv_at hl 1 rfl) ?_
  refine m_get C hP (mK_15 hk2) rfl inX4 2 (by decide) wf_X4_27 rfl dX4_copyFrom_26 ?_
  refine m_put C hP hS (mK_15 hk1) rfl inX4 tyX4_ok nmX4 2 (by decide) wf_X4_27 rfl rfl rfl (Nat.le_of_ble_eq_true rfl) (mK_15_2 hk1) dX4_copyFrom_29 (fun X_5 e_5 H locs hP hS => ?_)
  have hf6 := m_nm_s e_5 hf4
  clear hf4
  exact m_vret C hP hS dX4_copyFrom_32 hf6
abbrev rm_X4_add : Room := { frames := 0, cells := 0, slots := 0, locals := 0 }
def f_X4_add (N : Nat) (v1 : Int32) (X : XT) : Option XT := if 150 ≤ (X 15 2) then (some X) else (m_gd (m_in (X 15 2) 150) <| m_nm (m_up X 16 (upd (X 16) (Int32.toNatClampNeg (X 15 2)) v1)) fun X_4 => m_nm ((X_4 15 2) + 1) fun y_7 => m_nm (m_up X_4 15 (upd (X_4 15) 2 y_7)) fun X_9 => some X_9)
set_option maxHeartbeats 4000000 in
set_option maxRecDepth 100000 in
theorem c_X4_add (l : Launch) (D : va_G) (a : Nat → Nat) (cy : Nat → ClassId) (hG : m_inj 138 a) (N : Nat) (v1 : Int32) (X : XT) {X0 : XT} (hf0 : f_X4_add N v1 X = some X0) : Met l yX4_add (Cond.code yX4_add cX4_add 2 none :: m_tbl) rm_X4_add (va_Pc [.ref (a 15), .int v1] (m_PX D (m_tc cy) (m_WC a cy) (m_ZC a) X)) (m_QV D (m_WC a cy) (m_AC a) X0) 0 0 (m_AC a) := by
  refine m_met (own := RX4) hy_X4_add rfl (Nat.le_of_ble_eq_true rfl) (m_wl_D hG _) m_ZC_keep ?_
  intro p e s m args below meth c C ls hl hP hS
  have hx := C.1.1
  have hb := C.1.2.1
  have hl : lv_has ls 2 [(0, .ref (a 15)), (1, .int v1)] := hl
  unfold f_X4_add at hf0
  suffices K : ∀ (H : Heap) (locs : List Loc), va_P D vwCl (m_WC a cy X) H → va_S (m_AC a) s.heap H locs → W p l e rm_X4_add s m args below meth c H locs 0 0 (MQ below (m_QV D (m_WC a cy) (m_AC a) X0) args s 0 0 (m_AC a)) (F0 m 0 ls []) from K _ _ hP hS
  clear hP hS
  intro H locs hP hS
  refine lv_aload_n hx hb dX4_add_0 rfl (lv_at hl 0 rfl) ?_
  refine m_get C hP mC_15 rfl inX4 2 (by decide) wf_X4_27 rfl dX4_add_1 ?_
  refine lv_sipush (v := 150) hx hb dX4_add_4 (by decide) ?_
  refine lv_icmp_ge (tgt := 30) hx hb dX4_add_7 (by decide) (fun c_1 => ?_) (fun c_1 => ?_)
  · have hf2 := m_it c_1 hf0
    clear hf0
    exact m_vret C hP hS dX4_add_30 hf2
  · have hf3 := m_ie c_1 hf0
    clear hf0
    refine lv_aload_n hx hb dX4_add_10 rfl (lv_at hl 0 rfl) ?_
    refine m_get C hP mC_15 rfl inX4 0 (by decide) wf_X4_13 rfl dX4_add_11 ?_
    refine lv_aload_n hx hb dX4_add_14 rfl (lv_at hl 0 rfl) ?_
    refine m_get C hP mC_15 rfl inX4 2 (by decide) wf_X4_27 rfl dX4_add_15 ?_
    refine lv_iload_n hx hb dX4_add_18 rfl (lv_at hl 1 rfl) ?_
    obtain ⟨g_4, hf5⟩ := m_gd_s hf3
    clear hf3
    refine m_ist C hP hS mC_16 0 rfl g_4 mCs_16 dX4_add_19 (fun X_4 e_4 H locs hP hS => ?_)
    have hf6 := m_nm_s e_4 hf5
    clear hf5
    refine lv_aload_n hx hb dX4_add_20 rfl (lv_at hl 0 rfl) ?_
    refine lv_dup hx hb dX4_add_21 rfl ?_
    refine m_get C hP mC_15 rfl inX4 2 (by decide) wf_X4_27 rfl dX4_add_22 ?_
    refine lv_iconst (v := 1) hx hb dX4_add_25 (by decide) ?_
    refine lv_iadd hx hb dX4_add_26 ?_
    refine lv_topi (fun y_7 e_7 => ?_)
    have hf8 := m_nm_s e_7 hf6
    clear hf6
    refine m_put C hP hS mC_15 rfl inX4 tyX4_ok nmX4 2 (by decide) wf_X4_27 rfl rfl rfl (Nat.le_of_ble_eq_true rfl) mC_15_2 dX4_add_27 (fun X_9 e_9 H locs hP hS => ?_)
    have hf10 := m_nm_s e_9 hf8
    clear hf8
    exact m_vret C hP hS dX4_add_30 hf10
abbrev rm_X4_size : Room := { frames := 0, cells := 0, slots := 0, locals := 0 }
def f_X4_size (N : Nat) (X : XT) : Option (Int32 × XT) := m_nm ((X 15 2) - (X 15 1)) fun y_1 => some (y_1, X)
set_option maxHeartbeats 4000000 in
set_option maxRecDepth 100000 in
theorem c_X4_size (l : Launch) (D : va_G) (a : Nat → Nat) (cy : Nat → ClassId) (hG : m_inj 138 a) (N : Nat) (X : XT) {r0 : Int32} {X0 : XT} (hf0 : f_X4_size N X = some (r0, X0)) : Met l yX4_size (Cond.code yX4_size cX4_size 1 (some .int) :: m_tbl) rm_X4_size (va_Pc [.ref (a 15)] (m_PX D (m_tc cy) (m_WC a cy) (m_ZC a) X)) (m_QI D (m_WC a cy) (m_AC a) r0 X0) 0 0 (m_AC a) := by
  refine m_met (own := RX4) hy_X4_size rfl (Nat.le_of_ble_eq_true rfl) (m_wl_D hG _) m_ZC_keep ?_
  intro p e s m args below meth c C ls hl hP hS
  have hx := C.1.1
  have hb := C.1.2.1
  have hl : lv_has ls 1 [(0, .ref (a 15))] := hl
  unfold f_X4_size at hf0
  suffices K : ∀ (H : Heap) (locs : List Loc), va_P D vwCl (m_WC a cy X) H → va_S (m_AC a) s.heap H locs → W p l e rm_X4_size s m args below meth c H locs 0 0 (MQ below (m_QI D (m_WC a cy) (m_AC a) r0 X0) args s 0 0 (m_AC a)) (F0 m 0 ls []) from K _ _ hP hS
  clear hP hS
  intro H locs hP hS
  refine lv_aload_n hx hb dX4_size_0 rfl (lv_at hl 0 rfl) ?_
  refine m_get C hP mC_15 rfl inX4 2 (by decide) wf_X4_27 rfl dX4_size_1 ?_
  refine lv_aload_n hx hb dX4_size_4 rfl (lv_at hl 0 rfl) ?_
  refine m_get C hP mC_15 rfl inX4 1 (by decide) wf_X4_23 rfl dX4_size_5 ?_
  refine lv_isub hx hb dX4_size_8 ?_
  refine lv_topi (fun y_1 e_1 => ?_)
  have hf2 := m_nm_s e_1 hf0
  clear hf0
  exact m_iret C hP hS dX4_size_9 hf2
abbrev rm_X4_takeFirst : Room := { frames := 0, cells := 0, slots := 0, locals := 0 }
def f_X4_takeFirst (N : Nat) (X : XT) : Option (Int32 × XT) := if (X 15 1) < (X 15 2) then (m_gd (m_in (X 15 1) 150) <| m_nm (X 16 (Int32.toNatClampNeg (X 15 1))) fun y_4 => m_nm ((X 15 1) + 1) fun y_7 => m_nm (m_up X 15 (upd (X 15) 1 y_7)) fun X_9 => some (y_4, X_9)) else (some ((-5), X))
set_option maxHeartbeats 4000000 in
set_option maxRecDepth 100000 in
theorem c_X4_takeFirst (l : Launch) (D : va_G) (a : Nat → Nat) (cy : Nat → ClassId) (hG : m_inj 138 a) (N : Nat) (X : XT) {r0 : Int32} {X0 : XT} (hf0 : f_X4_takeFirst N X = some (r0, X0)) : Met l yX4_takeFirst (Cond.code yX4_takeFirst cX4_takeFirst 2 (some .int) :: m_tbl) rm_X4_takeFirst (va_Pc [.ref (a 15)] (m_PX D (m_tc cy) (m_WC a cy) (m_ZC a) X)) (m_QI D (m_WC a cy) (m_AC a) r0 X0) 0 0 (m_AC a) := by
  refine m_met (own := RX4) hy_X4_takeFirst rfl (Nat.le_of_ble_eq_true rfl) (m_wl_D hG _) m_ZC_keep ?_
  intro p e s m args below meth c C ls hl hP hS
  have hx := C.1.1
  have hb := C.1.2.1
  have hl : lv_has ls 2 [(0, .ref (a 15))] := hl
  unfold f_X4_takeFirst at hf0
  suffices K : ∀ (H : Heap) (locs : List Loc), va_P D vwCl (m_WC a cy X) H → va_S (m_AC a) s.heap H locs → W p l e rm_X4_takeFirst s m args below meth c H locs 0 0 (MQ below (m_QI D (m_WC a cy) (m_AC a) r0 X0) args s 0 0 (m_AC a)) (F0 m 0 ls []) from K _ _ hP hS
  clear hP hS
  intro H locs hP hS
  refine lv_aload_n hx hb dX4_takeFirst_0 rfl (lv_at hl 0 rfl) ?_
  refine m_get C hP mC_15 rfl inX4 1 (by decide) wf_X4_23 rfl dX4_takeFirst_1 ?_
  refine lv_aload_n hx hb dX4_takeFirst_4 rfl (lv_at hl 0 rfl) ?_
  refine m_get C hP mC_15 rfl inX4 2 (by decide) wf_X4_27 rfl dX4_takeFirst_5 ?_
  refine lv_icmp_lt (tgt := 14) hx hb dX4_takeFirst_8 (by decide) (fun c_1 => ?_) (fun c_1 => ?_)
  · have hf2 := m_it c_1 hf0
    clear hf0
    refine lv_aload_n hx hb dX4_takeFirst_14 rfl (lv_at hl 0 rfl) ?_
    refine m_get C hP mC_15 rfl inX4 0 (by decide) wf_X4_13 rfl dX4_takeFirst_15 ?_
    refine lv_aload_n hx hb dX4_takeFirst_18 rfl (lv_at hl 0 rfl) ?_
    refine m_get C hP mC_15 rfl inX4 1 (by decide) wf_X4_23 rfl dX4_takeFirst_19 ?_
    obtain ⟨g_4, hf5⟩ := m_gd_s hf2
    clear hf2
    refine m_ild C hP mC_16 0 rfl g_4 dX4_takeFirst_22 (fun y_4 e_4 => ?_)
    have hf6 := m_nm_s e_4 hf5
    clear hf5
    refine lv_istore_n (lv' := [(1, .int y_4), (0, .ref (a 15))]) hx hb dX4_takeFirst_23 rfl hl (by decide) rfl (fun ls hl => ?_)
    refine lv_aload_n hx hb dX4_takeFirst_24 rfl (lv_at hl 1 rfl) ?_
    refine lv_dup hx hb dX4_takeFirst_25 rfl ?_
    refine m_get C hP mC_15 rfl inX4 1 (by decide) wf_X4_23 rfl dX4_takeFirst_26 ?_
    refine lv_iconst (v := 1) hx hb dX4_takeFirst_29 (by decide) ?_
    refine lv_iadd hx hb dX4_takeFirst_30 ?_
    refine lv_topi (fun y_7 e_7 => ?_)
    have hf8 := m_nm_s e_7 hf6
    clear hf6
    refine m_put C hP hS mC_15 rfl inX4 tyX4_ok nmX4 1 (by decide) wf_X4_23 rfl rfl rfl (Nat.le_of_ble_eq_true rfl) mC_15_1 dX4_takeFirst_31 (fun X_9 e_9 H locs hP hS => ?_)
    have hf10 := m_nm_s e_9 hf8
    clear hf8
    refine lv_iload_n hx hb dX4_takeFirst_34 rfl (lv_at hl 0 rfl) ?_
    exact m_iret C hP hS dX4_takeFirst_35 hf10
  · have hf3 := m_ie c_1 hf0
    clear hf0
    refine lv_bipush (v := (-5)) hx hb dX4_takeFirst_11 (by decide) ?_
    exact m_iret C hP hS dX4_takeFirst_13 hf3
abbrev rm_X4_at : Room := { frames := 1, cells := 0, slots := 0, locals := 20 }
def f_X4_at (N : Nat) (v1 : Int32) (X : XT) : Option (Int32 × XT) := if v1 < 0 then (some ((-5), X)) else (m_bi (f_X4_size N X) fun r_4 X_4 => if r_4 ≤ v1 then (some ((-5), X_4)) else (m_nm ((X_4 15 1) + v1) fun y_9 => m_gd (m_in y_9 150) <| m_nm (X_4 16 (Int32.toNatClampNeg y_9)) fun y_11 => some (y_11, X_4)))
set_option maxHeartbeats 4000000 in
set_option maxRecDepth 100000 in
theorem c_X4_at (l : Launch) (D : va_G) (a : Nat → Nat) (cy : Nat → ClassId) (hG : m_inj 138 a) (N : Nat) (v1 : Int32) (X : XT) {r0 : Int32} {X0 : XT} (hf0 : f_X4_at N v1 X = some (r0, X0)) : Met l yX4_at (Cond.code yX4_at cX4_at 2 (some .int) :: m_tbl) rm_X4_at (va_Pc [.ref (a 15), .int v1] (m_PX D (m_tc cy) (m_WC a cy) (m_ZC a) X)) (m_QI D (m_WC a cy) (m_AC a) r0 X0) 0 0 (m_AC a) := by
  refine m_met (own := RX4) hy_X4_at rfl (Nat.le_of_ble_eq_true rfl) (m_wl_D hG _) m_ZC_keep ?_
  intro p e s m args below meth c C ls hl hP hS
  have hx := C.1.1
  have hb := C.1.2.1
  have hl : lv_has ls 2 [(0, .ref (a 15)), (1, .int v1)] := hl
  unfold f_X4_at at hf0
  suffices K : ∀ (H : Heap) (locs : List Loc), va_P D vwCl (m_WC a cy X) H → va_S (m_AC a) s.heap H locs → W p l e rm_X4_at s m args below meth c H locs 0 0 (MQ below (m_QI D (m_WC a cy) (m_AC a) r0 X0) args s 0 0 (m_AC a)) (F0 m 0 ls []) from K _ _ hP hS
  clear hP hS
  intro H locs hP hS
  refine lv_iload_n hx hb dX4_at_0 rfl (lv_at hl 1 rfl) ?_
  refine lv_if_lt (tgt := 26) hx hb dX4_at_1 (by decide) (fun c_1 => ?_) (fun c_1 => ?_)
  · have hf2 := m_it c_1 hf0
    clear hf0
    refine lv_bipush (v := (-5)) hx hb dX4_at_26 (by decide) ?_
    exact m_iret C hP hS dX4_at_28 hf2
  · have hf3 := m_ie c_1 hf0
    clear hf0
    refine lv_iload_n hx hb dX4_at_4 rfl (lv_at hl 1 rfl) ?_
    refine lv_aload_n hx hb dX4_at_5 rfl (lv_at hl 0 rfl) ?_
    obtain ⟨r_4, X_4, h_4, hf5⟩ := m_bi_s hf3
    clear hf3
    refine m_callVi (q := (RX4, TX4, 3)) C [] [.int v1] (c_X4_size l D a cy hG N _ h_4) (m_goodV wl_X4_30 wi_X4_size ws_X4_size wn_X4 wc_X4_size) ⟨rfl, rfl⟩ hv_X4_size ⟨Nat.le_of_ble_eq_true rfl, Nat.le_of_ble_eq_true rfl⟩ rfl mC_15 hP hS rfl hl.1 rfl (Nat.le_of_ble_eq_true rfl) dX4_at_6 (fun H locs hP hS => ?_)
    refine lv_icmp_ge (tgt := 26) hx hb dX4_at_9 (by decide) (fun c_6 => ?_) (fun c_6 => ?_)
    · have hf7 := m_it c_6 hf5
      clear hf5
      refine lv_bipush (v := (-5)) hx hb dX4_at_26 (by decide) ?_
      exact m_iret C hP hS dX4_at_28 hf7
    · have hf8 := m_ie c_6 hf5
      clear hf5
      refine lv_aload_n hx hb dX4_at_12 rfl (lv_at hl 0 rfl) ?_
      refine m_get C hP mC_15 rfl inX4 0 (by decide) wf_X4_13 rfl dX4_at_13 ?_
      refine lv_aload_n hx hb dX4_at_16 rfl (lv_at hl 0 rfl) ?_
      refine m_get C hP mC_15 rfl inX4 1 (by decide) wf_X4_23 rfl dX4_at_17 ?_
      refine lv_iload_n hx hb dX4_at_20 rfl (lv_at hl 1 rfl) ?_
      refine lv_iadd hx hb dX4_at_21 ?_
      refine lv_topi (fun y_9 e_9 => ?_)
      have hf10 := m_nm_s e_9 hf8
      clear hf8
      obtain ⟨g_11, hf12⟩ := m_gd_s hf10
      clear hf10
      refine m_ild C hP mC_16 0 rfl g_11 dX4_at_22 (fun y_11 e_11 => ?_)
      have hf13 := m_nm_s e_11 hf12
      clear hf12
      refine lv_goto (tgt := 28) hx hb dX4_at_23 (by decide) ?_
      exact m_iret C hP hS dX4_at_28 hf13
abbrev rm_X6_copyFrom : Room := { frames := 1, cells := 0, slots := 0, locals := 40 }
def f_X6_copyFrom (N : Nat) (k1 : Nat) (k2 : Nat) (X : XT) : Option XT := m_nm (m_up X (21 * k1 + 18) (va_cpy (X (21 * k2 + 18)) (X (21 * k1 + 18)) 0 0 4)) fun X_1 => some X_1
set_option maxHeartbeats 4000000 in
set_option maxRecDepth 100000 in
theorem c_X6_copyFrom (l : Launch) (D : va_G) (a : Nat → Nat) (cy : Nat → ClassId) (hG : m_inj 138 a) (N : Nat) (k1 : Nat) (k2 : Nat) (hk1 : k1 < 6) (hk2 : k2 < 6) (X : XT) {X0 : XT} (hf0 : f_X6_copyFrom N k1 k2 X = some X0) : Met l yX6_copyFrom (Cond.code yX6_copyFrom cX6_copyFrom 2 none :: m_tbl) rm_X6_copyFrom (va_Pc [.ref (a (21 * k1 + 17)), .ref (a (21 * k2 + 17))] (m_PX D (m_tc cy) (m_WC a cy) (m_ZC a) X)) (m_QV D (m_WC a cy) (m_AC a) X0) 0 0 (m_AC a) := by
  refine m_met (own := RX6) hy_X6_copyFrom rfl (Nat.le_of_ble_eq_true rfl) (m_wl_D hG _) m_ZC_keep ?_
  intro p e s m args below meth c C ls hl hP hS
  have hx := C.1.1
  have hb := C.1.2.1
  have hl : lv_has ls 2 [(0, .ref (a (21 * k1 + 17))), (1, .ref (a (21 * k2 + 17)))] := hl
  unfold f_X6_copyFrom at hf0
  suffices K : ∀ (H : Heap) (locs : List Loc), va_P D vwCl (m_WC a cy X) H → va_S (m_AC a) s.heap H locs → W p l e rm_X6_copyFrom s m args below meth c H locs 0 0 (MQ below (m_QV D (m_WC a cy) (m_AC a) X0) args s 0 0 (m_AC a)) (F0 m 0 ls []) from K _ _ hP hS
  clear hP hS
  intro H locs hP hS
  refine lv_aload_n hx hb dX6_copyFrom_0 rfl (lv_at hl 1 rfl) ?_
  refine m_get C hP (mK_17 hk2) rfl inX6 0 (by decide) wf_X6_11 rfl dX6_copyFrom_1 ?_
  refine lv_iconst (v := 0) hx hb dX6_copyFrom_4 (by decide) ?_
  refine lv_aload_n hx hb dX6_copyFrom_5 rfl (lv_at hl 0 rfl) ?_
  refine m_get C hP (mK_17 hk1) rfl inX6 0 (by decide) wf_X6_11 rfl dX6_copyFrom_6 ?_
  refine lv_iconst (v := 0) hx hb dX6_copyFrom_9 (by decide) ?_
  refine lv_iconst (v := 4) hx hb dX6_copyFrom_10 (by decide) ?_
  refine m_copy C hP hS hl.1 (mK_18 hk2) (mK_18 hk1) 0 0 rfl rfl rfl wl_X6_18 wnat_arraycopyName wst_arraycopyName wn_java_lang_System (nn := 4) rfl (by decide) (Nat.le_of_ble_eq_true rfl) (Nat.le_of_ble_eq_true rfl) (fun _ _ => rfl) (Nat.le_of_ble_eq_true rfl) (Nat.le_of_ble_eq_true rfl) (mKs_18 hk1) dX6_copyFrom_11 (fun X_1 e_1 H locs hP hS => ?_)
  have hf2 := m_nm_s e_1 hf0
  clear hf0
  exact m_vret C hP hS dX6_copyFrom_14 hf2
abbrev rm_X6_valueOf : Room := { frames := 0, cells := 0, slots := 0, locals := 0 }
def f_X6_valueOf (N : Nat) (v1 : Int32) (X : XT) : Option (Int32 × XT) := if v1 < 0 then (some ((-5), X)) else (if 4 ≤ v1 then (some ((-5), X)) else (m_gd (m_in v1 4) <| m_nm (X 18 (Int32.toNatClampNeg v1)) fun y_7 => some (y_7, X)))
set_option maxHeartbeats 4000000 in
set_option maxRecDepth 100000 in
theorem c_X6_valueOf (l : Launch) (D : va_G) (a : Nat → Nat) (cy : Nat → ClassId) (hG : m_inj 138 a) (N : Nat) (v1 : Int32) (X : XT) {r0 : Int32} {X0 : XT} (hf0 : f_X6_valueOf N v1 X = some (r0, X0)) : Met l yX6_valueOf (Cond.code yX6_valueOf cX6_valueOf 2 (some .int) :: m_tbl) rm_X6_valueOf (va_Pc [.ref (a 17), .int v1] (m_PX D (m_tc cy) (m_WC a cy) (m_ZC a) X)) (m_QI D (m_WC a cy) (m_AC a) r0 X0) 0 0 (m_AC a) := by
  refine m_met (own := RX6) hy_X6_valueOf rfl (Nat.le_of_ble_eq_true rfl) (m_wl_D hG _) m_ZC_keep ?_
  intro p e s m args below meth c C ls hl hP hS
  have hx := C.1.1
  have hb := C.1.2.1
  have hl : lv_has ls 2 [(0, .ref (a 17)), (1, .int v1)] := hl
  unfold f_X6_valueOf at hf0
  suffices K : ∀ (H : Heap) (locs : List Loc), va_P D vwCl (m_WC a cy X) H → va_S (m_AC a) s.heap H locs → W p l e rm_X6_valueOf s m args below meth c H locs 0 0 (MQ below (m_QI D (m_WC a cy) (m_AC a) r0 X0) args s 0 0 (m_AC a)) (F0 m 0 ls []) from K _ _ hP hS
  clear hP hS
  intro H locs hP hS
  refine lv_iload_n hx hb dX6_valueOf_0 rfl (lv_at hl 1 rfl) ?_
  refine lv_if_lt (tgt := 18) hx hb dX6_valueOf_1 (by decide) (fun c_1 => ?_) (fun c_1 => ?_)
  · have hf2 := m_it c_1 hf0
    clear hf0
    refine lv_bipush (v := (-5)) hx hb dX6_valueOf_18 (by decide) ?_
    exact m_iret C hP hS dX6_valueOf_20 hf2
  · have hf3 := m_ie c_1 hf0
    clear hf0
    refine lv_iload_n hx hb dX6_valueOf_4 rfl (lv_at hl 1 rfl) ?_
    refine lv_iconst (v := 4) hx hb dX6_valueOf_5 (by decide) ?_
    refine lv_icmp_ge (tgt := 18) hx hb dX6_valueOf_6 (by decide) (fun c_4 => ?_) (fun c_4 => ?_)
    · have hf5 := m_it c_4 hf3
      clear hf3
      refine lv_bipush (v := (-5)) hx hb dX6_valueOf_18 (by decide) ?_
      exact m_iret C hP hS dX6_valueOf_20 hf5
    · have hf6 := m_ie c_4 hf3
      clear hf3
      refine lv_aload_n hx hb dX6_valueOf_9 rfl (lv_at hl 0 rfl) ?_
      refine m_get C hP mC_17 rfl inX6 0 (by decide) wf_X6_11 rfl dX6_valueOf_10 ?_
      refine lv_iload_n hx hb dX6_valueOf_13 rfl (lv_at hl 1 rfl) ?_
      obtain ⟨g_7, hf8⟩ := m_gd_s hf6
      clear hf6
      refine m_ild C hP mC_18 0 rfl g_7 dX6_valueOf_14 (fun y_7 e_7 => ?_)
      have hf9 := m_nm_s e_7 hf8
      clear hf8
      refine lv_goto (tgt := 20) hx hb dX6_valueOf_15 (by decide) ?_
      exact m_iret C hP hS dX6_valueOf_20 hf9
abbrev rm_X6_refusal : Room := { frames := 0, cells := 0, slots := 0, locals := 0 }
def f_X6_refusal (N : Nat) (v0 : Int32) (v1 : Int32) (X : XT) : Option (Int32 × XT) := if v0 < 0 then (some ((-1), X)) else (if v0 < 4 then (m_gd (m_in v0 4) <| m_nm (m_least (Int32.toNatClampNeg v0)) fun y_7 => if v1 < y_7 then (some ((-2), X)) else (m_gd (m_in v0 4) <| m_nm (m_greatest (Int32.toNatClampNeg v0)) fun y_13 => if v1 ≤ y_13 then (some (0, X)) else (some ((-2), X)))) else (some ((-1), X)))
set_option maxHeartbeats 4000000 in
set_option maxRecDepth 100000 in
theorem c_X6_refusal (l : Launch) (D : va_G) (a : Nat → Nat) (cy : Nat → ClassId) (hG : m_inj 138 a) (N : Nat) (v0 : Int32) (v1 : Int32) (X : XT) {r0 : Int32} {X0 : XT} (hf0 : f_X6_refusal N v0 v1 X = some (r0, X0)) : Met l yX6_refusal (Cond.code yX6_refusal cX6_refusal 2 (some .int) :: m_tbl) rm_X6_refusal (va_Pc [.int v0, .int v1] (m_PX D (m_tc cy) (m_WC a cy) (m_ZC a) X)) (m_QI D (m_WC a cy) (m_AC a) r0 X0) 0 0 (m_AC a) := by
  refine m_met (own := RX6) hy_X6_refusal rfl (Nat.le_of_ble_eq_true rfl) (m_wl_D hG _) m_ZC_keep ?_
  intro p e s m args below meth c C ls hl hP hS
  have hx := C.1.1
  have hb := C.1.2.1
  have hl : lv_has ls 2 [(0, .int v0), (1, .int v1)] := hl
  unfold f_X6_refusal at hf0
  suffices K : ∀ (H : Heap) (locs : List Loc), va_P D vwCl (m_WC a cy X) H → va_S (m_AC a) s.heap H locs → W p l e rm_X6_refusal s m args below meth c H locs 0 0 (MQ below (m_QI D (m_WC a cy) (m_AC a) r0 X0) args s 0 0 (m_AC a)) (F0 m 0 ls []) from K _ _ hP hS
  clear hP hS
  intro H locs hP hS
  refine lv_iload_n hx hb dX6_refusal_0 rfl (lv_at hl 0 rfl) ?_
  refine lv_if_lt (tgt := 9) hx hb dX6_refusal_1 (by decide) (fun c_1 => ?_) (fun c_1 => ?_)
  · have hf2 := m_it c_1 hf0
    clear hf0
    refine lv_iconst (v := (-1)) hx hb dX6_refusal_9 (by decide) ?_
    exact m_iret C hP hS dX6_refusal_10 hf2
  · have hf3 := m_ie c_1 hf0
    clear hf0
    refine lv_iload_n hx hb dX6_refusal_4 rfl (lv_at hl 0 rfl) ?_
    refine lv_iconst (v := 4) hx hb dX6_refusal_5 (by decide) ?_
    refine lv_icmp_lt (tgt := 11) hx hb dX6_refusal_6 (by decide) (fun c_4 => ?_) (fun c_4 => ?_)
    · have hf5 := m_it c_4 hf3
      clear hf3
      refine lv_iload_n hx hb dX6_refusal_11 rfl (lv_at hl 1 rfl) ?_
      obtain ⟨t_LEAST, z_LEAST, u_LEAST⟩ := C.2.2.2.2.2.1.1
      refine m_gets C hS z_LEAST wf_X6_24 dX6_refusal_12 ?_
      refine lv_iload_n hx hb dX6_refusal_15 rfl (lv_at hl 0 rfl) ?_
      obtain ⟨g_7, hf8⟩ := m_gd_s hf5
      clear hf5
      refine m_tld C hS u_LEAST g_7 dX6_refusal_16 (fun y_7 e_7 => ?_)
      have hf9 := m_nm_s e_7 hf8
      clear hf8
      refine lv_icmp_lt (tgt := 29) hx hb dX6_refusal_17 (by decide) (fun c_10 => ?_) (fun c_10 => ?_)
      · have hf11 := m_it c_10 hf9
        clear hf9
        refine lv_bipush (v := (-2)) hx hb dX6_refusal_29 (by decide) ?_
        refine lv_goto (tgt := 35) hx hb dX6_refusal_31 (by decide) ?_
        exact m_iret C hP hS dX6_refusal_35 hf11
      · have hf12 := m_ie c_10 hf9
        clear hf9
        refine lv_iload_n hx hb dX6_refusal_20 rfl (lv_at hl 1 rfl) ?_
        obtain ⟨t_GREATEST, z_GREATEST, u_GREATEST⟩ := C.2.2.2.2.2.1.2
        refine m_gets C hS z_GREATEST wf_X6_27 dX6_refusal_21 ?_
        refine lv_iload_n hx hb dX6_refusal_24 rfl (lv_at hl 0 rfl) ?_
        obtain ⟨g_13, hf14⟩ := m_gd_s hf12
        clear hf12
        refine m_tld C hS u_GREATEST g_13 dX6_refusal_25 (fun y_13 e_13 => ?_)
        have hf15 := m_nm_s e_13 hf14
        clear hf14
        refine lv_icmp_le (tgt := 34) hx hb dX6_refusal_26 (by decide) (fun c_16 => ?_) (fun c_16 => ?_)
        · have hf17 := m_it c_16 hf15
          clear hf15
          refine lv_iconst (v := 0) hx hb dX6_refusal_34 (by decide) ?_
          exact m_iret C hP hS dX6_refusal_35 hf17
        · have hf18 := m_ie c_16 hf15
          clear hf15
          refine lv_bipush (v := (-2)) hx hb dX6_refusal_29 (by decide) ?_
          refine lv_goto (tgt := 35) hx hb dX6_refusal_31 (by decide) ?_
          exact m_iret C hP hS dX6_refusal_35 hf18
    · have hf6 := m_ie c_4 hf3
      clear hf3
      refine lv_iconst (v := (-1)) hx hb dX6_refusal_9 (by decide) ?_
      exact m_iret C hP hS dX6_refusal_10 hf6
abbrev rm_X6_change : Room := { frames := 1, cells := 0, slots := 0, locals := 21 }
def f_X6_change (N : Nat) (v1 : Int32) (v2 : Int32) (X : XT) : Option (Int32 × XT) := m_bi (f_X6_valueOf N v1 X) fun r_1 X_1 => if v1 < 0 then (some (r_1, X_1)) else (if 4 ≤ v1 then (some (r_1, X_1)) else (m_gd (m_in v1 4) <| m_nm (m_up X_1 18 (upd (X_1 18) (Int32.toNatClampNeg v1) v2)) fun X_9 => some (r_1, X_9)))
set_option maxHeartbeats 4000000 in
set_option maxRecDepth 100000 in
theorem c_X6_change (l : Launch) (D : va_G) (a : Nat → Nat) (cy : Nat → ClassId) (hG : m_inj 138 a) (N : Nat) (v1 : Int32) (v2 : Int32) (X : XT) {r0 : Int32} {X0 : XT} (hf0 : f_X6_change N v1 v2 X = some (r0, X0)) : Met l yX6_change (Cond.code yX6_change cX6_change 4 (some .int) :: m_tbl) rm_X6_change (va_Pc [.ref (a 17), .int v1, .int v2] (m_PX D (m_tc cy) (m_WC a cy) (m_ZC a) X)) (m_QI D (m_WC a cy) (m_AC a) r0 X0) 0 0 (m_AC a) := by
  refine m_met (own := RX6) hy_X6_change rfl (Nat.le_of_ble_eq_true rfl) (m_wl_D hG _) m_ZC_keep ?_
  intro p e s m args below meth c C ls hl hP hS
  have hx := C.1.1
  have hb := C.1.2.1
  have hl : lv_has ls 4 [(0, .ref (a 17)), (1, .int v1), (2, .int v2)] := hl
  unfold f_X6_change at hf0
  suffices K : ∀ (H : Heap) (locs : List Loc), va_P D vwCl (m_WC a cy X) H → va_S (m_AC a) s.heap H locs → W p l e rm_X6_change s m args below meth c H locs 0 0 (MQ below (m_QI D (m_WC a cy) (m_AC a) r0 X0) args s 0 0 (m_AC a)) (F0 m 0 ls []) from K _ _ hP hS
  clear hP hS
  intro H locs hP hS
  refine lv_aload_n hx hb dX6_change_0 rfl (lv_at hl 0 rfl) ?_
  refine lv_iload_n hx hb dX6_change_1 rfl (lv_at hl 1 rfl) ?_
  obtain ⟨r_1, X_1, h_1, hf2⟩ := m_bi_s hf0
  clear hf0
  refine m_callVi (q := (RX6, TX6, 1)) C [.int v1] [] (c_X6_valueOf l D a cy hG N _ _ h_1) (m_goodV wl_X6_30 wi_X6_valueOf ws_X6_valueOf wn_X6 wc_X6_valueOf) ⟨rfl, rfl⟩ hv_X6_valueOf ⟨Nat.le_of_ble_eq_true rfl, Nat.le_of_ble_eq_true rfl⟩ rfl mC_17 hP hS rfl hl.1 rfl (Nat.le_of_ble_eq_true rfl) dX6_change_2 (fun H locs hP hS => ?_)
  refine lv_istore_n (lv' := [(3, .int r_1), (0, .ref (a 17)), (1, .int v1), (2, .int v2)]) hx hb dX6_change_5 rfl hl (by decide) rfl (fun ls hl => ?_)
  refine lv_iload_n hx hb dX6_change_6 rfl (lv_at hl 2 rfl) ?_
  refine lv_if_lt (tgt := 22) hx hb dX6_change_7 (by decide) (fun c_3 => ?_) (fun c_3 => ?_)
  · have hf4 := m_it c_3 hf2
    clear hf2
    refine lv_iload_n hx hb dX6_change_22 rfl (lv_at hl 0 rfl) ?_
    exact m_iret C hP hS dX6_change_23 hf4
  · have hf5 := m_ie c_3 hf2
    clear hf2
    refine lv_iload_n hx hb dX6_change_10 rfl (lv_at hl 2 rfl) ?_
    refine lv_iconst (v := 4) hx hb dX6_change_11 (by decide) ?_
    refine lv_icmp_ge (tgt := 22) hx hb dX6_change_12 (by decide) (fun c_6 => ?_) (fun c_6 => ?_)
    · have hf7 := m_it c_6 hf5
      clear hf5
      refine lv_iload_n hx hb dX6_change_22 rfl (lv_at hl 0 rfl) ?_
      exact m_iret C hP hS dX6_change_23 hf7
    · have hf8 := m_ie c_6 hf5
      clear hf5
      refine lv_aload_n hx hb dX6_change_15 rfl (lv_at hl 1 rfl) ?_
      refine m_get C hP mC_17 rfl inX6 0 (by decide) wf_X6_11 rfl dX6_change_16 ?_
      refine lv_iload_n hx hb dX6_change_19 rfl (lv_at hl 2 rfl) ?_
      refine lv_iload_n hx hb dX6_change_20 rfl (lv_at hl 3 rfl) ?_
      obtain ⟨g_9, hf10⟩ := m_gd_s hf8
      clear hf8
      refine m_ist C hP hS mC_18 0 rfl g_9 mCs_18 dX6_change_21 (fun X_9 e_9 H locs hP hS => ?_)
      have hf11 := m_nm_s e_9 hf10
      clear hf10
      refine lv_iload_n hx hb dX6_change_22 rfl (lv_at hl 0 rfl) ?_
      exact m_iret C hP hS dX6_change_23 hf11
