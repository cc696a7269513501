-- written by wip/gen/gen.py
abbrev rm_X2_stateAt : Room := { frames := 0, cells := 0, slots := 0, locals := 0 }
def f_X2_stateAt (N : Nat) (v1 : Int32) (X : XT) : Option (Nat × XT) := m_nm ((X 127 1) + v1) fun y_1 => m_nm (y_1 - y_1 / 4 * 4) fun y_3 => if y_3 < 0 then (none) else (if 4 ≤ y_3 then (none) else (m_gd (m_in y_3 4) <| m_gd ((2 + Int32.toNatClampNeg y_3) < 6) <| some ((2 + Int32.toNatClampNeg y_3), X)))
set_option maxHeartbeats 4000000 in
set_option maxRecDepth 100000 in
theorem c_X2_stateAt (l : Launch) (D : va_G) (a : Nat → Nat) (cy : Nat → ClassId) (hG : m_inj 138 a) (N : Nat) (v1 : Int32) (X : XT) {r0 : Nat} {X0 : XT} (hf0 : f_X2_stateAt N v1 X = some (r0, X0)) : Met l yX2_stateAt (Cond.code yX2_stateAt cX2_stateAt 3 (some (.object "GroupCommits$Log")) :: m_tbl) rm_X2_stateAt (va_Pc [.ref (a 127), .int v1] (m_PX D (m_tc cy) (m_WC a cy) (m_ZC a) X)) (m_QR D (m_WC a cy) (m_AC a) (a (21 * r0 + 0)) X0) 0 0 (m_AC a) := by
  refine m_met (own := RX2) hy_X2_stateAt rfl (Nat.le_of_ble_eq_true rfl) (m_wl_D hG _) m_ZC_keep ?_
  intro p e s m args below meth c C ls hl hP hS
  have hx := C.1.1
  have hb := C.1.2.1
  have hl : lv_has ls 3 [(0, .ref (a 127)), (1, .int v1)] := hl
  unfold f_X2_stateAt at hf0
  suffices K : ∀ (H : Heap) (locs : List Loc), va_P D vwCl (m_WC a cy X) H → va_S (m_AC a) s.heap H locs → W p l e rm_X2_stateAt s m args below meth c H locs 0 0 (MQ below (m_QR D (m_WC a cy) (m_AC a) (a (21 * r0 + 0)) X0) args s 0 0 (m_AC a)) (F0 m 0 ls []) from K _ _ hP hS
  clear hP hS
  intro H locs hP hS
  refine lv_aload_n hx hb dX2_stateAt_0 rfl (lv_at hl 0 rfl) ?_
  refine m_get C hP mC_127 rfl inX2 1 (by decide) wf_X2_22 rfl dX2_stateAt_1 ?_
  refine lv_iload_n hx hb dX2_stateAt_4 rfl (lv_at hl 1 rfl) ?_
  refine lv_iadd hx hb dX2_stateAt_5 ?_
  refine lv_topi (fun y_1 e_1 => ?_)
  have hf2 := m_nm_s e_1 hf0
  clear hf0
  refine lv_iconst (v := 4) hx hb dX2_stateAt_6 (by decide) ?_
  refine lv_irem hx hb dX2_stateAt_7 (by decide) ?_
  refine lv_topi (fun y_3 e_3 => ?_)
  have hf4 := m_nm_s e_3 hf2
  clear hf2
  refine lv_istore_n (lv' := [(2, .int y_3), (0, .ref (a 127)), (1, .int v1)]) hx hb dX2_stateAt_8 rfl hl (by decide) rfl (fun ls hl => ?_)
  refine lv_iload_n hx hb dX2_stateAt_9 rfl (lv_at hl 0 rfl) ?_
  refine lv_if_lt (tgt := 27) hx hb dX2_stateAt_10 (by decide) (fun c_5 => ?_) (fun c_5 => ?_)
  · have hf6 := m_it c_5 hf4
    clear hf4
    cases hf6
  · have hf7 := m_ie c_5 hf4
    clear hf4
    refine lv_iload_n hx hb dX2_stateAt_13 rfl (lv_at hl 0 rfl) ?_
    refine lv_iconst (v := 4) hx hb dX2_stateAt_14 (by decide) ?_
    refine lv_icmp_ge (tgt := 27) hx hb dX2_stateAt_15 (by decide) (fun c_8 => ?_) (fun c_8 => ?_)
    · have hf9 := m_it c_8 hf7
      clear hf7
      cases hf9
    · have hf10 := m_ie c_8 hf7
      clear hf7
      refine lv_aload_n hx hb dX2_stateAt_18 rfl (lv_at hl 1 rfl) ?_
      refine m_get C hP mC_127 rfl inX2 0 (by decide) wf_X2_13 rfl dX2_stateAt_19 ?_
      refine lv_iload_n hx hb dX2_stateAt_22 rfl (lv_at hl 0 rfl) ?_
      obtain ⟨g_11, hf12⟩ := m_gd_s hf10
      clear hf10
      obtain ⟨k_11, hf13⟩ := m_gd_s hf12
      clear hf12
      refine m_ald C hP mC_128 3 rfl g_11 dX2_stateAt_23 rfl ?_
      refine lv_goto (tgt := 28) hx hb dX2_stateAt_24 (by decide) ?_
      exact m_aret C (show 21 * (2 + Int32.toNatClampNeg y_3) + 0 = 21 * (2 + Int32.toNatClampNeg y_3) + 0 from rfl) hP hS dX2_stateAt_28 hf13
abbrev rm_X2_push : Room := { frames := 3, cells := 0, slots := 0, locals := 82 }
def f_X2_push_30 (N : Nat) (X : XT) : Option XT := m_bk (f_X2_stateAt N (X 127 2) X) fun r_4 X_4 => m_gd (r_4 < 6) <| m_bv (f_X3_copyFrom N r_4 0 X_4) fun X_7 => m_nm ((X_7 127 2) + 1) fun y_9 => m_nm (m_up X_7 127 (upd (X_7 127) 2 y_9)) fun X_11 => some X_11
set_option maxHeartbeats 4000000 in
set_option maxRecDepth 100000 in
theorem w_X2_push_30 (l : Launch) (D : va_G) (a : Nat → Nat) (cy : Nat → ClassId) (hG : m_inj 138 a) (N : Nat) {p : Program} {e : Env} {s : State} {m : MethodId} {args : Array Value} {below : List Frame} {meth : Method} {c : Code} (C : m_Cx p s m args meth c cX2_push 3 RX2 none (Cond.code yX2_push cX2_push 3 none) D (m_tc cy) (m_AC a) (m_WC a cy) (m_ZC a)) {X0 : XT} (X : XT) (hf0 : f_X2_push_30 N X = some X0) : ∀ (H : Heap) (locs : List Loc) (ls : Array Slot), va_P D vwCl (m_WC a cy X) H → va_S (m_AC a) s.heap H locs → lv_has ls 3 [(0, .ref (a 127)), (1, .ref (a 0))] → W p l e rm_X2_push s m args below meth c H locs 0 0 (MQ below (m_QV D (m_WC a cy) (m_AC a) X0) args s 0 0 (m_AC a)) (F0 m 30 ls []) := by
  have hx := C.1.1
  have hb := C.1.2.1
  intro H locs ls hP hS hl
  unfold f_X2_push_30 at hf0
  refine lv_aload_n hx hb dX2_push_30 rfl (lv_at hl 0 rfl) ?_
  refine lv_aload_n hx hb dX2_push_31 rfl (lv_at hl 0 rfl) ?_
  refine m_get C hP mC_127 rfl inX2 2 (by decide) wf_X2_18 rfl dX2_push_32 ?_
  obtain ⟨r_4, X_4, h_4, hf5⟩ := m_bk_s hf0
  clear hf0
  refine m_callVr (q := (RX2, TX2, 3)) C [.int (X 127 2)] [] (c_X2_stateAt l D a cy hG N _ _ h_4) (m_goodV wl_X2_25 wi_X2_stateAt ws_X2_stateAt wn_X2 wc_X2_stateAt) ⟨rfl, rfl⟩ hv_X2_stateAt ⟨Nat.le_of_ble_eq_true rfl, Nat.le_of_ble_eq_true rfl⟩ rfl mC_127 hP hS rfl hl.1 rfl (Nat.le_of_ble_eq_true rfl) dX2_push_35 (fun H locs hP hS => ?_)
  obtain ⟨k_4, hf6⟩ := m_gd_s hf5
  clear hf5
  refine lv_astore_n (lv' := [(2, .ref (a (21 * r_4 + 0))), (0, .ref (a 127)), (1, .ref (a 0))]) hx hb dX2_push_38 rfl hl (by decide) rfl (fun ls hl => ?_)
  refine lv_aload_n hx hb dX2_push_39 rfl (lv_at hl 0 rfl) ?_
  refine lv_ifnull hx hb dX2_push_40 ?_
  refine lv_aload_n hx hb dX2_push_43 rfl (lv_at hl 0 rfl) ?_
  refine lv_aload_n hx hb dX2_push_44 rfl (lv_at hl 2 rfl) ?_
  obtain ⟨X_7, h_7, hf8⟩ := m_bv_s hf6
  clear hf6
  refine m_callVv (q := (RX3, TX3, 12)) C [.ref (a 0)] [] (c_X3_copyFrom l D a cy hG N r_4 0 k_4 (by decide) _ h_7) (m_goodV wl_X2_29 wi_X3_copyFrom ws_X3_copyFrom wn_X3 wc_X3_copyFrom) ⟨rfl, rfl⟩ hv_X3_copyFrom ⟨Nat.le_of_ble_eq_true rfl, Nat.le_of_ble_eq_true rfl⟩ rfl (mK_0 k_4) hP hS rfl hl.1 rfl (Nat.le_of_ble_eq_true rfl) dX2_push_45 (fun H locs hP hS => ?_)
  refine lv_aload_n hx hb dX2_push_48 rfl (lv_at hl 1 rfl) ?_
  refine lv_dup hx hb dX2_push_49 rfl ?_
  refine m_get C hP mC_127 rfl inX2 2 (by decide) wf_X2_18 rfl dX2_push_50 ?_
  refine lv_iconst (v := 1) hx hb dX2_push_53 (by decide) ?_
  refine lv_iadd hx hb dX2_push_54 ?_
  refine lv_topi (fun y_9 e_9 => ?_)
  have hf10 := m_nm_s e_9 hf8
  clear hf8
  refine m_put C hP hS mC_127 rfl inX2 tyX2_ok nmX2 2 (by decide) wf_X2_18 rfl rfl rfl (Nat.le_of_ble_eq_true rfl) mC_127_2 dX2_push_55 (fun X_11 e_11 H locs hP hS => ?_)
  have hf12 := m_nm_s e_11 hf10
  clear hf10
  exact m_vret C hP hS dX2_push_58 hf12
def f_X2_push (N : Nat) (X : XT) : Option XT := if (X 127 2) = 4 then (m_nm ((X 127 1) + 1) fun y_13 => m_nm (y_13 - y_13 / 4 * 4) fun y_15 => m_nm (m_up X 127 (upd (X 127) 1 y_15)) fun X_17 => m_nm ((X_17 127 2) - 1) fun y_19 => m_nm (m_up X_17 127 (upd (X_17 127) 2 y_19)) fun X_21 => f_X2_push_30 N  X_21) else (f_X2_push_30 N  X)
set_option maxHeartbeats 4000000 in
set_option maxRecDepth 100000 in
theorem c_X2_push (l : Launch) (D : va_G) (a : Nat → Nat) (cy : Nat → ClassId) (hG : m_inj 138 a) (N : Nat) (X : XT) {X0 : XT} (hf0 : f_X2_push N X = some X0) : Met l yX2_push (Cond.code yX2_push cX2_push 3 none :: m_tbl) rm_X2_push (va_Pc [.ref (a 127), .ref (a 0)] (m_PX D (m_tc cy) (m_WC a cy) (m_ZC a) X)) (m_QV D (m_WC a cy) (m_AC a) X0) 0 0 (m_AC a) := by
  refine m_met (own := RX2) hy_X2_push rfl (Nat.le_of_ble_eq_true rfl) (m_wl_D hG _) m_ZC_keep ?_
  intro p e s m args below meth c C ls hl hP hS
  have hx := C.1.1
  have hb := C.1.2.1
  have hl : lv_has ls 3 [(0, .ref (a 127)), (1, .ref (a 0))] := hl
  unfold f_X2_push at hf0
  suffices K : ∀ (H : Heap) (locs : List Loc), va_P D vwCl (m_WC a cy X) H → va_S (m_AC a) s.heap H locs → W p l e rm_X2_push s m args below meth c H locs 0 0 (MQ below (m_QV D (m_WC a cy) (m_AC a) X0) args s 0 0 (m_AC a)) (F0 m 0 ls []) from K _ _ hP hS
  clear hP hS
  intro H locs hP hS
  refine lv_aload_n hx hb dX2_push_0 rfl (lv_at hl 0 rfl) ?_
  refine m_get C hP mC_127 rfl inX2 2 (by decide) wf_X2_18 rfl dX2_push_1 ?_
  refine lv_iconst (v := 4) hx hb dX2_push_4 (by decide) ?_
  refine lv_icmp_ne (tgt := 30) hx hb dX2_push_5 (by decide) (fun c_1 => ?_) (fun c_1 => ?_)
  · have hf2 := m_ie c_1 hf0
    clear hf0
    exact w_X2_push_30 l D a cy hG N C  _ hf2 H locs ls hP hS (lv_sub hl [0, 1] rfl)
  · have hf3 := m_it c_1 hf0
    clear hf0
    refine lv_aload_n hx hb dX2_push_8 rfl (lv_at hl 0 rfl) ?_
    refine lv_aload_n hx hb dX2_push_9 rfl (lv_at hl 0 rfl) ?_
    refine m_get C hP mC_127 rfl inX2 1 (by decide) wf_X2_22 rfl dX2_push_10 ?_
    refine lv_iconst (v := 1) hx hb dX2_push_13 (by decide) ?_
    refine lv_iadd hx hb dX2_push_14 ?_
    refine lv_topi (fun y_13 e_13 => ?_)
    have hf14 := m_nm_s e_13 hf3
    clear hf3
    refine lv_iconst (v := 4) hx hb dX2_push_15 (by decide) ?_
    refine lv_irem hx hb dX2_push_16 (by decide) ?_
    refine lv_topi (fun y_15 e_15 => ?_)
    have hf16 := m_nm_s e_15 hf14
    clear hf14
    refine m_put C hP hS mC_127 rfl inX2 tyX2_ok nmX2 1 (by decide) wf_X2_22 rfl rfl rfl (Nat.le_of_ble_eq_true rfl) mC_127_1 dX2_push_17 (fun X_17 e_17 H locs hP hS => ?_)
    have hf18 := m_nm_s e_17 hf16
    clear hf16
    refine lv_aload_n hx hb dX2_push_20 rfl (lv_at hl 0 rfl) ?_
    refine lv_dup hx hb dX2_push_21 rfl ?_
    refine m_get C hP mC_127 rfl inX2 2 (by decide) wf_X2_18 rfl dX2_push_22 ?_
    refine lv_iconst (v := 1) hx hb dX2_push_25 (by decide) ?_
    refine lv_isub hx hb dX2_push_26 ?_
    refine lv_topi (fun y_19 e_19 => ?_)
    have hf20 := m_nm_s e_19 hf18
    clear hf18
    refine m_put C hP hS mC_127 rfl inX2 tyX2_ok nmX2 2 (by decide) wf_X2_18 rfl rfl rfl (Nat.le_of_ble_eq_true rfl) mC_127_2 dX2_push_27 (fun X_21 e_21 H locs hP hS => ?_)
    have hf22 := m_nm_s e_21 hf20
    clear hf20
    exact w_X2_push_30 l D a cy hG N C  _ hf22 H locs ls hP hS (lv_sub hl [0, 1] rfl)
abbrev rm_X2_popInto : Room := { frames := 3, cells := 0, slots := 0, locals := 82 }
def f_X2_popInto (N : Nat) (X : XT) : Option (Int32 × XT) := if (X 127 2) = 0 then (some ((-5), X)) else (m_nm ((X 127 2) - 1) fun y_4 => m_nm (m_up X 127 (upd (X 127) 2 y_4)) fun X_6 => m_bk (f_X2_stateAt N (X_6 127 2) X_6) fun r_8 X_8 => m_gd (r_8 < 6) <| m_bv (f_X3_copyFrom N 0 r_8 X_8) fun X_11 => some ((X_11 127 2), X_11))
set_option maxHeartbeats 4000000 in
set_option maxRecDepth 100000 in
theorem c_X2_popInto (l : Launch) (D : va_G) (a : Nat → Nat) (cy : Nat → ClassId) (hG : m_inj 138 a) (N : Nat) (X : XT) {r0 : Int32} {X0 : XT} (hf0 : f_X2_popInto N X = some (r0, X0)) : Met l yX2_popInto (Cond.code yX2_popInto cX2_popInto 3 (some .int) :: m_tbl) rm_X2_popInto (va_Pc [.ref (a 127), .ref (a 0)] (m_PX D (m_tc cy) (m_WC a cy) (m_ZC a) X)) (m_QI D (m_WC a cy) (m_AC a) r0 X0) 0 0 (m_AC a) := by
  refine m_met (own := RX2) hy_X2_popInto rfl (Nat.le_of_ble_eq_true rfl) (m_wl_D hG _) m_ZC_keep ?_
  intro p e s m args below meth c C ls hl hP hS
  have hx := C.1.1
  have hb := C.1.2.1
  have hl : lv_has ls 3 [(0, .ref (a 127)), (1, .ref (a 0))] := hl
  unfold f_X2_popInto at hf0
  suffices K : ∀ (H : Heap) (locs : List Loc), va_P D vwCl (m_WC a cy X) H → va_S (m_AC a) s.heap H locs → W p l e rm_X2_popInto s m args below meth c H locs 0 0 (MQ below (m_QI D (m_WC a cy) (m_AC a) r0 X0) args s 0 0 (m_AC a)) (F0 m 0 ls []) from K _ _ hP hS
  clear hP hS
  intro H locs hP hS
  refine lv_aload_n hx hb dX2_popInto_0 rfl (lv_at hl 0 rfl) ?_
  refine m_get C hP mC_127 rfl inX2 2 (by decide) wf_X2_18 rfl dX2_popInto_1 ?_
  refine lv_if_ne (tgt := 10) hx hb dX2_popInto_4 (by decide) (fun c_1 => ?_) (fun c_1 => ?_)
  · have hf2 := m_ie c_1 hf0
    clear hf0
    refine lv_aload_n hx hb dX2_popInto_10 rfl (lv_at hl 0 rfl) ?_
    refine lv_dup hx hb dX2_popInto_11 rfl ?_
    refine m_get C hP mC_127 rfl inX2 2 (by decide) wf_X2_18 rfl dX2_popInto_12 ?_
    refine lv_iconst (v := 1) hx hb dX2_popInto_15 (by decide) ?_
    refine lv_isub hx hb dX2_popInto_16 ?_
    refine lv_topi (fun y_4 e_4 => ?_)
    have hf5 := m_nm_s e_4 hf2
    clear hf2
    refine m_put C hP hS mC_127 rfl inX2 tyX2_ok nmX2 2 (by decide) wf_X2_18 rfl rfl rfl (Nat.le_of_ble_eq_true rfl) mC_127_2 dX2_popInto_17 (fun X_6 e_6 H locs hP hS => ?_)
    have hf7 := m_nm_s e_6 hf5
    clear hf5
    refine lv_aload_n hx hb dX2_popInto_20 rfl (lv_at hl 0 rfl) ?_
    refine lv_aload_n hx hb dX2_popInto_21 rfl (lv_at hl 0 rfl) ?_
    refine m_get C hP mC_127 rfl inX2 2 (by decide) wf_X2_18 rfl dX2_popInto_22 ?_
    obtain ⟨r_8, X_8, h_8, hf9⟩ := m_bk_s hf7
    clear hf7
    refine m_callVr (q := (RX2, TX2, 3)) C [.int (X_6 127 2)] [] (c_X2_stateAt l D a cy hG N _ _ h_8) (m_goodV wl_X2_25 wi_X2_stateAt ws_X2_stateAt wn_X2 wc_X2_stateAt) ⟨rfl, rfl⟩ hv_X2_stateAt ⟨Nat.le_of_ble_eq_true rfl, Nat.le_of_ble_eq_true rfl⟩ rfl mC_127 hP hS rfl hl.1 rfl (Nat.le_of_ble_eq_true rfl) dX2_popInto_25 (fun H locs hP hS => ?_)
    obtain ⟨k_8, hf10⟩ := m_gd_s hf9
    clear hf9
    refine lv_astore_n (lv' := [(2, .ref (a (21 * r_8 + 0))), (0, .ref (a 127)), (1, .ref (a 0))]) hx hb dX2_popInto_28 rfl hl (by decide) rfl (fun ls hl => ?_)
    refine lv_aload_n hx hb dX2_popInto_29 rfl (lv_at hl 0 rfl) ?_
    refine lv_ifnull hx hb dX2_popInto_30 ?_
    refine lv_aload_n hx hb dX2_popInto_33 rfl (lv_at hl 2 rfl) ?_
    refine lv_aload_n hx hb dX2_popInto_34 rfl (lv_at hl 0 rfl) ?_
    obtain ⟨X_11, h_11, hf12⟩ := m_bv_s hf10
    clear hf10
    refine m_callVv (q := (RX3, TX3, 12)) C [.ref (a (21 * r_8 + 0))] [] (c_X3_copyFrom l D a cy hG N 0 r_8 (by decide) k_8 _ h_11) (m_goodV wl_X2_29 wi_X3_copyFrom ws_X3_copyFrom wn_X3 wc_X3_copyFrom) ⟨rfl, rfl⟩ hv_X3_copyFrom ⟨Nat.le_of_ble_eq_true rfl, Nat.le_of_ble_eq_true rfl⟩ rfl mC_0 hP hS rfl hl.1 rfl (Nat.le_of_ble_eq_true rfl) dX2_popInto_35 (fun H locs hP hS => ?_)
    refine lv_aload_n hx hb dX2_popInto_38 rfl (lv_at hl 1 rfl) ?_
    refine m_get C hP mC_127 rfl inX2 2 (by decide) wf_X2_18 rfl dX2_popInto_39 ?_
    exact m_iret C hP hS dX2_popInto_42 hf12
  · have hf3 := m_it c_1 hf0
    clear hf0
    refine lv_bipush (v := (-5)) hx hb dX2_popInto_7 (by decide) ?_
    exact m_iret C hP hS dX2_popInto_9 hf3
abbrev rm_X2_size : Room := { frames := 0, cells := 0, slots := 0, locals := 0 }
def f_X2_size (N : Nat) (X : XT) : Option (Int32 × XT) := some ((X 127 2), X)
set_option maxHeartbeats 4000000 in
set_option maxRecDepth 100000 in
theorem c_X2_size (l : Launch) (D : va_G) (a : Nat → Nat) (cy : Nat → ClassId) (hG : m_inj 138 a) (N : Nat) (X : XT) {r0 : Int32} {X0 : XT} (hf0 : f_X2_size N X = some (r0, X0)) : Met l yX2_size (Cond.code yX2_size cX2_size 1 (some .int) :: m_tbl) rm_X2_size (va_Pc [.ref (a 127)] (m_PX D (m_tc cy) (m_WC a cy) (m_ZC a) X)) (m_QI D (m_WC a cy) (m_AC a) r0 X0) 0 0 (m_AC a) := by
  refine m_met (own := RX2) hy_X2_size rfl (Nat.le_of_ble_eq_true rfl) (m_wl_D hG _) m_ZC_keep ?_
  intro p e s m args below meth c C ls hl hP hS
  have hx := C.1.1
  have hb := C.1.2.1
  have hl : lv_has ls 1 [(0, .ref (a 127))] := hl
  unfold f_X2_size at hf0
  suffices K : ∀ (H : Heap) (locs : List Loc), va_P D vwCl (m_WC a cy X) H → va_S (m_AC a) s.heap H locs → W p l e rm_X2_size s m args below meth c H locs 0 0 (MQ below (m_QI D (m_WC a cy) (m_AC a) r0 X0) args s 0 0 (m_AC a)) (F0 m 0 ls []) from K _ _ hP hS
  clear hP hS
  intro H locs hP hS
  refine lv_aload_n hx hb dX2_size_0 rfl (lv_at hl 0 rfl) ?_
  refine m_get C hP mC_127 rfl inX2 2 (by decide) wf_X2_18 rfl dX2_size_1 ?_
  exact m_iret C hP hS dX2_size_4 hf0
