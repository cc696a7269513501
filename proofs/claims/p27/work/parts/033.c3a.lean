-- written by wip/gen/gen.py
abbrev rm_X3_isClient : Room := { frames := 0, cells := 0, slots := 0, locals := 0 }
def f_X3_isClient (N : Nat) (v0 : Int32) (X : XT) : Option (Int32 × XT) := if v0 < 0 then (some (0, X)) else (if 12 ≤ v0 then (some (0, X)) else (some (1, X)))
set_option maxHeartbeats 4000000 in
set_option maxRecDepth 100000 in
theorem c_X3_isClient (l : Launch) (D : va_G) (a : Nat → Nat) (cy : Nat → ClassId) (hG : m_inj 138 a) (N : Nat) (v0 : Int32) (X : XT) {r0 : Int32} {X0 : XT} (hf0 : f_X3_isClient N v0 X = some (r0, X0)) : Met l yX3_isClient (Cond.code yX3_isClient cX3_isClient 1 (some .boolean) :: m_tbl) rm_X3_isClient (va_Pc [.int v0] (m_PX D (m_tc cy) (m_WC a cy) (m_ZC a) X)) (m_QI D (m_WC a cy) (m_AC a) r0 X0) 0 0 (m_AC a) := by
  refine m_met (own := RX3) hy_X3_isClient rfl (Nat.le_of_ble_eq_true rfl) (m_wl_D hG _) m_ZC_keep ?_
  intro p e s m args below meth c C ls hl hP hS
  have hx := C.1.1
  have hb := C.1.2.1
  have hl : lv_has ls 1 [(0, .int v0)] := hl
  unfold f_X3_isClient at hf0
  suffices K : ∀ (H : Heap) (locs : List Loc), va_P D vwCl (m_WC a cy X) H → va_S (m_AC a) s.heap H locs → W p l e rm_X3_isClient s m args below meth c H locs 0 0 (MQ below (m_QI D (m_WC a cy) (m_AC a) r0 X0) args s 0 0 (m_AC a)) (F0 m 0 ls []) from K _ _ hP hS
  clear hP hS
  intro H locs hP hS
  refine lv_iload_n hx hb dX3_isClient_0 rfl (lv_at hl 0 rfl) ?_
  refine lv_if_lt (tgt := 14) hx hb dX3_isClient_1 (by decide) (fun c_1 => ?_) (fun c_1 => ?_)
  · have hf2 := m_it c_1 hf0
    clear hf0
    refine lv_iconst (v := 0) hx hb dX3_isClient_14 (by decide) ?_
    exact m_zret C hP hS dX3_isClient_15 (by decide) hf2
  · have hf3 := m_ie c_1 hf0
    clear hf0
    refine lv_iload_n hx hb dX3_isClient_4 rfl (lv_at hl 0 rfl) ?_
    refine lv_bipush (v := 12) hx hb dX3_isClient_5 (by decide) ?_
    refine lv_icmp_ge (tgt := 14) hx hb dX3_isClient_7 (by decide) (fun c_4 => ?_) (fun c_4 => ?_)
    · have hf5 := m_it c_4 hf3
      clear hf3
      refine lv_iconst (v := 0) hx hb dX3_isClient_14 (by decide) ?_
      exact m_zret C hP hS dX3_isClient_15 (by decide) hf5
    · have hf6 := m_ie c_4 hf3
      clear hf3
      refine lv_iconst (v := 1) hx hb dX3_isClient_10 (by decide) ?_
      refine lv_goto (tgt := 15) hx hb dX3_isClient_11 (by decide) ?_
      exact m_zret C hP hS dX3_isClient_15 (by decide) hf6
abbrev rm_X3_isRecords : Room := { frames := 0, cells := 0, slots := 0, locals := 0 }
def f_X3_isRecords (N : Nat) (v0 : Int32) (X : XT) : Option (Int32 × XT) := if v0 < 1 then (some (0, X)) else (if 8 < v0 then (some (0, X)) else (some (1, X)))
set_option maxHeartbeats 4000000 in
set_option maxRecDepth 100000 in
theorem c_X3_isRecords (l : Launch) (D : va_G) (a : Nat → Nat) (cy : Nat → ClassId) (hG : m_inj 138 a) (N : Nat) (v0 : Int32) (X : XT) {r0 : Int32} {X0 : XT} (hf0 : f_X3_isRecords N v0 X = some (r0, X0)) : Met l yX3_isRecords (Cond.code yX3_isRecords cX3_isRecords 1 (some .boolean) :: m_tbl) rm_X3_isRecords (va_Pc [.int v0] (m_PX D (m_tc cy) (m_WC a cy) (m_ZC a) X)) (m_QI D (m_WC a cy) (m_AC a) r0 X0) 0 0 (m_AC a) := by
  refine m_met (own := RX3) hy_X3_isRecords rfl (Nat.le_of_ble_eq_true rfl) (m_wl_D hG _) m_ZC_keep ?_
  intro p e s m args below meth c C ls hl hP hS
  have hx := C.1.1
  have hb := C.1.2.1
  have hl : lv_has ls 1 [(0, .int v0)] := hl
  unfold f_X3_isRecords at hf0
  suffices K : ∀ (H : Heap) (locs : List Loc), va_P D vwCl (m_WC a cy X) H → va_S (m_AC a) s.heap H locs → W p l e rm_X3_isRecords s m args below meth c H locs 0 0 (MQ below (m_QI D (m_WC a cy) (m_AC a) r0 X0) args s 0 0 (m_AC a)) (F0 m 0 ls []) from K _ _ hP hS
  clear hP hS
  intro H locs hP hS
  refine lv_iload_n hx hb dX3_isRecords_0 rfl (lv_at hl 0 rfl) ?_
  refine lv_iconst (v := 1) hx hb dX3_isRecords_1 (by decide) ?_
  refine lv_icmp_lt (tgt := 15) hx hb dX3_isRecords_2 (by decide) (fun c_1 => ?_) (fun c_1 => ?_)
  · have hf2 := m_it c_1 hf0
    clear hf0
    refine lv_iconst (v := 0) hx hb dX3_isRecords_15 (by decide) ?_
    exact m_zret C hP hS dX3_isRecords_16 (by decide) hf2
  · have hf3 := m_ie c_1 hf0
    clear hf0
    refine lv_iload_n hx hb dX3_isRecords_5 rfl (lv_at hl 0 rfl) ?_
    refine lv_bipush (v := 8) hx hb dX3_isRecords_6 (by decide) ?_
    refine lv_icmp_gt (tgt := 15) hx hb dX3_isRecords_8 (by decide) (fun c_4 => ?_) (fun c_4 => ?_)
    · have hf5 := m_it c_4 hf3
      clear hf3
      refine lv_iconst (v := 0) hx hb dX3_isRecords_15 (by decide) ?_
      exact m_zret C hP hS dX3_isRecords_16 (by decide) hf5
    · have hf6 := m_ie c_4 hf3
      clear hf3
      refine lv_iconst (v := 1) hx hb dX3_isRecords_11 (by decide) ?_
      refine lv_goto (tgt := 16) hx hb dX3_isRecords_12 (by decide) ?_
      exact m_zret C hP hS dX3_isRecords_16 (by decide) hf6
abbrev rm_X3_openCommitOf : Room := { frames := 1, cells := 0, slots := 0, locals := 20 }
def f_X3_openCommitOf (N : Nat) (v1 : Int32) (X : XT) : Option (Int32 × XT) := m_bi (f_X3_isClient N v1 X) fun r_1 X_1 => if r_1 = 0 then (some ((-5), X_1)) else (m_gd (m_in v1 12) <| m_nm (X_1 20 (Int32.toNatClampNeg v1)) fun y_6 => some (y_6, X_1))
set_option maxHeartbeats 4000000 in
set_option maxRecDepth 100000 in
theorem c_X3_openCommitOf (l : Launch) (D : va_G) (a : Nat → Nat) (cy : Nat → ClassId) (hG : m_inj 138 a) (N : Nat) (v1 : Int32) (X : XT) {r0 : Int32} {X0 : XT} (hf0 : f_X3_openCommitOf N v1 X = some (r0, X0)) : Met l yX3_openCommitOf (Cond.code yX3_openCommitOf cX3_openCommitOf 2 (some .int) :: m_tbl) rm_X3_openCommitOf (va_Pc [.ref (a 0), .int v1] (m_PX D (m_tc cy) (m_WC a cy) (m_ZC a) X)) (m_QI D (m_WC a cy) (m_AC a) r0 X0) 0 0 (m_AC a) := by
  refine m_met (own := RX3) hy_X3_openCommitOf rfl (Nat.le_of_ble_eq_true rfl) (m_wl_D hG _) m_ZC_keep ?_
  intro p e s m args below meth c C ls hl hP hS
  have hx := C.1.1
  have hb := C.1.2.1
  have hl : lv_has ls 2 [(0, .ref (a 0)), (1, .int v1)] := hl
  unfold f_X3_openCommitOf at hf0
  suffices K : ∀ (H : Heap) (locs : List Loc), va_P D vwCl (m_WC a cy X) H → va_S (m_AC a) s.heap H locs → W p l e rm_X3_openCommitOf s m args below meth c H locs 0 0 (MQ below (m_QI D (m_WC a cy) (m_AC a) r0 X0) args s 0 0 (m_AC a)) (F0 m 0 ls []) from K _ _ hP hS
  clear hP hS
  intro H locs hP hS
  refine lv_iload_n hx hb dX3_openCommitOf_0 rfl (lv_at hl 1 rfl) ?_
  obtain ⟨r_1, X_1, h_1, hf2⟩ := m_bi_s hf0
  clear hf0
  refine m_callSi C [.int v1] [] (c_X3_isClient l D a cy hG N _ _ h_1) (m_goodS wl_X3_84 wst_X3_isClient wn_X3 wc_X3_isClient) ⟨rfl, rfl⟩ hv_X3_isClient ⟨Nat.le_of_ble_eq_true rfl, Nat.le_of_ble_eq_true rfl⟩ hP hS rfl hl.1 rfl (Nat.le_of_ble_eq_true rfl) dX3_openCommitOf_1 (fun H locs hP hS => ?_)
  refine lv_if_eq (tgt := 16) hx hb dX3_openCommitOf_4 (by decide) (fun c_3 => ?_) (fun c_3 => ?_)
  · have hf4 := m_it c_3 hf2
    clear hf2
    refine lv_bipush (v := (-5)) hx hb dX3_openCommitOf_16 (by decide) ?_
    exact m_iret C hP hS dX3_openCommitOf_18 hf4
  · have hf5 := m_ie c_3 hf2
    clear hf2
    refine lv_aload_n hx hb dX3_openCommitOf_7 rfl (lv_at hl 0 rfl) ?_
    refine m_get C hP mC_0 rfl inX3 5 (by decide) wf_X3_43 rfl dX3_openCommitOf_8 ?_
    refine lv_iload_n hx hb dX3_openCommitOf_11 rfl (lv_at hl 1 rfl) ?_
    obtain ⟨g_6, hf7⟩ := m_gd_s hf5
    clear hf5
    refine m_ild C hP mC_20 0 rfl g_6 dX3_openCommitOf_12 (fun y_6 e_6 => ?_)
    have hf8 := m_nm_s e_6 hf7
    clear hf7
    refine lv_goto (tgt := 18) hx hb dX3_openCommitOf_13 (by decide) ?_
    exact m_iret C hP hS dX3_openCommitOf_18 hf8
abbrev rm_X3_refusalToEnter : Room := { frames := 2, cells := 0, slots := 0, locals := 41 }
def f_X3_refusalToEnter (N : Nat) (v1 : Int32) (v2 : Int32) (X : XT) : Option (Int32 × XT) := m_bi (f_X3_isClient N v1 X) fun r_1 X_1 => if r_1 = 0 then (some ((-1), X_1)) else (m_bi (f_X3_isRecords N v2 X_1) fun r_6 X_6 => if r_6 = 0 then (some ((-2), X_6)) else (m_bi (f_X3_openCommitOf N v1 X_6) fun r_11 X_11 => if r_11 = (-5) then (m_bi (f_X0_isFull N X_11) fun r_16 X_16 => if r_16 = 0 then (some (0, X_16)) else (some ((-3), X_16))) else (some ((-4), X_11))))
set_option maxHeartbeats 4000000 in
set_option maxRecDepth 100000 in
theorem c_X3_refusalToEnter (l : Launch) (D : va_G) (a : Nat → Nat) (cy : Nat → ClassId) (hG : m_inj 138 a) (N : Nat) (v1 : Int32) (v2 : Int32) (X : XT) {r0 : Int32} {X0 : XT} (hf0 : f_X3_refusalToEnter N v1 v2 X = some (r0, X0)) : Met l yX3_refusalToEnter (Cond.code yX3_refusalToEnter cX3_refusalToEnter 3 (some .int) :: m_tbl) rm_X3_refusalToEnter (va_Pc [.ref (a 0), .int v1, .int v2] (m_PX D (m_tc cy) (m_WC a cy) (m_ZC a) X)) (m_QI D (m_WC a cy) (m_AC a) r0 X0) 0 0 (m_AC a) := by
  refine m_met (own := RX3) hy_X3_refusalToEnter rfl (Nat.le_of_ble_eq_true rfl) (m_wl_D hG _) m_ZC_keep ?_
  intro p e s m args below meth c C ls hl hP hS
  have hx := C.1.1
  have hb := C.1.2.1
  have hl : lv_has ls 3 [(0, .ref (a 0)), (1, .int v1), (2, .int v2)] := hl
  unfold f_X3_refusalToEnter at hf0
  suffices K : ∀ (H : Heap) (locs : List Loc), va_P D vwCl (m_WC a cy X) H → va_S (m_AC a) s.heap H locs → W p l e rm_X3_refusalToEnter s m args below meth c H locs 0 0 (MQ below (m_QI D (m_WC a cy) (m_AC a) r0 X0) args s 0 0 (m_AC a)) (F0 m 0 ls []) from K _ _ hP hS
  clear hP hS
  intro H locs hP hS
  refine lv_iload_n hx hb dX3_refusalToEnter_0 rfl (lv_at hl 1 rfl) ?_
  obtain ⟨r_1, X_1, h_1, hf2⟩ := m_bi_s hf0
  clear hf0
  refine m_callSi C [.int v1] [] (c_X3_isClient l D a cy hG N _ _ h_1) (m_goodS wl_X3_84 wst_X3_isClient wn_X3 wc_X3_isClient) ⟨rfl, rfl⟩ hv_X3_isClient ⟨Nat.le_of_ble_eq_true rfl, Nat.le_of_ble_eq_true rfl⟩ hP hS rfl hl.1 rfl (Nat.le_of_ble_eq_true rfl) dX3_refusalToEnter_1 (fun H locs hP hS => ?_)
  refine lv_if_ne (tgt := 9) hx hb dX3_refusalToEnter_4 (by decide) (fun c_3 => ?_) (fun c_3 => ?_)
  · have hf4 := m_ie c_3 hf2
    clear hf2
    refine lv_iload_n hx hb dX3_refusalToEnter_9 rfl (lv_at hl 2 rfl) ?_
    obtain ⟨r_6, X_6, h_6, hf7⟩ := m_bi_s hf4
    clear hf4
    refine m_callSi C [.int v2] [] (c_X3_isRecords l D a cy hG N _ _ h_6) (m_goodS wl_X3_88 wst_X3_isRecords wn_X3 wc_X3_isRecords) ⟨rfl, rfl⟩ hv_X3_isRecords ⟨Nat.le_of_ble_eq_true rfl, Nat.le_of_ble_eq_true rfl⟩ hP hS rfl hl.1 rfl (Nat.le_of_ble_eq_true rfl) dX3_refusalToEnter_10 (fun H locs hP hS => ?_)
    refine lv_if_ne (tgt := 19) hx hb dX3_refusalToEnter_13 (by decide) (fun c_8 => ?_) (fun c_8 => ?_)
    · have hf9 := m_ie c_8 hf7
      clear hf7
      refine lv_aload_n hx hb dX3_refusalToEnter_19 rfl (lv_at hl 0 rfl) ?_
      refine lv_iload_n hx hb dX3_refusalToEnter_20 rfl (lv_at hl 1 rfl) ?_
      obtain ⟨r_11, X_11, h_11, hf12⟩ := m_bi_s hf9
      clear hf9
      refine m_callVi (q := (RX3, TX3, 12)) C [.int v1] [] (c_X3_openCommitOf l D a cy hG N _ _ h_11) (m_goodV wl_X3_91 wi_X3_openCommitOf ws_X3_openCommitOf wn_X3 wc_X3_openCommitOf) ⟨rfl, rfl⟩ hv_X3_openCommitOf ⟨Nat.le_of_ble_eq_true rfl, Nat.le_of_ble_eq_true rfl⟩ rfl mC_0 hP hS rfl hl.1 rfl (Nat.le_of_ble_eq_true rfl) dX3_refusalToEnter_21 (fun H locs hP hS => ?_)
      refine lv_bipush (v := (-5)) hx hb dX3_refusalToEnter_24 (by decide) ?_
      refine lv_icmp_eq (tgt := 32) hx hb dX3_refusalToEnter_26 (by decide) (fun c_13 => ?_) (fun c_13 => ?_)
      · have hf14 := m_it c_13 hf12
        clear hf12
        refine lv_aload_n hx hb dX3_refusalToEnter_32 rfl (lv_at hl 0 rfl) ?_
        refine m_get C hP mC_0 rfl inX3 0 (by decide) wf_X3_12 rfl dX3_refusalToEnter_33 ?_
        obtain ⟨r_16, X_16, h_16, hf17⟩ := m_bi_s hf14
        clear hf14
        refine m_callVi (q := (RX0, TX0, 9)) C [] [] (c_X0_isFull l D a cy hG N _ h_16) (m_goodV wl_X3_95 wi_X0_isFull ws_X0_isFull wn_X0 wc_X0_isFull) ⟨rfl, rfl⟩ hv_X0_isFull ⟨Nat.le_of_ble_eq_true rfl, Nat.le_of_ble_eq_true rfl⟩ rfl mC_1 hP hS rfl hl.1 rfl (Nat.le_of_ble_eq_true rfl) dX3_refusalToEnter_36 (fun H locs hP hS => ?_)
        refine lv_if_eq (tgt := 47) hx hb dX3_refusalToEnter_39 (by decide) (fun c_18 => ?_) (fun c_18 => ?_)
        · have hf19 := m_it c_18 hf17
          clear hf17
          refine lv_iconst (v := 0) hx hb dX3_refusalToEnter_47 (by decide) ?_
          exact m_iret C hP hS dX3_refusalToEnter_48 hf19
        · have hf20 := m_ie c_18 hf17
          clear hf17
          refine lv_bipush (v := (-3)) hx hb dX3_refusalToEnter_42 (by decide) ?_
          refine lv_goto (tgt := 48) hx hb dX3_refusalToEnter_44 (by decide) ?_
          exact m_iret C hP hS dX3_refusalToEnter_48 hf20
      · have hf15 := m_ie c_13 hf12
        clear hf12
        refine lv_bipush (v := (-4)) hx hb dX3_refusalToEnter_29 (by decide) ?_
        exact m_iret C hP hS dX3_refusalToEnter_31 hf15
    · have hf10 := m_it c_8 hf7
      clear hf7
      refine lv_bipush (v := (-2)) hx hb dX3_refusalToEnter_16 (by decide) ?_
      exact m_iret C hP hS dX3_refusalToEnter_18 hf10
  · have hf5 := m_it c_3 hf2
    clear hf2
    refine lv_iconst (v := (-1)) hx hb dX3_refusalToEnter_7 (by decide) ?_
    exact m_iret C hP hS dX3_refusalToEnter_8 hf5
abbrev rm_X3_copyFrom : Room := { frames := 2, cells := 0, slots := 0, locals := 61 }
def f_X3_copyFrom (N : Nat) (k1 : Nat) (k2 : Nat) (X : XT) : Option XT := m_bv (f_X0_copyFrom N k1 k2 X) fun X_1 => m_bv (f_X1_copyFrom N k1 k2 X_1) fun X_3 => m_bv (f_X4_copyFrom N k1 k2 X_3) fun X_5 => m_bv (f_X6_copyFrom N k1 k2 X_5) fun X_7 => m_nm (m_up X_7 (21 * k1 + 19) (va_cpy (X_7 (21 * k2 + 19)) (X_7 (21 * k1 + 19)) 0 0 8)) fun X_9 => m_nm (m_up X_9 (21 * k1 + 20) (va_cpy (X_9 (21 * k2 + 20)) (X_9 (21 * k1 + 20)) 0 0 12)) fun X_11 => m_nm (m_up X_11 (21 * k1 + 0) (upd (X_11 (21 * k1 + 0)) 6 (X_11 (21 * k2 + 0) 6))) fun X_13 => m_nm (m_up X_13 (21 * k1 + 0) (upd (X_13 (21 * k1 + 0)) 7 (X_13 (21 * k2 + 0) 7))) fun X_15 => m_nm (m_up X_15 (21 * k1 + 0) (upd (X_15 (21 * k1 + 0)) 8 (X_15 (21 * k2 + 0) 8))) fun X_17 => m_nm (m_up X_17 (21 * k1 + 0) (upd (X_17 (21 * k1 + 0)) 9 (X_17 (21 * k2 + 0) 9))) fun X_19 => m_nm (m_up X_19 (21 * k1 + 0) (upd (X_19 (21 * k1 + 0)) 10 (X_19 (21 * k2 + 0) 10))) fun X_21 => m_nm (m_up X_21 (21 * k1 + 0) (upd (X_21 (21 * k1 + 0)) 11 (X_21 (21 * k2 + 0) 11))) fun X_23 => some X_23
set_option maxHeartbeats 4000000 in
set_option maxRecDepth 100000 in
theorem c_X3_copyFrom (l : Launch) (D : va_G) (a : Nat → Nat) (cy : Nat → ClassId) (hG : m_inj 138 a) (N : Nat) (k1 : Nat) (k2 : Nat) (hk1 : k1 < 6) (hk2 : k2 < 6) (X : XT) {X0 : XT} (hf0 : f_X3_copyFrom N k1 k2 X = some X0) : Met l yX3_copyFrom (Cond.code yX3_copyFrom cX3_copyFrom 2 none :: m_tbl) rm_X3_copyFrom (va_Pc [.ref (a (21 * k1 + 0)), .ref (a (21 * k2 + 0))] (m_PX D (m_tc cy) (m_WC a cy) (m_ZC a) X)) (m_QV D (m_WC a cy) (m_AC a) X0) 0 0 (m_AC a) := by
  refine m_met (own := RX3) hy_X3_copyFrom rfl (Nat.le_of_ble_eq_true rfl) (m_wl_D hG _) m_ZC_keep ?_
  intro p e s m args below meth c C ls hl hP hS
  have hx := C.1.1
  have hb := C.1.2.1
  have hl : lv_has ls 2 [(0, .ref (a (21 * k1 + 0))), (1, .ref (a (21 * k2 + 0)))] := hl
  unfold f_X3_copyFrom at hf0
  suffices K : ∀ (H : Heap) (locs : List Loc), va_P D vwCl (m_WC a cy X) H → va_S (m_AC a) s.heap H locs → W p l e rm_X3_copyFrom s m args below meth c H locs 0 0 (MQ below (m_QV D (m_WC a cy) (m_AC a) X0) args s 0 0 (m_AC a)) (F0 m 0 ls []) from K _ _ hP hS
  clear hP hS
  intro H locs hP hS
  refine lv_aload_n hx hb dX3_copyFrom_0 rfl (lv_at hl 0 rfl) ?_
  refine m_get C hP (mK_0 hk1) rfl inX3 0 (by decide) wf_X3_12 rfl dX3_copyFrom_1 ?_
  refine lv_aload_n hx hb dX3_copyFrom_4 rfl (lv_at hl 1 rfl) ?_
  refine m_get C hP (mK_0 hk2) rfl inX3 0 (by decide) wf_X3_12 rfl dX3_copyFrom_5 ?_
  obtain ⟨X_1, h_1, hf2⟩ := m_bv_s hf0
  clear hf0
  refine m_callVv (q := (RX0, TX0, 9)) C [.ref (a (21 * k2 + 1))] [] (c_X0_copyFrom l D a cy hG N k1 k2 hk1 hk2 _ h_1) (m_goodV wl_X3_56 wi_X0_copyFrom ws_X0_copyFrom wn_X0 wc_X0_copyFrom) ⟨rfl, rfl⟩ hv_X0_copyFrom ⟨Nat.le_of_ble_eq_true rfl, Nat.le_of_ble_eq_true rfl⟩ rfl (mK_1 hk1) hP hS rfl hl.1 rfl (Nat.le_of_ble_eq_true rfl) dX3_copyFrom_8 (fun H locs hP hS => ?_)
  refine lv_aload_n hx hb dX3_copyFrom_11 rfl (lv_at hl 0 rfl) ?_
  refine m_get C hP (mK_0 hk1) rfl inX3 1 (by decide) wf_X3_21 rfl dX3_copyFrom_12 ?_
  refine lv_aload_n hx hb dX3_copyFrom_15 rfl (lv_at hl 1 rfl) ?_
  refine m_get C hP (mK_0 hk2) rfl inX3 1 (by decide) wf_X3_21 rfl dX3_copyFrom_16 ?_
  obtain ⟨X_3, h_3, hf4⟩ := m_bv_s hf2
  clear hf2
  refine m_callVv (q := (RX1, TX1, 5)) C [.ref (a (21 * k2 + 10))] [] (c_X1_copyFrom l D a cy hG N k1 k2 hk1 hk2 _ h_3) (m_goodV wl_X3_60 wi_X1_copyFrom ws_X1_copyFrom wn_X1 wc_X1_copyFrom) ⟨rfl, rfl⟩ hv_X1_copyFrom ⟨Nat.le_of_ble_eq_true rfl, Nat.le_of_ble_eq_true rfl⟩ rfl (mK_10 hk1) hP hS rfl hl.1 rfl (Nat.le_of_ble_eq_true rfl) dX3_copyFrom_19 (fun H locs hP hS => ?_)
  refine lv_aload_n hx hb dX3_copyFrom_22 rfl (lv_at hl 0 rfl) ?_
  refine m_get C hP (mK_0 hk1) rfl inX3 2 (by decide) wf_X3_28 rfl dX3_copyFrom_23 ?_
  refine lv_aload_n hx hb dX3_copyFrom_26 rfl (lv_at hl 1 rfl) ?_
  refine m_get C hP (mK_0 hk2) rfl inX3 2 (by decide) wf_X3_28 rfl dX3_copyFrom_27 ?_
  obtain ⟨X_5, h_5, hf6⟩ := m_bv_s hf4
  clear hf4
  refine m_callVv (q := (RX4, TX4, 3)) C [.ref (a (21 * k2 + 15))] [] (c_X4_copyFrom l D a cy hG N k1 k2 hk1 hk2 _ h_5) (m_goodV wl_X3_63 wi_X4_copyFrom ws_X4_copyFrom wn_X4 wc_X4_copyFrom) ⟨rfl, rfl⟩ hv_X4_copyFrom ⟨Nat.le_of_ble_eq_true rfl, Nat.le_of_ble_eq_true rfl⟩ rfl (mK_15 hk1) hP hS rfl hl.1 rfl (Nat.le_of_ble_eq_true rfl) dX3_copyFrom_30 (fun H locs hP hS => ?_)
  refine lv_aload_n hx hb dX3_copyFrom_33 rfl (lv_at hl 0 rfl) ?_
  refine m_get C hP (mK_0 hk1) rfl inX3 3 (by decide) wf_X3_35 rfl dX3_copyFrom_34 ?_
  refine lv_aload_n hx hb dX3_copyFrom_37 rfl (lv_at hl 1 rfl) ?_
  refine m_get C hP (mK_0 hk2) rfl inX3 3 (by decide) wf_X3_35 rfl dX3_copyFrom_38 ?_
  obtain ⟨X_7, h_7, hf8⟩ := m_bv_s hf6
  clear hf6
  refine m_callVv (q := (RX6, TX6, 1)) C [.ref (a (21 * k2 + 17))] [] (c_X6_copyFrom l D a cy hG N k1 k2 hk1 hk2 _ h_7) (m_goodV wl_X3_66 wi_X6_copyFrom ws_X6_copyFrom wn_X6 wc_X6_copyFrom) ⟨rfl, rfl⟩ hv_X6_copyFrom ⟨Nat.le_of_ble_eq_true rfl, Nat.le_of_ble_eq_true rfl⟩ rfl (mK_17 hk1) hP hS rfl hl.1 rfl (Nat.le_of_ble_eq_true rfl) dX3_copyFrom_41 (fun H locs hP hS => ?_)
  refine lv_aload_n hx hb dX3_copyFrom_44 rfl (lv_at hl 1 rfl) ?_
  refine m_get C hP (mK_0 hk2) rfl inX3 4 (by decide) wf_X3_39 rfl dX3_copyFrom_45 ?_
  refine lv_iconst (v := 0) hx hb dX3_copyFrom_48 (by decide) ?_
  refine lv_aload_n hx hb dX3_copyFrom_49 rfl (lv_at hl 0 rfl) ?_
  refine m_get C hP (mK_0 hk1) rfl inX3 4 (by decide) wf_X3_39 rfl dX3_copyFrom_50 ?_
  refine lv_iconst (v := 0) hx hb dX3_copyFrom_53 (by decide) ?_
  refine lv_bipush (v := 8) hx hb dX3_copyFrom_54 (by decide) ?_
  refine m_copy C hP hS hl.1 (mK_19 hk2) (mK_19 hk1) 0 0 rfl rfl rfl wl_X3_69 wnat_arraycopyName wst_arraycopyName wn_java_lang_System (nn := 8) rfl (by decide) (Nat.le_of_ble_eq_true rfl) (Nat.le_of_ble_eq_true rfl) (fun _ _ => rfl) (Nat.le_of_ble_eq_true rfl) (Nat.le_of_ble_eq_true rfl) (mKs_19 hk1) dX3_copyFrom_56 (fun X_9 e_9 H locs hP hS => ?_)
  have hf10 := m_nm_s e_9 hf8
  clear hf8
  refine lv_aload_n hx hb dX3_copyFrom_59 rfl (lv_at hl 1 rfl) ?_
  refine m_get C hP (mK_0 hk2) rfl inX3 5 (by decide) wf_X3_43 rfl dX3_copyFrom_60 ?_
  refine lv_iconst (v := 0) hx hb dX3_copyFrom_63 (by decide) ?_
  refine lv_aload_n hx hb dX3_copyFrom_64 rfl (lv_at hl 0 rfl) ?_
  refine m_get C hP (mK_0 hk1) rfl inX3 5 (by decide) wf_X3_43 rfl dX3_copyFrom_65 ?_
  refine lv_iconst (v := 0) hx hb dX3_copyFrom_68 (by decide) ?_
  refine lv_bipush (v := 12) hx hb dX3_copyFrom_69 (by decide) ?_
  refine m_copy C hP hS hl.1 (mK_20 hk2) (mK_20 hk1) 0 0 rfl rfl rfl wl_X3_69 wnat_arraycopyName wst_arraycopyName wn_java_lang_System (nn := 12) rfl (by decide) (Nat.le_of_ble_eq_true rfl) (Nat.le_of_ble_eq_true rfl) (fun _ _ => rfl) (Nat.le_of_ble_eq_true rfl) (Nat.le_of_ble_eq_true rfl) (mKs_20 hk1) dX3_copyFrom_71 (fun X_11 e_11 H locs hP hS => ?_)
  have hf12 := m_nm_s e_11 hf10
  clear hf10
  refine lv_aload_n hx hb dX3_copyFrom_74 rfl (lv_at hl 0 rfl) ?_
  refine lv_aload_n hx hb dX3_copyFrom_75 rfl (lv_at hl 1 rfl) ?_
  refine m_get C hP (mK_0 hk2) rfl inX3 6 (by decide) wf_X3_75 rfl dX3_copyFrom_76 ?_
  refine m_put C hP hS (mK_0 hk1) rfl inX3 tyX3_ok nmX3 6 (by decide) wf_X3_75 rfl rfl rfl (Nat.le_of_ble_eq_true rfl) (mK_0_6 hk1) dX3_copyFrom_79 (fun X_13 e_13 H locs hP hS => ?_)
  have hf14 := m_nm_s e_13 hf12
  clear hf12
  refine lv_aload_n hx hb dX3_copyFrom_82 rfl (lv_at hl 0 rfl) ?_
  refine lv_aload_n hx hb dX3_copyFrom_83 rfl (lv_at hl 1 rfl) ?_
  refine m_get C hP (mK_0 hk2) rfl inX3 7 (by decide) wf_X3_46 rfl dX3_copyFrom_84 ?_
  refine m_put C hP hS (mK_0 hk1) rfl inX3 tyX3_ok nmX3 7 (by decide) wf_X3_46 rfl rfl rfl (Nat.le_of_ble_eq_true rfl) (mK_0_7 hk1) dX3_copyFrom_87 (fun X_15 e_15 H locs hP hS => ?_)
  have hf16 := m_nm_s e_15 hf14
  clear hf14
  refine lv_aload_n hx hb dX3_copyFrom_90 rfl (lv_at hl 0 rfl) ?_
  refine lv_aload_n hx hb dX3_copyFrom_91 rfl (lv_at hl 1 rfl) ?_
  refine m_get C hP (mK_0 hk2) rfl inX3 8 (by decide) wf_X3_50 rfl dX3_copyFrom_92 ?_
  refine m_put C hP hS (mK_0 hk1) rfl inX3 tyX3_ok nmX3 8 (by decide) wf_X3_50 rfl rfl rfl (Nat.le_of_ble_eq_true rfl) (mK_0_8 hk1) dX3_copyFrom_95 (fun X_17 e_17 H locs hP hS => ?_)
  have hf18 := m_nm_s e_17 hf16
  clear hf16
  refine lv_aload_n hx hb dX3_copyFrom_98 rfl (lv_at hl 0 rfl) ?_
  refine lv_aload_n hx hb dX3_copyFrom_99 rfl (lv_at hl 1 rfl) ?_
  refine m_get C hP (mK_0 hk2) rfl inX3 9 (by decide) wf_X3_78 rfl dX3_copyFrom_100 ?_
  refine m_put C hP hS (mK_0 hk1) rfl inX3 tyX3_ok nmX3 9 (by decide) wf_X3_78 rfl rfl rfl (Nat.le_of_ble_eq_true rfl) (mK_0_9 hk1) dX3_copyFrom_103 (fun X_19 e_19 H locs hP hS => ?_)
  have hf20 := m_nm_s e_19 hf18
  clear hf18
  refine lv_aload_n hx hb dX3_copyFrom_106 rfl (lv_at hl 0 rfl) ?_
  refine lv_aload_n hx hb dX3_copyFrom_107 rfl (lv_at hl 1 rfl) ?_
  refine m_get C hP (mK_0 hk2) rfl inX3 10 (by decide) wf_X3_53 rfl dX3_copyFrom_108 ?_
  refine m_put C hP hS (mK_0 hk1) rfl inX3 tyX3_ok nmX3 10 (by decide) wf_X3_53 rfl rfl rfl (Nat.le_of_ble_eq_true rfl) (mK_0_10 hk1) dX3_copyFrom_111 (fun X_21 e_21 H locs hP hS => ?_)
  have hf22 := m_nm_s e_21 hf20
  clear hf20
  refine lv_aload_n hx hb dX3_copyFrom_114 rfl (lv_at hl 0 rfl) ?_
  refine lv_aload_n hx hb dX3_copyFrom_115 rfl (lv_at hl 1 rfl) ?_
  refine m_get C hP (mK_0 hk2) rfl inX3 11 (by decide) wf_X3_81 rfl dX3_copyFrom_116 ?_
  refine m_put C hP hS (mK_0 hk1) rfl inX3 tyX3_ok nmX3 11 (by decide) wf_X3_81 rfl rfl rfl (Nat.le_of_ble_eq_true rfl) (mK_0_11 hk1) dX3_copyFrom_119 (fun X_23 e_23 H locs hP hS => ?_)
  have hf24 := m_nm_s e_23 hf22
  clear hf22
  exact m_vret C hP hS dX3_copyFrom_122 hf24
abbrev rm_X3_beginGroup : Room := { frames := 1, cells := 0, slots := 0, locals := 21 }
def f_X3_beginGroup (N : Nat) (X : XT) : Option XT := m_bi (f_X1_begin N X) fun r_1 X_1 => m_nm (m_up X_1 0 (upd (X_1 0) 8 r_1)) fun X_3 => m_nm ((X_3 0 6) + (X_3 0 7)) fun y_5 => m_nm (m_up X_3 0 (upd (X_3 0) 9 y_5)) fun X_7 => m_gd (m_in 4 8) <| m_nm (X_7 19 (Int32.toNatClampNeg 4)) fun y_9 => m_nm (y_9 + 1) fun y_12 => m_gd (m_in 4 8) <| m_nm (m_up X_7 19 (upd (X_7 19) (Int32.toNatClampNeg 4) y_12)) fun X_14 => some X_14
set_option maxHeartbeats 4000000 in
set_option maxRecDepth 100000 in
theorem c_X3_beginGroup (l : Launch) (D : va_G) (a : Nat → Nat) (cy : Nat → ClassId) (hG : m_inj 138 a) (N : Nat) (X : XT) {X0 : XT} (hf0 : f_X3_beginGroup N X = some X0) : Met l yX3_beginGroup (Cond.code yX3_beginGroup cX3_beginGroup 1 none :: m_tbl) rm_X3_beginGroup (va_Pc [.ref (a 0)] (m_PX D (m_tc cy) (m_WC a cy) (m_ZC a) X)) (m_QV D (m_WC a cy) (m_AC a) X0) 0 0 (m_AC a) := by
  refine m_met (own := RX3) hy_X3_beginGroup rfl (Nat.le_of_ble_eq_true rfl) (m_wl_D hG _) m_ZC_keep ?_
  intro p e s m args below meth c C ls hl hP hS
  have hx := C.1.1
  have hb := C.1.2.1
  have hl : lv_has ls 1 [(0, .ref (a 0))] := hl
  unfold f_X3_beginGroup at hf0
  suffices K : ∀ (H : Heap) (locs : List Loc), va_P D vwCl (m_WC a cy X) H → va_S (m_AC a) s.heap H locs → W p l e rm_X3_beginGroup s m args below meth c H locs 0 0 (MQ below (m_QV D (m_WC a cy) (m_AC a) X0) args s 0 0 (m_AC a)) (F0 m 0 ls []) from K _ _ hP hS
  clear hP hS
  intro H locs hP hS
  refine lv_aload_n hx hb dX3_beginGroup_0 rfl (lv_at hl 0 rfl) ?_
  refine lv_aload_n hx hb dX3_beginGroup_1 rfl (lv_at hl 0 rfl) ?_
  refine m_get C hP mC_0 rfl inX3 1 (by decide) wf_X3_21 rfl dX3_beginGroup_2 ?_
  obtain ⟨r_1, X_1, h_1, hf2⟩ := m_bi_s hf0
  clear hf0
  refine m_callVi (q := (RX1, TX1, 5)) C [] [.ref (a 0)] (c_X1_begin l D a cy hG N _ h_1) (m_goodV wl_X3_152 wi_X1_begin ws_X1_begin wn_X1 wc_X1_begin) ⟨rfl, rfl⟩ hv_X1_begin ⟨Nat.le_of_ble_eq_true rfl, Nat.le_of_ble_eq_true rfl⟩ rfl mC_10 hP hS rfl hl.1 rfl (Nat.le_of_ble_eq_true rfl) dX3_beginGroup_5 (fun H locs hP hS => ?_)
  refine m_put C hP hS mC_0 rfl inX3 tyX3_ok nmX3 8 (by decide) wf_X3_50 rfl rfl rfl (Nat.le_of_ble_eq_true rfl) mC_0_8 dX3_beginGroup_8 (fun X_3 e_3 H locs hP hS => ?_)
  have hf4 := m_nm_s e_3 hf2
  clear hf2
  refine lv_aload_n hx hb dX3_beginGroup_11 rfl (lv_at hl 0 rfl) ?_
  refine lv_aload_n hx hb dX3_beginGroup_12 rfl (lv_at hl 0 rfl) ?_
  refine m_get C hP mC_0 rfl inX3 6 (by decide) wf_X3_75 rfl dX3_beginGroup_13 ?_
  refine lv_aload_n hx hb dX3_beginGroup_16 rfl (lv_at hl 0 rfl) ?_
  refine m_get C hP mC_0 rfl inX3 7 (by decide) wf_X3_46 rfl dX3_beginGroup_17 ?_
  refine lv_iadd hx hb dX3_beginGroup_20 ?_
  refine lv_topi (fun y_5 e_5 => ?_)
  have hf6 := m_nm_s e_5 hf4
  clear hf4
  refine m_put C hP hS mC_0 rfl inX3 tyX3_ok nmX3 9 (by decide) wf_X3_78 rfl rfl rfl (Nat.le_of_ble_eq_true rfl) mC_0_9 dX3_beginGroup_21 (fun X_7 e_7 H locs hP hS => ?_)
  have hf8 := m_nm_s e_7 hf6
  clear hf6
  refine lv_aload_n hx hb dX3_beginGroup_24 rfl (lv_at hl 0 rfl) ?_
  refine m_get C hP mC_0 rfl inX3 4 (by decide) wf_X3_39 rfl dX3_beginGroup_25 ?_
  refine lv_iconst (v := 4) hx hb dX3_beginGroup_28 (by decide) ?_
  refine lv_dup2_11 hx hb dX3_beginGroup_29 rfl rfl ?_
  obtain ⟨g_9, hf10⟩ := m_gd_s hf8
  clear hf8
  refine m_ild C hP mC_19 0 rfl g_9 dX3_beginGroup_30 (fun y_9 e_9 => ?_)
  have hf11 := m_nm_s e_9 hf10
  clear hf10
  refine lv_iconst (v := 1) hx hb dX3_beginGroup_31 (by decide) ?_
  refine lv_iadd hx hb dX3_beginGroup_32 ?_
  refine lv_topi (fun y_12 e_12 => ?_)
  have hf13 := m_nm_s e_12 hf11
  clear hf11
  obtain ⟨g_14, hf15⟩ := m_gd_s hf13
  clear hf13
  refine m_ist C hP hS mC_19 0 rfl g_14 mCs_19 dX3_beginGroup_33 (fun X_14 e_14 H locs hP hS => ?_)
  have hf16 := m_nm_s e_14 hf15
  clear hf15
  exact m_vret C hP hS dX3_beginGroup_34 hf16
abbrev rm_X3_setOpenCommit : Room := { frames := 1, cells := 0, slots := 0, locals := 20 }
def f_X3_setOpenCommit (N : Nat) (v1 : Int32) (v2 : Int32) (X : XT) : Option XT := m_bi (f_X3_isClient N v1 X) fun r_1 X_1 => if r_1 = 0 then (some X_1) else (m_gd (m_in v1 12) <| m_nm (m_up X_1 20 (upd (X_1 20) (Int32.toNatClampNeg v1) v2)) fun X_6 => some X_6)
set_option maxHeartbeats 4000000 in
set_option maxRecDepth 100000 in
theorem c_X3_setOpenCommit (l : Launch) (D : va_G) (a : Nat → Nat) (cy : Nat → ClassId) (hG : m_inj 138 a) (N : Nat) (v1 : Int32) (v2 : Int32) (X : XT) {X0 : XT} (hf0 : f_X3_setOpenCommit N v1 v2 X = some X0) : Met l yX3_setOpenCommit (Cond.code yX3_setOpenCommit cX3_setOpenCommit 3 none :: m_tbl) rm_X3_setOpenCommit (va_Pc [.ref (a 0), .int v1, .int v2] (m_PX D (m_tc cy) (m_WC a cy) (m_ZC a) X)) (m_QV D (m_WC a cy) (m_AC a) X0) 0 0 (m_AC a) := by
  refine m_met (own := RX3) hy_X3_setOpenCommit rfl (Nat.le_of_ble_eq_true rfl) (m_wl_D hG _) m_ZC_keep ?_
  intro p e s m args below meth c C ls hl hP hS
  have hx := C.1.1
  have hb := C.1.2.1
  have hl : lv_has ls 3 [(0, .ref (a 0)), (1, .int v1), (2, .int v2)] := hl
  unfold f_X3_setOpenCommit at hf0
  suffices K : ∀ (H : Heap) (locs : List Loc), va_P D vwCl (m_WC a cy X) H → va_S (m_AC a) s.heap H locs → W p l e rm_X3_setOpenCommit s m args below meth c H locs 0 0 (MQ below (m_QV D (m_WC a cy) (m_AC a) X0) args s 0 0 (m_AC a)) (F0 m 0 ls []) from K _ _ hP hS
  clear hP hS
  intro H locs hP hS
  refine lv_iload_n hx hb dX3_setOpenCommit_0 rfl (lv_at hl 1 rfl) ?_
  obtain ⟨r_1, X_1, h_1, hf2⟩ := m_bi_s hf0
  clear hf0
  refine m_callSi C [.int v1] [] (c_X3_isClient l D a cy hG N _ _ h_1) (m_goodS wl_X3_84 wst_X3_isClient wn_X3 wc_X3_isClient) ⟨rfl, rfl⟩ hv_X3_isClient ⟨Nat.le_of_ble_eq_true rfl, Nat.le_of_ble_eq_true rfl⟩ hP hS rfl hl.1 rfl (Nat.le_of_ble_eq_true rfl) dX3_setOpenCommit_1 (fun H locs hP hS => ?_)
  refine lv_if_eq (tgt := 14) hx hb dX3_setOpenCommit_4 (by decide) (fun c_3 => ?_) (fun c_3 => ?_)
  · have hf4 := m_it c_3 hf2
    clear hf2
    exact m_vret C hP hS dX3_setOpenCommit_14 hf4
  · have hf5 := m_ie c_3 hf2
    clear hf2
    refine lv_aload_n hx hb dX3_setOpenCommit_7 rfl (lv_at hl 0 rfl) ?_
    refine m_get C hP mC_0 rfl inX3 5 (by decide) wf_X3_43 rfl dX3_setOpenCommit_8 ?_
    refine lv_iload_n hx hb dX3_setOpenCommit_11 rfl (lv_at hl 1 rfl) ?_
    refine lv_iload_n hx hb dX3_setOpenCommit_12 rfl (lv_at hl 2 rfl) ?_
    obtain ⟨g_6, hf7⟩ := m_gd_s hf5
    clear hf5
    refine m_ist C hP hS mC_20 0 rfl g_6 mCs_20 dX3_setOpenCommit_13 (fun X_6 e_6 H locs hP hS => ?_)
    have hf8 := m_nm_s e_6 hf7
    clear hf7
    exact m_vret C hP hS dX3_setOpenCommit_14 hf8
abbrev rm_X3_reasonToClose : Room := { frames := 1, cells := 0, slots := 0, locals := 21 }
def f_X3_reasonToClose (N : Nat) (v1 : Int32) (v2 : Int32) (v3 : Int32) (X : XT) : Option (Int32 × XT) := if v1 = 0 then (m_bi (f_X6_valueOf N 1 X) fun r_4 X_4 => if v2 < r_4 then (if (X_4 0 6) < v3 then (some (0, X_4)) else (some (3, X_4))) else (some (2, X_4))) else (some (1, X))
set_option maxHeartbeats 4000000 in
set_option maxRecDepth 100000 in
theorem c_X3_reasonToClose (l : Launch) (D : va_G) (a : Nat → Nat) (cy : Nat → ClassId) (hG : m_inj 138 a) (N : Nat) (v1 : Int32) (v2 : Int32) (v3 : Int32) (X : XT) {r0 : Int32} {X0 : XT} (hf0 : f_X3_reasonToClose N v1 v2 v3 X = some (r0, X0)) : Met l yX3_reasonToClose (Cond.code yX3_reasonToClose cX3_reasonToClose 4 (some .int) :: m_tbl) rm_X3_reasonToClose (va_Pc [.ref (a 0), .int v1, .int v2, .int v3] (m_PX D (m_tc cy) (m_WC a cy) (m_ZC a) X)) (m_QI D (m_WC a cy) (m_AC a) r0 X0) 0 0 (m_AC a) := by
  refine m_met (own := RX3) hy_X3_reasonToClose rfl (Nat.le_of_ble_eq_true rfl) (m_wl_D hG _) m_ZC_keep ?_
  intro p e s m args below meth c C ls hl hP hS
  have hx := C.1.1
  have hb := C.1.2.1
  have hl : lv_has ls 4 [(0, .ref (a 0)), (1, .int v1), (2, .int v2), (3, .int v3)] := hl
  unfold f_X3_reasonToClose at hf0
  suffices K : ∀ (H : Heap) (locs : List Loc), va_P D vwCl (m_WC a cy X) H → va_S (m_AC a) s.heap H locs → W p l e rm_X3_reasonToClose s m args below meth c H locs 0 0 (MQ below (m_QI D (m_WC a cy) (m_AC a) r0 X0) args s 0 0 (m_AC a)) (F0 m 0 ls []) from K _ _ hP hS
  clear hP hS
  intro H locs hP hS
  refine lv_iload_n hx hb dX3_reasonToClose_0 rfl (lv_at hl 1 rfl) ?_
  refine lv_if_eq (tgt := 6) hx hb dX3_reasonToClose_1 (by decide) (fun c_1 => ?_) (fun c_1 => ?_)
  · have hf2 := m_it c_1 hf0
    clear hf0
    refine lv_iload_n hx hb dX3_reasonToClose_6 rfl (lv_at hl 2 rfl) ?_
    refine lv_aload_n hx hb dX3_reasonToClose_7 rfl (lv_at hl 0 rfl) ?_
    refine m_get C hP mC_0 rfl inX3 3 (by decide) wf_X3_35 rfl dX3_reasonToClose_8 ?_
    refine lv_iconst (v := 1) hx hb dX3_reasonToClose_11 (by decide) ?_
    obtain ⟨r_4, X_4, h_4, hf5⟩ := m_bi_s hf2
    clear hf2
    refine m_callVi (q := (RX6, TX6, 1)) C [.int 1] [.int v2] (c_X6_valueOf l D a cy hG N _ _ h_4) (m_goodV wl_X3_155 wi_X6_valueOf ws_X6_valueOf wn_X6 wc_X6_valueOf) ⟨rfl, rfl⟩ hv_X6_valueOf ⟨Nat.le_of_ble_eq_true rfl, Nat.le_of_ble_eq_true rfl⟩ rfl mC_17 hP hS rfl hl.1 rfl (Nat.le_of_ble_eq_true rfl) dX3_reasonToClose_12 (fun H locs hP hS => ?_)
    refine lv_icmp_lt (tgt := 20) hx hb dX3_reasonToClose_15 (by decide) (fun c_6 => ?_) (fun c_6 => ?_)
    · have hf7 := m_it c_6 hf5
      clear hf5
      refine lv_iload_n hx hb dX3_reasonToClose_20 rfl (lv_at hl 3 rfl) ?_
      refine lv_aload_n hx hb dX3_reasonToClose_21 rfl (lv_at hl 0 rfl) ?_
      refine m_get C hP mC_0 rfl inX3 6 (by decide) wf_X3_75 rfl dX3_reasonToClose_22 ?_
      refine lv_icmp_gt (tgt := 32) hx hb dX3_reasonToClose_25 (by decide) (fun c_9 => ?_) (fun c_9 => ?_)
      · have hf10 := m_it c_9 hf7
        clear hf7
        refine lv_iconst (v := 0) hx hb dX3_reasonToClose_32 (by decide) ?_
        exact m_iret C hP hS dX3_reasonToClose_33 hf10
      · have hf11 := m_ie c_9 hf7
        clear hf7
        refine lv_iconst (v := 3) hx hb dX3_reasonToClose_28 (by decide) ?_
        refine lv_goto (tgt := 33) hx hb dX3_reasonToClose_29 (by decide) ?_
        exact m_iret C hP hS dX3_reasonToClose_33 hf11
    · have hf8 := m_ie c_6 hf5
      clear hf5
      refine lv_iconst (v := 2) hx hb dX3_reasonToClose_18 (by decide) ?_
      exact m_iret C hP hS dX3_reasonToClose_19 hf8
  · have hf3 := m_ie c_1 hf0
    clear hf0
    refine lv_iconst (v := 1) hx hb dX3_reasonToClose_4 (by decide) ?_
    exact m_iret C hP hS dX3_reasonToClose_5 hf3
abbrev rm_X3_learnWait : Room := { frames := 1, cells := 0, slots := 0, locals := 30 }
def f_X3_learnWait (N : Nat) (v1 : Int32) (X : XT) : Option XT := if v1 ≤ 1 then (m_nm ((X 0 7) - 1) fun y_4 => m_nm (if y_4 < 0 then 0 else y_4) fun y_6 => m_nm (m_up X 0 (upd (X 0) 7 y_6)) fun X_8 => some X_8) else (m_nm ((X 0 7) + 1) fun y_10 => m_bi (f_X6_valueOf N 0 X) fun r_12 X_12 => m_nm (if r_12 < y_10 then r_12 else y_10) fun y_14 => m_nm (m_up X_12 0 (upd (X_12 0) 7 y_14)) fun X_16 => some X_16)
set_option maxHeartbeats 4000000 in
set_option maxRecDepth 100000 in
theorem c_X3_learnWait (l : Launch) (D : va_G) (a : Nat → Nat) (cy : Nat → ClassId) (hG : m_inj 138 a) (N : Nat) (v1 : Int32) (X : XT) {X0 : XT} (hf0 : f_X3_learnWait N v1 X = some X0) : Met l yX3_learnWait (Cond.code yX3_learnWait cX3_learnWait 2 none :: m_tbl) rm_X3_learnWait (va_Pc [.ref (a 0), .int v1] (m_PX D (m_tc cy) (m_WC a cy) (m_ZC a) X)) (m_QV D (m_WC a cy) (m_AC a) X0) 0 0 (m_AC a) := by
  refine m_met (own := RX3) hy_X3_learnWait rfl (Nat.le_of_ble_eq_true rfl) (m_wl_D hG _) m_ZC_keep ?_
  intro p e s m args below meth c C ls hl hP hS
  have hx := C.1.1
  have hb := C.1.2.1
  have hl : lv_has ls 2 [(0, .ref (a 0)), (1, .int v1)] := hl
  unfold f_X3_learnWait at hf0
  suffices K : ∀ (H : Heap) (locs : List Loc), va_P D vwCl (m_WC a cy X) H → va_S (m_AC a) s.heap H locs → W p l e rm_X3_learnWait s m args below meth c H locs 0 0 (MQ below (m_QV D (m_WC a cy) (m_AC a) X0) args s 0 0 (m_AC a)) (F0 m 0 ls []) from K _ _ hP hS
  clear hP hS
  intro H locs hP hS
  refine lv_iload_n hx hb dX3_learnWait_0 rfl (lv_at hl 1 rfl) ?_
  refine lv_iconst (v := 1) hx hb dX3_learnWait_1 (by decide) ?_
  refine lv_icmp_le (tgt := 29) hx hb dX3_learnWait_2 (by decide) (fun c_1 => ?_) (fun c_1 => ?_)
  · have hf2 := m_it c_1 hf0
    clear hf0
    refine lv_aload_n hx hb dX3_learnWait_29 rfl (lv_at hl 0 rfl) ?_
    refine lv_aload_n hx hb dX3_learnWait_30 rfl (lv_at hl 0 rfl) ?_
    refine m_get C hP mC_0 rfl inX3 7 (by decide) wf_X3_46 rfl dX3_learnWait_31 ?_
    refine lv_iconst (v := 1) hx hb dX3_learnWait_34 (by decide) ?_
    refine lv_isub hx hb dX3_learnWait_35 ?_
    refine lv_topi (fun y_4 e_4 => ?_)
    have hf5 := m_nm_s e_4 hf2
    clear hf2
    refine lv_iconst (v := 0) hx hb dX3_learnWait_36 (by decide) ?_
    refine m_max C hl.1 wl_X3_176 wst_Lib_Math_max_name wn_java_lang_Math wc_Lib_Math_max_name (Nat.le_of_ble_eq_true rfl) (Nat.le_of_ble_eq_true rfl) dX3_learnWait_37 (fun y_6 e_6 => ?_)
    have hf7 := m_nm_s e_6 hf5
    clear hf5
    refine m_put C hP hS mC_0 rfl inX3 tyX3_ok nmX3 7 (by decide) wf_X3_46 rfl rfl rfl (Nat.le_of_ble_eq_true rfl) mC_0_7 dX3_learnWait_40 (fun X_8 e_8 H locs hP hS => ?_)
    have hf9 := m_nm_s e_8 hf7
    clear hf7
    exact m_vret C hP hS dX3_learnWait_43 hf9
  · have hf3 := m_ie c_1 hf0
    clear hf0
    refine lv_aload_n hx hb dX3_learnWait_5 rfl (lv_at hl 0 rfl) ?_
    refine lv_aload_n hx hb dX3_learnWait_6 rfl (lv_at hl 0 rfl) ?_
    refine m_get C hP mC_0 rfl inX3 7 (by decide) wf_X3_46 rfl dX3_learnWait_7 ?_
    refine lv_iconst (v := 1) hx hb dX3_learnWait_10 (by decide) ?_
    refine lv_iadd hx hb dX3_learnWait_11 ?_
    refine lv_topi (fun y_10 e_10 => ?_)
    have hf11 := m_nm_s e_10 hf3
    clear hf3
    refine lv_aload_n hx hb dX3_learnWait_12 rfl (lv_at hl 0 rfl) ?_
    refine m_get C hP mC_0 rfl inX3 3 (by decide) wf_X3_35 rfl dX3_learnWait_13 ?_
    refine lv_iconst (v := 0) hx hb dX3_learnWait_16 (by decide) ?_
    obtain ⟨r_12, X_12, h_12, hf13⟩ := m_bi_s hf11
    clear hf11
    refine m_callVi (q := (RX6, TX6, 1)) C [.int 0] [.int y_10, .ref (a 0)] (c_X6_valueOf l D a cy hG N _ _ h_12) (m_goodV wl_X3_155 wi_X6_valueOf ws_X6_valueOf wn_X6 wc_X6_valueOf) ⟨rfl, rfl⟩ hv_X6_valueOf ⟨Nat.le_of_ble_eq_true rfl, Nat.le_of_ble_eq_true rfl⟩ rfl mC_17 hP hS rfl hl.1 rfl (Nat.le_of_ble_eq_true rfl) dX3_learnWait_17 (fun H locs hP hS => ?_)
    refine m_min C hl.1 wl_X3_170 wst_Lib_Math_min_name wn_java_lang_Math wc_Lib_Math_min_name (Nat.le_of_ble_eq_true rfl) (Nat.le_of_ble_eq_true rfl) dX3_learnWait_20 (fun y_14 e_14 => ?_)
    have hf15 := m_nm_s e_14 hf13
    clear hf13
    refine m_put C hP hS mC_0 rfl inX3 tyX3_ok nmX3 7 (by decide) wf_X3_46 rfl rfl rfl (Nat.le_of_ble_eq_true rfl) mC_0_7 dX3_learnWait_23 (fun X_16 e_16 H locs hP hS => ?_)
    have hf17 := m_nm_s e_16 hf15
    clear hf15
    refine lv_goto (tgt := 43) hx hb dX3_learnWait_26 (by decide) ?_
    exact m_vret C hP hS dX3_learnWait_43 hf17
abbrev rm_X3_closeGathering : Room := { frames := 2, cells := 0, slots := 0, locals := 51 }
def f_X3_closeGathering (N : Nat) (v1 : Int32) (X : XT) : Option XT := m_nm (m_up X 0 (upd (X 0) 8 (-5))) fun X_1 => m_bv (f_X1_close N (X 0 8) v1 X_1) fun X_3 => m_bv (f_X0_moveMembers N (X 0 8) 1 2 X_3) fun X_5 => m_bv (f_X4_add N (X 0 8) X_5) fun X_7 => m_bi (f_X6_valueOf N 3 X_7) fun r_9 X_9 => if r_9 = 1 then (m_bi (f_X1_membersOf N (X 0 8) X_9) fun r_14 X_14 => m_bv (f_X3_learnWait N r_14 X_14) fun X_16 => some X_16) else (some X_9)
set_option maxHeartbeats 4000000 in
set_option maxRecDepth 100000 in
theorem c_X3_closeGathering (l : Launch) (D : va_G) (a : Nat → Nat) (cy : Nat → ClassId) (hG : m_inj 138 a) (N : Nat) (v1 : Int32) (X : XT) {X0 : XT} (hf0 : f_X3_closeGathering N v1 X = some X0) : Met l yX3_closeGathering (Cond.code yX3_closeGathering cX3_closeGathering 3 none :: m_tbl) rm_X3_closeGathering (va_Pc [.ref (a 0), .int v1] (m_PX D (m_tc cy) (m_WC a cy) (m_ZC a) X)) (m_QV D (m_WC a cy) (m_AC a) X0) 0 0 (m_AC a) := by
  refine m_met (own := RX3) hy_X3_closeGathering rfl (Nat.le_of_ble_eq_true rfl) (m_wl_D hG _) m_ZC_keep ?_
  intro p e s m args below meth c C ls hl hP hS
  have hx := C.1.1
  have hb := C.1.2.1
  have hl : lv_has ls 3 [(0, .ref (a 0)), (1, .int v1)] := hl
  unfold f_X3_closeGathering at hf0
  suffices K : ∀ (H : Heap) (locs : List Loc), va_P D vwCl (m_WC a cy X) H → va_S (m_AC a) s.heap H locs → W p l e rm_X3_closeGathering s m args below meth c H locs 0 0 (MQ below (m_QV D (m_WC a cy) (m_AC a) X0) args s 0 0 (m_AC a)) (F0 m 0 ls []) from K _ _ hP hS
  clear hP hS
  intro H locs hP hS
  refine lv_aload_n hx hb dX3_closeGathering_0 rfl (lv_at hl 0 rfl) ?_
  refine m_get C hP mC_0 rfl inX3 8 (by decide) wf_X3_50 rfl dX3_closeGathering_1 ?_
  refine lv_istore_n (lv' := [(2, .int (X 0 8)), (0, .ref (a 0)), (1, .int v1)]) hx hb dX3_closeGathering_4 rfl hl (by decide) rfl (fun ls hl => ?_)
  refine lv_aload_n hx hb dX3_closeGathering_5 rfl (lv_at hl 1 rfl) ?_
  refine lv_bipush (v := (-5)) hx hb dX3_closeGathering_6 (by decide) ?_
  refine m_put C hP hS mC_0 rfl inX3 tyX3_ok nmX3 8 (by decide) wf_X3_50 rfl rfl rfl (Nat.le_of_ble_eq_true rfl) mC_0_8 dX3_closeGathering_8 (fun X_1 e_1 H locs hP hS => ?_)
  have hf2 := m_nm_s e_1 hf0
  clear hf0
  refine lv_aload_n hx hb dX3_closeGathering_11 rfl (lv_at hl 1 rfl) ?_
  refine m_get C hP mC_0 rfl inX3 1 (by decide) wf_X3_21 rfl dX3_closeGathering_12 ?_
  refine lv_iload_n hx hb dX3_closeGathering_15 rfl (lv_at hl 0 rfl) ?_
  refine lv_iload_n hx hb dX3_closeGathering_16 rfl (lv_at hl 2 rfl) ?_
  obtain ⟨X_3, h_3, hf4⟩ := m_bv_s hf2
  clear hf2
  refine m_callVv (q := (RX1, TX1, 5)) C [.int (X 0 8), .int v1] [] (c_X1_close l D a cy hG N _ _ _ h_3) (m_goodV wl_X3_158 wi_X1_close ws_X1_close wn_X1 wc_X1_close) ⟨rfl, rfl⟩ hv_X1_close ⟨Nat.le_of_ble_eq_true rfl, Nat.le_of_ble_eq_true rfl⟩ rfl mC_10 hP hS rfl hl.1 rfl (Nat.le_of_ble_eq_true rfl) dX3_closeGathering_17 (fun H locs hP hS => ?_)
  refine lv_aload_n hx hb dX3_closeGathering_20 rfl (lv_at hl 1 rfl) ?_
  refine m_get C hP mC_0 rfl inX3 0 (by decide) wf_X3_12 rfl dX3_closeGathering_21 ?_
  refine lv_iload_n hx hb dX3_closeGathering_24 rfl (lv_at hl 0 rfl) ?_
  refine lv_iconst (v := 1) hx hb dX3_closeGathering_25 (by decide) ?_
  refine lv_iconst (v := 2) hx hb dX3_closeGathering_26 (by decide) ?_
  obtain ⟨X_5, h_5, hf6⟩ := m_bv_s hf4
  clear hf4
  refine m_callVv (q := (RX0, TX0, 9)) C [.int (X 0 8), .int 1, .int 2] [] (c_X0_moveMembers l D a cy hG N _ _ _ _ h_5) (m_goodV wl_X3_161 wi_X0_moveMembers ws_X0_moveMembers wn_X0 wc_X0_moveMembers) ⟨rfl, rfl⟩ hv_X0_moveMembers ⟨Nat.le_of_ble_eq_true rfl, Nat.le_of_ble_eq_true rfl⟩ rfl mC_1 hP hS rfl hl.1 rfl (Nat.le_of_ble_eq_true rfl) dX3_closeGathering_27 (fun H locs hP hS => ?_)
  refine lv_aload_n hx hb dX3_closeGathering_30 rfl (lv_at hl 1 rfl) ?_
  refine m_get C hP mC_0 rfl inX3 2 (by decide) wf_X3_28 rfl dX3_closeGathering_31 ?_
  refine lv_iload_n hx hb dX3_closeGathering_34 rfl (lv_at hl 0 rfl) ?_
  obtain ⟨X_7, h_7, hf8⟩ := m_bv_s hf6
  clear hf6
  refine m_callVv (q := (RX4, TX4, 3)) C [.int (X 0 8)] [] (c_X4_add l D a cy hG N _ _ h_7) (m_goodV wl_X3_165 wi_X4_add ws_X4_add wn_X4 wc_X4_add) ⟨rfl, rfl⟩ hv_X4_add ⟨Nat.le_of_ble_eq_true rfl, Nat.le_of_ble_eq_true rfl⟩ rfl mC_15 hP hS rfl hl.1 rfl (Nat.le_of_ble_eq_true rfl) dX3_closeGathering_35 (fun H locs hP hS => ?_)
  refine lv_aload_n hx hb dX3_closeGathering_38 rfl (lv_at hl 1 rfl) ?_
  refine m_get C hP mC_0 rfl inX3 3 (by decide) wf_X3_35 rfl dX3_closeGathering_39 ?_
  refine lv_iconst (v := 3) hx hb dX3_closeGathering_42 (by decide) ?_
  obtain ⟨r_9, X_9, h_9, hf10⟩ := m_bi_s hf8
  clear hf8
  refine m_callVi (q := (RX6, TX6, 1)) C [.int 3] [] (c_X6_valueOf l D a cy hG N _ _ h_9) (m_goodV wl_X3_155 wi_X6_valueOf ws_X6_valueOf wn_X6 wc_X6_valueOf) ⟨rfl, rfl⟩ hv_X6_valueOf ⟨Nat.le_of_ble_eq_true rfl, Nat.le_of_ble_eq_true rfl⟩ rfl mC_17 hP hS rfl hl.1 rfl (Nat.le_of_ble_eq_true rfl) dX3_closeGathering_43 (fun H locs hP hS => ?_)
  refine lv_iconst (v := 1) hx hb dX3_closeGathering_46 (by decide) ?_
  refine lv_icmp_ne (tgt := 62) hx hb dX3_closeGathering_47 (by decide) (fun c_11 => ?_) (fun c_11 => ?_)
  · have hf12 := m_ie c_11 hf10
    clear hf10
    exact m_vret C hP hS dX3_closeGathering_62 hf12
  · have hf13 := m_it c_11 hf10
    clear hf10
    refine lv_aload_n hx hb dX3_closeGathering_50 rfl (lv_at hl 1 rfl) ?_
    refine lv_aload_n hx hb dX3_closeGathering_51 rfl (lv_at hl 1 rfl) ?_
    refine m_get C hP mC_0 rfl inX3 1 (by decide) wf_X3_21 rfl dX3_closeGathering_52 ?_
    refine lv_iload_n hx hb dX3_closeGathering_55 rfl (lv_at hl 0 rfl) ?_
    obtain ⟨r_14, X_14, h_14, hf15⟩ := m_bi_s hf13
    clear hf13
    refine m_callVi (q := (RX1, TX1, 5)) C [.int (X 0 8)] [.ref (a 0)] (c_X1_membersOf l D a cy hG N _ _ h_14) (m_goodV wl_X3_143 wi_X1_membersOf ws_X1_membersOf wn_X1 wc_X1_membersOf) ⟨rfl, rfl⟩ hv_X1_membersOf ⟨Nat.le_of_ble_eq_true rfl, Nat.le_of_ble_eq_true rfl⟩ rfl mC_10 hP hS rfl hl.1 rfl (Nat.le_of_ble_eq_true rfl) dX3_closeGathering_56 (fun H locs hP hS => ?_)
    obtain ⟨X_16, h_16, hf17⟩ := m_bv_s hf15
    clear hf15
    refine m_callVv (q := (RX3, TX3, 12)) C [.int r_14] [] (c_X3_learnWait l D a cy hG N _ _ h_16) (m_goodV wl_X3_167 wi_X3_learnWait ws_X3_learnWait wn_X3 wc_X3_learnWait) ⟨rfl, rfl⟩ hv_X3_learnWait ⟨Nat.le_of_ble_eq_true rfl, Nat.le_of_ble_eq_true rfl⟩ rfl mC_0 hP hS rfl hl.1 rfl (Nat.le_of_ble_eq_true rfl) dX3_closeGathering_59 (fun H locs hP hS => ?_)
    exact m_vret C hP hS dX3_closeGathering_62 hf17
abbrev rm_X3_ticksToWrite : Room := { frames := 1, cells := 0, slots := 0, locals := 21 }
def f_X3_ticksToWrite (N : Nat) (v1 : Int32) (X : XT) : Option (Int32 × XT) := m_bi (f_X6_valueOf N 2 X) fun r_1 X_1 => m_nm (v1 / 4) fun y_3 => m_nm (r_1 + y_3) fun y_5 => some (y_5, X_1)
set_option maxHeartbeats 4000000 in
set_option maxRecDepth 100000 in
theorem c_X3_ticksToWrite (l : Launch) (D : va_G) (a : Nat → Nat) (cy : Nat → ClassId) (hG : m_inj 138 a) (N : Nat) (v1 : Int32) (X : XT) {r0 : Int32} {X0 : XT} (hf0 : f_X3_ticksToWrite N v1 X = some (r0, X0)) : Met l yX3_ticksToWrite (Cond.code yX3_ticksToWrite cX3_ticksToWrite 2 (some .int) :: m_tbl) rm_X3_ticksToWrite (va_Pc [.ref (a 0), .int v1] (m_PX D (m_tc cy) (m_WC a cy) (m_ZC a) X)) (m_QI D (m_WC a cy) (m_AC a) r0 X0) 0 0 (m_AC a) := by
  refine m_met (own := RX3) hy_X3_ticksToWrite rfl (Nat.le_of_ble_eq_true rfl) (m_wl_D hG _) m_ZC_keep ?_
  intro p e s m args below meth c C ls hl hP hS
  have hx := C.1.1
  have hb := C.1.2.1
  have hl : lv_has ls 2 [(0, .ref (a 0)), (1, .int v1)] := hl
  unfold f_X3_ticksToWrite at hf0
  suffices K : ∀ (H : Heap) (locs : List Loc), va_P D vwCl (m_WC a cy X) H → va_S (m_AC a) s.heap H locs → W p l e rm_X3_ticksToWrite s m args below meth c H locs 0 0 (MQ below (m_QI D (m_WC a cy) (m_AC a) r0 X0) args s 0 0 (m_AC a)) (F0 m 0 ls []) from K _ _ hP hS
  clear hP hS
  intro H locs hP hS
  refine lv_aload_n hx hb dX3_ticksToWrite_0 rfl (lv_at hl 0 rfl) ?_
  refine m_get C hP mC_0 rfl inX3 3 (by decide) wf_X3_35 rfl dX3_ticksToWrite_1 ?_
  refine lv_iconst (v := 2) hx hb dX3_ticksToWrite_4 (by decide) ?_
  obtain ⟨r_1, X_1, h_1, hf2⟩ := m_bi_s hf0
  clear hf0
  refine m_callVi (q := (RX6, TX6, 1)) C [.int 2] [] (c_X6_valueOf l D a cy hG N _ _ h_1) (m_goodV wl_X3_155 wi_X6_valueOf ws_X6_valueOf wn_X6 wc_X6_valueOf) ⟨rfl, rfl⟩ hv_X6_valueOf ⟨Nat.le_of_ble_eq_true rfl, Nat.le_of_ble_eq_true rfl⟩ rfl mC_17 hP hS rfl hl.1 rfl (Nat.le_of_ble_eq_true rfl) dX3_ticksToWrite_5 (fun H locs hP hS => ?_)
  refine lv_iload_n hx hb dX3_ticksToWrite_8 rfl (lv_at hl 1 rfl) ?_
  refine lv_iconst (v := 4) hx hb dX3_ticksToWrite_9 (by decide) ?_
  refine lv_idiv hx hb dX3_ticksToWrite_10 (by decide) ?_
  refine lv_topi (fun y_3 e_3 => ?_)
  have hf4 := m_nm_s e_3 hf2
  clear hf2
  refine lv_iadd hx hb dX3_ticksToWrite_11 ?_
  refine lv_topi (fun y_5 e_5 => ?_)
  have hf6 := m_nm_s e_5 hf4
  clear hf4
  exact m_iret C hP hS dX3_ticksToWrite_12 hf6
abbrev rm_X3_startWriting : Room := { frames := 2, cells := 0, slots := 0, locals := 43 }
def f_X3_startWriting (N : Nat) (X : XT) : Option XT := if (X 0 10) = (-5) then (m_bi (f_X4_size N X) fun r_4 X_4 => if r_4 = 0 then (some X_4) else (m_bi (f_X4_takeFirst N X_4) fun r_9 X_9 => m_nm (m_up X_9 0 (upd (X_9 0) 10 r_9)) fun X_11 => m_bi (f_X1_recordsOf N (X_11 0 10) X_11) fun r_13 X_13 => m_bi (f_X3_ticksToWrite N r_13 X_13) fun r_15 X_15 => m_nm (m_up X_15 0 (upd (X_15 0) 11 r_15)) fun X_17 => m_bv (f_X1_setState N (X_17 0 10) 3 X_17) fun X_19 => m_bv (f_X0_moveMembers N (X_19 0 10) 2 3 X_19) fun X_21 => some X_21)) else (some X)
set_option maxHeartbeats 4000000 in
set_option maxRecDepth 100000 in
theorem c_X3_startWriting (l : Launch) (D : va_G) (a : Nat → Nat) (cy : Nat → ClassId) (hG : m_inj 138 a) (N : Nat) (X : XT) {X0 : XT} (hf0 : f_X3_startWriting N X = some X0) : Met l yX3_startWriting (Cond.code yX3_startWriting cX3_startWriting 1 none :: m_tbl) rm_X3_startWriting (va_Pc [.ref (a 0)] (m_PX D (m_tc cy) (m_WC a cy) (m_ZC a) X)) (m_QV D (m_WC a cy) (m_AC a) X0) 0 0 (m_AC a) := by
  refine m_met (own := RX3) hy_X3_startWriting rfl (Nat.le_of_ble_eq_true rfl) (m_wl_D hG _) m_ZC_keep ?_
  intro p e s m args below meth c C ls hl hP hS
  have hx := C.1.1
  have hb := C.1.2.1
  have hl : lv_has ls 1 [(0, .ref (a 0))] := hl
  unfold f_X3_startWriting at hf0
  suffices K : ∀ (H : Heap) (locs : List Loc), va_P D vwCl (m_WC a cy X) H → va_S (m_AC a) s.heap H locs → W p l e rm_X3_startWriting s m args below meth c H locs 0 0 (MQ below (m_QV D (m_WC a cy) (m_AC a) X0) args s 0 0 (m_AC a)) (F0 m 0 ls []) from K _ _ hP hS
  clear hP hS
  intro H locs hP hS
  refine lv_aload_n hx hb dX3_startWriting_0 rfl (lv_at hl 0 rfl) ?_
  refine m_get C hP mC_0 rfl inX3 10 (by decide) wf_X3_53 rfl dX3_startWriting_1 ?_
  refine lv_bipush (v := (-5)) hx hb dX3_startWriting_4 (by decide) ?_
  refine lv_icmp_ne (tgt := 19) hx hb dX3_startWriting_6 (by decide) (fun c_1 => ?_) (fun c_1 => ?_)
  · have hf2 := m_ie c_1 hf0
    clear hf0
    exact m_vret C hP hS dX3_startWriting_19 hf2
  · have hf3 := m_it c_1 hf0
    clear hf0
    refine lv_aload_n hx hb dX3_startWriting_9 rfl (lv_at hl 0 rfl) ?_
    refine m_get C hP mC_0 rfl inX3 2 (by decide) wf_X3_28 rfl dX3_startWriting_10 ?_
    obtain ⟨r_4, X_4, h_4, hf5⟩ := m_bi_s hf3
    clear hf3
    refine m_callVi (q := (RX4, TX4, 3)) C [] [] (c_X4_size l D a cy hG N _ h_4) (m_goodV wl_X3_190 wi_X4_size ws_X4_size wn_X4 wc_X4_size) ⟨rfl, rfl⟩ hv_X4_size ⟨Nat.le_of_ble_eq_true rfl, Nat.le_of_ble_eq_true rfl⟩ rfl mC_15 hP hS rfl hl.1 rfl (Nat.le_of_ble_eq_true rfl) dX3_startWriting_13 (fun H locs hP hS => ?_)
    refine lv_if_ne (tgt := 20) hx hb dX3_startWriting_16 (by decide) (fun c_6 => ?_) (fun c_6 => ?_)
    · have hf7 := m_ie c_6 hf5
      clear hf5
      refine lv_aload_n hx hb dX3_startWriting_20 rfl (lv_at hl 0 rfl) ?_
      refine lv_aload_n hx hb dX3_startWriting_21 rfl (lv_at hl 0 rfl) ?_
      refine m_get C hP mC_0 rfl inX3 2 (by decide) wf_X3_28 rfl dX3_startWriting_22 ?_
      obtain ⟨r_9, X_9, h_9, hf10⟩ := m_bi_s hf7
      clear hf7
      refine m_callVi (q := (RX4, TX4, 3)) C [] [.ref (a 0)] (c_X4_takeFirst l D a cy hG N _ h_9) (m_goodV wl_X3_193 wi_X4_takeFirst ws_X4_takeFirst wn_X4 wc_X4_takeFirst) ⟨rfl, rfl⟩ hv_X4_takeFirst ⟨Nat.le_of_ble_eq_true rfl, Nat.le_of_ble_eq_true rfl⟩ rfl mC_15 hP hS rfl hl.1 rfl (Nat.le_of_ble_eq_true rfl) dX3_startWriting_25 (fun H locs hP hS => ?_)
      refine m_put C hP hS mC_0 rfl inX3 tyX3_ok nmX3 10 (by decide) wf_X3_53 rfl rfl rfl (Nat.le_of_ble_eq_true rfl) mC_0_10 dX3_startWriting_28 (fun X_11 e_11 H locs hP hS => ?_)
      have hf12 := m_nm_s e_11 hf10
      clear hf10
      refine lv_aload_n hx hb dX3_startWriting_31 rfl (lv_at hl 0 rfl) ?_
      refine lv_aload_n hx hb dX3_startWriting_32 rfl (lv_at hl 0 rfl) ?_
      refine lv_aload_n hx hb dX3_startWriting_33 rfl (lv_at hl 0 rfl) ?_
      refine m_get C hP mC_0 rfl inX3 1 (by decide) wf_X3_21 rfl dX3_startWriting_34 ?_
      refine lv_aload_n hx hb dX3_startWriting_37 rfl (lv_at hl 0 rfl) ?_
      refine m_get C hP mC_0 rfl inX3 10 (by decide) wf_X3_53 rfl dX3_startWriting_38 ?_
      obtain ⟨r_13, X_13, h_13, hf14⟩ := m_bi_s hf12
      clear hf12
      refine m_callVi (q := (RX1, TX1, 5)) C [.int (X_11 0 10)] [.ref (a 0), .ref (a 0)] (c_X1_recordsOf l D a cy hG N _ _ h_13) (m_goodV wl_X3_117 wi_X1_recordsOf ws_X1_recordsOf wn_X1 wc_X1_recordsOf) ⟨rfl, rfl⟩ hv_X1_recordsOf ⟨Nat.le_of_ble_eq_true rfl, Nat.le_of_ble_eq_true rfl⟩ rfl mC_10 hP hS rfl hl.1 rfl (Nat.le_of_ble_eq_true rfl) dX3_startWriting_41 (fun H locs hP hS => ?_)
      obtain ⟨r_15, X_15, h_15, hf16⟩ := m_bi_s hf14
      clear hf14
      refine m_callVi (q := (RX3, TX3, 12)) C [.int r_13] [.ref (a 0)] (c_X3_ticksToWrite l D a cy hG N _ _ h_15) (m_goodV wl_X3_196 wi_X3_ticksToWrite ws_X3_ticksToWrite wn_X3 wc_X3_ticksToWrite) ⟨rfl, rfl⟩ hv_X3_ticksToWrite ⟨Nat.le_of_ble_eq_true rfl, Nat.le_of_ble_eq_true rfl⟩ rfl mC_0 hP hS rfl hl.1 rfl (Nat.le_of_ble_eq_true rfl) dX3_startWriting_44 (fun H locs hP hS => ?_)
      refine m_put C hP hS mC_0 rfl inX3 tyX3_ok nmX3 11 (by decide) wf_X3_81 rfl rfl rfl (Nat.le_of_ble_eq_true rfl) mC_0_11 dX3_startWriting_47 (fun X_17 e_17 H locs hP hS => ?_)
      have hf18 := m_nm_s e_17 hf16
      clear hf16
      refine lv_aload_n hx hb dX3_startWriting_50 rfl (lv_at hl 0 rfl) ?_
      refine m_get C hP mC_0 rfl inX3 1 (by decide) wf_X3_21 rfl dX3_startWriting_51 ?_
      refine lv_aload_n hx hb dX3_startWriting_54 rfl (lv_at hl 0 rfl) ?_
      refine m_get C hP mC_0 rfl inX3 10 (by decide) wf_X3_53 rfl dX3_startWriting_55 ?_
      refine lv_iconst (v := 3) hx hb dX3_startWriting_58 (by decide) ?_
      obtain ⟨X_19, h_19, hf20⟩ := m_bv_s hf18
      clear hf18
      refine m_callVv (q := (RX1, TX1, 5)) C [.int (X_17 0 10), .int 3] [] (c_X1_setState l D a cy hG N _ _ _ h_19) (m_goodV wl_X3_189 wi_X1_setState ws_X1_setState wn_X1 wc_X1_setState) ⟨rfl, rfl⟩ hv_X1_setState ⟨Nat.le_of_ble_eq_true rfl, Nat.le_of_ble_eq_true rfl⟩ rfl mC_10 hP hS rfl hl.1 rfl (Nat.le_of_ble_eq_true rfl) dX3_startWriting_59 (fun H locs hP hS => ?_)
      refine lv_aload_n hx hb dX3_startWriting_62 rfl (lv_at hl 0 rfl) ?_
      refine m_get C hP mC_0 rfl inX3 0 (by decide) wf_X3_12 rfl dX3_startWriting_63 ?_
      refine lv_aload_n hx hb dX3_startWriting_66 rfl (lv_at hl 0 rfl) ?_
      refine m_get C hP mC_0 rfl inX3 10 (by decide) wf_X3_53 rfl dX3_startWriting_67 ?_
      refine lv_iconst (v := 2) hx hb dX3_startWriting_70 (by decide) ?_
      refine lv_iconst (v := 3) hx hb dX3_startWriting_71 (by decide) ?_
      obtain ⟨X_21, h_21, hf22⟩ := m_bv_s hf20
      clear hf20
      refine m_callVv (q := (RX0, TX0, 9)) C [.int (X_19 0 10), .int 2, .int 3] [] (c_X0_moveMembers l D a cy hG N _ _ _ _ h_21) (m_goodV wl_X3_161 wi_X0_moveMembers ws_X0_moveMembers wn_X0 wc_X0_moveMembers) ⟨rfl, rfl⟩ hv_X0_moveMembers ⟨Nat.le_of_ble_eq_true rfl, Nat.le_of_ble_eq_true rfl⟩ rfl mC_1 hP hS rfl hl.1 rfl (Nat.le_of_ble_eq_true rfl) dX3_startWriting_72 (fun H locs hP hS => ?_)
      exact m_vret C hP hS dX3_startWriting_75 hf22
    · have hf8 := m_it c_6 hf5
      clear hf5
      exact m_vret C hP hS dX3_startWriting_19 hf8
abbrev rm_X3_enter : Room := { frames := 3, cells := 0, slots := 0, locals := 73 }
def f_X3_enter_13 (N : Nat) (v1 : Int32) (v2 : Int32) (v3 : Int32) (X : XT) : Option (Int32 × XT) := m_bi (f_X0_add N v1 v2 v3 (X 0 6) (X 0 8) X) fun r_4 X_4 => m_bv (f_X1_join N (X_4 0 8) v2 X_4) fun X_6 => m_bv (f_X3_setOpenCommit N v1 r_4 X_6) fun X_8 => m_gd (m_in 0 8) <| m_nm (X_8 19 (Int32.toNatClampNeg 0)) fun y_10 => m_nm (y_10 + 1) fun y_13 => m_gd (m_in 0 8) <| m_nm (m_up X_8 19 (upd (X_8 19) (Int32.toNatClampNeg 0) y_13)) fun X_15 => m_bi (f_X1_recordsOf N (X_15 0 8) X_15) fun r_18 X_18 => m_bi (f_X3_reasonToClose N v3 r_18 (X_18 0 9) X_18) fun r_20 X_20 => if r_20 = 0 then (some (r_4, X_20)) else (m_bv (f_X3_closeGathering N r_20 X_20) fun X_25 => m_bv (f_X3_startWriting N X_25) fun X_27 => some (r_4, X_27))
set_option maxHeartbeats 4000000 in
set_option maxRecDepth 100000 in
theorem w_X3_enter_13 (l : Launch) (D : va_G) (a : Nat → Nat) (cy : Nat → ClassId) (hG : m_inj 138 a) (N : Nat) {p : Program} {e : Env} {s : State} {m : MethodId} {args : Array Value} {below : List Frame} {meth : Method} {c : Code} (C : m_Cx p s m args meth c cX3_enter 6 RX3 (some .int) (Cond.code yX3_enter cX3_enter 6 (some .int)) D (m_tc cy) (m_AC a) (m_WC a cy) (m_ZC a)) {r0 : Int32} {X0 : XT} (v1 : Int32) (v2 : Int32) (v3 : Int32) (X : XT) (hf0 : f_X3_enter_13 N v1 v2 v3 X = some (r0, X0)) : ∀ (H : Heap) (locs : List Loc) (ls : Array Slot), va_P D vwCl (m_WC a cy X) H → va_S (m_AC a) s.heap H locs → lv_has ls 6 [(0, .ref (a 0)), (1, .int v1), (2, .int v2), (3, .int v3)] → W p l e rm_X3_enter s m args below meth c H locs 0 0 (MQ below (m_QI D (m_WC a cy) (m_AC a) r0 X0) args s 0 0 (m_AC a)) (F0 m 13 ls []) := by
  have hx := C.1.1
  have hb := C.1.2.1
  intro H locs ls hP hS hl
  unfold f_X3_enter_13 at hf0
  refine lv_aload_n hx hb dX3_enter_13 rfl (lv_at hl 0 rfl) ?_
  refine m_get C hP mC_0 rfl inX3 0 (by decide) wf_X3_12 rfl dX3_enter_14 ?_
  refine lv_iload_n hx hb dX3_enter_17 rfl (lv_at hl 1 rfl) ?_
  refine lv_iload_n hx hb dX3_enter_18 rfl (lv_at hl 2 rfl) ?_
  refine lv_iload_n hx hb dX3_enter_19 rfl (lv_at hl 3 rfl) ?_
  refine lv_aload_n hx hb dX3_enter_20 rfl (lv_at hl 0 rfl) ?_
  refine m_get C hP mC_0 rfl inX3 6 (by decide) wf_X3_75 rfl dX3_enter_21 ?_
  refine lv_aload_n hx hb dX3_enter_24 rfl (lv_at hl 0 rfl) ?_
  refine m_get C hP mC_0 rfl inX3 8 (by decide) wf_X3_50 rfl dX3_enter_25 ?_
  obtain ⟨r_4, X_4, h_4, hf5⟩ := m_bi_s hf0
  clear hf0
  refine m_callVi (q := (RX0, TX0, 9)) C [.int v1, .int v2, .int v3, .int (X 0 6), .int (X 0 8)] [] (c_X0_add l D a cy hG N _ _ _ _ _ _ h_4) (m_goodV wl_X3_106 wi_X0_add ws_X0_add wn_X0 wc_X0_add) ⟨rfl, rfl⟩ hv_X0_add ⟨Nat.le_of_ble_eq_true rfl, Nat.le_of_ble_eq_true rfl⟩ rfl mC_1 hP hS rfl hl.1 rfl (Nat.le_of_ble_eq_true rfl) dX3_enter_28 (fun H locs hP hS => ?_)
  refine lv_istore (lv' := [(4, .int r_4), (0, .ref (a 0)), (1, .int v1), (2, .int v2), (3, .int v3)]) hx hb dX3_enter_31 hl (by decide) rfl (fun ls hl => ?_)
  refine lv_aload_n hx hb dX3_enter_33 rfl (lv_at hl 1 rfl) ?_
  refine m_get C hP mC_0 rfl inX3 1 (by decide) wf_X3_21 rfl dX3_enter_34 ?_
  refine lv_aload_n hx hb dX3_enter_37 rfl (lv_at hl 1 rfl) ?_
  refine m_get C hP mC_0 rfl inX3 8 (by decide) wf_X3_50 rfl dX3_enter_38 ?_
  refine lv_iload_n hx hb dX3_enter_41 rfl (lv_at hl 3 rfl) ?_
  obtain ⟨X_6, h_6, hf7⟩ := m_bv_s hf5
  clear hf5
  refine m_callVv (q := (RX1, TX1, 5)) C [.int (X_4 0 8), .int v2] [] (c_X1_join l D a cy hG N _ _ _ h_6) (m_goodV wl_X3_110 wi_X1_join ws_X1_join wn_X1 wc_X1_join) ⟨rfl, rfl⟩ hv_X1_join ⟨Nat.le_of_ble_eq_true rfl, Nat.le_of_ble_eq_true rfl⟩ rfl mC_10 hP hS rfl hl.1 rfl (Nat.le_of_ble_eq_true rfl) dX3_enter_42 (fun H locs hP hS => ?_)
  refine lv_aload_n hx hb dX3_enter_45 rfl (lv_at hl 1 rfl) ?_
  refine lv_iload_n hx hb dX3_enter_46 rfl (lv_at hl 2 rfl) ?_
  refine lv_iload hx hb dX3_enter_47 (lv_at hl 0 rfl) ?_
  obtain ⟨X_8, h_8, hf9⟩ := m_bv_s hf7
  clear hf7
  refine m_callVv (q := (RX3, TX3, 12)) C [.int v1, .int r_4] [] (c_X3_setOpenCommit l D a cy hG N _ _ _ h_8) (m_goodV wl_X3_114 wi_X3_setOpenCommit ws_X3_setOpenCommit wn_X3 wc_X3_setOpenCommit) ⟨rfl, rfl⟩ hv_X3_setOpenCommit ⟨Nat.le_of_ble_eq_true rfl, Nat.le_of_ble_eq_true rfl⟩ rfl mC_0 hP hS rfl hl.1 rfl (Nat.le_of_ble_eq_true rfl) dX3_enter_49 (fun H locs hP hS => ?_)
  refine lv_aload_n hx hb dX3_enter_52 rfl (lv_at hl 1 rfl) ?_
  refine m_get C hP mC_0 rfl inX3 4 (by decide) wf_X3_39 rfl dX3_enter_53 ?_
  refine lv_iconst (v := 0) hx hb dX3_enter_56 (by decide) ?_
  refine lv_dup2_11 hx hb dX3_enter_57 rfl rfl ?_
  obtain ⟨g_10, hf11⟩ := m_gd_s hf9
  clear hf9
  refine m_ild C hP mC_19 0 rfl g_10 dX3_enter_58 (fun y_10 e_10 => ?_)
  have hf12 := m_nm_s e_10 hf11
  clear hf11
  refine lv_iconst (v := 1) hx hb dX3_enter_59 (by decide) ?_
  refine lv_iadd hx hb dX3_enter_60 ?_
  refine lv_topi (fun y_13 e_13 => ?_)
  have hf14 := m_nm_s e_13 hf12
  clear hf12
  obtain ⟨g_15, hf16⟩ := m_gd_s hf14
  clear hf14
  refine m_ist C hP hS mC_19 0 rfl g_15 mCs_19 dX3_enter_61 (fun X_15 e_15 H locs hP hS => ?_)
  have hf17 := m_nm_s e_15 hf16
  clear hf16
  refine lv_aload_n hx hb dX3_enter_62 rfl (lv_at hl 1 rfl) ?_
  refine lv_iload_n hx hb dX3_enter_63 rfl (lv_at hl 4 rfl) ?_
  refine lv_aload_n hx hb dX3_enter_64 rfl (lv_at hl 1 rfl) ?_
  refine m_get C hP mC_0 rfl inX3 1 (by decide) wf_X3_21 rfl dX3_enter_65 ?_
  refine lv_aload_n hx hb dX3_enter_68 rfl (lv_at hl 1 rfl) ?_
  refine m_get C hP mC_0 rfl inX3 8 (by decide) wf_X3_50 rfl dX3_enter_69 ?_
  obtain ⟨r_18, X_18, h_18, hf19⟩ := m_bi_s hf17
  clear hf17
  refine m_callVi (q := (RX1, TX1, 5)) C [.int (X_15 0 8)] [.int v3, .ref (a 0)] (c_X1_recordsOf l D a cy hG N _ _ h_18) (m_goodV wl_X3_117 wi_X1_recordsOf ws_X1_recordsOf wn_X1 wc_X1_recordsOf) ⟨rfl, rfl⟩ hv_X1_recordsOf ⟨Nat.le_of_ble_eq_true rfl, Nat.le_of_ble_eq_true rfl⟩ rfl mC_10 hP hS rfl hl.1 rfl (Nat.le_of_ble_eq_true rfl) dX3_enter_72 (fun H locs hP hS => ?_)
  refine lv_aload_n hx hb dX3_enter_75 rfl (lv_at hl 1 rfl) ?_
  refine m_get C hP mC_0 rfl inX3 9 (by decide) wf_X3_78 rfl dX3_enter_76 ?_
  obtain ⟨r_20, X_20, h_20, hf21⟩ := m_bi_s hf19
  clear hf19
  refine m_callVi (q := (RX3, TX3, 12)) C [.int v3, .int r_18, .int (X_18 0 9)] [] (c_X3_reasonToClose l D a cy hG N _ _ _ _ h_20) (m_goodV wl_X3_120 wi_X3_reasonToClose ws_X3_reasonToClose wn_X3 wc_X3_reasonToClose) ⟨rfl, rfl⟩ hv_X3_reasonToClose ⟨Nat.le_of_ble_eq_true rfl, Nat.le_of_ble_eq_true rfl⟩ rfl mC_0 hP hS rfl hl.1 rfl (Nat.le_of_ble_eq_true rfl) dX3_enter_79 (fun H locs hP hS => ?_)
  refine lv_istore (lv' := [(5, .int r_20), (4, .int r_4), (0, .ref (a 0)), (1, .int v1), (2, .int v2), (3, .int v3)]) hx hb dX3_enter_82 hl (by decide) rfl (fun ls hl => ?_)
  refine lv_iload hx hb dX3_enter_84 (lv_at hl 0 rfl) ?_
  refine lv_if_eq (tgt := 99) hx hb dX3_enter_86 (by decide) (fun c_22 => ?_) (fun c_22 => ?_)
  · have hf23 := m_it c_22 hf21
    clear hf21
    refine lv_iload hx hb dX3_enter_99 (lv_at hl 1 rfl) ?_
    exact m_iret C hP hS dX3_enter_101 hf23
  · have hf24 := m_ie c_22 hf21
    clear hf21
    refine lv_aload_n hx hb dX3_enter_89 rfl (lv_at hl 2 rfl) ?_
    refine lv_iload hx hb dX3_enter_90 (lv_at hl 0 rfl) ?_
    obtain ⟨X_25, h_25, hf26⟩ := m_bv_s hf24
    clear hf24
    refine m_callVv (q := (RX3, TX3, 12)) C [.int r_20] [] (c_X3_closeGathering l D a cy hG N _ _ h_25) (m_goodV wl_X3_124 wi_X3_closeGathering ws_X3_closeGathering wn_X3 wc_X3_closeGathering) ⟨rfl, rfl⟩ hv_X3_closeGathering ⟨Nat.le_of_ble_eq_true rfl, Nat.le_of_ble_eq_true rfl⟩ rfl mC_0 hP hS rfl hl.1 rfl (Nat.le_of_ble_eq_true rfl) dX3_enter_92 (fun H locs hP hS => ?_)
    refine lv_aload_n hx hb dX3_enter_95 rfl (lv_at hl 2 rfl) ?_
    obtain ⟨X_27, h_27, hf28⟩ := m_bv_s hf26
    clear hf26
    refine m_callVv (q := (RX3, TX3, 12)) C [] [] (c_X3_startWriting l D a cy hG N _ h_27) (m_goodV wl_X3_128 wi_X3_startWriting ws_X3_startWriting wn_X3 wc_X3_startWriting) ⟨rfl, rfl⟩ hv_X3_startWriting ⟨Nat.le_of_ble_eq_true rfl, Nat.le_of_ble_eq_true rfl⟩ rfl mC_0 hP hS rfl hl.1 rfl (Nat.le_of_ble_eq_true rfl) dX3_enter_96 (fun H locs hP hS => ?_)
    refine lv_iload hx hb dX3_enter_99 (lv_at hl 1 rfl) ?_
    exact m_iret C hP hS dX3_enter_101 hf28
def f_X3_enter (N : Nat) (v1 : Int32) (v2 : Int32) (v3 : Int32) (X : XT) : Option (Int32 × XT) := if (X 0 8) = (-5) then (m_bv (f_X3_beginGroup N X) fun X_29 => f_X3_enter_13 N v1 v2 v3 X_29) else (f_X3_enter_13 N v1 v2 v3 X)
set_option maxHeartbeats 4000000 in
set_option maxRecDepth 100000 in
theorem c_X3_enter (l : Launch) (D : va_G) (a : Nat → Nat) (cy : Nat → ClassId) (hG : m_inj 138 a) (N : Nat) (v1 : Int32) (v2 : Int32) (v3 : Int32) (X : XT) {r0 : Int32} {X0 : XT} (hf0 : f_X3_enter N v1 v2 v3 X = some (r0, X0)) : Met l yX3_enter (Cond.code yX3_enter cX3_enter 6 (some .int) :: m_tbl) rm_X3_enter (va_Pc [.ref (a 0), .int v1, .int v2, .int v3] (m_PX D (m_tc cy) (m_WC a cy) (m_ZC a) X)) (m_QI D (m_WC a cy) (m_AC a) r0 X0) 0 0 (m_AC a) := by
  refine m_met (own := RX3) hy_X3_enter rfl (Nat.le_of_ble_eq_true rfl) (m_wl_D hG _) m_ZC_keep ?_
  intro p e s m args below meth c C ls hl hP hS
  have hx := C.1.1
  have hb := C.1.2.1
  have hl : lv_has ls 6 [(0, .ref (a 0)), (1, .int v1), (2, .int v2), (3, .int v3)] := hl
  unfold f_X3_enter at hf0
  suffices K : ∀ (H : Heap) (locs : List Loc), va_P D vwCl (m_WC a cy X) H → va_S (m_AC a) s.heap H locs → W p l e rm_X3_enter s m args below meth c H locs 0 0 (MQ below (m_QI D (m_WC a cy) (m_AC a) r0 X0) args s 0 0 (m_AC a)) (F0 m 0 ls []) from K _ _ hP hS
  clear hP hS
  intro H locs hP hS
  refine lv_aload_n hx hb dX3_enter_0 rfl (lv_at hl 0 rfl) ?_
  refine m_get C hP mC_0 rfl inX3 8 (by decide) wf_X3_50 rfl dX3_enter_1 ?_
  refine lv_bipush (v := (-5)) hx hb dX3_enter_4 (by decide) ?_
  refine lv_icmp_ne (tgt := 13) hx hb dX3_enter_6 (by decide) (fun c_1 => ?_) (fun c_1 => ?_)
  · have hf2 := m_ie c_1 hf0
    clear hf0
    exact w_X3_enter_13 l D a cy hG N C _ _ _ _ hf2 H locs ls hP hS (lv_sub hl [0, 1, 2, 3] rfl)
  · have hf3 := m_it c_1 hf0
    clear hf0
    refine lv_aload_n hx hb dX3_enter_9 rfl (lv_at hl 0 rfl) ?_
    obtain ⟨X_29, h_29, hf30⟩ := m_bv_s hf3
    clear hf3
    refine m_callVv (q := (RX3, TX3, 12)) C [] [] (c_X3_beginGroup l D a cy hG N _ h_29) (m_goodV wl_X3_103 wi_X3_beginGroup ws_X3_beginGroup wn_X3 wc_X3_beginGroup) ⟨rfl, rfl⟩ hv_X3_beginGroup ⟨Nat.le_of_ble_eq_true rfl, Nat.le_of_ble_eq_true rfl⟩ rfl mC_0 hP hS rfl hl.1 rfl (Nat.le_of_ble_eq_true rfl) dX3_enter_10 (fun H locs hP hS => ?_)
    exact w_X3_enter_13 l D a cy hG N C _ _ _ _ hf30 H locs ls hP hS (lv_sub hl [0, 1, 2, 3] rfl)
abbrev rm_X3_leaveGathering : Room := { frames := 2, cells := 0, slots := 0, locals := 43 }
def f_X3_leaveGathering_21 (N : Nat) (v1 : Int32) (u0 : Int32) (X : XT) : Option XT := m_bv (f_X0_leaveGroup N v1 X) fun X_6 => m_bi (f_X0_recordsOf N v1 X_6) fun r_8 X_8 => m_bv (f_X1_leave N (X_6 0 8) r_8 X_8) fun X_10 => m_bi (f_X1_membersOf N (X_10 0 8) X_10) fun r_12 X_12 => if r_12 = 0 then (m_bv (f_X1_setState N (X_12 0 8) 5 X_12) fun X_24 => m_nm (m_up X_24 0 (upd (X_24 0) 8 (-5))) fun X_26 => some X_26) else (if u0 = 0 then (some X_12) else (m_nm ((X_12 0 6) + (X_12 0 7)) fun y_20 => m_nm (m_up X_12 0 (upd (X_12 0) 9 y_20)) fun X_22 => some X_22))
set_option maxHeartbeats 4000000 in
set_option maxRecDepth 100000 in
theorem w_X3_leaveGathering_21 (l : Launch) (D : va_G) (a : Nat → Nat) (cy : Nat → ClassId) (hG : m_inj 138 a) (N : Nat) {p : Program} {e : Env} {s : State} {m : MethodId} {args : Array Value} {below : List Frame} {meth : Method} {c : Code} (C : m_Cx p s m args meth c cX3_leaveGathering 3 RX3 none (Cond.code yX3_leaveGathering cX3_leaveGathering 3 none) D (m_tc cy) (m_AC a) (m_WC a cy) (m_ZC a)) {X0 : XT} (v1 : Int32) (u0 : Int32) (X : XT) (hf0 : f_X3_leaveGathering_21 N v1 u0 X = some X0) : ∀ (H : Heap) (locs : List Loc) (ls : Array Slot), va_P D vwCl (m_WC a cy X) H → va_S (m_AC a) s.heap H locs → lv_has ls 3 [(0, .ref (a 0)), (1, .int v1)] → W p l e rm_X3_leaveGathering s m args below meth c H locs 0 0 (MQ below (m_QV D (m_WC a cy) (m_AC a) X0) args s 0 0 (m_AC a)) (F0 m 21 ls [.int u0]) := by
  have hx := C.1.1
  have hb := C.1.2.1
  intro H locs ls hP hS hl
  unfold f_X3_leaveGathering_21 at hf0
  refine lv_istore_n (lv' := [(2, .int u0), (0, .ref (a 0)), (1, .int v1)]) hx hb dX3_leaveGathering_21 rfl hl (by decide) rfl (fun ls hl => ?_)
  refine lv_aload_n hx hb dX3_leaveGathering_22 rfl (lv_at hl 1 rfl) ?_
  refine m_get C hP mC_0 rfl inX3 0 (by decide) wf_X3_12 rfl dX3_leaveGathering_23 ?_
  refine lv_iload_n hx hb dX3_leaveGathering_26 rfl (lv_at hl 2 rfl) ?_
  obtain ⟨X_6, h_6, hf7⟩ := m_bv_s hf0
  clear hf0
  refine m_callVv (q := (RX0, TX0, 9)) C [.int v1] [] (c_X0_leaveGroup l D a cy hG N _ _ h_6) (m_goodV wl_X3_182 wi_X0_leaveGroup ws_X0_leaveGroup wn_X0 wc_X0_leaveGroup) ⟨rfl, rfl⟩ hv_X0_leaveGroup ⟨Nat.le_of_ble_eq_true rfl, Nat.le_of_ble_eq_true rfl⟩ rfl mC_1 hP hS rfl hl.1 rfl (Nat.le_of_ble_eq_true rfl) dX3_leaveGathering_27 (fun H locs hP hS => ?_)
  refine lv_aload_n hx hb dX3_leaveGathering_30 rfl (lv_at hl 1 rfl) ?_
  refine m_get C hP mC_0 rfl inX3 1 (by decide) wf_X3_21 rfl dX3_leaveGathering_31 ?_
  refine lv_aload_n hx hb dX3_leaveGathering_34 rfl (lv_at hl 1 rfl) ?_
  refine m_get C hP mC_0 rfl inX3 8 (by decide) wf_X3_50 rfl dX3_leaveGathering_35 ?_
  refine lv_aload_n hx hb dX3_leaveGathering_38 rfl (lv_at hl 1 rfl) ?_
  refine m_get C hP mC_0 rfl inX3 0 (by decide) wf_X3_12 rfl dX3_leaveGathering_39 ?_
  refine lv_iload_n hx hb dX3_leaveGathering_42 rfl (lv_at hl 2 rfl) ?_
  obtain ⟨r_8, X_8, h_8, hf9⟩ := m_bi_s hf7
  clear hf7
  refine m_callVi (q := (RX0, TX0, 9)) C [.int v1] [.int (X_6 0 8), .ref (a 10)] (c_X0_recordsOf l D a cy hG N _ _ h_8) (m_goodV wl_X3_185 wi_X0_recordsOf ws_X0_recordsOf wn_X0 wc_X0_recordsOf) ⟨rfl, rfl⟩ hv_X0_recordsOf ⟨Nat.le_of_ble_eq_true rfl, Nat.le_of_ble_eq_true rfl⟩ rfl mC_1 hP hS rfl hl.1 rfl (Nat.le_of_ble_eq_true rfl) dX3_leaveGathering_43 (fun H locs hP hS => ?_)
  obtain ⟨X_10, h_10, hf11⟩ := m_bv_s hf9
  clear hf9
  refine m_callVv (q := (RX1, TX1, 5)) C [.int (X_6 0 8), .int r_8] [] (c_X1_leave l D a cy hG N _ _ _ h_10) (m_goodV wl_X3_186 wi_X1_leave ws_X1_leave wn_X1 wc_X1_leave) ⟨rfl, rfl⟩ hv_X1_leave ⟨Nat.le_of_ble_eq_true rfl, Nat.le_of_ble_eq_true rfl⟩ rfl mC_10 hP hS rfl hl.1 rfl (Nat.le_of_ble_eq_true rfl) dX3_leaveGathering_46 (fun H locs hP hS => ?_)
  refine lv_aload_n hx hb dX3_leaveGathering_49 rfl (lv_at hl 1 rfl) ?_
  refine m_get C hP mC_0 rfl inX3 1 (by decide) wf_X3_21 rfl dX3_leaveGathering_50 ?_
  refine lv_aload_n hx hb dX3_leaveGathering_53 rfl (lv_at hl 1 rfl) ?_
  refine m_get C hP mC_0 rfl inX3 8 (by decide) wf_X3_50 rfl dX3_leaveGathering_54 ?_
  obtain ⟨r_12, X_12, h_12, hf13⟩ := m_bi_s hf11
  clear hf11
  refine m_callVi (q := (RX1, TX1, 5)) C [.int (X_10 0 8)] [] (c_X1_membersOf l D a cy hG N _ _ h_12) (m_goodV wl_X3_143 wi_X1_membersOf ws_X1_membersOf wn_X1 wc_X1_membersOf) ⟨rfl, rfl⟩ hv_X1_membersOf ⟨Nat.le_of_ble_eq_true rfl, Nat.le_of_ble_eq_true rfl⟩ rfl mC_10 hP hS rfl hl.1 rfl (Nat.le_of_ble_eq_true rfl) dX3_leaveGathering_57 (fun H locs hP hS => ?_)
  refine lv_if_ne (tgt := 84) hx hb dX3_leaveGathering_60 (by decide) (fun c_14 => ?_) (fun c_14 => ?_)
  · have hf15 := m_ie c_14 hf13
    clear hf13
    refine lv_iload_n hx hb dX3_leaveGathering_84 rfl (lv_at hl 0 rfl) ?_
    refine lv_if_eq (tgt := 101) hx hb dX3_leaveGathering_85 (by decide) (fun c_17 => ?_) (fun c_17 => ?_)
    · have hf18 := m_it c_17 hf15
      clear hf15
      exact m_vret C hP hS dX3_leaveGathering_101 hf18
    · have hf19 := m_ie c_17 hf15
      clear hf15
      refine lv_aload_n hx hb dX3_leaveGathering_88 rfl (lv_at hl 1 rfl) ?_
      refine lv_aload_n hx hb dX3_leaveGathering_89 rfl (lv_at hl 1 rfl) ?_
      refine m_get C hP mC_0 rfl inX3 6 (by decide) wf_X3_75 rfl dX3_leaveGathering_90 ?_
      refine lv_aload_n hx hb dX3_leaveGathering_93 rfl (lv_at hl 1 rfl) ?_
      refine m_get C hP mC_0 rfl inX3 7 (by decide) wf_X3_46 rfl dX3_leaveGathering_94 ?_
      refine lv_iadd hx hb dX3_leaveGathering_97 ?_
      refine lv_topi (fun y_20 e_20 => ?_)
      have hf21 := m_nm_s e_20 hf19
      clear hf19
      refine m_put C hP hS mC_0 rfl inX3 tyX3_ok nmX3 9 (by decide) wf_X3_78 rfl rfl rfl (Nat.le_of_ble_eq_true rfl) mC_0_9 dX3_leaveGathering_98 (fun X_22 e_22 H locs hP hS => ?_)
      have hf23 := m_nm_s e_22 hf21
      clear hf21
      exact m_vret C hP hS dX3_leaveGathering_101 hf23
  · have hf16 := m_it c_14 hf13
    clear hf13
    refine lv_aload_n hx hb dX3_leaveGathering_63 rfl (lv_at hl 1 rfl) ?_
    refine m_get C hP mC_0 rfl inX3 1 (by decide) wf_X3_21 rfl dX3_leaveGathering_64 ?_
    refine lv_aload_n hx hb dX3_leaveGathering_67 rfl (lv_at hl 1 rfl) ?_
    refine m_get C hP mC_0 rfl inX3 8 (by decide) wf_X3_50 rfl dX3_leaveGathering_68 ?_
    refine lv_iconst (v := 5) hx hb dX3_leaveGathering_71 (by decide) ?_
    obtain ⟨X_24, h_24, hf25⟩ := m_bv_s hf16
    clear hf16
    refine m_callVv (q := (RX1, TX1, 5)) C [.int (X_12 0 8), .int 5] [] (c_X1_setState l D a cy hG N _ _ _ h_24) (m_goodV wl_X3_189 wi_X1_setState ws_X1_setState wn_X1 wc_X1_setState) ⟨rfl, rfl⟩ hv_X1_setState ⟨Nat.le_of_ble_eq_true rfl, Nat.le_of_ble_eq_true rfl⟩ rfl mC_10 hP hS rfl hl.1 rfl (Nat.le_of_ble_eq_true rfl) dX3_leaveGathering_72 (fun H locs hP hS => ?_)
    refine lv_aload_n hx hb dX3_leaveGathering_75 rfl (lv_at hl 1 rfl) ?_
    refine lv_bipush (v := (-5)) hx hb dX3_leaveGathering_76 (by decide) ?_
    refine m_put C hP hS mC_0 rfl inX3 tyX3_ok nmX3 8 (by decide) wf_X3_50 rfl rfl rfl (Nat.le_of_ble_eq_true rfl) mC_0_8 dX3_leaveGathering_78 (fun X_26 e_26 H locs hP hS => ?_)
    have hf27 := m_nm_s e_26 hf25
    clear hf25
    refine lv_goto (tgt := 101) hx hb dX3_leaveGathering_81 (by decide) ?_
    exact m_vret C hP hS dX3_leaveGathering_101 hf27
def f_X3_leaveGathering (N : Nat) (v1 : Int32) (X : XT) : Option XT := m_bi (f_X0_memberAt N (X 0 8) 0 X) fun r_1 X_1 => if r_1 = v1 then (f_X3_leaveGathering_21 N v1 1 X_1) else (f_X3_leaveGathering_21 N v1 0 X_1)
set_option maxHeartbeats 4000000 in
set_option maxRecDepth 100000 in
theorem c_X3_leaveGathering (l : Launch) (D : va_G) (a : Nat → Nat) (cy : Nat → ClassId) (hG : m_inj 138 a) (N : Nat) (v1 : Int32) (X : XT) {X0 : XT} (hf0 : f_X3_leaveGathering N v1 X = some X0) : Met l yX3_leaveGathering (Cond.code yX3_leaveGathering cX3_leaveGathering 3 none :: m_tbl) rm_X3_leaveGathering (va_Pc [.ref (a 0), .int v1] (m_PX D (m_tc cy) (m_WC a cy) (m_ZC a) X)) (m_QV D (m_WC a cy) (m_AC a) X0) 0 0 (m_AC a) := by
  refine m_met (own := RX3) hy_X3_leaveGathering rfl (Nat.le_of_ble_eq_true rfl) (m_wl_D hG _) m_ZC_keep ?_
  intro p e s m args below meth c C ls hl hP hS
  have hx := C.1.1
  have hb := C.1.2.1
  have hl : lv_has ls 3 [(0, .ref (a 0)), (1, .int v1)] := hl
  unfold f_X3_leaveGathering at hf0
  suffices K : ∀ (H : Heap) (locs : List Loc), va_P D vwCl (m_WC a cy X) H → va_S (m_AC a) s.heap H locs → W p l e rm_X3_leaveGathering s m args below meth c H locs 0 0 (MQ below (m_QV D (m_WC a cy) (m_AC a) X0) args s 0 0 (m_AC a)) (F0 m 0 ls []) from K _ _ hP hS
  clear hP hS
  intro H locs hP hS
  refine lv_aload_n hx hb dX3_leaveGathering_0 rfl (lv_at hl 0 rfl) ?_
  refine m_get C hP mC_0 rfl inX3 0 (by decide) wf_X3_12 rfl dX3_leaveGathering_1 ?_
  refine lv_aload_n hx hb dX3_leaveGathering_4 rfl (lv_at hl 0 rfl) ?_
  refine m_get C hP mC_0 rfl inX3 8 (by decide) wf_X3_50 rfl dX3_leaveGathering_5 ?_
  refine lv_iconst (v := 0) hx hb dX3_leaveGathering_8 (by decide) ?_
  obtain ⟨r_1, X_1, h_1, hf2⟩ := m_bi_s hf0
  clear hf0
  refine m_callVi (q := (RX0, TX0, 9)) C [.int (X 0 8), .int 0] [] (c_X0_memberAt l D a cy hG N _ _ _ h_1) (m_goodV wl_X3_179 wi_X0_memberAt ws_X0_memberAt wn_X0 wc_X0_memberAt) ⟨rfl, rfl⟩ hv_X0_memberAt ⟨Nat.le_of_ble_eq_true rfl, Nat.le_of_ble_eq_true rfl⟩ rfl mC_1 hP hS rfl hl.1 rfl (Nat.le_of_ble_eq_true rfl) dX3_leaveGathering_9 (fun H locs hP hS => ?_)
  refine lv_iload_n hx hb dX3_leaveGathering_12 rfl (lv_at hl 1 rfl) ?_
  refine lv_icmp_ne (tgt := 20) hx hb dX3_leaveGathering_13 (by decide) (fun c_3 => ?_) (fun c_3 => ?_)
  · have hf4 := m_ie c_3 hf2
    clear hf2
    refine lv_iconst (v := 0) hx hb dX3_leaveGathering_20 (by decide) ?_
    exact w_X3_leaveGathering_21 l D a cy hG N C _ _ _ hf4 H locs ls hP hS (lv_sub hl [0, 1] rfl)
  · have hf5 := m_it c_3 hf2
    clear hf2
    refine lv_iconst (v := 1) hx hb dX3_leaveGathering_16 (by decide) ?_
    refine lv_goto (tgt := 21) hx hb dX3_leaveGathering_17 (by decide) ?_
    exact w_X3_leaveGathering_21 l D a cy hG N C _ _ _ hf5 H locs ls hP hS (lv_sub hl [0, 1] rfl)
abbrev rm_X3_endCommit : Room := { frames := 2, cells := 0, slots := 0, locals := 43 }
def f_X3_endCommit (N : Nat) (v1 : Int32) (v2 : Int32) (X : XT) : Option XT := m_bv (f_X0_setState N v1 v2 X) fun X_1 => m_bi (f_X0_clientOf N v1 X_1) fun r_3 X_3 => m_bv (f_X3_setOpenCommit N r_3 (-5) X_3) fun X_5 => some X_5
set_option maxHeartbeats 4000000 in
set_option maxRecDepth 100000 in
theorem c_X3_endCommit (l : Launch) (D : va_G) (a : Nat → Nat) (cy : Nat → ClassId) (hG : m_inj 138 a) (N : Nat) (v1 : Int32) (v2 : Int32) (X : XT) {X0 : XT} (hf0 : f_X3_endCommit N v1 v2 X = some X0) : Met l yX3_endCommit (Cond.code yX3_endCommit cX3_endCommit 3 none :: m_tbl) rm_X3_endCommit (va_Pc [.ref (a 0), .int v1, .int v2] (m_PX D (m_tc cy) (m_WC a cy) (m_ZC a) X)) (m_QV D (m_WC a cy) (m_AC a) X0) 0 0 (m_AC a) := by
  refine m_met (own := RX3) hy_X3_endCommit rfl (Nat.le_of_ble_eq_true rfl) (m_wl_D hG _) m_ZC_keep ?_
  intro p e s m args below meth c C ls hl hP hS
  have hx := C.1.1
  have hb := C.1.2.1
  have hl : lv_has ls 3 [(0, .ref (a 0)), (1, .int v1), (2, .int v2)] := hl
  unfold f_X3_endCommit at hf0
  suffices K : ∀ (H : Heap) (locs : List Loc), va_P D vwCl (m_WC a cy X) H → va_S (m_AC a) s.heap H locs → W p l e rm_X3_endCommit s m args below meth c H locs 0 0 (MQ below (m_QV D (m_WC a cy) (m_AC a) X0) args s 0 0 (m_AC a)) (F0 m 0 ls []) from K _ _ hP hS
  clear hP hS
  intro H locs hP hS
  refine lv_aload_n hx hb dX3_endCommit_0 rfl (lv_at hl 0 rfl) ?_
  refine m_get C hP mC_0 rfl inX3 0 (by decide) wf_X3_12 rfl dX3_endCommit_1 ?_
  refine lv_iload_n hx hb dX3_endCommit_4 rfl (lv_at hl 1 rfl) ?_
  refine lv_iload_n hx hb dX3_endCommit_5 rfl (lv_at hl 2 rfl) ?_
  obtain ⟨X_1, h_1, hf2⟩ := m_bv_s hf0
  clear hf0
  refine m_callVv (q := (RX0, TX0, 9)) C [.int v1, .int v2] [] (c_X0_setState l D a cy hG N _ _ _ h_1) (m_goodV wl_X3_146 wi_X0_setState ws_X0_setState wn_X0 wc_X0_setState) ⟨rfl, rfl⟩ hv_X0_setState ⟨Nat.le_of_ble_eq_true rfl, Nat.le_of_ble_eq_true rfl⟩ rfl mC_1 hP hS rfl hl.1 rfl (Nat.le_of_ble_eq_true rfl) dX3_endCommit_6 (fun H locs hP hS => ?_)
  refine lv_aload_n hx hb dX3_endCommit_9 rfl (lv_at hl 0 rfl) ?_
  refine lv_aload_n hx hb dX3_endCommit_10 rfl (lv_at hl 0 rfl) ?_
  refine m_get C hP mC_0 rfl inX3 0 (by decide) wf_X3_12 rfl dX3_endCommit_11 ?_
  refine lv_iload_n hx hb dX3_endCommit_14 rfl (lv_at hl 1 rfl) ?_
  obtain ⟨r_3, X_3, h_3, hf4⟩ := m_bi_s hf2
  clear hf2
  refine m_callVi (q := (RX0, TX0, 9)) C [.int v1] [.ref (a 0)] (c_X0_clientOf l D a cy hG N _ _ h_3) (m_goodV wl_X3_149 wi_X0_clientOf ws_X0_clientOf wn_X0 wc_X0_clientOf) ⟨rfl, rfl⟩ hv_X0_clientOf ⟨Nat.le_of_ble_eq_true rfl, Nat.le_of_ble_eq_true rfl⟩ rfl mC_1 hP hS rfl hl.1 rfl (Nat.le_of_ble_eq_true rfl) dX3_endCommit_15 (fun H locs hP hS => ?_)
  refine lv_bipush (v := (-5)) hx hb dX3_endCommit_18 (by decide) ?_
  obtain ⟨X_5, h_5, hf6⟩ := m_bv_s hf4
  clear hf4
  refine m_callVv (q := (RX3, TX3, 12)) C [.int r_3, .int (-5)] [] (c_X3_setOpenCommit l D a cy hG N _ _ _ h_5) (m_goodV wl_X3_114 wi_X3_setOpenCommit ws_X3_setOpenCommit wn_X3 wc_X3_setOpenCommit) ⟨rfl, rfl⟩ hv_X3_setOpenCommit ⟨Nat.le_of_ble_eq_true rfl, Nat.le_of_ble_eq_true rfl⟩ rfl mC_0 hP hS rfl hl.1 rfl (Nat.le_of_ble_eq_true rfl) dX3_endCommit_20 (fun H locs hP hS => ?_)
  exact m_vret C hP hS dX3_endCommit_23 hf6
abbrev rm_X3_loseClient : Room := { frames := 3, cells := 0, slots := 0, locals := 65 }
def f_X3_loseClient_32 (N : Nat) (v2 : Int32) (X : XT) : Option (Int32 × XT) := m_bv (f_X3_endCommit N v2 5 X) fun X_11 => m_gd (m_in 2 8) <| m_nm (X_11 19 (Int32.toNatClampNeg 2)) fun y_13 => m_nm (y_13 + 1) fun y_16 => m_gd (m_in 2 8) <| m_nm (m_up X_11 19 (upd (X_11 19) (Int32.toNatClampNeg 2) y_16)) fun X_18 => some (v2, X_18)
set_option maxHeartbeats 4000000 in
set_option maxRecDepth 100000 in
theorem w_X3_loseClient_32 (l : Launch) (D : va_G) (a : Nat → Nat) (cy : Nat → ClassId) (hG : m_inj 138 a) (N : Nat) {p : Program} {e : Env} {s : State} {m : MethodId} {args : Array Value} {below : List Frame} {meth : Method} {c : Code} (C : m_Cx p s m args meth c cX3_loseClient 3 RX3 (some .int) (Cond.code yX3_loseClient cX3_loseClient 3 (some .int)) D (m_tc cy) (m_AC a) (m_WC a cy) (m_ZC a)) {r0 : Int32} {X0 : XT} (v2 : Int32) (X : XT) (hf0 : f_X3_loseClient_32 N v2 X = some (r0, X0)) : ∀ (H : Heap) (locs : List Loc) (ls : Array Slot), va_P D vwCl (m_WC a cy X) H → va_S (m_AC a) s.heap H locs → lv_has ls 3 [(0, .ref (a 0)), (2, .int v2)] → W p l e rm_X3_loseClient s m args below meth c H locs 0 0 (MQ below (m_QI D (m_WC a cy) (m_AC a) r0 X0) args s 0 0 (m_AC a)) (F0 m 32 ls []) := by
  have hx := C.1.1
  have hb := C.1.2.1
  intro H locs ls hP hS hl
  unfold f_X3_loseClient_32 at hf0
  refine lv_aload_n hx hb dX3_loseClient_32 rfl (lv_at hl 0 rfl) ?_
  refine lv_iload_n hx hb dX3_loseClient_33 rfl (lv_at hl 1 rfl) ?_
  refine lv_iconst (v := 5) hx hb dX3_loseClient_34 (by decide) ?_
  obtain ⟨X_11, h_11, hf12⟩ := m_bv_s hf0
  clear hf0
  refine m_callVv (q := (RX3, TX3, 12)) C [.int v2, .int 5] [] (c_X3_endCommit l D a cy hG N _ _ _ h_11) (m_goodV wl_X3_137 wi_X3_endCommit ws_X3_endCommit wn_X3 wc_X3_endCommit) ⟨rfl, rfl⟩ hv_X3_endCommit ⟨Nat.le_of_ble_eq_true rfl, Nat.le_of_ble_eq_true rfl⟩ rfl mC_0 hP hS rfl hl.1 rfl (Nat.le_of_ble_eq_true rfl) dX3_loseClient_35 (fun H locs hP hS => ?_)
  refine lv_aload_n hx hb dX3_loseClient_38 rfl (lv_at hl 0 rfl) ?_
  refine m_get C hP mC_0 rfl inX3 4 (by decide) wf_X3_39 rfl dX3_loseClient_39 ?_
  refine lv_iconst (v := 2) hx hb dX3_loseClient_42 (by decide) ?_
  refine lv_dup2_11 hx hb dX3_loseClient_43 rfl rfl ?_
  obtain ⟨g_13, hf14⟩ := m_gd_s hf12
  clear hf12
  refine m_ild C hP mC_19 0 rfl g_13 dX3_loseClient_44 (fun y_13 e_13 => ?_)
  have hf15 := m_nm_s e_13 hf14
  clear hf14
  refine lv_iconst (v := 1) hx hb dX3_loseClient_45 (by decide) ?_
  refine lv_iadd hx hb dX3_loseClient_46 ?_
  refine lv_topi (fun y_16 e_16 => ?_)
  have hf17 := m_nm_s e_16 hf15
  clear hf15
  obtain ⟨g_18, hf19⟩ := m_gd_s hf17
  clear hf17
  refine m_ist C hP hS mC_19 0 rfl g_18 mCs_19 dX3_loseClient_47 (fun X_18 e_18 H locs hP hS => ?_)
  have hf20 := m_nm_s e_18 hf19
  clear hf19
  refine lv_iload_n hx hb dX3_loseClient_48 rfl (lv_at hl 1 rfl) ?_
  exact m_iret C hP hS dX3_loseClient_49 hf20
def f_X3_loseClient (N : Nat) (v1 : Int32) (X : XT) : Option (Int32 × XT) := m_bi (f_X3_openCommitOf N v1 X) fun r_1 X_1 => if r_1 = (-5) then (some ((-5), X_1)) else (m_bi (f_X0_stateOf N r_1 X_1) fun r_6 X_6 => if r_6 = 1 then (m_bv (f_X3_leaveGathering N r_1 X_6) fun X_21 => f_X3_loseClient_32 N r_1 X_21) else (f_X3_loseClient_32 N r_1 X_6))
set_option maxHeartbeats 4000000 in
set_option maxRecDepth 100000 in
theorem c_X3_loseClient (l : Launch) (D : va_G) (a : Nat → Nat) (cy : Nat → ClassId) (hG : m_inj 138 a) (N : Nat) (v1 : Int32) (X : XT) {r0 : Int32} {X0 : XT} (hf0 : f_X3_loseClient N v1 X = some (r0, X0)) : Met l yX3_loseClient (Cond.code yX3_loseClient cX3_loseClient 3 (some .int) :: m_tbl) rm_X3_loseClient (va_Pc [.ref (a 0), .int v1] (m_PX D (m_tc cy) (m_WC a cy) (m_ZC a) X)) (m_QI D (m_WC a cy) (m_AC a) r0 X0) 0 0 (m_AC a) := by
  refine m_met (own := RX3) hy_X3_loseClient rfl (Nat.le_of_ble_eq_true rfl) (m_wl_D hG _) m_ZC_keep ?_
  intro p e s m args below meth c C ls hl hP hS
  have hx := C.1.1
  have hb := C.1.2.1
  have hl : lv_has ls 3 [(0, .ref (a 0)), (1, .int v1)] := hl
  unfold f_X3_loseClient at hf0
  suffices K : ∀ (H : Heap) (locs : List Loc), va_P D vwCl (m_WC a cy X) H → va_S (m_AC a) s.heap H locs → W p l e rm_X3_loseClient s m args below meth c H locs 0 0 (MQ below (m_QI D (m_WC a cy) (m_AC a) r0 X0) args s 0 0 (m_AC a)) (F0 m 0 ls []) from K _ _ hP hS
  clear hP hS
  intro H locs hP hS
  refine lv_aload_n hx hb dX3_loseClient_0 rfl (lv_at hl 0 rfl) ?_
  refine lv_iload_n hx hb dX3_loseClient_1 rfl (lv_at hl 1 rfl) ?_
  obtain ⟨r_1, X_1, h_1, hf2⟩ := m_bi_s hf0
  clear hf0
  refine m_callVi (q := (RX3, TX3, 12)) C [.int v1] [] (c_X3_openCommitOf l D a cy hG N _ _ h_1) (m_goodV wl_X3_91 wi_X3_openCommitOf ws_X3_openCommitOf wn_X3 wc_X3_openCommitOf) ⟨rfl, rfl⟩ hv_X3_openCommitOf ⟨Nat.le_of_ble_eq_true rfl, Nat.le_of_ble_eq_true rfl⟩ rfl mC_0 hP hS rfl hl.1 rfl (Nat.le_of_ble_eq_true rfl) dX3_loseClient_2 (fun H locs hP hS => ?_)
  refine lv_istore_n (lv' := [(2, .int r_1), (0, .ref (a 0)), (1, .int v1)]) hx hb dX3_loseClient_5 rfl hl (by decide) rfl (fun ls hl => ?_)
  refine lv_iload_n hx hb dX3_loseClient_6 rfl (lv_at hl 0 rfl) ?_
  refine lv_bipush (v := (-5)) hx hb dX3_loseClient_7 (by decide) ?_
  refine lv_icmp_ne (tgt := 15) hx hb dX3_loseClient_9 (by decide) (fun c_3 => ?_) (fun c_3 => ?_)
  · have hf4 := m_ie c_3 hf2
    clear hf2
    refine lv_aload_n hx hb dX3_loseClient_15 rfl (lv_at hl 1 rfl) ?_
    refine m_get C hP mC_0 rfl inX3 0 (by decide) wf_X3_12 rfl dX3_loseClient_16 ?_
    refine lv_iload_n hx hb dX3_loseClient_19 rfl (lv_at hl 0 rfl) ?_
    obtain ⟨r_6, X_6, h_6, hf7⟩ := m_bi_s hf4
    clear hf4
    refine m_callVi (q := (RX0, TX0, 9)) C [.int r_1] [] (c_X0_stateOf l D a cy hG N _ _ h_6) (m_goodV wl_X3_131 wi_X0_stateOf ws_X0_stateOf wn_X0 wc_X0_stateOf) ⟨rfl, rfl⟩ hv_X0_stateOf ⟨Nat.le_of_ble_eq_true rfl, Nat.le_of_ble_eq_true rfl⟩ rfl mC_1 hP hS rfl hl.1 rfl (Nat.le_of_ble_eq_true rfl) dX3_loseClient_20 (fun H locs hP hS => ?_)
    refine lv_iconst (v := 1) hx hb dX3_loseClient_23 (by decide) ?_
    refine lv_icmp_ne (tgt := 32) hx hb dX3_loseClient_24 (by decide) (fun c_8 => ?_) (fun c_8 => ?_)
    · have hf9 := m_ie c_8 hf7
      clear hf7
      exact w_X3_loseClient_32 l D a cy hG N C _ _ hf9 H locs ls hP hS (lv_sub hl [1, 0] rfl)
    · have hf10 := m_it c_8 hf7
      clear hf7
      refine lv_aload_n hx hb dX3_loseClient_27 rfl (lv_at hl 1 rfl) ?_
      refine lv_iload_n hx hb dX3_loseClient_28 rfl (lv_at hl 0 rfl) ?_
      obtain ⟨X_21, h_21, hf22⟩ := m_bv_s hf10
      clear hf10
      refine m_callVv (q := (RX3, TX3, 12)) C [.int r_1] [] (c_X3_leaveGathering l D a cy hG N _ _ h_21) (m_goodV wl_X3_134 wi_X3_leaveGathering ws_X3_leaveGathering wn_X3 wc_X3_leaveGathering) ⟨rfl, rfl⟩ hv_X3_leaveGathering ⟨Nat.le_of_ble_eq_true rfl, Nat.le_of_ble_eq_true rfl⟩ rfl mC_0 hP hS rfl hl.1 rfl (Nat.le_of_ble_eq_true rfl) dX3_loseClient_29 (fun H locs hP hS => ?_)
      exact w_X3_loseClient_32 l D a cy hG N C _ _ hf22 H locs ls hP hS (lv_sub hl [1, 0] rfl)
  · have hf5 := m_it c_3 hf2
    clear hf2
    refine lv_bipush (v := (-5)) hx hb dX3_loseClient_12 (by decide) ?_
    exact m_iret C hP hS dX3_loseClient_14 hf5
abbrev rm_X3_refusalToTakeBack : Room := { frames := 2, cells := 0, slots := 0, locals := 42 }
def f_X3_refusalToTakeBack (N : Nat) (v1 : Int32) (X : XT) : Option (Int32 × XT) := m_bi (f_X3_isClient N v1 X) fun r_1 X_1 => if r_1 = 0 then (some ((-1), X_1)) else (m_bi (f_X3_openCommitOf N v1 X_1) fun r_6 X_6 => m_bi (f_X0_stateOf N r_6 X_6) fun r_8 X_8 => if r_8 = 1 then (some (0, X_8)) else (some ((-4), X_8)))
set_option maxHeartbeats 4000000 in
set_option maxRecDepth 100000 in
theorem c_X3_refusalToTakeBack (l : Launch) (D : va_G) (a : Nat → Nat) (cy : Nat → ClassId) (hG : m_inj 138 a) (N : Nat) (v1 : Int32) (X : XT) {r0 : Int32} {X0 : XT} (hf0 : f_X3_refusalToTakeBack N v1 X = some (r0, X0)) : Met l yX3_refusalToTakeBack (Cond.code yX3_refusalToTakeBack cX3_refusalToTakeBack 3 (some .int) :: m_tbl) rm_X3_refusalToTakeBack (va_Pc [.ref (a 0), .int v1] (m_PX D (m_tc cy) (m_WC a cy) (m_ZC a) X)) (m_QI D (m_WC a cy) (m_AC a) r0 X0) 0 0 (m_AC a) := by
  refine m_met (own := RX3) hy_X3_refusalToTakeBack rfl (Nat.le_of_ble_eq_true rfl) (m_wl_D hG _) m_ZC_keep ?_
  intro p e s m args below meth c C ls hl hP hS
  have hx := C.1.1
  have hb := C.1.2.1
  have hl : lv_has ls 3 [(0, .ref (a 0)), (1, .int v1)] := hl
  unfold f_X3_refusalToTakeBack at hf0
  suffices K : ∀ (H : Heap) (locs : List Loc), va_P D vwCl (m_WC a cy X) H → va_S (m_AC a) s.heap H locs → W p l e rm_X3_refusalToTakeBack s m args below meth c H locs 0 0 (MQ below (m_QI D (m_WC a cy) (m_AC a) r0 X0) args s 0 0 (m_AC a)) (F0 m 0 ls []) from K _ _ hP hS
  clear hP hS
  intro H locs hP hS
  refine lv_iload_n hx hb dX3_refusalToTakeBack_0 rfl (lv_at hl 1 rfl) ?_
  obtain ⟨r_1, X_1, h_1, hf2⟩ := m_bi_s hf0
  clear hf0
  refine m_callSi C [.int v1] [] (c_X3_isClient l D a cy hG N _ _ h_1) (m_goodS wl_X3_84 wst_X3_isClient wn_X3 wc_X3_isClient) ⟨rfl, rfl⟩ hv_X3_isClient ⟨Nat.le_of_ble_eq_true rfl, Nat.le_of_ble_eq_true rfl⟩ hP hS rfl hl.1 rfl (Nat.le_of_ble_eq_true rfl) dX3_refusalToTakeBack_1 (fun H locs hP hS => ?_)
  refine lv_if_ne (tgt := 9) hx hb dX3_refusalToTakeBack_4 (by decide) (fun c_3 => ?_) (fun c_3 => ?_)
  · have hf4 := m_ie c_3 hf2
    clear hf2
    refine lv_aload_n hx hb dX3_refusalToTakeBack_9 rfl (lv_at hl 0 rfl) ?_
    refine lv_iload_n hx hb dX3_refusalToTakeBack_10 rfl (lv_at hl 1 rfl) ?_
    obtain ⟨r_6, X_6, h_6, hf7⟩ := m_bi_s hf4
    clear hf4
    refine m_callVi (q := (RX3, TX3, 12)) C [.int v1] [] (c_X3_openCommitOf l D a cy hG N _ _ h_6) (m_goodV wl_X3_91 wi_X3_openCommitOf ws_X3_openCommitOf wn_X3 wc_X3_openCommitOf) ⟨rfl, rfl⟩ hv_X3_openCommitOf ⟨Nat.le_of_ble_eq_true rfl, Nat.le_of_ble_eq_true rfl⟩ rfl mC_0 hP hS rfl hl.1 rfl (Nat.le_of_ble_eq_true rfl) dX3_refusalToTakeBack_11 (fun H locs hP hS => ?_)
    refine lv_istore_n (lv' := [(2, .int r_6), (0, .ref (a 0)), (1, .int v1)]) hx hb dX3_refusalToTakeBack_14 rfl hl (by decide) rfl (fun ls hl => ?_)
    refine lv_aload_n hx hb dX3_refusalToTakeBack_15 rfl (lv_at hl 1 rfl) ?_
    refine m_get C hP mC_0 rfl inX3 0 (by decide) wf_X3_12 rfl dX3_refusalToTakeBack_16 ?_
    refine lv_iload_n hx hb dX3_refusalToTakeBack_19 rfl (lv_at hl 0 rfl) ?_
    obtain ⟨r_8, X_8, h_8, hf9⟩ := m_bi_s hf7
    clear hf7
    refine m_callVi (q := (RX0, TX0, 9)) C [.int r_6] [] (c_X0_stateOf l D a cy hG N _ _ h_8) (m_goodV wl_X3_131 wi_X0_stateOf ws_X0_stateOf wn_X0 wc_X0_stateOf) ⟨rfl, rfl⟩ hv_X0_stateOf ⟨Nat.le_of_ble_eq_true rfl, Nat.le_of_ble_eq_true rfl⟩ rfl mC_1 hP hS rfl hl.1 rfl (Nat.le_of_ble_eq_true rfl) dX3_refusalToTakeBack_20 (fun H locs hP hS => ?_)
    refine lv_iconst (v := 1) hx hb dX3_refusalToTakeBack_23 (by decide) ?_
    refine lv_icmp_ne (tgt := 31) hx hb dX3_refusalToTakeBack_24 (by decide) (fun c_10 => ?_) (fun c_10 => ?_)
    · have hf11 := m_ie c_10 hf9
      clear hf9
      refine lv_bipush (v := (-4)) hx hb dX3_refusalToTakeBack_31 (by decide) ?_
      exact m_iret C hP hS dX3_refusalToTakeBack_33 hf11
    · have hf12 := m_it c_10 hf9
      clear hf9
      refine lv_iconst (v := 0) hx hb dX3_refusalToTakeBack_27 (by decide) ?_
      refine lv_goto (tgt := 33) hx hb dX3_refusalToTakeBack_28 (by decide) ?_
      exact m_iret C hP hS dX3_refusalToTakeBack_33 hf12
  · have hf5 := m_it c_3 hf2
    clear hf2
    refine lv_iconst (v := (-1)) hx hb dX3_refusalToTakeBack_7 (by decide) ?_
    exact m_iret C hP hS dX3_refusalToTakeBack_8 hf5
abbrev rm_X3_takeBack : Room := { frames := 3, cells := 0, slots := 0, locals := 65 }
def f_X3_takeBack (N : Nat) (v1 : Int32) (X : XT) : Option (Int32 × XT) := m_bi (f_X3_openCommitOf N v1 X) fun r_1 X_1 => m_bv (f_X3_leaveGathering N r_1 X_1) fun X_3 => m_bv (f_X3_endCommit N r_1 6 X_3) fun X_5 => m_gd (m_in 3 8) <| m_nm (X_5 19 (Int32.toNatClampNeg 3)) fun y_7 => m_nm (y_7 + 1) fun y_10 => m_gd (m_in 3 8) <| m_nm (m_up X_5 19 (upd (X_5 19) (Int32.toNatClampNeg 3) y_10)) fun X_12 => m_bi (f_X0_groupOf N r_1 X_12) fun r_15 X_15 => m_bi (f_X1_membersOf N r_15 X_15) fun r_17 X_17 => some (r_17, X_17)
set_option maxHeartbeats 4000000 in
set_option maxRecDepth 100000 in
theorem c_X3_takeBack (l : Launch) (D : va_G) (a : Nat → Nat) (cy : Nat → ClassId) (hG : m_inj 138 a) (N : Nat) (v1 : Int32) (X : XT) {r0 : Int32} {X0 : XT} (hf0 : f_X3_takeBack N v1 X = some (r0, X0)) : Met l yX3_takeBack (Cond.code yX3_takeBack cX3_takeBack 3 (some .int) :: m_tbl) rm_X3_takeBack (va_Pc [.ref (a 0), .int v1] (m_PX D (m_tc cy) (m_WC a cy) (m_ZC a) X)) (m_QI D (m_WC a cy) (m_AC a) r0 X0) 0 0 (m_AC a) := by
  refine m_met (own := RX3) hy_X3_takeBack rfl (Nat.le_of_ble_eq_true rfl) (m_wl_D hG _) m_ZC_keep ?_
  intro p e s m args below meth c C ls hl hP hS
  have hx := C.1.1
  have hb := C.1.2.1
  have hl : lv_has ls 3 [(0, .ref (a 0)), (1, .int v1)] := hl
  unfold f_X3_takeBack at hf0
  suffices K : ∀ (H : Heap) (locs : List Loc), va_P D vwCl (m_WC a cy X) H → va_S (m_AC a) s.heap H locs → W p l e rm_X3_takeBack s m args below meth c H locs 0 0 (MQ below (m_QI D (m_WC a cy) (m_AC a) r0 X0) args s 0 0 (m_AC a)) (F0 m 0 ls []) from K _ _ hP hS
  clear hP hS
  intro H locs hP hS
  refine lv_aload_n hx hb dX3_takeBack_0 rfl (lv_at hl 0 rfl) ?_
  refine lv_iload_n hx hb dX3_takeBack_1 rfl (lv_at hl 1 rfl) ?_
  obtain ⟨r_1, X_1, h_1, hf2⟩ := m_bi_s hf0
  clear hf0
  refine m_callVi (q := (RX3, TX3, 12)) C [.int v1] [] (c_X3_openCommitOf l D a cy hG N _ _ h_1) (m_goodV wl_X3_91 wi_X3_openCommitOf ws_X3_openCommitOf wn_X3 wc_X3_openCommitOf) ⟨rfl, rfl⟩ hv_X3_openCommitOf ⟨Nat.le_of_ble_eq_true rfl, Nat.le_of_ble_eq_true rfl⟩ rfl mC_0 hP hS rfl hl.1 rfl (Nat.le_of_ble_eq_true rfl) dX3_takeBack_2 (fun H locs hP hS => ?_)
  refine lv_istore_n (lv' := [(2, .int r_1), (0, .ref (a 0)), (1, .int v1)]) hx hb dX3_takeBack_5 rfl hl (by decide) rfl (fun ls hl => ?_)
  refine lv_aload_n hx hb dX3_takeBack_6 rfl (lv_at hl 1 rfl) ?_
  refine lv_iload_n hx hb dX3_takeBack_7 rfl (lv_at hl 0 rfl) ?_
  obtain ⟨X_3, h_3, hf4⟩ := m_bv_s hf2
  clear hf2
  refine m_callVv (q := (RX3, TX3, 12)) C [.int r_1] [] (c_X3_leaveGathering l D a cy hG N _ _ h_3) (m_goodV wl_X3_134 wi_X3_leaveGathering ws_X3_leaveGathering wn_X3 wc_X3_leaveGathering) ⟨rfl, rfl⟩ hv_X3_leaveGathering ⟨Nat.le_of_ble_eq_true rfl, Nat.le_of_ble_eq_true rfl⟩ rfl mC_0 hP hS rfl hl.1 rfl (Nat.le_of_ble_eq_true rfl) dX3_takeBack_8 (fun H locs hP hS => ?_)
  refine lv_aload_n hx hb dX3_takeBack_11 rfl (lv_at hl 1 rfl) ?_
  refine lv_iload_n hx hb dX3_takeBack_12 rfl (lv_at hl 0 rfl) ?_
  refine lv_bipush (v := 6) hx hb dX3_takeBack_13 (by decide) ?_
  obtain ⟨X_5, h_5, hf6⟩ := m_bv_s hf4
  clear hf4
  refine m_callVv (q := (RX3, TX3, 12)) C [.int r_1, .int 6] [] (c_X3_endCommit l D a cy hG N _ _ _ h_5) (m_goodV wl_X3_137 wi_X3_endCommit ws_X3_endCommit wn_X3 wc_X3_endCommit) ⟨rfl, rfl⟩ hv_X3_endCommit ⟨Nat.le_of_ble_eq_true rfl, Nat.le_of_ble_eq_true rfl⟩ rfl mC_0 hP hS rfl hl.1 rfl (Nat.le_of_ble_eq_true rfl) dX3_takeBack_15 (fun H locs hP hS => ?_)
  refine lv_aload_n hx hb dX3_takeBack_18 rfl (lv_at hl 1 rfl) ?_
  refine m_get C hP mC_0 rfl inX3 4 (by decide) wf_X3_39 rfl dX3_takeBack_19 ?_
  refine lv_iconst (v := 3) hx hb dX3_takeBack_22 (by decide) ?_
  refine lv_dup2_11 hx hb dX3_takeBack_23 rfl rfl ?_
  obtain ⟨g_7, hf8⟩ := m_gd_s hf6
  clear hf6
  refine m_ild C hP mC_19 0 rfl g_7 dX3_takeBack_24 (fun y_7 e_7 => ?_)
  have hf9 := m_nm_s e_7 hf8
  clear hf8
  refine lv_iconst (v := 1) hx hb dX3_takeBack_25 (by decide) ?_
  refine lv_iadd hx hb dX3_takeBack_26 ?_
  refine lv_topi (fun y_10 e_10 => ?_)
  have hf11 := m_nm_s e_10 hf9
  clear hf9
  obtain ⟨g_12, hf13⟩ := m_gd_s hf11
  clear hf11
  refine m_ist C hP hS mC_19 0 rfl g_12 mCs_19 dX3_takeBack_27 (fun X_12 e_12 H locs hP hS => ?_)
  have hf14 := m_nm_s e_12 hf13
  clear hf13
  refine lv_aload_n hx hb dX3_takeBack_28 rfl (lv_at hl 1 rfl) ?_
  refine m_get C hP mC_0 rfl inX3 1 (by decide) wf_X3_21 rfl dX3_takeBack_29 ?_
  refine lv_aload_n hx hb dX3_takeBack_32 rfl (lv_at hl 1 rfl) ?_
  refine m_get C hP mC_0 rfl inX3 0 (by decide) wf_X3_12 rfl dX3_takeBack_33 ?_
  refine lv_iload_n hx hb dX3_takeBack_36 rfl (lv_at hl 0 rfl) ?_
  obtain ⟨r_15, X_15, h_15, hf16⟩ := m_bi_s hf14
  clear hf14
  refine m_callVi (q := (RX0, TX0, 9)) C [.int r_1] [.ref (a 10)] (c_X0_groupOf l D a cy hG N _ _ h_15) (m_goodV wl_X3_140 wi_X0_groupOf ws_X0_groupOf wn_X0 wc_X0_groupOf) ⟨rfl, rfl⟩ hv_X0_groupOf ⟨Nat.le_of_ble_eq_true rfl, Nat.le_of_ble_eq_true rfl⟩ rfl mC_1 hP hS rfl hl.1 rfl (Nat.le_of_ble_eq_true rfl) dX3_takeBack_37 (fun H locs hP hS => ?_)
  obtain ⟨r_17, X_17, h_17, hf18⟩ := m_bi_s hf16
  clear hf16
  refine m_callVi (q := (RX1, TX1, 5)) C [.int r_15] [] (c_X1_membersOf l D a cy hG N _ _ h_17) (m_goodV wl_X3_143 wi_X1_membersOf ws_X1_membersOf wn_X1 wc_X1_membersOf) ⟨rfl, rfl⟩ hv_X1_membersOf ⟨Nat.le_of_ble_eq_true rfl, Nat.le_of_ble_eq_true rfl⟩ rfl mC_10 hP hS rfl hl.1 rfl (Nat.le_of_ble_eq_true rfl) dX3_takeBack_40 (fun H locs hP hS => ?_)
  exact m_iret C hP hS dX3_takeBack_43 hf18
abbrev rm_X3_dropGroups : Room := { frames := 2, cells := 0, slots := 0, locals := 43 }
def f_X3_dropGroups_46 (N : Nat) : Nat → Int32 → Int32 → XT → Option XT
  | 0, _, _, _ => none
  | n + 1, v1, v2, X => if v1 ≤ v2 then (some X) else (m_bi (f_X4_takeFirst N X) fun r_14 X_14 => m_bv (f_X1_setState N r_14 5 X_14) fun X_16 => m_nm (v2 + 1) fun y_18 => f_X3_dropGroups_46 N n v1 y_18 X_16)
set_option maxHeartbeats 4000000 in
set_option maxRecDepth 100000 in
theorem w_X3_dropGroups_46 (l : Launch) (D : va_G) (a : Nat → Nat) (cy : Nat → ClassId) (hG : m_inj 138 a) (N : Nat) {p : Program} {e : Env} {s : State} {m : MethodId} {args : Array Value} {below : List Frame} {meth : Method} {c : Code} (C : m_Cx p s m args meth c cX3_dropGroups 3 RX3 none (Cond.code yX3_dropGroups cX3_dropGroups 3 none) D (m_tc cy) (m_AC a) (m_WC a cy) (m_ZC a)) {X0 : XT} : ∀ (n : Nat) (v1 : Int32) (v2 : Int32) (X : XT), f_X3_dropGroups_46 N n v1 v2 X = some X0 → ∀ (H : Heap) (locs : List Loc) (ls : Array Slot), va_P D vwCl (m_WC a cy X) H → va_S (m_AC a) s.heap H locs → lv_has ls 3 [(0, .ref (a 0)), (1, .int v1), (2, .int v2)] → W p l e rm_X3_dropGroups s m args below meth c H locs 0 0 (MQ below (m_QV D (m_WC a cy) (m_AC a) X0) args s 0 0 (m_AC a)) (F0 m 46 ls []) := by
  have hx := C.1.1
  have hb := C.1.2.1
  intro n
  induction n with
  | zero => intro v1 v2 X hf0; rw [f_X3_dropGroups_46] at hf0; cases hf0
  | succ n ih =>
    intro v1 v2 X hf0 H locs ls hP hS hl
    rw [f_X3_dropGroups_46] at hf0
    refine lv_iload_n hx hb dX3_dropGroups_46 rfl (lv_at hl 2 rfl) ?_
    refine lv_iload_n hx hb dX3_dropGroups_47 rfl (lv_at hl 1 rfl) ?_
    refine lv_icmp_ge (tgt := 72) hx hb dX3_dropGroups_48 (by decide) (fun c_11 => ?_) (fun c_11 => ?_)
    · have hf12 := m_it c_11 hf0
      clear hf0
      exact m_vret C hP hS dX3_dropGroups_72 hf12
    · have hf13 := m_ie c_11 hf0
      clear hf0
      refine lv_aload_n hx hb dX3_dropGroups_51 rfl (lv_at hl 0 rfl) ?_
      refine m_get C hP mC_0 rfl inX3 1 (by decide) wf_X3_21 rfl dX3_dropGroups_52 ?_
      refine lv_aload_n hx hb dX3_dropGroups_55 rfl (lv_at hl 0 rfl) ?_
      refine m_get C hP mC_0 rfl inX3 2 (by decide) wf_X3_28 rfl dX3_dropGroups_56 ?_
      obtain ⟨r_14, X_14, h_14, hf15⟩ := m_bi_s hf13
      clear hf13
      refine m_callVi (q := (RX4, TX4, 3)) C [] [.ref (a 10)] (c_X4_takeFirst l D a cy hG N _ h_14) (m_goodV wl_X3_193 wi_X4_takeFirst ws_X4_takeFirst wn_X4 wc_X4_takeFirst) ⟨rfl, rfl⟩ hv_X4_takeFirst ⟨Nat.le_of_ble_eq_true rfl, Nat.le_of_ble_eq_true rfl⟩ rfl mC_15 hP hS rfl hl.1 rfl (Nat.le_of_ble_eq_true rfl) dX3_dropGroups_59 (fun H locs hP hS => ?_)
      refine lv_iconst (v := 5) hx hb dX3_dropGroups_62 (by decide) ?_
      obtain ⟨X_16, h_16, hf17⟩ := m_bv_s hf15
      clear hf15
      refine m_callVv (q := (RX1, TX1, 5)) C [.int r_14, .int 5] [] (c_X1_setState l D a cy hG N _ _ _ h_16) (m_goodV wl_X3_189 wi_X1_setState ws_X1_setState wn_X1 wc_X1_setState) ⟨rfl, rfl⟩ hv_X1_setState ⟨Nat.le_of_ble_eq_true rfl, Nat.le_of_ble_eq_true rfl⟩ rfl mC_10 hP hS rfl hl.1 rfl (Nat.le_of_ble_eq_true rfl) dX3_dropGroups_63 (fun H locs hP hS => ?_)
      obtain ⟨y_18, e_18⟩ : ∃ y : Int32, y = v2 + 1 := ⟨_, rfl⟩
      refine lv_iinc (v := y_18) (lv' := [(2, .int y_18), (0, .ref (a 0)), (1, .int v1)]) hx hb dX3_dropGroups_66 hl (k := 2) rfl (by rw [e_18]; rfl) (by decide) rfl (fun ls hl => ?_)
      have hf19 := m_nm_s e_18 hf17
      clear hf17
      refine lv_goto (tgt := 46) hx hb dX3_dropGroups_69 (by decide) ?_
      exact ih _ _ _ hf19 H locs ls hP hS (lv_sub hl [1, 2, 0] rfl)
def f_X3_dropGroups (N : Nat) (X : XT) : Option XT := m_bv (f_X1_setState N (X 0 10) 5 X) fun X_1 => m_nm (m_up X_1 0 (upd (X_1 0) 10 (-5))) fun X_3 => m_bv (f_X1_setState N (X_3 0 8) 5 X_3) fun X_5 => m_nm (m_up X_5 0 (upd (X_5 0) 8 (-5))) fun X_7 => m_bi (f_X4_size N X_7) fun r_9 X_9 => f_X3_dropGroups_46 N N r_9 0 X_9
set_option maxHeartbeats 4000000 in
set_option maxRecDepth 100000 in
theorem c_X3_dropGroups (l : Launch) (D : va_G) (a : Nat → Nat) (cy : Nat → ClassId) (hG : m_inj 138 a) (N : Nat) (X : XT) {X0 : XT} (hf0 : f_X3_dropGroups N X = some X0) : Met l yX3_dropGroups (Cond.code yX3_dropGroups cX3_dropGroups 3 none :: m_tbl) rm_X3_dropGroups (va_Pc [.ref (a 0)] (m_PX D (m_tc cy) (m_WC a cy) (m_ZC a) X)) (m_QV D (m_WC a cy) (m_AC a) X0) 0 0 (m_AC a) := by
  refine m_met (own := RX3) hy_X3_dropGroups rfl (Nat.le_of_ble_eq_true rfl) (m_wl_D hG _) m_ZC_keep ?_
  intro p e s m args below meth c C ls hl hP hS
  have hx := C.1.1
  have hb := C.1.2.1
  have hl : lv_has ls 3 [(0, .ref (a 0))] := hl
  unfold f_X3_dropGroups at hf0
  suffices K : ∀ (H : Heap) (locs : List Loc), va_P D vwCl (m_WC a cy X) H → va_S (m_AC a) s.heap H locs → W p l e rm_X3_dropGroups s m args below meth c H locs 0 0 (MQ below (m_QV D (m_WC a cy) (m_AC a) X0) args s 0 0 (m_AC a)) (F0 m 0 ls []) from K _ _ hP hS
  clear hP hS
  intro H locs hP hS
  refine lv_aload_n hx hb dX3_dropGroups_0 rfl (lv_at hl 0 rfl) ?_
  refine m_get C hP mC_0 rfl inX3 1 (by decide) wf_X3_21 rfl dX3_dropGroups_1 ?_
  refine lv_aload_n hx hb dX3_dropGroups_4 rfl (lv_at hl 0 rfl) ?_
  refine m_get C hP mC_0 rfl inX3 10 (by decide) wf_X3_53 rfl dX3_dropGroups_5 ?_
  refine lv_iconst (v := 5) hx hb dX3_dropGroups_8 (by decide) ?_
  obtain ⟨X_1, h_1, hf2⟩ := m_bv_s hf0
  clear hf0
  refine m_callVv (q := (RX1, TX1, 5)) C [.int (X 0 10), .int 5] [] (c_X1_setState l D a cy hG N _ _ _ h_1) (m_goodV wl_X3_189 wi_X1_setState ws_X1_setState wn_X1 wc_X1_setState) ⟨rfl, rfl⟩ hv_X1_setState ⟨Nat.le_of_ble_eq_true rfl, Nat.le_of_ble_eq_true rfl⟩ rfl mC_10 hP hS rfl hl.1 rfl (Nat.le_of_ble_eq_true rfl) dX3_dropGroups_9 (fun H locs hP hS => ?_)
  refine lv_aload_n hx hb dX3_dropGroups_12 rfl (lv_at hl 0 rfl) ?_
  refine lv_bipush (v := (-5)) hx hb dX3_dropGroups_13 (by decide) ?_
  refine m_put C hP hS mC_0 rfl inX3 tyX3_ok nmX3 10 (by decide) wf_X3_53 rfl rfl rfl (Nat.le_of_ble_eq_true rfl) mC_0_10 dX3_dropGroups_15 (fun X_3 e_3 H locs hP hS => ?_)
  have hf4 := m_nm_s e_3 hf2
  clear hf2
  refine lv_aload_n hx hb dX3_dropGroups_18 rfl (lv_at hl 0 rfl) ?_
  refine m_get C hP mC_0 rfl inX3 1 (by decide) wf_X3_21 rfl dX3_dropGroups_19 ?_
  refine lv_aload_n hx hb dX3_dropGroups_22 rfl (lv_at hl 0 rfl) ?_
  refine m_get C hP mC_0 rfl inX3 8 (by decide) wf_X3_50 rfl dX3_dropGroups_23 ?_
  refine lv_iconst (v := 5) hx hb dX3_dropGroups_26 (by decide) ?_
  obtain ⟨X_5, h_5, hf6⟩ := m_bv_s hf4
  clear hf4
  refine m_callVv (q := (RX1, TX1, 5)) C [.int (X_3 0 8), .int 5] [] (c_X1_setState l D a cy hG N _ _ _ h_5) (m_goodV wl_X3_189 wi_X1_setState ws_X1_setState wn_X1 wc_X1_setState) ⟨rfl, rfl⟩ hv_X1_setState ⟨Nat.le_of_ble_eq_true rfl, Nat.le_of_ble_eq_true rfl⟩ rfl mC_10 hP hS rfl hl.1 rfl (Nat.le_of_ble_eq_true rfl) dX3_dropGroups_27 (fun H locs hP hS => ?_)
  refine lv_aload_n hx hb dX3_dropGroups_30 rfl (lv_at hl 0 rfl) ?_
  refine lv_bipush (v := (-5)) hx hb dX3_dropGroups_31 (by decide) ?_
  refine m_put C hP hS mC_0 rfl inX3 tyX3_ok nmX3 8 (by decide) wf_X3_50 rfl rfl rfl (Nat.le_of_ble_eq_true rfl) mC_0_8 dX3_dropGroups_33 (fun X_7 e_7 H locs hP hS => ?_)
  have hf8 := m_nm_s e_7 hf6
  clear hf6
  refine lv_aload_n hx hb dX3_dropGroups_36 rfl (lv_at hl 0 rfl) ?_
  refine m_get C hP mC_0 rfl inX3 2 (by decide) wf_X3_28 rfl dX3_dropGroups_37 ?_
  obtain ⟨r_9, X_9, h_9, hf10⟩ := m_bi_s hf8
  clear hf8
  refine m_callVi (q := (RX4, TX4, 3)) C [] [] (c_X4_size l D a cy hG N _ h_9) (m_goodV wl_X3_190 wi_X4_size ws_X4_size wn_X4 wc_X4_size) ⟨rfl, rfl⟩ hv_X4_size ⟨Nat.le_of_ble_eq_true rfl, Nat.le_of_ble_eq_true rfl⟩ rfl mC_15 hP hS rfl hl.1 rfl (Nat.le_of_ble_eq_true rfl) dX3_dropGroups_40 (fun H locs hP hS => ?_)
  refine lv_istore_n (lv' := [(1, .int r_9), (0, .ref (a 0))]) hx hb dX3_dropGroups_43 rfl hl (by decide) rfl (fun ls hl => ?_)
  refine lv_iconst (v := 0) hx hb dX3_dropGroups_44 (by decide) ?_
  refine lv_istore_n (lv' := [(2, .int 0), (1, .int r_9), (0, .ref (a 0))]) hx hb dX3_dropGroups_45 rfl hl (by decide) rfl (fun ls hl => ?_)
  exact w_X3_dropGroups_46 l D a cy hG N C _ _ _ _ hf10 H locs ls hP hS (lv_sub hl [2, 1, 0] rfl)
abbrev rm_X3_loseAll : Room := { frames := 3, cells := 0, slots := 0, locals := 65 }
def f_X3_loseAll_41 (N : Nat) (v1 : Int32) (X : XT) : Option (Int32 × XT) := m_gd (m_in 2 8) <| m_nm (X 19 (Int32.toNatClampNeg 2)) fun y_4 => m_nm (y_4 + v1) fun y_7 => m_gd (m_in 2 8) <| m_nm (m_up X 19 (upd (X 19) (Int32.toNatClampNeg 2) y_7)) fun X_9 => m_bv (f_X3_dropGroups N X_9) fun X_12 => some (v1, X_12)
set_option maxHeartbeats 4000000 in
set_option maxRecDepth 100000 in
theorem w_X3_loseAll_41 (l : Launch) (D : va_G) (a : Nat → Nat) (cy : Nat → ClassId) (hG : m_inj 138 a) (N : Nat) {p : Program} {e : Env} {s : State} {m : MethodId} {args : Array Value} {below : List Frame} {meth : Method} {c : Code} (C : m_Cx p s m args meth c cX3_loseAll 3 RX3 (some .int) (Cond.code yX3_loseAll cX3_loseAll 3 (some .int)) D (m_tc cy) (m_AC a) (m_WC a cy) (m_ZC a)) {r0 : Int32} {X0 : XT} (v1 : Int32) (X : XT) (hf0 : f_X3_loseAll_41 N v1 X = some (r0, X0)) : ∀ (H : Heap) (locs : List Loc) (ls : Array Slot), va_P D vwCl (m_WC a cy X) H → va_S (m_AC a) s.heap H locs → lv_has ls 3 [(0, .ref (a 0)), (1, .int v1)] → W p l e rm_X3_loseAll s m args below meth c H locs 0 0 (MQ below (m_QI D (m_WC a cy) (m_AC a) r0 X0) args s 0 0 (m_AC a)) (F0 m 41 ls []) := by
  have hx := C.1.1
  have hb := C.1.2.1
  intro H locs ls hP hS hl
  unfold f_X3_loseAll_41 at hf0
  refine lv_aload_n hx hb dX3_loseAll_41 rfl (lv_at hl 0 rfl) ?_
  refine m_get C hP mC_0 rfl inX3 4 (by decide) wf_X3_39 rfl dX3_loseAll_42 ?_
  refine lv_iconst (v := 2) hx hb dX3_loseAll_45 (by decide) ?_
  refine lv_dup2_11 hx hb dX3_loseAll_46 rfl rfl ?_
  obtain ⟨g_4, hf5⟩ := m_gd_s hf0
  clear hf0
  refine m_ild C hP mC_19 0 rfl g_4 dX3_loseAll_47 (fun y_4 e_4 => ?_)
  have hf6 := m_nm_s e_4 hf5
  clear hf5
  refine lv_iload_n hx hb dX3_loseAll_48 rfl (lv_at hl 1 rfl) ?_
  refine lv_iadd hx hb dX3_loseAll_49 ?_
  refine lv_topi (fun y_7 e_7 => ?_)
  have hf8 := m_nm_s e_7 hf6
  clear hf6
  obtain ⟨g_9, hf10⟩ := m_gd_s hf8
  clear hf8
  refine m_ist C hP hS mC_19 0 rfl g_9 mCs_19 dX3_loseAll_50 (fun X_9 e_9 H locs hP hS => ?_)
  have hf11 := m_nm_s e_9 hf10
  clear hf10
  refine lv_aload_n hx hb dX3_loseAll_51 rfl (lv_at hl 0 rfl) ?_
  obtain ⟨X_12, h_12, hf13⟩ := m_bv_s hf11
  clear hf11
  refine m_callVv (q := (RX3, TX3, 12)) C [] [] (c_X3_dropGroups l D a cy hG N _ h_12) (m_goodV wl_X3_214 wi_X3_dropGroups ws_X3_dropGroups wn_X3 wc_X3_dropGroups) ⟨rfl, rfl⟩ hv_X3_dropGroups ⟨Nat.le_of_ble_eq_true rfl, Nat.le_of_ble_eq_true rfl⟩ rfl mC_0 hP hS rfl hl.1 rfl (Nat.le_of_ble_eq_true rfl) dX3_loseAll_52 (fun H locs hP hS => ?_)
  refine lv_iload_n hx hb dX3_loseAll_55 rfl (lv_at hl 1 rfl) ?_
  exact m_iret C hP hS dX3_loseAll_56 hf13
def f_X3_loseAll_4 (N : Nat) : Nat → Int32 → Int32 → XT → Option (Int32 × XT)
  | 0, _, _, _ => none
  | n + 1, v1, v2, X => if 12 ≤ v2 then (f_X3_loseAll_41 N v1 X) else (m_gd (m_in v2 12) <| m_nm (X 20 (Int32.toNatClampNeg v2)) fun y_14 => if y_14 = (-5) then (m_nm (v2 + 1) fun y_20 => f_X3_loseAll_4 N n v1 y_20 X) else (m_gd (m_in v2 12) <| m_nm (X 20 (Int32.toNatClampNeg v2)) fun y_22 => m_bv (f_X3_endCommit N y_22 5 X) fun X_25 => m_nm (v1 + 1) fun y_27 => m_nm (v2 + 1) fun y_29 => f_X3_loseAll_4 N n y_27 y_29 X_25))
set_option maxHeartbeats 4000000 in
set_option maxRecDepth 100000 in
theorem w_X3_loseAll_4 (l : Launch) (D : va_G) (a : Nat → Nat) (cy : Nat → ClassId) (hG : m_inj 138 a) (N : Nat) {p : Program} {e : Env} {s : State} {m : MethodId} {args : Array Value} {below : List Frame} {meth : Method} {c : Code} (C : m_Cx p s m args meth c cX3_loseAll 3 RX3 (some .int) (Cond.code yX3_loseAll cX3_loseAll 3 (some .int)) D (m_tc cy) (m_AC a) (m_WC a cy) (m_ZC a)) {r0 : Int32} {X0 : XT} : ∀ (n : Nat) (v1 : Int32) (v2 : Int32) (X : XT), f_X3_loseAll_4 N n v1 v2 X = some (r0, X0) → ∀ (H : Heap) (locs : List Loc) (ls : Array Slot), va_P D vwCl (m_WC a cy X) H → va_S (m_AC a) s.heap H locs → lv_has ls 3 [(0, .ref (a 0)), (1, .int v1), (2, .int v2)] → W p l e rm_X3_loseAll s m args below meth c H locs 0 0 (MQ below (m_QI D (m_WC a cy) (m_AC a) r0 X0) args s 0 0 (m_AC a)) (F0 m 4 ls []) := by
  have hx := C.1.1
  have hb := C.1.2.1
  intro n
  induction n with
  | zero => intro v1 v2 X hf0; rw [f_X3_loseAll_4] at hf0; cases hf0
  | succ n ih =>
    intro v1 v2 X hf0 H locs ls hP hS hl
    rw [f_X3_loseAll_4] at hf0
    refine lv_iload_n hx hb dX3_loseAll_4 rfl (lv_at hl 2 rfl) ?_
    refine lv_bipush (v := 12) hx hb dX3_loseAll_5 (by decide) ?_
    refine lv_icmp_ge (tgt := 41) hx hb dX3_loseAll_7 (by decide) (fun c_1 => ?_) (fun c_1 => ?_)
    · have hf2 := m_it c_1 hf0
      clear hf0
      exact w_X3_loseAll_41 l D a cy hG N C _ _ hf2 H locs ls hP hS (lv_sub hl [0, 1] rfl)
    · have hf3 := m_ie c_1 hf0
      clear hf0
      refine lv_aload_n hx hb dX3_loseAll_10 rfl (lv_at hl 0 rfl) ?_
      refine m_get C hP mC_0 rfl inX3 5 (by decide) wf_X3_43 rfl dX3_loseAll_11 ?_
      refine lv_iload_n hx hb dX3_loseAll_14 rfl (lv_at hl 2 rfl) ?_
      obtain ⟨g_14, hf15⟩ := m_gd_s hf3
      clear hf3
      refine m_ild C hP mC_20 0 rfl g_14 dX3_loseAll_15 (fun y_14 e_14 => ?_)
      have hf16 := m_nm_s e_14 hf15
      clear hf15
      refine lv_bipush (v := (-5)) hx hb dX3_loseAll_16 (by decide) ?_
      refine lv_icmp_eq (tgt := 35) hx hb dX3_loseAll_18 (by decide) (fun c_17 => ?_) (fun c_17 => ?_)
      · have hf18 := m_it c_17 hf16
        clear hf16
        obtain ⟨y_20, e_20⟩ : ∃ y : Int32, y = v2 + 1 := ⟨_, rfl⟩
        refine lv_iinc (v := y_20) (lv' := [(2, .int y_20), (0, .ref (a 0)), (1, .int v1)]) hx hb dX3_loseAll_35 hl (k := 2) rfl (by rw [e_20]; rfl) (by decide) rfl (fun ls hl => ?_)
        have hf21 := m_nm_s e_20 hf18
        clear hf18
        refine lv_goto (tgt := 4) hx hb dX3_loseAll_38 (by decide) ?_
        exact ih _ _ _ hf21 H locs ls hP hS (lv_sub hl [1, 2, 0] rfl)
      · have hf19 := m_ie c_17 hf16
        clear hf16
        refine lv_aload_n hx hb dX3_loseAll_21 rfl (lv_at hl 0 rfl) ?_
        refine lv_aload_n hx hb dX3_loseAll_22 rfl (lv_at hl 0 rfl) ?_
        refine m_get C hP mC_0 rfl inX3 5 (by decide) wf_X3_43 rfl dX3_loseAll_23 ?_
        refine lv_iload_n hx hb dX3_loseAll_26 rfl (lv_at hl 2 rfl) ?_
        obtain ⟨g_22, hf23⟩ := m_gd_s hf19
        clear hf19
        refine m_ild C hP mC_20 0 rfl g_22 dX3_loseAll_27 (fun y_22 e_22 => ?_)
        have hf24 := m_nm_s e_22 hf23
        clear hf23
        refine lv_iconst (v := 5) hx hb dX3_loseAll_28 (by decide) ?_
        obtain ⟨X_25, h_25, hf26⟩ := m_bv_s hf24
        clear hf24
        refine m_callVv (q := (RX3, TX3, 12)) C [.int y_22, .int 5] [] (c_X3_endCommit l D a cy hG N _ _ _ h_25) (m_goodV wl_X3_137 wi_X3_endCommit ws_X3_endCommit wn_X3 wc_X3_endCommit) ⟨rfl, rfl⟩ hv_X3_endCommit ⟨Nat.le_of_ble_eq_true rfl, Nat.le_of_ble_eq_true rfl⟩ rfl mC_0 hP hS rfl hl.1 rfl (Nat.le_of_ble_eq_true rfl) dX3_loseAll_29 (fun H locs hP hS => ?_)
        obtain ⟨y_27, e_27⟩ : ∃ y : Int32, y = v1 + 1 := ⟨_, rfl⟩
        refine lv_iinc (v := y_27) (lv' := [(1, .int y_27), (0, .ref (a 0)), (2, .int v2)]) hx hb dX3_loseAll_32 hl (k := 1) rfl (by rw [e_27]; rfl) (by decide) rfl (fun ls hl => ?_)
        have hf28 := m_nm_s e_27 hf26
        clear hf26
        obtain ⟨y_29, e_29⟩ : ∃ y : Int32, y = v2 + 1 := ⟨_, rfl⟩
        refine lv_iinc (v := y_29) (lv' := [(2, .int y_29), (1, .int y_27), (0, .ref (a 0))]) hx hb dX3_loseAll_35 hl (k := 2) rfl (by rw [e_29]; rfl) (by decide) rfl (fun ls hl => ?_)
        have hf30 := m_nm_s e_29 hf28
        clear hf28
        refine lv_goto (tgt := 4) hx hb dX3_loseAll_38 (by decide) ?_
        exact ih _ _ _ hf30 H locs ls hP hS (lv_sub hl [2, 1, 0] rfl)
def f_X3_loseAll (N : Nat) (X : XT) : Option (Int32 × XT) := f_X3_loseAll_4 N N 0 0 X
set_option maxHeartbeats 4000000 in
set_option maxRecDepth 100000 in
theorem c_X3_loseAll (l : Launch) (D : va_G) (a : Nat → Nat) (cy : Nat → ClassId) (hG : m_inj 138 a) (N : Nat) (X : XT) {r0 : Int32} {X0 : XT} (hf0 : f_X3_loseAll N X = some (r0, X0)) : Met l yX3_loseAll (Cond.code yX3_loseAll cX3_loseAll 3 (some .int) :: m_tbl) rm_X3_loseAll (va_Pc [.ref (a 0)] (m_PX D (m_tc cy) (m_WC a cy) (m_ZC a) X)) (m_QI D (m_WC a cy) (m_AC a) r0 X0) 0 0 (m_AC a) := by
  refine m_met (own := RX3) hy_X3_loseAll rfl (Nat.le_of_ble_eq_true rfl) (m_wl_D hG _) m_ZC_keep ?_
  intro p e s m args below meth c C ls hl hP hS
  have hx := C.1.1
  have hb := C.1.2.1
  have hl : lv_has ls 3 [(0, .ref (a 0))] := hl
  unfold f_X3_loseAll at hf0
  suffices K : ∀ (H : Heap) (locs : List Loc), va_P D vwCl (m_WC a cy X) H → va_S (m_AC a) s.heap H locs → W p l e rm_X3_loseAll s m args below meth c H locs 0 0 (MQ below (m_QI D (m_WC a cy) (m_AC a) r0 X0) args s 0 0 (m_AC a)) (F0 m 0 ls []) from K _ _ hP hS
  clear hP hS
  intro H locs hP hS
  refine lv_iconst (v := 0) hx hb dX3_loseAll_0 (by decide) ?_
  refine lv_istore_n (lv' := [(1, .int 0), (0, .ref (a 0))]) hx hb dX3_loseAll_1 rfl hl (by decide) rfl (fun ls hl => ?_)
  refine lv_iconst (v := 0) hx hb dX3_loseAll_2 (by decide) ?_
  refine lv_istore_n (lv' := [(2, .int 0), (1, .int 0), (0, .ref (a 0))]) hx hb dX3_loseAll_3 rfl hl (by decide) rfl (fun ls hl => ?_)
  exact w_X3_loseAll_4 l D a cy hG N C _ _ _ _ hf0 H locs ls hP hS (lv_sub hl [2, 1, 0] rfl)
