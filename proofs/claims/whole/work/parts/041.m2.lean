-- written by wip/gen/gen.py
abbrev rm_X8_isLate : Room := { frames := 1, cells := 0, slots := 0, locals := 22 }
def f_X8_isLate (N : Nat) (X : XT) : Option (Int32 × XT) := m_gd (m_in 8 1816) <| m_nm (X 1 (Int32.toNatClampNeg 8)) fun y_1 => if y_1 = (-5) then (some (0, X)) else (m_gd (m_in 8 1816) <| m_nm (X 1 (Int32.toNatClampNeg 8)) fun y_7 => m_bi (f_X8_ofGroup N y_7 1 X) fun r_10 X_10 => m_gd (m_in 0 1816) <| m_nm (X_10 1 (Int32.toNatClampNeg 0)) fun y_12 => if y_12 < r_10 then (some (0, X_10)) else (some (1, X_10)))
set_option maxHeartbeats 4000000 in
set_option maxRecDepth 100000 in
theorem c_X8_isLate (l : Launch) (D : va_G) (a : Nat → Nat) (cy : Nat → ClassId) (hG : m_inj 6 a) (N : Nat) (X : XT) {r0 : Int32} {X0 : XT} (hf0 : f_X8_isLate N X = some (r0, X0)) : Met l yX8_isLate (Cond.code yX8_isLate cX8_isLate 1 (some .boolean) :: m_tbl) rm_X8_isLate (va_Pc [.ref (a 0)] (m_PX D (m_tc cy) (m_WM a cy) m_ZM X)) (m_QI D (m_WM a cy) (m_AM a) r0 X0) 0 0 (m_AM a) := by
  refine m_met (own := RX8) hy_X8_isLate rfl (Nat.le_of_ble_eq_true rfl) (m_wl_D hG _) m_ZM_keep ?_
  intro p e s m args below meth c C ls hl hP hS
  have hx := C.1.1
  have hb := C.1.2.1
  have hl : lv_has ls 1 [(0, .ref (a 0))] := hl
  unfold f_X8_isLate at hf0
  suffices K : ∀ (H : Heap) (locs : List Loc), va_P D vwCl (m_WM a cy X) H → va_S (m_AM a) s.heap H locs → W p l e rm_X8_isLate s m args below meth c H locs 0 0 (MQ below (m_QI D (m_WM a cy) (m_AM a) r0 X0) args s 0 0 (m_AM a)) (F0 m 0 ls []) from K _ _ hP hS
  clear hP hS
  intro H locs hP hS
  refine lv_aload_n hx hb dX8_isLate_0 rfl (lv_at hl 0 rfl) ?_
  refine m_get C hP mM_0 rfl inX8 0 (by decide) wf_X8_7 rfl dX8_isLate_1 ?_
  refine lv_bipush (v := 8) hx hb dX8_isLate_4 (by decide) ?_
  obtain ⟨g_1, hf2⟩ := m_gd_s hf0
  clear hf0
  refine m_ild C hP mM_1 0 rfl g_1 dX8_isLate_6 (fun y_1 e_1 => ?_)
  have hf3 := m_nm_s e_1 hf2
  clear hf2
  refine lv_bipush (v := (-5)) hx hb dX8_isLate_7 (by decide) ?_
  refine lv_icmp_eq (tgt := 37) hx hb dX8_isLate_9 (by decide) (fun c_4 => ?_) (fun c_4 => ?_)
  · have hf5 := m_it c_4 hf3
    clear hf3
    refine lv_iconst (v := 0) hx hb dX8_isLate_37 (by decide) ?_
    exact m_zret C hP hS dX8_isLate_38 (by decide) hf5
  · have hf6 := m_ie c_4 hf3
    clear hf3
    refine lv_aload_n hx hb dX8_isLate_12 rfl (lv_at hl 0 rfl) ?_
    refine lv_aload_n hx hb dX8_isLate_13 rfl (lv_at hl 0 rfl) ?_
    refine m_get C hP mM_0 rfl inX8 0 (by decide) wf_X8_7 rfl dX8_isLate_14 ?_
    refine lv_bipush (v := 8) hx hb dX8_isLate_17 (by decide) ?_
    obtain ⟨g_7, hf8⟩ := m_gd_s hf6
    clear hf6
    refine m_ild C hP mM_1 0 rfl g_7 dX8_isLate_19 (fun y_7 e_7 => ?_)
    have hf9 := m_nm_s e_7 hf8
    clear hf8
    refine lv_iconst (v := 1) hx hb dX8_isLate_20 (by decide) ?_
    obtain ⟨r_10, X_10, h_10, hf11⟩ := m_bi_s hf9
    clear hf9
    refine m_callVi (q := (RX8, TX8, 13)) C [.int y_7, .int 1] [] (c_X8_ofGroup l D a cy hG N _ _ _ h_10) (m_goodV wl_X8_52 wi_X8_ofGroup ws_X8_ofGroup wn_X8 wc_X8_ofGroup) ⟨rfl, rfl⟩ hv_X8_ofGroup ⟨Nat.le_of_ble_eq_true rfl, Nat.le_of_ble_eq_true rfl⟩ rfl mM_0 hP hS rfl hl.1 rfl (Nat.le_of_ble_eq_true rfl) dX8_isLate_21 (fun H locs hP hS => ?_)
    refine lv_aload_n hx hb dX8_isLate_24 rfl (lv_at hl 0 rfl) ?_
    refine m_get C hP mM_0 rfl inX8 0 (by decide) wf_X8_7 rfl dX8_isLate_25 ?_
    refine lv_iconst (v := 0) hx hb dX8_isLate_28 (by decide) ?_
    obtain ⟨g_12, hf13⟩ := m_gd_s hf11
    clear hf11
    refine m_ild C hP mM_1 0 rfl g_12 dX8_isLate_29 (fun y_12 e_12 => ?_)
    have hf14 := m_nm_s e_12 hf13
    clear hf13
    refine lv_icmp_gt (tgt := 37) hx hb dX8_isLate_30 (by decide) (fun c_15 => ?_) (fun c_15 => ?_)
    · have hf16 := m_it c_15 hf14
      clear hf14
      refine lv_iconst (v := 0) hx hb dX8_isLate_37 (by decide) ?_
      exact m_zret C hP hS dX8_isLate_38 (by decide) hf16
    · have hf17 := m_ie c_15 hf14
      clear hf14
      refine lv_iconst (v := 1) hx hb dX8_isLate_33 (by decide) ?_
      refine lv_goto (tgt := 38) hx hb dX8_isLate_34 (by decide) ?_
      exact m_zret C hP hS dX8_isLate_38 (by decide) hf17
abbrev rm_X8_begin : Room := { frames := 1, cells := 0, slots := 0, locals := 23 }
def f_X8_begin (N : Nat) (X : XT) : Option (Int32 × XT) := m_gd (m_in 7 1816) <| m_nm (X 1 (Int32.toNatClampNeg 7)) fun y_1 => m_gd (m_in 7 1816) <| m_nm (X 1 (Int32.toNatClampNeg 7)) fun y_4 => m_nm (y_4 + 1) fun y_7 => m_gd (m_in 7 1816) <| m_nm (m_up X 1 (upd (X 1) (Int32.toNatClampNeg 7) y_7)) fun X_9 => m_gd (m_in 8 1816) <| m_nm (m_up X_9 1 (upd (X_9 1) (Int32.toNatClampNeg 8) y_1)) fun X_12 => m_bv (f_X8_setGroup N y_1 0 1 X_12) fun X_15 => m_gd (m_in 0 1816) <| m_nm (X_15 1 (Int32.toNatClampNeg 0)) fun y_17 => m_gd (m_in 1 1816) <| m_nm (X_15 1 (Int32.toNatClampNeg 1)) fun y_20 => m_nm (y_17 + y_20) fun y_23 => m_bv (f_X8_setGroup N y_1 1 y_23 X_15) fun X_25 => some (y_1, X_25)
set_option maxHeartbeats 4000000 in
set_option maxRecDepth 100000 in
theorem c_X8_begin (l : Launch) (D : va_G) (a : Nat → Nat) (cy : Nat → ClassId) (hG : m_inj 6 a) (N : Nat) (X : XT) {r0 : Int32} {X0 : XT} (hf0 : f_X8_begin N X = some (r0, X0)) : Met l yX8_begin (Cond.code yX8_begin cX8_begin 2 (some .int) :: m_tbl) rm_X8_begin (va_Pc [.ref (a 0)] (m_PX D (m_tc cy) (m_WM a cy) m_ZM X)) (m_QI D (m_WM a cy) (m_AM a) r0 X0) 0 0 (m_AM a) := by
  refine m_met (own := RX8) hy_X8_begin rfl (Nat.le_of_ble_eq_true rfl) (m_wl_D hG _) m_ZM_keep ?_
  intro p e s m args below meth c C ls hl hP hS
  have hx := C.1.1
  have hb := C.1.2.1
  have hl : lv_has ls 2 [(0, .ref (a 0))] := hl
  unfold f_X8_begin at hf0
  suffices K : ∀ (H : Heap) (locs : List Loc), va_P D vwCl (m_WM a cy X) H → va_S (m_AM a) s.heap H locs → W p l e rm_X8_begin s m args below meth c H locs 0 0 (MQ below (m_QI D (m_WM a cy) (m_AM a) r0 X0) args s 0 0 (m_AM a)) (F0 m 0 ls []) from K _ _ hP hS
  clear hP hS
  intro H locs hP hS
  refine lv_aload_n hx hb dX8_begin_0 rfl (lv_at hl 0 rfl) ?_
  refine m_get C hP mM_0 rfl inX8 0 (by decide) wf_X8_7 rfl dX8_begin_1 ?_
  refine lv_bipush (v := 7) hx hb dX8_begin_4 (by decide) ?_
  obtain ⟨g_1, hf2⟩ := m_gd_s hf0
  clear hf0
  refine m_ild C hP mM_1 0 rfl g_1 dX8_begin_6 (fun y_1 e_1 => ?_)
  have hf3 := m_nm_s e_1 hf2
  clear hf2
  refine lv_istore_n (lv' := [(1, .int y_1), (0, .ref (a 0))]) hx hb dX8_begin_7 rfl hl (by decide) rfl (fun ls hl => ?_)
  refine lv_aload_n hx hb dX8_begin_8 rfl (lv_at hl 1 rfl) ?_
  refine m_get C hP mM_0 rfl inX8 0 (by decide) wf_X8_7 rfl dX8_begin_9 ?_
  refine lv_bipush (v := 7) hx hb dX8_begin_12 (by decide) ?_
  refine lv_dup2_11 hx hb dX8_begin_14 rfl rfl ?_
  obtain ⟨g_4, hf5⟩ := m_gd_s hf3
  clear hf3
  refine m_ild C hP mM_1 0 rfl g_4 dX8_begin_15 (fun y_4 e_4 => ?_)
  have hf6 := m_nm_s e_4 hf5
  clear hf5
  refine lv_iconst (v := 1) hx hb dX8_begin_16 (by decide) ?_
  refine lv_iadd hx hb dX8_begin_17 ?_
  refine lv_topi (fun y_7 e_7 => ?_)
  have hf8 := m_nm_s e_7 hf6
  clear hf6
  obtain ⟨g_9, hf10⟩ := m_gd_s hf8
  clear hf8
  refine m_ist C hP hS mM_1 0 rfl g_9 mMs_1 dX8_begin_18 (fun X_9 e_9 H locs hP hS => ?_)
  have hf11 := m_nm_s e_9 hf10
  clear hf10
  refine lv_aload_n hx hb dX8_begin_19 rfl (lv_at hl 1 rfl) ?_
  refine m_get C hP mM_0 rfl inX8 0 (by decide) wf_X8_7 rfl dX8_begin_20 ?_
  refine lv_bipush (v := 8) hx hb dX8_begin_23 (by decide) ?_
  refine lv_iload_n hx hb dX8_begin_25 rfl (lv_at hl 0 rfl) ?_
  obtain ⟨g_12, hf13⟩ := m_gd_s hf11
  clear hf11
  refine m_ist C hP hS mM_1 0 rfl g_12 mMs_1 dX8_begin_26 (fun X_12 e_12 H locs hP hS => ?_)
  have hf14 := m_nm_s e_12 hf13
  clear hf13
  refine lv_aload_n hx hb dX8_begin_27 rfl (lv_at hl 1 rfl) ?_
  refine lv_iload_n hx hb dX8_begin_28 rfl (lv_at hl 0 rfl) ?_
  refine lv_iconst (v := 0) hx hb dX8_begin_29 (by decide) ?_
  refine lv_iconst (v := 1) hx hb dX8_begin_30 (by decide) ?_
  obtain ⟨X_15, h_15, hf16⟩ := m_bv_s hf14
  clear hf14
  refine m_callVv (q := (RX8, TX8, 13)) C [.int y_1, .int 0, .int 1] [] (c_X8_setGroup l D a cy hG N _ _ _ _ h_15) (m_goodV wl_X8_59 wi_X8_setGroup ws_X8_setGroup wn_X8 wc_X8_setGroup) ⟨rfl, rfl⟩ hv_X8_setGroup ⟨Nat.le_of_ble_eq_true rfl, Nat.le_of_ble_eq_true rfl⟩ rfl mM_0 hP hS rfl hl.1 rfl (Nat.le_of_ble_eq_true rfl) dX8_begin_31 (fun H locs hP hS => ?_)
  refine lv_aload_n hx hb dX8_begin_34 rfl (lv_at hl 1 rfl) ?_
  refine lv_iload_n hx hb dX8_begin_35 rfl (lv_at hl 0 rfl) ?_
  refine lv_iconst (v := 1) hx hb dX8_begin_36 (by decide) ?_
  refine lv_aload_n hx hb dX8_begin_37 rfl (lv_at hl 1 rfl) ?_
  refine m_get C hP mM_0 rfl inX8 0 (by decide) wf_X8_7 rfl dX8_begin_38 ?_
  refine lv_iconst (v := 0) hx hb dX8_begin_41 (by decide) ?_
  obtain ⟨g_17, hf18⟩ := m_gd_s hf16
  clear hf16
  refine m_ild C hP mM_1 0 rfl g_17 dX8_begin_42 (fun y_17 e_17 => ?_)
  have hf19 := m_nm_s e_17 hf18
  clear hf18
  refine lv_aload_n hx hb dX8_begin_43 rfl (lv_at hl 1 rfl) ?_
  refine m_get C hP mM_0 rfl inX8 0 (by decide) wf_X8_7 rfl dX8_begin_44 ?_
  refine lv_iconst (v := 1) hx hb dX8_begin_47 (by decide) ?_
  obtain ⟨g_20, hf21⟩ := m_gd_s hf19
  clear hf19
  refine m_ild C hP mM_1 0 rfl g_20 dX8_begin_48 (fun y_20 e_20 => ?_)
  have hf22 := m_nm_s e_20 hf21
  clear hf21
  refine lv_iadd hx hb dX8_begin_49 ?_
  refine lv_topi (fun y_23 e_23 => ?_)
  have hf24 := m_nm_s e_23 hf22
  clear hf22
  obtain ⟨X_25, h_25, hf26⟩ := m_bv_s hf24
  clear hf24
  refine m_callVv (q := (RX8, TX8, 13)) C [.int y_1, .int 1, .int y_23] [] (c_X8_setGroup l D a cy hG N _ _ _ _ h_25) (m_goodV wl_X8_59 wi_X8_setGroup ws_X8_setGroup wn_X8 wc_X8_setGroup) ⟨rfl, rfl⟩ hv_X8_setGroup ⟨Nat.le_of_ble_eq_true rfl, Nat.le_of_ble_eq_true rfl⟩ rfl mM_0 hP hS rfl hl.1 rfl (Nat.le_of_ble_eq_true rfl) dX8_begin_50 (fun H locs hP hS => ?_)
  refine lv_iload_n hx hb dX8_begin_53 rfl (lv_at hl 0 rfl) ?_
  exact m_iret C hP hS dX8_begin_54 hf26
abbrev rm_X8_answerAll : Room := { frames := 2, cells := 0, slots := 0, locals := 44 }
def f_X8_answerAll_85 (N : Nat) (v2 : Int32) (X : XT) : Option (Int32 × XT) := m_gd (m_in 10 1816) <| m_nm (X 1 (Int32.toNatClampNeg 10)) fun y_7 => m_nm (y_7 + v2) fun y_10 => m_gd (m_in 10 1816) <| m_nm (m_up X 1 (upd (X 1) (Int32.toNatClampNeg 10) y_10)) fun X_12 => some (v2, X_12)
set_option maxHeartbeats 4000000 in
set_option maxRecDepth 100000 in
theorem w_X8_answerAll_85 (l : Launch) (D : va_G) (a : Nat → Nat) (cy : Nat → ClassId) (hG : m_inj 6 a) (N : Nat) {p : Program} {e : Env} {s : State} {m : MethodId} {args : Array Value} {below : List Frame} {meth : Method} {c : Code} (C : m_Cx p s m args meth c cX8_answerAll 4 RX8 (some .int) (Cond.code yX8_answerAll cX8_answerAll 4 (some .int)) D (m_tc cy) (m_AM a) (m_WM a cy) m_ZM) {r0 : Int32} {X0 : XT} (v2 : Int32) (X : XT) (hf0 : f_X8_answerAll_85 N v2 X = some (r0, X0)) : ∀ (H : Heap) (locs : List Loc) (ls : Array Slot), va_P D vwCl (m_WM a cy X) H → va_S (m_AM a) s.heap H locs → lv_has ls 4 [(0, .ref (a 0)), (2, .int v2)] → W p l e rm_X8_answerAll s m args below meth c H locs 0 0 (MQ below (m_QI D (m_WM a cy) (m_AM a) r0 X0) args s 0 0 (m_AM a)) (F0 m 85 ls []) := by
  have hx := C.1.1
  have hb := C.1.2.1
  intro H locs ls hP hS hl
  unfold f_X8_answerAll_85 at hf0
  refine lv_aload_n hx hb dX8_answerAll_85 rfl (lv_at hl 0 rfl) ?_
  refine m_get C hP mM_0 rfl inX8 0 (by decide) wf_X8_7 rfl dX8_answerAll_86 ?_
  refine lv_bipush (v := 10) hx hb dX8_answerAll_89 (by decide) ?_
  refine lv_dup2_11 hx hb dX8_answerAll_91 rfl rfl ?_
  obtain ⟨g_7, hf8⟩ := m_gd_s hf0
  clear hf0
  refine m_ild C hP mM_1 0 rfl g_7 dX8_answerAll_92 (fun y_7 e_7 => ?_)
  have hf9 := m_nm_s e_7 hf8
  clear hf8
  refine lv_iload_n hx hb dX8_answerAll_93 rfl (lv_at hl 1 rfl) ?_
  refine lv_iadd hx hb dX8_answerAll_94 ?_
  refine lv_topi (fun y_10 e_10 => ?_)
  have hf11 := m_nm_s e_10 hf9
  clear hf9
  obtain ⟨g_12, hf13⟩ := m_gd_s hf11
  clear hf11
  refine m_ist C hP hS mM_1 0 rfl g_12 mMs_1 dX8_answerAll_95 (fun X_12 e_12 H locs hP hS => ?_)
  have hf14 := m_nm_s e_12 hf13
  clear hf13
  refine lv_iload_n hx hb dX8_answerAll_96 rfl (lv_at hl 1 rfl) ?_
  exact m_iret C hP hS dX8_answerAll_97 hf14
def f_X8_answerAll_4 (N : Nat) : Nat → Int32 → Int32 → Int32 → XT → Option (Int32 × XT)
  | 0, _, _, _, _ => none
  | n + 1, v1, v2, v3, X => m_gd (m_in 6 1816) <| m_nm (X 1 (Int32.toNatClampNeg 6)) fun y_1 => if y_1 ≤ v3 then (f_X8_answerAll_85 N v2 X) else (m_bi (f_X8_isIn N v3 v1 X) fun r_15 X_15 => if r_15 = 0 then (m_nm (v3 + 1) fun y_20 => f_X8_answerAll_4 N n v1 v2 y_20 X_15) else (m_bi (f_X8_of N v3 3 X_15) fun r_22 X_22 => if r_22 = 3 then (m_bv (f_X8_setOf N v3 3 4 X_22) fun X_29 => m_gd (m_in 0 1816) <| m_nm (X_29 1 (Int32.toNatClampNeg 0)) fun y_31 => m_bv (f_X8_setOf N v3 5 y_31 X_29) fun X_34 => m_gd (m_in 15 1816) <| m_nm (X_34 1 (Int32.toNatClampNeg 15)) fun y_36 => m_gd (m_in 0 1816) <| m_nm (X_34 1 (Int32.toNatClampNeg 0)) fun y_39 => m_bi (f_X8_of N v3 4 X_34) fun r_42 X_42 => m_nm (y_39 - r_42) fun y_44 => m_nm (y_36 + y_44) fun y_46 => m_gd (m_in 15 1816) <| m_nm (m_up X_42 1 (upd (X_42 1) (Int32.toNatClampNeg 15) y_46)) fun X_48 => m_nm (v2 + 1) fun y_51 => m_nm (v3 + 1) fun y_53 => f_X8_answerAll_4 N n v1 y_51 y_53 X_48) else (m_nm (v3 + 1) fun y_27 => f_X8_answerAll_4 N n v1 v2 y_27 X_22)))
set_option maxHeartbeats 4000000 in
set_option maxRecDepth 100000 in
theorem w_X8_answerAll_4 (l : Launch) (D : va_G) (a : Nat → Nat) (cy : Nat → ClassId) (hG : m_inj 6 a) (N : Nat) {p : Program} {e : Env} {s : State} {m : MethodId} {args : Array Value} {below : List Frame} {meth : Method} {c : Code} (C : m_Cx p s m args meth c cX8_answerAll 4 RX8 (some .int) (Cond.code yX8_answerAll cX8_answerAll 4 (some .int)) D (m_tc cy) (m_AM a) (m_WM a cy) m_ZM) {r0 : Int32} {X0 : XT} : ∀ (n : Nat) (v1 : Int32) (v2 : Int32) (v3 : Int32) (X : XT), f_X8_answerAll_4 N n v1 v2 v3 X = some (r0, X0) → ∀ (H : Heap) (locs : List Loc) (ls : Array Slot), va_P D vwCl (m_WM a cy X) H → va_S (m_AM a) s.heap H locs → lv_has ls 4 [(0, .ref (a 0)), (1, .int v1), (2, .int v2), (3, .int v3)] → W p l e rm_X8_answerAll s m args below meth c H locs 0 0 (MQ below (m_QI D (m_WM a cy) (m_AM a) r0 X0) args s 0 0 (m_AM a)) (F0 m 4 ls []) := by
  have hx := C.1.1
  have hb := C.1.2.1
  intro n
  induction n with
  | zero => intro v1 v2 v3 X hf0; rw [f_X8_answerAll_4] at hf0; cases hf0
  | succ n ih =>
    intro v1 v2 v3 X hf0 H locs ls hP hS hl
    rw [f_X8_answerAll_4] at hf0
    refine lv_iload_n hx hb dX8_answerAll_4 rfl (lv_at hl 3 rfl) ?_
    refine lv_aload_n hx hb dX8_answerAll_5 rfl (lv_at hl 0 rfl) ?_
    refine m_get C hP mM_0 rfl inX8 0 (by decide) wf_X8_7 rfl dX8_answerAll_6 ?_
    refine lv_bipush (v := 6) hx hb dX8_answerAll_9 (by decide) ?_
    obtain ⟨g_1, hf2⟩ := m_gd_s hf0
    clear hf0
    refine m_ild C hP mM_1 0 rfl g_1 dX8_answerAll_11 (fun y_1 e_1 => ?_)
    have hf3 := m_nm_s e_1 hf2
    clear hf2
    refine lv_icmp_ge (tgt := 85) hx hb dX8_answerAll_12 (by decide) (fun c_4 => ?_) (fun c_4 => ?_)
    · have hf5 := m_it c_4 hf3
      clear hf3
      exact w_X8_answerAll_85 l D a cy hG N C _ _ hf5 H locs ls hP hS (lv_sub hl [0, 2] rfl)
    · have hf6 := m_ie c_4 hf3
      clear hf3
      refine lv_aload_n hx hb dX8_answerAll_15 rfl (lv_at hl 0 rfl) ?_
      refine lv_iload_n hx hb dX8_answerAll_16 rfl (lv_at hl 3 rfl) ?_
      refine lv_iload_n hx hb dX8_answerAll_17 rfl (lv_at hl 1 rfl) ?_
      obtain ⟨r_15, X_15, h_15, hf16⟩ := m_bi_s hf6
      clear hf6
      refine m_callVi (q := (RX8, TX8, 13)) C [.int v3, .int v1] [] (c_X8_isIn l D a cy hG N _ _ _ h_15) (m_goodV wl_X8_44 wi_X8_isIn ws_X8_isIn wn_X8 wc_X8_isIn) ⟨rfl, rfl⟩ hv_X8_isIn ⟨Nat.le_of_ble_eq_true rfl, Nat.le_of_ble_eq_true rfl⟩ rfl mM_0 hP hS rfl hl.1 rfl (Nat.le_of_ble_eq_true rfl) dX8_answerAll_18 (fun H locs hP hS => ?_)
      refine lv_if_eq (tgt := 79) hx hb dX8_answerAll_21 (by decide) (fun c_17 => ?_) (fun c_17 => ?_)
      · have hf18 := m_it c_17 hf16
        clear hf16
        obtain ⟨y_20, e_20⟩ : ∃ y : Int32, y = v3 + 1 := ⟨_, rfl⟩
        refine lv_iinc (v := y_20) (lv' := [(3, .int y_20), (0, .ref (a 0)), (1, .int v1), (2, .int v2)]) hx hb dX8_answerAll_79 hl (k := 3) rfl (by rw [e_20]; rfl) (by decide) rfl (fun ls hl => ?_)
        have hf21 := m_nm_s e_20 hf18
        clear hf18
        refine lv_goto (tgt := 4) hx hb dX8_answerAll_82 (by decide) ?_
        exact ih _ _ _ _ hf21 H locs ls hP hS (lv_sub hl [1, 2, 3, 0] rfl)
      · have hf19 := m_ie c_17 hf16
        clear hf16
        refine lv_aload_n hx hb dX8_answerAll_24 rfl (lv_at hl 0 rfl) ?_
        refine lv_iload_n hx hb dX8_answerAll_25 rfl (lv_at hl 3 rfl) ?_
        refine lv_iconst (v := 3) hx hb dX8_answerAll_26 (by decide) ?_
        obtain ⟨r_22, X_22, h_22, hf23⟩ := m_bi_s hf19
        clear hf19
        refine m_callVi (q := (RX8, TX8, 13)) C [.int v3, .int 3] [] (c_X8_of l D a cy hG N _ _ _ h_22) (m_goodV wl_X8_40 wi_X8_of ws_X8_of wn_X8 wc_X8_of) ⟨rfl, rfl⟩ hv_X8_of ⟨Nat.le_of_ble_eq_true rfl, Nat.le_of_ble_eq_true rfl⟩ rfl mM_0 hP hS rfl hl.1 rfl (Nat.le_of_ble_eq_true rfl) dX8_answerAll_27 (fun H locs hP hS => ?_)
        refine lv_iconst (v := 3) hx hb dX8_answerAll_30 (by decide) ?_
        refine lv_icmp_ne (tgt := 79) hx hb dX8_answerAll_31 (by decide) (fun c_24 => ?_) (fun c_24 => ?_)
        · have hf25 := m_ie c_24 hf23
          clear hf23
          obtain ⟨y_27, e_27⟩ : ∃ y : Int32, y = v3 + 1 := ⟨_, rfl⟩
          refine lv_iinc (v := y_27) (lv' := [(3, .int y_27), (0, .ref (a 0)), (1, .int v1), (2, .int v2)]) hx hb dX8_answerAll_79 hl (k := 3) rfl (by rw [e_27]; rfl) (by decide) rfl (fun ls hl => ?_)
          have hf28 := m_nm_s e_27 hf25
          clear hf25
          refine lv_goto (tgt := 4) hx hb dX8_answerAll_82 (by decide) ?_
          exact ih _ _ _ _ hf28 H locs ls hP hS (lv_sub hl [1, 2, 3, 0] rfl)
        · have hf26 := m_it c_24 hf23
          clear hf23
          refine lv_aload_n hx hb dX8_answerAll_34 rfl (lv_at hl 0 rfl) ?_
          refine lv_iload_n hx hb dX8_answerAll_35 rfl (lv_at hl 3 rfl) ?_
          refine lv_iconst (v := 3) hx hb dX8_answerAll_36 (by decide) ?_
          refine lv_iconst (v := 4) hx hb dX8_answerAll_37 (by decide) ?_
          obtain ⟨X_29, h_29, hf30⟩ := m_bv_s hf26
          clear hf26
          refine m_callVv (q := (RX8, TX8, 13)) C [.int v3, .int 3, .int 4] [] (c_X8_setOf l D a cy hG N _ _ _ _ h_29) (m_goodV wl_X8_48 wi_X8_setOf ws_X8_setOf wn_X8 wc_X8_setOf) ⟨rfl, rfl⟩ hv_X8_setOf ⟨Nat.le_of_ble_eq_true rfl, Nat.le_of_ble_eq_true rfl⟩ rfl mM_0 hP hS rfl hl.1 rfl (Nat.le_of_ble_eq_true rfl) dX8_answerAll_38 (fun H locs hP hS => ?_)
          refine lv_aload_n hx hb dX8_answerAll_41 rfl (lv_at hl 0 rfl) ?_
          refine lv_iload_n hx hb dX8_answerAll_42 rfl (lv_at hl 3 rfl) ?_
          refine lv_iconst (v := 5) hx hb dX8_answerAll_43 (by decide) ?_
          refine lv_aload_n hx hb dX8_answerAll_44 rfl (lv_at hl 0 rfl) ?_
          refine m_get C hP mM_0 rfl inX8 0 (by decide) wf_X8_7 rfl dX8_answerAll_45 ?_
          refine lv_iconst (v := 0) hx hb dX8_answerAll_48 (by decide) ?_
          obtain ⟨g_31, hf32⟩ := m_gd_s hf30
          clear hf30
          refine m_ild C hP mM_1 0 rfl g_31 dX8_answerAll_49 (fun y_31 e_31 => ?_)
          have hf33 := m_nm_s e_31 hf32
          clear hf32
          obtain ⟨X_34, h_34, hf35⟩ := m_bv_s hf33
          clear hf33
          refine m_callVv (q := (RX8, TX8, 13)) C [.int v3, .int 5, .int y_31] [] (c_X8_setOf l D a cy hG N _ _ _ _ h_34) (m_goodV wl_X8_48 wi_X8_setOf ws_X8_setOf wn_X8 wc_X8_setOf) ⟨rfl, rfl⟩ hv_X8_setOf ⟨Nat.le_of_ble_eq_true rfl, Nat.le_of_ble_eq_true rfl⟩ rfl mM_0 hP hS rfl hl.1 rfl (Nat.le_of_ble_eq_true rfl) dX8_answerAll_50 (fun H locs hP hS => ?_)
          refine lv_aload_n hx hb dX8_answerAll_53 rfl (lv_at hl 0 rfl) ?_
          refine m_get C hP mM_0 rfl inX8 0 (by decide) wf_X8_7 rfl dX8_answerAll_54 ?_
          refine lv_bipush (v := 15) hx hb dX8_answerAll_57 (by decide) ?_
          refine lv_dup2_11 hx hb dX8_answerAll_59 rfl rfl ?_
          obtain ⟨g_36, hf37⟩ := m_gd_s hf35
          clear hf35
          refine m_ild C hP mM_1 0 rfl g_36 dX8_answerAll_60 (fun y_36 e_36 => ?_)
          have hf38 := m_nm_s e_36 hf37
          clear hf37
          refine lv_aload_n hx hb dX8_answerAll_61 rfl (lv_at hl 0 rfl) ?_
          refine m_get C hP mM_0 rfl inX8 0 (by decide) wf_X8_7 rfl dX8_answerAll_62 ?_
          refine lv_iconst (v := 0) hx hb dX8_answerAll_65 (by decide) ?_
          obtain ⟨g_39, hf40⟩ := m_gd_s hf38
          clear hf38
          refine m_ild C hP mM_1 0 rfl g_39 dX8_answerAll_66 (fun y_39 e_39 => ?_)
          have hf41 := m_nm_s e_39 hf40
          clear hf40
          refine lv_aload_n hx hb dX8_answerAll_67 rfl (lv_at hl 0 rfl) ?_
          refine lv_iload_n hx hb dX8_answerAll_68 rfl (lv_at hl 3 rfl) ?_
          refine lv_iconst (v := 4) hx hb dX8_answerAll_69 (by decide) ?_
          obtain ⟨r_42, X_42, h_42, hf43⟩ := m_bi_s hf41
          clear hf41
          refine m_callVi (q := (RX8, TX8, 13)) C [.int v3, .int 4] [.int y_39, .int y_36, .int 15, .ref (a 1)] (c_X8_of l D a cy hG N _ _ _ h_42) (m_goodV wl_X8_40 wi_X8_of ws_X8_of wn_X8 wc_X8_of) ⟨rfl, rfl⟩ hv_X8_of ⟨Nat.le_of_ble_eq_true rfl, Nat.le_of_ble_eq_true rfl⟩ rfl mM_0 hP hS rfl hl.1 rfl (Nat.le_of_ble_eq_true rfl) dX8_answerAll_70 (fun H locs hP hS => ?_)
          refine lv_isub hx hb dX8_answerAll_73 ?_
          refine lv_topi (fun y_44 e_44 => ?_)
          have hf45 := m_nm_s e_44 hf43
          clear hf43
          refine lv_iadd hx hb dX8_answerAll_74 ?_
          refine lv_topi (fun y_46 e_46 => ?_)
          have hf47 := m_nm_s e_46 hf45
          clear hf45
          obtain ⟨g_48, hf49⟩ := m_gd_s hf47
          clear hf47
          refine m_ist C hP hS mM_1 0 rfl g_48 mMs_1 dX8_answerAll_75 (fun X_48 e_48 H locs hP hS => ?_)
          have hf50 := m_nm_s e_48 hf49
          clear hf49
          obtain ⟨y_51, e_51⟩ : ∃ y : Int32, y = v2 + 1 := ⟨_, rfl⟩
          refine lv_iinc (v := y_51) (lv' := [(2, .int y_51), (0, .ref (a 0)), (1, .int v1), (3, .int v3)]) hx hb dX8_answerAll_76 hl (k := 2) rfl (by rw [e_51]; rfl) (by decide) rfl (fun ls hl => ?_)
          have hf52 := m_nm_s e_51 hf50
          clear hf50
          obtain ⟨y_53, e_53⟩ : ∃ y : Int32, y = v3 + 1 := ⟨_, rfl⟩
          refine lv_iinc (v := y_53) (lv' := [(3, .int y_53), (2, .int y_51), (0, .ref (a 0)), (1, .int v1)]) hx hb dX8_answerAll_79 hl (k := 3) rfl (by rw [e_53]; rfl) (by decide) rfl (fun ls hl => ?_)
          have hf54 := m_nm_s e_53 hf52
          clear hf52
          refine lv_goto (tgt := 4) hx hb dX8_answerAll_82 (by decide) ?_
          exact ih _ _ _ _ hf54 H locs ls hP hS (lv_sub hl [2, 3, 1, 0] rfl)
def f_X8_answerAll (N : Nat) (v1 : Int32) (X : XT) : Option (Int32 × XT) := f_X8_answerAll_4 N N v1 0 0 X
set_option maxHeartbeats 4000000 in
set_option maxRecDepth 100000 in
theorem c_X8_answerAll (l : Launch) (D : va_G) (a : Nat → Nat) (cy : Nat → ClassId) (hG : m_inj 6 a) (N : Nat) (v1 : Int32) (X : XT) {r0 : Int32} {X0 : XT} (hf0 : f_X8_answerAll N v1 X = some (r0, X0)) : Met l yX8_answerAll (Cond.code yX8_answerAll cX8_answerAll 4 (some .int) :: m_tbl) rm_X8_answerAll (va_Pc [.ref (a 0), .int v1] (m_PX D (m_tc cy) (m_WM a cy) m_ZM X)) (m_QI D (m_WM a cy) (m_AM a) r0 X0) 0 0 (m_AM a) := by
  refine m_met (own := RX8) hy_X8_answerAll rfl (Nat.le_of_ble_eq_true rfl) (m_wl_D hG _) m_ZM_keep ?_
  intro p e s m args below meth c C ls hl hP hS
  have hx := C.1.1
  have hb := C.1.2.1
  have hl : lv_has ls 4 [(0, .ref (a 0)), (1, .int v1)] := hl
  unfold f_X8_answerAll at hf0
  suffices K : ∀ (H : Heap) (locs : List Loc), va_P D vwCl (m_WM a cy X) H → va_S (m_AM a) s.heap H locs → W p l e rm_X8_answerAll s m args below meth c H locs 0 0 (MQ below (m_QI D (m_WM a cy) (m_AM a) r0 X0) args s 0 0 (m_AM a)) (F0 m 0 ls []) from K _ _ hP hS
  clear hP hS
  intro H locs hP hS
  refine lv_iconst (v := 0) hx hb dX8_answerAll_0 (by decide) ?_
  refine lv_istore_n (lv' := [(2, .int 0), (0, .ref (a 0)), (1, .int v1)]) hx hb dX8_answerAll_1 rfl hl (by decide) rfl (fun ls hl => ?_)
  refine lv_iconst (v := 0) hx hb dX8_answerAll_2 (by decide) ?_
  refine lv_istore_n (lv' := [(3, .int 0), (2, .int 0), (0, .ref (a 0)), (1, .int v1)]) hx hb dX8_answerAll_3 rfl hl (by decide) rfl (fun ls hl => ?_)
  exact w_X8_answerAll_4 l D a cy hG N C _ _ _ _ _ hf0 H locs ls hP hS (lv_sub hl [2, 3, 1, 0] rfl)
abbrev rm_X8_tickOnce : Room := { frames := 5, cells := 0, slots := 0, locals := 113 }
def f_X8_tickOnce_103 (N : Nat) (v1 : Int32) (X : XT) : Option (Int32 × XT) := m_bi (f_X8_isLate N X) fun r_18 X_18 => if r_18 = 0 then (m_bv (f_X8_goOn N X_18) fun X_23 => some (v1, X_23)) else (m_bv (f_X8_close N 3 X_18) fun X_25 => m_bv (f_X8_goOn N X_25) fun X_27 => some (v1, X_27))
set_option maxHeartbeats 4000000 in
set_option maxRecDepth 100000 in
theorem w_X8_tickOnce_103 (l : Launch) (D : va_G) (a : Nat → Nat) (cy : Nat → ClassId) (hG : m_inj 6 a) (N : Nat) {p : Program} {e : Env} {s : State} {m : MethodId} {args : Array Value} {below : List Frame} {meth : Method} {c : Code} (C : m_Cx p s m args meth c cX8_tickOnce 3 RX8 (some .int) (Cond.code yX8_tickOnce cX8_tickOnce 3 (some .int)) D (m_tc cy) (m_AM a) (m_WM a cy) m_ZM) {r0 : Int32} {X0 : XT} (v1 : Int32) (X : XT) (hf0 : f_X8_tickOnce_103 N v1 X = some (r0, X0)) : ∀ (H : Heap) (locs : List Loc) (ls : Array Slot), va_P D vwCl (m_WM a cy X) H → va_S (m_AM a) s.heap H locs → lv_has ls 3 [(0, .ref (a 0)), (1, .int v1)] → W p l e rm_X8_tickOnce s m args below meth c H locs 0 0 (MQ below (m_QI D (m_WM a cy) (m_AM a) r0 X0) args s 0 0 (m_AM a)) (F0 m 103 ls []) := by
  have hx := C.1.1
  have hb := C.1.2.1
  intro H locs ls hP hS hl
  unfold f_X8_tickOnce_103 at hf0
  refine lv_aload_n hx hb dX8_tickOnce_103 rfl (lv_at hl 0 rfl) ?_
  obtain ⟨r_18, X_18, h_18, hf19⟩ := m_bi_s hf0
  clear hf0
  refine m_callVi (q := (RX8, TX8, 13)) C [] [] (c_X8_isLate l D a cy hG N _ h_18) (m_goodV wl_X8_77 wi_X8_isLate ws_X8_isLate wn_X8 wc_X8_isLate) ⟨rfl, rfl⟩ hv_X8_isLate ⟨Nat.le_of_ble_eq_true rfl, Nat.le_of_ble_eq_true rfl⟩ rfl mM_0 hP hS rfl hl.1 rfl (Nat.le_of_ble_eq_true rfl) dX8_tickOnce_104 (fun H locs hP hS => ?_)
  refine lv_if_eq (tgt := 115) hx hb dX8_tickOnce_107 (by decide) (fun c_20 => ?_) (fun c_20 => ?_)
  · have hf21 := m_it c_20 hf19
    clear hf19
    refine lv_aload_n hx hb dX8_tickOnce_115 rfl (lv_at hl 0 rfl) ?_
    obtain ⟨X_23, h_23, hf24⟩ := m_bv_s hf21
    clear hf21
    refine m_callVv (q := (RX8, TX8, 13)) C [] [] (c_X8_goOn l D a cy hG N _ h_23) (m_goodV wl_X8_71 wi_X8_goOn ws_X8_goOn wn_X8 wc_X8_goOn) ⟨rfl, rfl⟩ hv_X8_goOn ⟨Nat.le_of_ble_eq_true rfl, Nat.le_of_ble_eq_true rfl⟩ rfl mM_0 hP hS rfl hl.1 rfl (Nat.le_of_ble_eq_true rfl) dX8_tickOnce_116 (fun H locs hP hS => ?_)
    refine lv_iload_n hx hb dX8_tickOnce_119 rfl (lv_at hl 1 rfl) ?_
    exact m_iret C hP hS dX8_tickOnce_120 hf24
  · have hf22 := m_ie c_20 hf19
    clear hf19
    refine lv_aload_n hx hb dX8_tickOnce_110 rfl (lv_at hl 0 rfl) ?_
    refine lv_iconst (v := 3) hx hb dX8_tickOnce_111 (by decide) ?_
    obtain ⟨X_25, h_25, hf26⟩ := m_bv_s hf22
    clear hf22
    refine m_callVv (q := (RX8, TX8, 13)) C [.int 3] [] (c_X8_close l D a cy hG N _ _ h_25) (m_goodV wl_X8_81 wi_X8_close ws_X8_close wn_X8 wc_X8_close) ⟨rfl, rfl⟩ hv_X8_close ⟨Nat.le_of_ble_eq_true rfl, Nat.le_of_ble_eq_true rfl⟩ rfl mM_0 hP hS rfl hl.1 rfl (Nat.le_of_ble_eq_true rfl) dX8_tickOnce_112 (fun H locs hP hS => ?_)
    refine lv_aload_n hx hb dX8_tickOnce_115 rfl (lv_at hl 0 rfl) ?_
    obtain ⟨X_27, h_27, hf28⟩ := m_bv_s hf26
    clear hf26
    refine m_callVv (q := (RX8, TX8, 13)) C [] [] (c_X8_goOn l D a cy hG N _ h_27) (m_goodV wl_X8_71 wi_X8_goOn ws_X8_goOn wn_X8 wc_X8_goOn) ⟨rfl, rfl⟩ hv_X8_goOn ⟨Nat.le_of_ble_eq_true rfl, Nat.le_of_ble_eq_true rfl⟩ rfl mM_0 hP hS rfl hl.1 rfl (Nat.le_of_ble_eq_true rfl) dX8_tickOnce_116 (fun H locs hP hS => ?_)
    refine lv_iload_n hx hb dX8_tickOnce_119 rfl (lv_at hl 1 rfl) ?_
    exact m_iret C hP hS dX8_tickOnce_120 hf28
def f_X8_tickOnce_40 (N : Nat) (v1 : Int32) (v2 : Int32) (X : XT) : Option (Int32 × XT) := if v2 = (-5) then (f_X8_tickOnce_103 N v1 X) else (m_bi (f_X8_ofGroup N v2 3 X) fun r_29 X_29 => if r_29 = 0 then (m_bv (f_X8_setGroup N v2 0 4 X_29) fun X_34 => m_gd (m_in 9 1816) <| m_nm (m_up X_34 1 (upd (X_34 1) (Int32.toNatClampNeg 9) (-5))) fun X_36 => m_gd (m_in 13 1816) <| m_nm (X_36 1 (Int32.toNatClampNeg 13)) fun y_39 => m_nm (y_39 + 1) fun y_42 => m_gd (m_in 13 1816) <| m_nm (m_up X_36 1 (upd (X_36 1) (Int32.toNatClampNeg 13) y_42)) fun X_44 => m_gd (m_in 14 1816) <| m_nm (X_44 1 (Int32.toNatClampNeg 14)) fun y_47 => m_bi (f_X8_recordsOf N v2 X_44) fun r_50 X_50 => m_nm (y_47 + r_50) fun y_52 => m_gd (m_in 14 1816) <| m_nm (m_up X_50 1 (upd (X_50 1) (Int32.toNatClampNeg 14) y_52)) fun X_54 => m_bi (f_X8_answerAll N v2 X_54) fun r_57 X_57 => f_X8_tickOnce_103 N r_57 X_57) else (f_X8_tickOnce_103 N v1 X_29))
set_option maxHeartbeats 4000000 in
set_option maxRecDepth 100000 in
theorem w_X8_tickOnce_40 (l : Launch) (D : va_G) (a : Nat → Nat) (cy : Nat → ClassId) (hG : m_inj 6 a) (N : Nat) {p : Program} {e : Env} {s : State} {m : MethodId} {args : Array Value} {below : List Frame} {meth : Method} {c : Code} (C : m_Cx p s m args meth c cX8_tickOnce 3 RX8 (some .int) (Cond.code yX8_tickOnce cX8_tickOnce 3 (some .int)) D (m_tc cy) (m_AM a) (m_WM a cy) m_ZM) {r0 : Int32} {X0 : XT} (v1 : Int32) (v2 : Int32) (X : XT) (hf0 : f_X8_tickOnce_40 N v1 v2 X = some (r0, X0)) : ∀ (H : Heap) (locs : List Loc) (ls : Array Slot), va_P D vwCl (m_WM a cy X) H → va_S (m_AM a) s.heap H locs → lv_has ls 3 [(0, .ref (a 0)), (1, .int v1), (2, .int v2)] → W p l e rm_X8_tickOnce s m args below meth c H locs 0 0 (MQ below (m_QI D (m_WM a cy) (m_AM a) r0 X0) args s 0 0 (m_AM a)) (F0 m 40 ls []) := by
  have hx := C.1.1
  have hb := C.1.2.1
  intro H locs ls hP hS hl
  unfold f_X8_tickOnce_40 at hf0
  refine lv_iload_n hx hb dX8_tickOnce_40 rfl (lv_at hl 2 rfl) ?_
  refine lv_bipush (v := (-5)) hx hb dX8_tickOnce_41 (by decide) ?_
  refine lv_icmp_eq (tgt := 103) hx hb dX8_tickOnce_43 (by decide) (fun c_15 => ?_) (fun c_15 => ?_)
  · have hf16 := m_it c_15 hf0
    clear hf0
    exact w_X8_tickOnce_103 l D a cy hG N C _ _ hf16 H locs ls hP hS (lv_sub hl [0, 1] rfl)
  · have hf17 := m_ie c_15 hf0
    clear hf0
    refine lv_aload_n hx hb dX8_tickOnce_46 rfl (lv_at hl 0 rfl) ?_
    refine lv_iload_n hx hb dX8_tickOnce_47 rfl (lv_at hl 2 rfl) ?_
    refine lv_iconst (v := 3) hx hb dX8_tickOnce_48 (by decide) ?_
    obtain ⟨r_29, X_29, h_29, hf30⟩ := m_bi_s hf17
    clear hf17
    refine m_callVi (q := (RX8, TX8, 13)) C [.int v2, .int 3] [] (c_X8_ofGroup l D a cy hG N _ _ _ h_29) (m_goodV wl_X8_52 wi_X8_ofGroup ws_X8_ofGroup wn_X8 wc_X8_ofGroup) ⟨rfl, rfl⟩ hv_X8_ofGroup ⟨Nat.le_of_ble_eq_true rfl, Nat.le_of_ble_eq_true rfl⟩ rfl mM_0 hP hS rfl hl.1 rfl (Nat.le_of_ble_eq_true rfl) dX8_tickOnce_49 (fun H locs hP hS => ?_)
    refine lv_if_ne (tgt := 103) hx hb dX8_tickOnce_52 (by decide) (fun c_31 => ?_) (fun c_31 => ?_)
    · have hf32 := m_ie c_31 hf30
      clear hf30
      exact w_X8_tickOnce_103 l D a cy hG N C _ _ hf32 H locs ls hP hS (lv_sub hl [0, 1] rfl)
    · have hf33 := m_it c_31 hf30
      clear hf30
      refine lv_aload_n hx hb dX8_tickOnce_55 rfl (lv_at hl 0 rfl) ?_
      refine lv_iload_n hx hb dX8_tickOnce_56 rfl (lv_at hl 2 rfl) ?_
      refine lv_iconst (v := 0) hx hb dX8_tickOnce_57 (by decide) ?_
      refine lv_iconst (v := 4) hx hb dX8_tickOnce_58 (by decide) ?_
      obtain ⟨X_34, h_34, hf35⟩ := m_bv_s hf33
      clear hf33
      refine m_callVv (q := (RX8, TX8, 13)) C [.int v2, .int 0, .int 4] [] (c_X8_setGroup l D a cy hG N _ _ _ _ h_34) (m_goodV wl_X8_59 wi_X8_setGroup ws_X8_setGroup wn_X8 wc_X8_setGroup) ⟨rfl, rfl⟩ hv_X8_setGroup ⟨Nat.le_of_ble_eq_true rfl, Nat.le_of_ble_eq_true rfl⟩ rfl mM_0 hP hS rfl hl.1 rfl (Nat.le_of_ble_eq_true rfl) dX8_tickOnce_59 (fun H locs hP hS => ?_)
      refine lv_aload_n hx hb dX8_tickOnce_62 rfl (lv_at hl 0 rfl) ?_
      refine m_get C hP mM_0 rfl inX8 0 (by decide) wf_X8_7 rfl dX8_tickOnce_63 ?_
      refine lv_bipush (v := 9) hx hb dX8_tickOnce_66 (by decide) ?_
      refine lv_bipush (v := (-5)) hx hb dX8_tickOnce_68 (by decide) ?_
      obtain ⟨g_36, hf37⟩ := m_gd_s hf35
      clear hf35
      refine m_ist C hP hS mM_1 0 rfl g_36 mMs_1 dX8_tickOnce_70 (fun X_36 e_36 H locs hP hS => ?_)
      have hf38 := m_nm_s e_36 hf37
      clear hf37
      refine lv_aload_n hx hb dX8_tickOnce_71 rfl (lv_at hl 0 rfl) ?_
      refine m_get C hP mM_0 rfl inX8 0 (by decide) wf_X8_7 rfl dX8_tickOnce_72 ?_
      refine lv_bipush (v := 13) hx hb dX8_tickOnce_75 (by decide) ?_
      refine lv_dup2_11 hx hb dX8_tickOnce_77 rfl rfl ?_
      obtain ⟨g_39, hf40⟩ := m_gd_s hf38
      clear hf38
      refine m_ild C hP mM_1 0 rfl g_39 dX8_tickOnce_78 (fun y_39 e_39 => ?_)
      have hf41 := m_nm_s e_39 hf40
      clear hf40
      refine lv_iconst (v := 1) hx hb dX8_tickOnce_79 (by decide) ?_
      refine lv_iadd hx hb dX8_tickOnce_80 ?_
      refine lv_topi (fun y_42 e_42 => ?_)
      have hf43 := m_nm_s e_42 hf41
      clear hf41
      obtain ⟨g_44, hf45⟩ := m_gd_s hf43
      clear hf43
      refine m_ist C hP hS mM_1 0 rfl g_44 mMs_1 dX8_tickOnce_81 (fun X_44 e_44 H locs hP hS => ?_)
      have hf46 := m_nm_s e_44 hf45
      clear hf45
      refine lv_aload_n hx hb dX8_tickOnce_82 rfl (lv_at hl 0 rfl) ?_
      refine m_get C hP mM_0 rfl inX8 0 (by decide) wf_X8_7 rfl dX8_tickOnce_83 ?_
      refine lv_bipush (v := 14) hx hb dX8_tickOnce_86 (by decide) ?_
      refine lv_dup2_11 hx hb dX8_tickOnce_88 rfl rfl ?_
      obtain ⟨g_47, hf48⟩ := m_gd_s hf46
      clear hf46
      refine m_ild C hP mM_1 0 rfl g_47 dX8_tickOnce_89 (fun y_47 e_47 => ?_)
      have hf49 := m_nm_s e_47 hf48
      clear hf48
      refine lv_aload_n hx hb dX8_tickOnce_90 rfl (lv_at hl 0 rfl) ?_
      refine lv_iload_n hx hb dX8_tickOnce_91 rfl (lv_at hl 2 rfl) ?_
      obtain ⟨r_50, X_50, h_50, hf51⟩ := m_bi_s hf49
      clear hf49
      refine m_callVi (q := (RX8, TX8, 13)) C [.int v2] [.int y_47, .int 14, .ref (a 1)] (c_X8_recordsOf l D a cy hG N _ _ h_50) (m_goodV wl_X8_62 wi_X8_recordsOf ws_X8_recordsOf wn_X8 wc_X8_recordsOf) ⟨rfl, rfl⟩ hv_X8_recordsOf ⟨Nat.le_of_ble_eq_true rfl, Nat.le_of_ble_eq_true rfl⟩ rfl mM_0 hP hS rfl hl.1 rfl (Nat.le_of_ble_eq_true rfl) dX8_tickOnce_92 (fun H locs hP hS => ?_)
      refine lv_iadd hx hb dX8_tickOnce_95 ?_
      refine lv_topi (fun y_52 e_52 => ?_)
      have hf53 := m_nm_s e_52 hf51
      clear hf51
      obtain ⟨g_54, hf55⟩ := m_gd_s hf53
      clear hf53
      refine m_ist C hP hS mM_1 0 rfl g_54 mMs_1 dX8_tickOnce_96 (fun X_54 e_54 H locs hP hS => ?_)
      have hf56 := m_nm_s e_54 hf55
      clear hf55
      refine lv_aload_n hx hb dX8_tickOnce_97 rfl (lv_at hl 0 rfl) ?_
      refine lv_iload_n hx hb dX8_tickOnce_98 rfl (lv_at hl 2 rfl) ?_
      obtain ⟨r_57, X_57, h_57, hf58⟩ := m_bi_s hf56
      clear hf56
      refine m_callVi (q := (RX8, TX8, 13)) C [.int v2] [] (c_X8_answerAll l D a cy hG N _ _ h_57) (m_goodV wl_X8_74 wi_X8_answerAll ws_X8_answerAll wn_X8 wc_X8_answerAll) ⟨rfl, rfl⟩ hv_X8_answerAll ⟨Nat.le_of_ble_eq_true rfl, Nat.le_of_ble_eq_true rfl⟩ rfl mM_0 hP hS rfl hl.1 rfl (Nat.le_of_ble_eq_true rfl) dX8_tickOnce_99 (fun H locs hP hS => ?_)
      refine lv_istore_n (lv' := [(1, .int r_57), (0, .ref (a 0)), (2, .int v2)]) hx hb dX8_tickOnce_102 rfl hl (by decide) rfl (fun ls hl => ?_)
      exact w_X8_tickOnce_103 l D a cy hG N C _ _ hf58 H locs ls hP hS (lv_sub hl [1, 0] rfl)
def f_X8_tickOnce (N : Nat) (X : XT) : Option (Int32 × XT) := m_gd (m_in 0 1816) <| m_nm (X 1 (Int32.toNatClampNeg 0)) fun y_1 => m_nm (y_1 + 1) fun y_4 => m_gd (m_in 0 1816) <| m_nm (m_up X 1 (upd (X 1) (Int32.toNatClampNeg 0) y_4)) fun X_6 => m_gd (m_in 9 1816) <| m_nm (X_6 1 (Int32.toNatClampNeg 9)) fun y_9 => if y_9 = (-5) then (f_X8_tickOnce_40 N 0 y_9 X_6) else (m_bi (f_X8_ofGroup N y_9 3 X_6) fun r_59 X_59 => m_nm (r_59 - 1) fun y_61 => m_bv (f_X8_setGroup N y_9 3 y_61 X_59) fun X_63 => f_X8_tickOnce_40 N 0 y_9 X_63)
set_option maxHeartbeats 4000000 in
set_option maxRecDepth 100000 in
theorem c_X8_tickOnce (l : Launch) (D : va_G) (a : Nat → Nat) (cy : Nat → ClassId) (hG : m_inj 6 a) (N : Nat) (X : XT) {r0 : Int32} {X0 : XT} (hf0 : f_X8_tickOnce N X = some (r0, X0)) : Met l yX8_tickOnce (Cond.code yX8_tickOnce cX8_tickOnce 3 (some .int) :: m_tbl) rm_X8_tickOnce (va_Pc [.ref (a 0)] (m_PX D (m_tc cy) (m_WM a cy) m_ZM X)) (m_QI D (m_WM a cy) (m_AM a) r0 X0) 0 0 (m_AM a) := by
  refine m_met (own := RX8) hy_X8_tickOnce rfl (Nat.le_of_ble_eq_true rfl) (m_wl_D hG _) m_ZM_keep ?_
  intro p e s m args below meth c C ls hl hP hS
  have hx := C.1.1
  have hb := C.1.2.1
  have hl : lv_has ls 3 [(0, .ref (a 0))] := hl
  unfold f_X8_tickOnce at hf0
  suffices K : ∀ (H : Heap) (locs : List Loc), va_P D vwCl (m_WM a cy X) H → va_S (m_AM a) s.heap H locs → W p l e rm_X8_tickOnce s m args below meth c H locs 0 0 (MQ below (m_QI D (m_WM a cy) (m_AM a) r0 X0) args s 0 0 (m_AM a)) (F0 m 0 ls []) from K _ _ hP hS
  clear hP hS
  intro H locs hP hS
  refine lv_aload_n hx hb dX8_tickOnce_0 rfl (lv_at hl 0 rfl) ?_
  refine m_get C hP mM_0 rfl inX8 0 (by decide) wf_X8_7 rfl dX8_tickOnce_1 ?_
  refine lv_iconst (v := 0) hx hb dX8_tickOnce_4 (by decide) ?_
  refine lv_dup2_11 hx hb dX8_tickOnce_5 rfl rfl ?_
  obtain ⟨g_1, hf2⟩ := m_gd_s hf0
  clear hf0
  refine m_ild C hP mM_1 0 rfl g_1 dX8_tickOnce_6 (fun y_1 e_1 => ?_)
  have hf3 := m_nm_s e_1 hf2
  clear hf2
  refine lv_iconst (v := 1) hx hb dX8_tickOnce_7 (by decide) ?_
  refine lv_iadd hx hb dX8_tickOnce_8 ?_
  refine lv_topi (fun y_4 e_4 => ?_)
  have hf5 := m_nm_s e_4 hf3
  clear hf3
  obtain ⟨g_6, hf7⟩ := m_gd_s hf5
  clear hf5
  refine m_ist C hP hS mM_1 0 rfl g_6 mMs_1 dX8_tickOnce_9 (fun X_6 e_6 H locs hP hS => ?_)
  have hf8 := m_nm_s e_6 hf7
  clear hf7
  refine lv_iconst (v := 0) hx hb dX8_tickOnce_10 (by decide) ?_
  refine lv_istore_n (lv' := [(1, .int 0), (0, .ref (a 0))]) hx hb dX8_tickOnce_11 rfl hl (by decide) rfl (fun ls hl => ?_)
  refine lv_aload_n hx hb dX8_tickOnce_12 rfl (lv_at hl 1 rfl) ?_
  refine m_get C hP mM_0 rfl inX8 0 (by decide) wf_X8_7 rfl dX8_tickOnce_13 ?_
  refine lv_bipush (v := 9) hx hb dX8_tickOnce_16 (by decide) ?_
  obtain ⟨g_9, hf10⟩ := m_gd_s hf8
  clear hf8
  refine m_ild C hP mM_1 0 rfl g_9 dX8_tickOnce_18 (fun y_9 e_9 => ?_)
  have hf11 := m_nm_s e_9 hf10
  clear hf10
  refine lv_istore_n (lv' := [(2, .int y_9), (1, .int 0), (0, .ref (a 0))]) hx hb dX8_tickOnce_19 rfl hl (by decide) rfl (fun ls hl => ?_)
  refine lv_iload_n hx hb dX8_tickOnce_20 rfl (lv_at hl 0 rfl) ?_
  refine lv_bipush (v := (-5)) hx hb dX8_tickOnce_21 (by decide) ?_
  refine lv_icmp_eq (tgt := 40) hx hb dX8_tickOnce_23 (by decide) (fun c_12 => ?_) (fun c_12 => ?_)
  · have hf13 := m_it c_12 hf11
    clear hf11
    exact w_X8_tickOnce_40 l D a cy hG N C _ _ _ hf13 H locs ls hP hS (lv_sub hl [2, 1, 0] rfl)
  · have hf14 := m_ie c_12 hf11
    clear hf11
    refine lv_aload_n hx hb dX8_tickOnce_26 rfl (lv_at hl 2 rfl) ?_
    refine lv_iload_n hx hb dX8_tickOnce_27 rfl (lv_at hl 0 rfl) ?_
    refine lv_iconst (v := 3) hx hb dX8_tickOnce_28 (by decide) ?_
    refine lv_aload_n hx hb dX8_tickOnce_29 rfl (lv_at hl 2 rfl) ?_
    refine lv_iload_n hx hb dX8_tickOnce_30 rfl (lv_at hl 0 rfl) ?_
    refine lv_iconst (v := 3) hx hb dX8_tickOnce_31 (by decide) ?_
    obtain ⟨r_59, X_59, h_59, hf60⟩ := m_bi_s hf14
    clear hf14
    refine m_callVi (q := (RX8, TX8, 13)) C [.int y_9, .int 3] [.int 3, .int y_9, .ref (a 0)] (c_X8_ofGroup l D a cy hG N _ _ _ h_59) (m_goodV wl_X8_52 wi_X8_ofGroup ws_X8_ofGroup wn_X8 wc_X8_ofGroup) ⟨rfl, rfl⟩ hv_X8_ofGroup ⟨Nat.le_of_ble_eq_true rfl, Nat.le_of_ble_eq_true rfl⟩ rfl mM_0 hP hS rfl hl.1 rfl (Nat.le_of_ble_eq_true rfl) dX8_tickOnce_32 (fun H locs hP hS => ?_)
    refine lv_iconst (v := 1) hx hb dX8_tickOnce_35 (by decide) ?_
    refine lv_isub hx hb dX8_tickOnce_36 ?_
    refine lv_topi (fun y_61 e_61 => ?_)
    have hf62 := m_nm_s e_61 hf60
    clear hf60
    obtain ⟨X_63, h_63, hf64⟩ := m_bv_s hf62
    clear hf62
    refine m_callVv (q := (RX8, TX8, 13)) C [.int y_9, .int 3, .int y_61] [] (c_X8_setGroup l D a cy hG N _ _ _ _ h_63) (m_goodV wl_X8_59 wi_X8_setGroup ws_X8_setGroup wn_X8 wc_X8_setGroup) ⟨rfl, rfl⟩ hv_X8_setGroup ⟨Nat.le_of_ble_eq_true rfl, Nat.le_of_ble_eq_true rfl⟩ rfl mM_0 hP hS rfl hl.1 rfl (Nat.le_of_ble_eq_true rfl) dX8_tickOnce_37 (fun H locs hP hS => ?_)
    exact w_X8_tickOnce_40 l D a cy hG N C _ _ _ hf64 H locs ls hP hS (lv_sub hl [2, 1, 0] rfl)
abbrev rm_X8_ticks : Room := { frames := 6, cells := 0, slots := 0, locals := 135 }
def f_X8_ticks_4 (N : Nat) : Nat → Int32 → Int32 → Int32 → XT → Option (Int32 × XT)
  | 0, _, _, _, _ => none
  | n + 1, v1, v2, v3, X => if v1 ≤ v3 then (some (v2, X)) else (m_bi (f_X8_tickOnce N X) fun r_4 X_4 => m_nm (v2 + r_4) fun y_6 => m_nm (v3 + 1) fun y_8 => f_X8_ticks_4 N n v1 y_6 y_8 X_4)
set_option maxHeartbeats 4000000 in
set_option maxRecDepth 100000 in
theorem w_X8_ticks_4 (l : Launch) (D : va_G) (a : Nat → Nat) (cy : Nat → ClassId) (hG : m_inj 6 a) (N : Nat) {p : Program} {e : Env} {s : State} {m : MethodId} {args : Array Value} {below : List Frame} {meth : Method} {c : Code} (C : m_Cx p s m args meth c cX8_ticks 4 RX8 (some .int) (Cond.code yX8_ticks cX8_ticks 4 (some .int)) D (m_tc cy) (m_AM a) (m_WM a cy) m_ZM) {r0 : Int32} {X0 : XT} : ∀ (n : Nat) (v1 : Int32) (v2 : Int32) (v3 : Int32) (X : XT), f_X8_ticks_4 N n v1 v2 v3 X = some (r0, X0) → ∀ (H : Heap) (locs : List Loc) (ls : Array Slot), va_P D vwCl (m_WM a cy X) H → va_S (m_AM a) s.heap H locs → lv_has ls 4 [(0, .ref (a 0)), (1, .int v1), (2, .int v2), (3, .int v3)] → W p l e rm_X8_ticks s m args below meth c H locs 0 0 (MQ below (m_QI D (m_WM a cy) (m_AM a) r0 X0) args s 0 0 (m_AM a)) (F0 m 4 ls []) := by
  have hx := C.1.1
  have hb := C.1.2.1
  intro n
  induction n with
  | zero => intro v1 v2 v3 X hf0; rw [f_X8_ticks_4] at hf0; cases hf0
  | succ n ih =>
    intro v1 v2 v3 X hf0 H locs ls hP hS hl
    rw [f_X8_ticks_4] at hf0
    refine lv_iload_n hx hb dX8_ticks_4 rfl (lv_at hl 3 rfl) ?_
    refine lv_iload_n hx hb dX8_ticks_5 rfl (lv_at hl 1 rfl) ?_
    refine lv_icmp_ge (tgt := 22) hx hb dX8_ticks_6 (by decide) (fun c_1 => ?_) (fun c_1 => ?_)
    · have hf2 := m_it c_1 hf0
      clear hf0
      refine lv_iload_n hx hb dX8_ticks_22 rfl (lv_at hl 2 rfl) ?_
      exact m_iret C hP hS dX8_ticks_23 hf2
    · have hf3 := m_ie c_1 hf0
      clear hf0
      refine lv_iload_n hx hb dX8_ticks_9 rfl (lv_at hl 2 rfl) ?_
      refine lv_aload_n hx hb dX8_ticks_10 rfl (lv_at hl 0 rfl) ?_
      obtain ⟨r_4, X_4, h_4, hf5⟩ := m_bi_s hf3
      clear hf3
      refine m_callVi (q := (RX8, TX8, 13)) C [] [.int v2] (c_X8_tickOnce l D a cy hG N _ h_4) (m_goodV wl_X8_85 wi_X8_tickOnce ws_X8_tickOnce wn_X8 wc_X8_tickOnce) ⟨rfl, rfl⟩ hv_X8_tickOnce ⟨Nat.le_of_ble_eq_true rfl, Nat.le_of_ble_eq_true rfl⟩ rfl mM_0 hP hS rfl hl.1 rfl (Nat.le_of_ble_eq_true rfl) dX8_ticks_11 (fun H locs hP hS => ?_)
      refine lv_iadd hx hb dX8_ticks_14 ?_
      refine lv_topi (fun y_6 e_6 => ?_)
      have hf7 := m_nm_s e_6 hf5
      clear hf5
      refine lv_istore_n (lv' := [(2, .int y_6), (0, .ref (a 0)), (1, .int v1), (3, .int v3)]) hx hb dX8_ticks_15 rfl hl (by decide) rfl (fun ls hl => ?_)
      obtain ⟨y_8, e_8⟩ : ∃ y : Int32, y = v3 + 1 := ⟨_, rfl⟩
      refine lv_iinc (v := y_8) (lv' := [(3, .int y_8), (2, .int y_6), (0, .ref (a 0)), (1, .int v1)]) hx hb dX8_ticks_16 hl (k := 3) rfl (by rw [e_8]; rfl) (by decide) rfl (fun ls hl => ?_)
      have hf9 := m_nm_s e_8 hf7
      clear hf7
      refine lv_goto (tgt := 4) hx hb dX8_ticks_19 (by decide) ?_
      exact ih _ _ _ _ hf9 H locs ls hP hS (lv_sub hl [2, 3, 1, 0] rfl)
def f_X8_ticks (N : Nat) (v1 : Int32) (X : XT) : Option (Int32 × XT) := f_X8_ticks_4 N N v1 0 0 X
set_option maxHeartbeats 4000000 in
set_option maxRecDepth 100000 in
theorem c_X8_ticks (l : Launch) (D : va_G) (a : Nat → Nat) (cy : Nat → ClassId) (hG : m_inj 6 a) (N : Nat) (v1 : Int32) (X : XT) {r0 : Int32} {X0 : XT} (hf0 : f_X8_ticks N v1 X = some (r0, X0)) : Met l yX8_ticks (Cond.code yX8_ticks cX8_ticks 4 (some .int) :: m_tbl) rm_X8_ticks (va_Pc [.ref (a 0), .int v1] (m_PX D (m_tc cy) (m_WM a cy) m_ZM X)) (m_QI D (m_WM a cy) (m_AM a) r0 X0) 0 0 (m_AM a) := by
  refine m_met (own := RX8) hy_X8_ticks rfl (Nat.le_of_ble_eq_true rfl) (m_wl_D hG _) m_ZM_keep ?_
  intro p e s m args below meth c C ls hl hP hS
  have hx := C.1.1
  have hb := C.1.2.1
  have hl : lv_has ls 4 [(0, .ref (a 0)), (1, .int v1)] := hl
  unfold f_X8_ticks at hf0
  suffices K : ∀ (H : Heap) (locs : List Loc), va_P D vwCl (m_WM a cy X) H → va_S (m_AM a) s.heap H locs → W p l e rm_X8_ticks s m args below meth c H locs 0 0 (MQ below (m_QI D (m_WM a cy) (m_AM a) r0 X0) args s 0 0 (m_AM a)) (F0 m 0 ls []) from K _ _ hP hS
  clear hP hS
  intro H locs hP hS
  refine lv_iconst (v := 0) hx hb dX8_ticks_0 (by decide) ?_
  refine lv_istore_n (lv' := [(2, .int 0), (0, .ref (a 0)), (1, .int v1)]) hx hb dX8_ticks_1 rfl hl (by decide) rfl (fun ls hl => ?_)
  refine lv_iconst (v := 0) hx hb dX8_ticks_2 (by decide) ?_
  refine lv_istore_n (lv' := [(3, .int 0), (2, .int 0), (0, .ref (a 0)), (1, .int v1)]) hx hb dX8_ticks_3 rfl hl (by decide) rfl (fun ls hl => ?_)
  exact w_X8_ticks_4 l D a cy hG N C _ _ _ _ _ hf0 H locs ls hP hS (lv_sub hl [2, 3, 1, 0] rfl)
abbrev rm_X8_openOf : Room := { frames := 1, cells := 0, slots := 0, locals := 22 }
def f_X8_openOf_2 (N : Nat) : Nat → Int32 → Int32 → XT → Option (Int32 × XT)
  | 0, _, _, _ => none
  | n + 1, v1, v2, X => m_gd (m_in 6 1816) <| m_nm (X 1 (Int32.toNatClampNeg 6)) fun y_1 => if y_1 ≤ v2 then (some ((-5), X)) else (m_bi (f_X8_of N v2 0 X) fun r_7 X_7 => if r_7 = v1 then (m_bi (f_X8_of N v2 3 X_7) fun r_14 X_14 => if 4 ≤ r_14 then (m_nm (v2 + 1) fun y_19 => f_X8_openOf_2 N n v1 y_19 X_14) else (some (v2, X_14))) else (m_nm (v2 + 1) fun y_12 => f_X8_openOf_2 N n v1 y_12 X_7))
set_option maxHeartbeats 4000000 in
set_option maxRecDepth 100000 in
theorem w_X8_openOf_2 (l : Launch) (D : va_G) (a : Nat → Nat) (cy : Nat → ClassId) (hG : m_inj 6 a) (N : Nat) {p : Program} {e : Env} {s : State} {m : MethodId} {args : Array Value} {below : List Frame} {meth : Method} {c : Code} (C : m_Cx p s m args meth c cX8_openOf 3 RX8 (some .int) (Cond.code yX8_openOf cX8_openOf 3 (some .int)) D (m_tc cy) (m_AM a) (m_WM a cy) m_ZM) {r0 : Int32} {X0 : XT} : ∀ (n : Nat) (v1 : Int32) (v2 : Int32) (X : XT), f_X8_openOf_2 N n v1 v2 X = some (r0, X0) → ∀ (H : Heap) (locs : List Loc) (ls : Array Slot), va_P D vwCl (m_WM a cy X) H → va_S (m_AM a) s.heap H locs → lv_has ls 3 [(0, .ref (a 0)), (1, .int v1), (2, .int v2)] → W p l e rm_X8_openOf s m args below meth c H locs 0 0 (MQ below (m_QI D (m_WM a cy) (m_AM a) r0 X0) args s 0 0 (m_AM a)) (F0 m 2 ls []) := by
  have hx := C.1.1
  have hb := C.1.2.1
  intro n
  induction n with
  | zero => intro v1 v2 X hf0; rw [f_X8_openOf_2] at hf0; cases hf0
  | succ n ih =>
    intro v1 v2 X hf0 H locs ls hP hS hl
    rw [f_X8_openOf_2] at hf0
    refine lv_iload_n hx hb dX8_openOf_2 rfl (lv_at hl 2 rfl) ?_
    refine lv_aload_n hx hb dX8_openOf_3 rfl (lv_at hl 0 rfl) ?_
    refine m_get C hP mM_0 rfl inX8 0 (by decide) wf_X8_7 rfl dX8_openOf_4 ?_
    refine lv_bipush (v := 6) hx hb dX8_openOf_7 (by decide) ?_
    obtain ⟨g_1, hf2⟩ := m_gd_s hf0
    clear hf0
    refine m_ild C hP mM_1 0 rfl g_1 dX8_openOf_9 (fun y_1 e_1 => ?_)
    have hf3 := m_nm_s e_1 hf2
    clear hf2
    refine lv_icmp_ge (tgt := 41) hx hb dX8_openOf_10 (by decide) (fun c_4 => ?_) (fun c_4 => ?_)
    · have hf5 := m_it c_4 hf3
      clear hf3
      refine lv_bipush (v := (-5)) hx hb dX8_openOf_41 (by decide) ?_
      exact m_iret C hP hS dX8_openOf_43 hf5
    · have hf6 := m_ie c_4 hf3
      clear hf3
      refine lv_aload_n hx hb dX8_openOf_13 rfl (lv_at hl 0 rfl) ?_
      refine lv_iload_n hx hb dX8_openOf_14 rfl (lv_at hl 2 rfl) ?_
      refine lv_iconst (v := 0) hx hb dX8_openOf_15 (by decide) ?_
      obtain ⟨r_7, X_7, h_7, hf8⟩ := m_bi_s hf6
      clear hf6
      refine m_callVi (q := (RX8, TX8, 13)) C [.int v2, .int 0] [] (c_X8_of l D a cy hG N _ _ _ h_7) (m_goodV wl_X8_40 wi_X8_of ws_X8_of wn_X8 wc_X8_of) ⟨rfl, rfl⟩ hv_X8_of ⟨Nat.le_of_ble_eq_true rfl, Nat.le_of_ble_eq_true rfl⟩ rfl mM_0 hP hS rfl hl.1 rfl (Nat.le_of_ble_eq_true rfl) dX8_openOf_16 (fun H locs hP hS => ?_)
      refine lv_iload_n hx hb dX8_openOf_19 rfl (lv_at hl 1 rfl) ?_
      refine lv_icmp_ne (tgt := 35) hx hb dX8_openOf_20 (by decide) (fun c_9 => ?_) (fun c_9 => ?_)
      · have hf10 := m_ie c_9 hf8
        clear hf8
        obtain ⟨y_12, e_12⟩ : ∃ y : Int32, y = v2 + 1 := ⟨_, rfl⟩
        refine lv_iinc (v := y_12) (lv' := [(2, .int y_12), (0, .ref (a 0)), (1, .int v1)]) hx hb dX8_openOf_35 hl (k := 2) rfl (by rw [e_12]; rfl) (by decide) rfl (fun ls hl => ?_)
        have hf13 := m_nm_s e_12 hf10
        clear hf10
        refine lv_goto (tgt := 2) hx hb dX8_openOf_38 (by decide) ?_
        exact ih _ _ _ hf13 H locs ls hP hS (lv_sub hl [1, 2, 0] rfl)
      · have hf11 := m_it c_9 hf8
        clear hf8
        refine lv_aload_n hx hb dX8_openOf_23 rfl (lv_at hl 0 rfl) ?_
        refine lv_iload_n hx hb dX8_openOf_24 rfl (lv_at hl 2 rfl) ?_
        refine lv_iconst (v := 3) hx hb dX8_openOf_25 (by decide) ?_
        obtain ⟨r_14, X_14, h_14, hf15⟩ := m_bi_s hf11
        clear hf11
        refine m_callVi (q := (RX8, TX8, 13)) C [.int v2, .int 3] [] (c_X8_of l D a cy hG N _ _ _ h_14) (m_goodV wl_X8_40 wi_X8_of ws_X8_of wn_X8 wc_X8_of) ⟨rfl, rfl⟩ hv_X8_of ⟨Nat.le_of_ble_eq_true rfl, Nat.le_of_ble_eq_true rfl⟩ rfl mM_0 hP hS rfl hl.1 rfl (Nat.le_of_ble_eq_true rfl) dX8_openOf_26 (fun H locs hP hS => ?_)
        refine lv_iconst (v := 4) hx hb dX8_openOf_29 (by decide) ?_
        refine lv_icmp_ge (tgt := 35) hx hb dX8_openOf_30 (by decide) (fun c_16 => ?_) (fun c_16 => ?_)
        · have hf17 := m_it c_16 hf15
          clear hf15
          obtain ⟨y_19, e_19⟩ : ∃ y : Int32, y = v2 + 1 := ⟨_, rfl⟩
          refine lv_iinc (v := y_19) (lv' := [(2, .int y_19), (0, .ref (a 0)), (1, .int v1)]) hx hb dX8_openOf_35 hl (k := 2) rfl (by rw [e_19]; rfl) (by decide) rfl (fun ls hl => ?_)
          have hf20 := m_nm_s e_19 hf17
          clear hf17
          refine lv_goto (tgt := 2) hx hb dX8_openOf_38 (by decide) ?_
          exact ih _ _ _ hf20 H locs ls hP hS (lv_sub hl [1, 2, 0] rfl)
        · have hf18 := m_ie c_16 hf15
          clear hf15
          refine lv_iload_n hx hb dX8_openOf_33 rfl (lv_at hl 2 rfl) ?_
          exact m_iret C hP hS dX8_openOf_34 hf18
def f_X8_openOf (N : Nat) (v1 : Int32) (X : XT) : Option (Int32 × XT) := f_X8_openOf_2 N N v1 0 X
set_option maxHeartbeats 4000000 in
set_option maxRecDepth 100000 in
theorem c_X8_openOf (l : Launch) (D : va_G) (a : Nat → Nat) (cy : Nat → ClassId) (hG : m_inj 6 a) (N : Nat) (v1 : Int32) (X : XT) {r0 : Int32} {X0 : XT} (hf0 : f_X8_openOf N v1 X = some (r0, X0)) : Met l yX8_openOf (Cond.code yX8_openOf cX8_openOf 3 (some .int) :: m_tbl) rm_X8_openOf (va_Pc [.ref (a 0), .int v1] (m_PX D (m_tc cy) (m_WM a cy) m_ZM X)) (m_QI D (m_WM a cy) (m_AM a) r0 X0) 0 0 (m_AM a) := by
  refine m_met (own := RX8) hy_X8_openOf rfl (Nat.le_of_ble_eq_true rfl) (m_wl_D hG _) m_ZM_keep ?_
  intro p e s m args below meth c C ls hl hP hS
  have hx := C.1.1
  have hb := C.1.2.1
  have hl : lv_has ls 3 [(0, .ref (a 0)), (1, .int v1)] := hl
  unfold f_X8_openOf at hf0
  suffices K : ∀ (H : Heap) (locs : List Loc), va_P D vwCl (m_WM a cy X) H → va_S (m_AM a) s.heap H locs → W p l e rm_X8_openOf s m args below meth c H locs 0 0 (MQ below (m_QI D (m_WM a cy) (m_AM a) r0 X0) args s 0 0 (m_AM a)) (F0 m 0 ls []) from K _ _ hP hS
  clear hP hS
  intro H locs hP hS
  refine lv_iconst (v := 0) hx hb dX8_openOf_0 (by decide) ?_
  refine lv_istore_n (lv' := [(2, .int 0), (0, .ref (a 0)), (1, .int v1)]) hx hb dX8_openOf_1 rfl hl (by decide) rfl (fun ls hl => ?_)
  exact w_X8_openOf_2 l D a cy hG N C _ _ _ _ hf0 H locs ls hP hS (lv_sub hl [1, 2, 0] rfl)
abbrev rm_X8_takeOut : Room := { frames := 3, cells := 0, slots := 0, locals := 68 }
def f_X8_takeOut_23 (N : Nat) (v1 : Int32) (v2 : Int32) (v3 : Int32) (u0 : Int32) (X : XT) : Option XT := m_bv (f_X8_setOf N v1 3 v2 X) fun X_9 => m_bv (f_X8_setOf N v1 7 0 X_9) fun X_11 => m_bi (f_X8_members N v3 X_11) fun r_13 X_13 => if r_13 = 0 then (m_bv (f_X8_setGroup N v3 0 5 X_13) fun X_31 => m_gd (m_in 8 1816) <| m_nm (m_up X_31 1 (upd (X_31 1) (Int32.toNatClampNeg 8) (-5))) fun X_33 => some X_33) else (if u0 = 0 then (some X_13) else (m_gd (m_in 0 1816) <| m_nm (X_13 1 (Int32.toNatClampNeg 0)) fun y_21 => m_gd (m_in 1 1816) <| m_nm (X_13 1 (Int32.toNatClampNeg 1)) fun y_24 => m_nm (y_21 + y_24) fun y_27 => m_bv (f_X8_setGroup N v3 1 y_27 X_13) fun X_29 => some X_29))
set_option maxHeartbeats 4000000 in
set_option maxRecDepth 100000 in
theorem w_X8_takeOut_23 (l : Launch) (D : va_G) (a : Nat → Nat) (cy : Nat → ClassId) (hG : m_inj 6 a) (N : Nat) {p : Program} {e : Env} {s : State} {m : MethodId} {args : Array Value} {below : List Frame} {meth : Method} {c : Code} (C : m_Cx p s m args meth c cX8_takeOut 5 RX8 none (Cond.code yX8_takeOut cX8_takeOut 5 none) D (m_tc cy) (m_AM a) (m_WM a cy) m_ZM) {X0 : XT} (v1 : Int32) (v2 : Int32) (v3 : Int32) (u0 : Int32) (X : XT) (hf0 : f_X8_takeOut_23 N v1 v2 v3 u0 X = some X0) : ∀ (H : Heap) (locs : List Loc) (ls : Array Slot), va_P D vwCl (m_WM a cy X) H → va_S (m_AM a) s.heap H locs → lv_has ls 5 [(0, .ref (a 0)), (1, .int v1), (2, .int v2), (3, .int v3)] → W p l e rm_X8_takeOut s m args below meth c H locs 0 0 (MQ below (m_QV D (m_WM a cy) (m_AM a) X0) args s 0 0 (m_AM a)) (F0 m 23 ls [.int u0]) := by
  have hx := C.1.1
  have hb := C.1.2.1
  intro H locs ls hP hS hl
  unfold f_X8_takeOut_23 at hf0
  refine lv_istore (lv' := [(4, .int u0), (0, .ref (a 0)), (1, .int v1), (2, .int v2), (3, .int v3)]) hx hb dX8_takeOut_23 hl (by decide) rfl (fun ls hl => ?_)
  refine lv_aload_n hx hb dX8_takeOut_25 rfl (lv_at hl 1 rfl) ?_
  refine lv_iload_n hx hb dX8_takeOut_26 rfl (lv_at hl 2 rfl) ?_
  refine lv_iconst (v := 3) hx hb dX8_takeOut_27 (by decide) ?_
  refine lv_iload_n hx hb dX8_takeOut_28 rfl (lv_at hl 3 rfl) ?_
  obtain ⟨X_9, h_9, hf10⟩ := m_bv_s hf0
  clear hf0
  refine m_callVv (q := (RX8, TX8, 13)) C [.int v1, .int 3, .int v2] [] (c_X8_setOf l D a cy hG N _ _ _ _ h_9) (m_goodV wl_X8_48 wi_X8_setOf ws_X8_setOf wn_X8 wc_X8_setOf) ⟨rfl, rfl⟩ hv_X8_setOf ⟨Nat.le_of_ble_eq_true rfl, Nat.le_of_ble_eq_true rfl⟩ rfl mM_0 hP hS rfl hl.1 rfl (Nat.le_of_ble_eq_true rfl) dX8_takeOut_29 (fun H locs hP hS => ?_)
  refine lv_aload_n hx hb dX8_takeOut_32 rfl (lv_at hl 1 rfl) ?_
  refine lv_iload_n hx hb dX8_takeOut_33 rfl (lv_at hl 2 rfl) ?_
  refine lv_bipush (v := 7) hx hb dX8_takeOut_34 (by decide) ?_
  refine lv_iconst (v := 0) hx hb dX8_takeOut_36 (by decide) ?_
  obtain ⟨X_11, h_11, hf12⟩ := m_bv_s hf10
  clear hf10
  refine m_callVv (q := (RX8, TX8, 13)) C [.int v1, .int 7, .int 0] [] (c_X8_setOf l D a cy hG N _ _ _ _ h_11) (m_goodV wl_X8_48 wi_X8_setOf ws_X8_setOf wn_X8 wc_X8_setOf) ⟨rfl, rfl⟩ hv_X8_setOf ⟨Nat.le_of_ble_eq_true rfl, Nat.le_of_ble_eq_true rfl⟩ rfl mM_0 hP hS rfl hl.1 rfl (Nat.le_of_ble_eq_true rfl) dX8_takeOut_37 (fun H locs hP hS => ?_)
  refine lv_aload_n hx hb dX8_takeOut_40 rfl (lv_at hl 1 rfl) ?_
  refine lv_iload_n hx hb dX8_takeOut_41 rfl (lv_at hl 4 rfl) ?_
  obtain ⟨r_13, X_13, h_13, hf14⟩ := m_bi_s hf12
  clear hf12
  refine m_callVi (q := (RX8, TX8, 13)) C [.int v3] [] (c_X8_members l D a cy hG N _ _ h_13) (m_goodV wl_X8_68 wi_X8_members ws_X8_members wn_X8 wc_X8_members) ⟨rfl, rfl⟩ hv_X8_members ⟨Nat.le_of_ble_eq_true rfl, Nat.le_of_ble_eq_true rfl⟩ rfl mM_0 hP hS rfl hl.1 rfl (Nat.le_of_ble_eq_true rfl) dX8_takeOut_42 (fun H locs hP hS => ?_)
  refine lv_if_ne (tgt := 67) hx hb dX8_takeOut_45 (by decide) (fun c_15 => ?_) (fun c_15 => ?_)
  · have hf16 := m_ie c_15 hf14
    clear hf14
    refine lv_iload hx hb dX8_takeOut_67 (lv_at hl 0 rfl) ?_
    refine lv_if_eq (tgt := 91) hx hb dX8_takeOut_69 (by decide) (fun c_18 => ?_) (fun c_18 => ?_)
    · have hf19 := m_it c_18 hf16
      clear hf16
      exact m_vret C hP hS dX8_takeOut_91 hf19
    · have hf20 := m_ie c_18 hf16
      clear hf16
      refine lv_aload_n hx hb dX8_takeOut_72 rfl (lv_at hl 1 rfl) ?_
      refine lv_iload_n hx hb dX8_takeOut_73 rfl (lv_at hl 4 rfl) ?_
      refine lv_iconst (v := 1) hx hb dX8_takeOut_74 (by decide) ?_
      refine lv_aload_n hx hb dX8_takeOut_75 rfl (lv_at hl 1 rfl) ?_
      refine m_get C hP mM_0 rfl inX8 0 (by decide) wf_X8_7 rfl dX8_takeOut_76 ?_
      refine lv_iconst (v := 0) hx hb dX8_takeOut_79 (by decide) ?_
      obtain ⟨g_21, hf22⟩ := m_gd_s hf20
      clear hf20
      refine m_ild C hP mM_1 0 rfl g_21 dX8_takeOut_80 (fun y_21 e_21 => ?_)
      have hf23 := m_nm_s e_21 hf22
      clear hf22
      refine lv_aload_n hx hb dX8_takeOut_81 rfl (lv_at hl 1 rfl) ?_
      refine m_get C hP mM_0 rfl inX8 0 (by decide) wf_X8_7 rfl dX8_takeOut_82 ?_
      refine lv_iconst (v := 1) hx hb dX8_takeOut_85 (by decide) ?_
      obtain ⟨g_24, hf25⟩ := m_gd_s hf23
      clear hf23
      refine m_ild C hP mM_1 0 rfl g_24 dX8_takeOut_86 (fun y_24 e_24 => ?_)
      have hf26 := m_nm_s e_24 hf25
      clear hf25
      refine lv_iadd hx hb dX8_takeOut_87 ?_
      refine lv_topi (fun y_27 e_27 => ?_)
      have hf28 := m_nm_s e_27 hf26
      clear hf26
      obtain ⟨X_29, h_29, hf30⟩ := m_bv_s hf28
      clear hf28
      refine m_callVv (q := (RX8, TX8, 13)) C [.int v3, .int 1, .int y_27] [] (c_X8_setGroup l D a cy hG N _ _ _ _ h_29) (m_goodV wl_X8_59 wi_X8_setGroup ws_X8_setGroup wn_X8 wc_X8_setGroup) ⟨rfl, rfl⟩ hv_X8_setGroup ⟨Nat.le_of_ble_eq_true rfl, Nat.le_of_ble_eq_true rfl⟩ rfl mM_0 hP hS rfl hl.1 rfl (Nat.le_of_ble_eq_true rfl) dX8_takeOut_88 (fun H locs hP hS => ?_)
      exact m_vret C hP hS dX8_takeOut_91 hf30
  · have hf17 := m_it c_15 hf14
    clear hf14
    refine lv_aload_n hx hb dX8_takeOut_48 rfl (lv_at hl 1 rfl) ?_
    refine lv_iload_n hx hb dX8_takeOut_49 rfl (lv_at hl 4 rfl) ?_
    refine lv_iconst (v := 0) hx hb dX8_takeOut_50 (by decide) ?_
    refine lv_iconst (v := 5) hx hb dX8_takeOut_51 (by decide) ?_
    obtain ⟨X_31, h_31, hf32⟩ := m_bv_s hf17
    clear hf17
    refine m_callVv (q := (RX8, TX8, 13)) C [.int v3, .int 0, .int 5] [] (c_X8_setGroup l D a cy hG N _ _ _ _ h_31) (m_goodV wl_X8_59 wi_X8_setGroup ws_X8_setGroup wn_X8 wc_X8_setGroup) ⟨rfl, rfl⟩ hv_X8_setGroup ⟨Nat.le_of_ble_eq_true rfl, Nat.le_of_ble_eq_true rfl⟩ rfl mM_0 hP hS rfl hl.1 rfl (Nat.le_of_ble_eq_true rfl) dX8_takeOut_52 (fun H locs hP hS => ?_)
    refine lv_aload_n hx hb dX8_takeOut_55 rfl (lv_at hl 1 rfl) ?_
    refine m_get C hP mM_0 rfl inX8 0 (by decide) wf_X8_7 rfl dX8_takeOut_56 ?_
    refine lv_bipush (v := 8) hx hb dX8_takeOut_59 (by decide) ?_
    refine lv_bipush (v := (-5)) hx hb dX8_takeOut_61 (by decide) ?_
    obtain ⟨g_33, hf34⟩ := m_gd_s hf32
    clear hf32
    refine m_ist C hP hS mM_1 0 rfl g_33 mMs_1 dX8_takeOut_63 (fun X_33 e_33 H locs hP hS => ?_)
    have hf35 := m_nm_s e_33 hf34
    clear hf34
    refine lv_goto (tgt := 91) hx hb dX8_takeOut_64 (by decide) ?_
    exact m_vret C hP hS dX8_takeOut_91 hf35
def f_X8_takeOut (N : Nat) (v1 : Int32) (v2 : Int32) (X : XT) : Option XT := m_gd (m_in 8 1816) <| m_nm (X 1 (Int32.toNatClampNeg 8)) fun y_1 => m_bi (f_X8_memberAt N y_1 0 X) fun r_4 X_4 => if r_4 = v1 then (f_X8_takeOut_23 N v1 v2 y_1 1 X_4) else (f_X8_takeOut_23 N v1 v2 y_1 0 X_4)
set_option maxHeartbeats 4000000 in
set_option maxRecDepth 100000 in
theorem c_X8_takeOut (l : Launch) (D : va_G) (a : Nat → Nat) (cy : Nat → ClassId) (hG : m_inj 6 a) (N : Nat) (v1 : Int32) (v2 : Int32) (X : XT) {X0 : XT} (hf0 : f_X8_takeOut N v1 v2 X = some X0) : Met l yX8_takeOut (Cond.code yX8_takeOut cX8_takeOut 5 none :: m_tbl) rm_X8_takeOut (va_Pc [.ref (a 0), .int v1, .int v2] (m_PX D (m_tc cy) (m_WM a cy) m_ZM X)) (m_QV D (m_WM a cy) (m_AM a) X0) 0 0 (m_AM a) := by
  refine m_met (own := RX8) hy_X8_takeOut rfl (Nat.le_of_ble_eq_true rfl) (m_wl_D hG _) m_ZM_keep ?_
  intro p e s m args below meth c C ls hl hP hS
  have hx := C.1.1
  have hb := C.1.2.1
  have hl : lv_has ls 5 [(0, .ref (a 0)), (1, .int v1), (2, .int v2)] := hl
  unfold f_X8_takeOut at hf0
  suffices K : ∀ (H : Heap) (locs : List Loc), va_P D vwCl (m_WM a cy X) H → va_S (m_AM a) s.heap H locs → W p l e rm_X8_takeOut s m args below meth c H locs 0 0 (MQ below (m_QV D (m_WM a cy) (m_AM a) X0) args s 0 0 (m_AM a)) (F0 m 0 ls []) from K _ _ hP hS
  clear hP hS
  intro H locs hP hS
  refine lv_aload_n hx hb dX8_takeOut_0 rfl (lv_at hl 0 rfl) ?_
  refine m_get C hP mM_0 rfl inX8 0 (by decide) wf_X8_7 rfl dX8_takeOut_1 ?_
  refine lv_bipush (v := 8) hx hb dX8_takeOut_4 (by decide) ?_
  obtain ⟨g_1, hf2⟩ := m_gd_s hf0
  clear hf0
  refine m_ild C hP mM_1 0 rfl g_1 dX8_takeOut_6 (fun y_1 e_1 => ?_)
  have hf3 := m_nm_s e_1 hf2
  clear hf2
  refine lv_istore_n (lv' := [(3, .int y_1), (0, .ref (a 0)), (1, .int v1), (2, .int v2)]) hx hb dX8_takeOut_7 rfl hl (by decide) rfl (fun ls hl => ?_)
  refine lv_aload_n hx hb dX8_takeOut_8 rfl (lv_at hl 1 rfl) ?_
  refine lv_iload_n hx hb dX8_takeOut_9 rfl (lv_at hl 0 rfl) ?_
  refine lv_iconst (v := 0) hx hb dX8_takeOut_10 (by decide) ?_
  obtain ⟨r_4, X_4, h_4, hf5⟩ := m_bi_s hf3
  clear hf3
  refine m_callVi (q := (RX8, TX8, 13)) C [.int y_1, .int 0] [] (c_X8_memberAt l D a cy hG N _ _ _ h_4) (m_goodV wl_X8_89 wi_X8_memberAt ws_X8_memberAt wn_X8 wc_X8_memberAt) ⟨rfl, rfl⟩ hv_X8_memberAt ⟨Nat.le_of_ble_eq_true rfl, Nat.le_of_ble_eq_true rfl⟩ rfl mM_0 hP hS rfl hl.1 rfl (Nat.le_of_ble_eq_true rfl) dX8_takeOut_11 (fun H locs hP hS => ?_)
  refine lv_iload_n hx hb dX8_takeOut_14 rfl (lv_at hl 2 rfl) ?_
  refine lv_icmp_ne (tgt := 22) hx hb dX8_takeOut_15 (by decide) (fun c_6 => ?_) (fun c_6 => ?_)
  · have hf7 := m_ie c_6 hf5
    clear hf5
    refine lv_iconst (v := 0) hx hb dX8_takeOut_22 (by decide) ?_
    exact w_X8_takeOut_23 l D a cy hG N C _ _ _ _ _ hf7 H locs ls hP hS (lv_sub hl [1, 2, 3, 0] rfl)
  · have hf8 := m_it c_6 hf5
    clear hf5
    refine lv_iconst (v := 1) hx hb dX8_takeOut_18 (by decide) ?_
    refine lv_goto (tgt := 23) hx hb dX8_takeOut_19 (by decide) ?_
    exact w_X8_takeOut_23 l D a cy hG N C _ _ _ _ _ hf8 H locs ls hP hS (lv_sub hl [1, 2, 3, 0] rfl)
abbrev rm_X8_whyNotSubmitted : Room := { frames := 2, cells := 0, slots := 0, locals := 44 }
def f_X8_whyNotSubmitted (N : Nat) (v1 : Int32) (v2 : Int32) (X : XT) : Option (Int32 × XT) := m_bi (f_X8_isClient N v1 X) fun r_1 X_1 => if r_1 = 0 then (some ((-1), X_1)) else (m_bi (f_X8_within N v2 1 8 X_1) fun r_6 X_6 => if r_6 = 0 then (some ((-2), X_6)) else (m_bi (f_X8_openOf N v1 X_6) fun r_11 X_11 => if r_11 = (-5) then (m_gd (m_in 6 1816) <| m_nm (X_11 1 (Int32.toNatClampNeg 6)) fun y_16 => if y_16 = 150 then (some ((-3), X_11)) else (some (0, X_11))) else (some ((-4), X_11))))
set_option maxHeartbeats 4000000 in
set_option maxRecDepth 100000 in
theorem c_X8_whyNotSubmitted (l : Launch) (D : va_G) (a : Nat → Nat) (cy : Nat → ClassId) (hG : m_inj 6 a) (N : Nat) (v1 : Int32) (v2 : Int32) (X : XT) {r0 : Int32} {X0 : XT} (hf0 : f_X8_whyNotSubmitted N v1 v2 X = some (r0, X0)) : Met l yX8_whyNotSubmitted (Cond.code yX8_whyNotSubmitted cX8_whyNotSubmitted 3 (some .int) :: m_tbl) rm_X8_whyNotSubmitted (va_Pc [.ref (a 0), .int v1, .int v2] (m_PX D (m_tc cy) (m_WM a cy) m_ZM X)) (m_QI D (m_WM a cy) (m_AM a) r0 X0) 0 0 (m_AM a) := by
  refine m_met (own := RX8) hy_X8_whyNotSubmitted rfl (Nat.le_of_ble_eq_true rfl) (m_wl_D hG _) m_ZM_keep ?_
  intro p e s m args below meth c C ls hl hP hS
  have hx := C.1.1
  have hb := C.1.2.1
  have hl : lv_has ls 3 [(0, .ref (a 0)), (1, .int v1), (2, .int v2)] := hl
  unfold f_X8_whyNotSubmitted at hf0
  suffices K : ∀ (H : Heap) (locs : List Loc), va_P D vwCl (m_WM a cy X) H → va_S (m_AM a) s.heap H locs → W p l e rm_X8_whyNotSubmitted s m args below meth c H locs 0 0 (MQ below (m_QI D (m_WM a cy) (m_AM a) r0 X0) args s 0 0 (m_AM a)) (F0 m 0 ls []) from K _ _ hP hS
  clear hP hS
  intro H locs hP hS
  refine lv_iload_n hx hb dX8_whyNotSubmitted_0 rfl (lv_at hl 1 rfl) ?_
  obtain ⟨r_1, X_1, h_1, hf2⟩ := m_bi_s hf0
  clear hf0
  refine m_callSi C [.int v1] [] (c_X8_isClient l D a cy hG N _ _ h_1) (m_goodS wl_X8_92 wst_X8_isClient wn_X8 wc_X8_isClient) ⟨rfl, rfl⟩ hv_X8_isClient ⟨Nat.le_of_ble_eq_true rfl, Nat.le_of_ble_eq_true rfl⟩ hP hS rfl hl.1 rfl (Nat.le_of_ble_eq_true rfl) dX8_whyNotSubmitted_1 (fun H locs hP hS => ?_)
  refine lv_if_ne (tgt := 9) hx hb dX8_whyNotSubmitted_4 (by decide) (fun c_3 => ?_) (fun c_3 => ?_)
  · have hf4 := m_ie c_3 hf2
    clear hf2
    refine lv_iload_n hx hb dX8_whyNotSubmitted_9 rfl (lv_at hl 2 rfl) ?_
    refine lv_iconst (v := 1) hx hb dX8_whyNotSubmitted_10 (by decide) ?_
    refine lv_bipush (v := 8) hx hb dX8_whyNotSubmitted_11 (by decide) ?_
    obtain ⟨r_6, X_6, h_6, hf7⟩ := m_bi_s hf4
    clear hf4
    refine m_callSi C [.int v2, .int 1, .int 8] [] (c_X8_within l D a cy hG N _ _ _ _ h_6) (m_goodS wl_X8_25 wst_X8_within wn_X8 wc_X8_within) ⟨rfl, rfl⟩ hv_X8_within ⟨Nat.le_of_ble_eq_true rfl, Nat.le_of_ble_eq_true rfl⟩ hP hS rfl hl.1 rfl (Nat.le_of_ble_eq_true rfl) dX8_whyNotSubmitted_13 (fun H locs hP hS => ?_)
    refine lv_if_ne (tgt := 22) hx hb dX8_whyNotSubmitted_16 (by decide) (fun c_8 => ?_) (fun c_8 => ?_)
    · have hf9 := m_ie c_8 hf7
      clear hf7
      refine lv_aload_n hx hb dX8_whyNotSubmitted_22 rfl (lv_at hl 0 rfl) ?_
      refine lv_iload_n hx hb dX8_whyNotSubmitted_23 rfl (lv_at hl 1 rfl) ?_
      obtain ⟨r_11, X_11, h_11, hf12⟩ := m_bi_s hf9
      clear hf9
      refine m_callVi (q := (RX8, TX8, 13)) C [.int v1] [] (c_X8_openOf l D a cy hG N _ _ h_11) (m_goodV wl_X8_96 wi_X8_openOf ws_X8_openOf wn_X8 wc_X8_openOf) ⟨rfl, rfl⟩ hv_X8_openOf ⟨Nat.le_of_ble_eq_true rfl, Nat.le_of_ble_eq_true rfl⟩ rfl mM_0 hP hS rfl hl.1 rfl (Nat.le_of_ble_eq_true rfl) dX8_whyNotSubmitted_24 (fun H locs hP hS => ?_)
      refine lv_bipush (v := (-5)) hx hb dX8_whyNotSubmitted_27 (by decide) ?_
      refine lv_icmp_eq (tgt := 37) hx hb dX8_whyNotSubmitted_29 (by decide) (fun c_13 => ?_) (fun c_13 => ?_)
      · have hf14 := m_it c_13 hf12
        clear hf12
        refine lv_aload_n hx hb dX8_whyNotSubmitted_37 rfl (lv_at hl 0 rfl) ?_
        refine m_get C hP mM_0 rfl inX8 0 (by decide) wf_X8_7 rfl dX8_whyNotSubmitted_38 ?_
        refine lv_bipush (v := 6) hx hb dX8_whyNotSubmitted_41 (by decide) ?_
        obtain ⟨g_16, hf17⟩ := m_gd_s hf14
        clear hf14
        refine m_ild C hP mM_1 0 rfl g_16 dX8_whyNotSubmitted_43 (fun y_16 e_16 => ?_)
        have hf18 := m_nm_s e_16 hf17
        clear hf17
        refine lv_sipush (v := 150) hx hb dX8_whyNotSubmitted_44 (by decide) ?_
        refine lv_icmp_ne (tgt := 55) hx hb dX8_whyNotSubmitted_47 (by decide) (fun c_19 => ?_) (fun c_19 => ?_)
        · have hf20 := m_ie c_19 hf18
          clear hf18
          refine lv_iconst (v := 0) hx hb dX8_whyNotSubmitted_55 (by decide) ?_
          exact m_iret C hP hS dX8_whyNotSubmitted_56 hf20
        · have hf21 := m_it c_19 hf18
          clear hf18
          refine lv_bipush (v := (-3)) hx hb dX8_whyNotSubmitted_50 (by decide) ?_
          refine lv_goto (tgt := 56) hx hb dX8_whyNotSubmitted_52 (by decide) ?_
          exact m_iret C hP hS dX8_whyNotSubmitted_56 hf21
      · have hf15 := m_ie c_13 hf12
        clear hf12
        refine lv_bipush (v := (-4)) hx hb dX8_whyNotSubmitted_32 (by decide) ?_
        refine lv_goto (tgt := 56) hx hb dX8_whyNotSubmitted_34 (by decide) ?_
        exact m_iret C hP hS dX8_whyNotSubmitted_56 hf15
    · have hf10 := m_it c_8 hf7
      clear hf7
      refine lv_bipush (v := (-2)) hx hb dX8_whyNotSubmitted_19 (by decide) ?_
      exact m_iret C hP hS dX8_whyNotSubmitted_21 hf10
  · have hf5 := m_it c_3 hf2
    clear hf2
    refine lv_iconst (v := (-1)) hx hb dX8_whyNotSubmitted_7 (by decide) ?_
    exact m_iret C hP hS dX8_whyNotSubmitted_8 hf5
abbrev rm_X8_doesSubmit : Room := { frames := 5, cells := 0, slots := 0, locals := 113 }
def f_X8_doesSubmit_168 (N : Nat) (v5 : Int32) (u0 : Int32) (X : XT) : Option (Int32 × XT) := if u0 ≤ 0 then (some (v5, X)) else (m_bv (f_X8_close N u0 X) fun X_62 => some (v5, X_62))
set_option maxHeartbeats 4000000 in
set_option maxRecDepth 100000 in
theorem w_X8_doesSubmit_168 (l : Launch) (D : va_G) (a : Nat → Nat) (cy : Nat → ClassId) (hG : m_inj 6 a) (N : Nat) {p : Program} {e : Env} {s : State} {m : MethodId} {args : Array Value} {below : List Frame} {meth : Method} {c : Code} (C : m_Cx p s m args meth c cX8_doesSubmit 7 RX8 (some .int) (Cond.code yX8_doesSubmit cX8_doesSubmit 7 (some .int)) D (m_tc cy) (m_AM a) (m_WM a cy) m_ZM) {r0 : Int32} {X0 : XT} (v5 : Int32) (u0 : Int32) (X : XT) (hf0 : f_X8_doesSubmit_168 N v5 u0 X = some (r0, X0)) : ∀ (H : Heap) (locs : List Loc) (ls : Array Slot), va_P D vwCl (m_WM a cy X) H → va_S (m_AM a) s.heap H locs → lv_has ls 7 [(0, .ref (a 0)), (5, .int v5)] → W p l e rm_X8_doesSubmit s m args below meth c H locs 0 0 (MQ below (m_QI D (m_WM a cy) (m_AM a) r0 X0) args s 0 0 (m_AM a)) (F0 m 168 ls [.int u0]) := by
  have hx := C.1.1
  have hb := C.1.2.1
  intro H locs ls hP hS hl
  unfold f_X8_doesSubmit_168 at hf0
  refine lv_istore (lv' := [(6, .int u0), (0, .ref (a 0)), (5, .int v5)]) hx hb dX8_doesSubmit_168 hl (by decide) rfl (fun ls hl => ?_)
  refine lv_iload hx hb dX8_doesSubmit_170 (lv_at hl 0 rfl) ?_
  refine lv_if_le (tgt := 181) hx hb dX8_doesSubmit_172 (by decide) (fun c_59 => ?_) (fun c_59 => ?_)
  · have hf60 := m_it c_59 hf0
    clear hf0
    refine lv_iload hx hb dX8_doesSubmit_181 (lv_at hl 2 rfl) ?_
    exact m_iret C hP hS dX8_doesSubmit_183 hf60
  · have hf61 := m_ie c_59 hf0
    clear hf0
    refine lv_aload_n hx hb dX8_doesSubmit_175 rfl (lv_at hl 1 rfl) ?_
    refine lv_iload hx hb dX8_doesSubmit_176 (lv_at hl 0 rfl) ?_
    obtain ⟨X_62, h_62, hf63⟩ := m_bv_s hf61
    clear hf61
    refine m_callVv (q := (RX8, TX8, 13)) C [.int u0] [] (c_X8_close l D a cy hG N _ _ h_62) (m_goodV wl_X8_81 wi_X8_close ws_X8_close wn_X8 wc_X8_close) ⟨rfl, rfl⟩ hv_X8_close ⟨Nat.le_of_ble_eq_true rfl, Nat.le_of_ble_eq_true rfl⟩ rfl mM_0 hP hS rfl hl.1 rfl (Nat.le_of_ble_eq_true rfl) dX8_doesSubmit_178 (fun H locs hP hS => ?_)
    refine lv_iload hx hb dX8_doesSubmit_181 (lv_at hl 2 rfl) ?_
    exact m_iret C hP hS dX8_doesSubmit_183 hf63
def f_X8_doesSubmit_77 (N : Nat) (v3 : Int32) (v4 : Int32) (v5 : Int32) (u0 : Int32) (u1 : Int32) (u2 : Int32) (X : XT) : Option (Int32 × XT) := m_bv (f_X8_setOf N u2 u1 u0 X) fun X_28 => m_bv (f_X8_setOf N v5 3 1 X_28) fun X_30 => m_gd (m_in 0 1816) <| m_nm (X_30 1 (Int32.toNatClampNeg 0)) fun y_32 => m_bv (f_X8_setOf N v5 4 y_32 X_30) fun X_35 => m_bv (f_X8_setOf N v5 5 (-5) X_35) fun X_37 => m_bv (f_X8_setOf N v5 6 v4 X_37) fun X_39 => m_bv (f_X8_setOf N v5 7 1 X_39) fun X_41 => if v3 = 0 then (m_bi (f_X8_recordsOf N v4 X_41) fun r_46 X_46 => m_gd (m_in 3 1816) <| m_nm (X_46 1 (Int32.toNatClampNeg 3)) fun y_48 => if r_46 < y_48 then (m_bi (f_X8_isLate N X_46) fun r_54 X_54 => if r_54 = 0 then (f_X8_doesSubmit_168 N v5 0 X_54) else (f_X8_doesSubmit_168 N v5 3 X_54)) else (f_X8_doesSubmit_168 N v5 2 X_46)) else (f_X8_doesSubmit_168 N v5 1 X_41)
set_option maxHeartbeats 4000000 in
set_option maxRecDepth 100000 in
theorem w_X8_doesSubmit_77 (l : Launch) (D : va_G) (a : Nat → Nat) (cy : Nat → ClassId) (hG : m_inj 6 a) (N : Nat) {p : Program} {e : Env} {s : State} {m : MethodId} {args : Array Value} {below : List Frame} {meth : Method} {c : Code} (C : m_Cx p s m args meth c cX8_doesSubmit 7 RX8 (some .int) (Cond.code yX8_doesSubmit cX8_doesSubmit 7 (some .int)) D (m_tc cy) (m_AM a) (m_WM a cy) m_ZM) {r0 : Int32} {X0 : XT} (v3 : Int32) (v4 : Int32) (v5 : Int32) (u0 : Int32) (u1 : Int32) (u2 : Int32) (X : XT) (hf0 : f_X8_doesSubmit_77 N v3 v4 v5 u0 u1 u2 X = some (r0, X0)) : ∀ (H : Heap) (locs : List Loc) (ls : Array Slot), va_P D vwCl (m_WM a cy X) H → va_S (m_AM a) s.heap H locs → lv_has ls 7 [(0, .ref (a 0)), (3, .int v3), (4, .int v4), (5, .int v5)] → W p l e rm_X8_doesSubmit s m args below meth c H locs 0 0 (MQ below (m_QI D (m_WM a cy) (m_AM a) r0 X0) args s 0 0 (m_AM a)) (F0 m 77 ls [.int u0, .int u1, .int u2, .ref (a 0)]) := by
  have hx := C.1.1
  have hb := C.1.2.1
  intro H locs ls hP hS hl
  unfold f_X8_doesSubmit_77 at hf0
  obtain ⟨X_28, h_28, hf29⟩ := m_bv_s hf0
  clear hf0
  refine m_callVv (q := (RX8, TX8, 13)) C [.int u2, .int u1, .int u0] [] (c_X8_setOf l D a cy hG N _ _ _ _ h_28) (m_goodV wl_X8_48 wi_X8_setOf ws_X8_setOf wn_X8 wc_X8_setOf) ⟨rfl, rfl⟩ hv_X8_setOf ⟨Nat.le_of_ble_eq_true rfl, Nat.le_of_ble_eq_true rfl⟩ rfl mM_0 hP hS rfl hl.1 rfl (Nat.le_of_ble_eq_true rfl) dX8_doesSubmit_77 (fun H locs hP hS => ?_)
  refine lv_aload_n hx hb dX8_doesSubmit_80 rfl (lv_at hl 0 rfl) ?_
  refine lv_iload hx hb dX8_doesSubmit_81 (lv_at hl 3 rfl) ?_
  refine lv_iconst (v := 3) hx hb dX8_doesSubmit_83 (by decide) ?_
  refine lv_iconst (v := 1) hx hb dX8_doesSubmit_84 (by decide) ?_
  obtain ⟨X_30, h_30, hf31⟩ := m_bv_s hf29
  clear hf29
  refine m_callVv (q := (RX8, TX8, 13)) C [.int v5, .int 3, .int 1] [] (c_X8_setOf l D a cy hG N _ _ _ _ h_30) (m_goodV wl_X8_48 wi_X8_setOf ws_X8_setOf wn_X8 wc_X8_setOf) ⟨rfl, rfl⟩ hv_X8_setOf ⟨Nat.le_of_ble_eq_true rfl, Nat.le_of_ble_eq_true rfl⟩ rfl mM_0 hP hS rfl hl.1 rfl (Nat.le_of_ble_eq_true rfl) dX8_doesSubmit_85 (fun H locs hP hS => ?_)
  refine lv_aload_n hx hb dX8_doesSubmit_88 rfl (lv_at hl 0 rfl) ?_
  refine lv_iload hx hb dX8_doesSubmit_89 (lv_at hl 3 rfl) ?_
  refine lv_iconst (v := 4) hx hb dX8_doesSubmit_91 (by decide) ?_
  refine lv_aload_n hx hb dX8_doesSubmit_92 rfl (lv_at hl 0 rfl) ?_
  refine m_get C hP mM_0 rfl inX8 0 (by decide) wf_X8_7 rfl dX8_doesSubmit_93 ?_
  refine lv_iconst (v := 0) hx hb dX8_doesSubmit_96 (by decide) ?_
  obtain ⟨g_32, hf33⟩ := m_gd_s hf31
  clear hf31
  refine m_ild C hP mM_1 0 rfl g_32 dX8_doesSubmit_97 (fun y_32 e_32 => ?_)
  have hf34 := m_nm_s e_32 hf33
  clear hf33
  obtain ⟨X_35, h_35, hf36⟩ := m_bv_s hf34
  clear hf34
  refine m_callVv (q := (RX8, TX8, 13)) C [.int v5, .int 4, .int y_32] [] (c_X8_setOf l D a cy hG N _ _ _ _ h_35) (m_goodV wl_X8_48 wi_X8_setOf ws_X8_setOf wn_X8 wc_X8_setOf) ⟨rfl, rfl⟩ hv_X8_setOf ⟨Nat.le_of_ble_eq_true rfl, Nat.le_of_ble_eq_true rfl⟩ rfl mM_0 hP hS rfl hl.1 rfl (Nat.le_of_ble_eq_true rfl) dX8_doesSubmit_98 (fun H locs hP hS => ?_)
  refine lv_aload_n hx hb dX8_doesSubmit_101 rfl (lv_at hl 0 rfl) ?_
  refine lv_iload hx hb dX8_doesSubmit_102 (lv_at hl 3 rfl) ?_
  refine lv_iconst (v := 5) hx hb dX8_doesSubmit_104 (by decide) ?_
  refine lv_bipush (v := (-5)) hx hb dX8_doesSubmit_105 (by decide) ?_
  obtain ⟨X_37, h_37, hf38⟩ := m_bv_s hf36
  clear hf36
  refine m_callVv (q := (RX8, TX8, 13)) C [.int v5, .int 5, .int (-5)] [] (c_X8_setOf l D a cy hG N _ _ _ _ h_37) (m_goodV wl_X8_48 wi_X8_setOf ws_X8_setOf wn_X8 wc_X8_setOf) ⟨rfl, rfl⟩ hv_X8_setOf ⟨Nat.le_of_ble_eq_true rfl, Nat.le_of_ble_eq_true rfl⟩ rfl mM_0 hP hS rfl hl.1 rfl (Nat.le_of_ble_eq_true rfl) dX8_doesSubmit_107 (fun H locs hP hS => ?_)
  refine lv_aload_n hx hb dX8_doesSubmit_110 rfl (lv_at hl 0 rfl) ?_
  refine lv_iload hx hb dX8_doesSubmit_111 (lv_at hl 3 rfl) ?_
  refine lv_bipush (v := 6) hx hb dX8_doesSubmit_113 (by decide) ?_
  refine lv_iload hx hb dX8_doesSubmit_115 (lv_at hl 2 rfl) ?_
  obtain ⟨X_39, h_39, hf40⟩ := m_bv_s hf38
  clear hf38
  refine m_callVv (q := (RX8, TX8, 13)) C [.int v5, .int 6, .int v4] [] (c_X8_setOf l D a cy hG N _ _ _ _ h_39) (m_goodV wl_X8_48 wi_X8_setOf ws_X8_setOf wn_X8 wc_X8_setOf) ⟨rfl, rfl⟩ hv_X8_setOf ⟨Nat.le_of_ble_eq_true rfl, Nat.le_of_ble_eq_true rfl⟩ rfl mM_0 hP hS rfl hl.1 rfl (Nat.le_of_ble_eq_true rfl) dX8_doesSubmit_117 (fun H locs hP hS => ?_)
  refine lv_aload_n hx hb dX8_doesSubmit_120 rfl (lv_at hl 0 rfl) ?_
  refine lv_iload hx hb dX8_doesSubmit_121 (lv_at hl 3 rfl) ?_
  refine lv_bipush (v := 7) hx hb dX8_doesSubmit_123 (by decide) ?_
  refine lv_iconst (v := 1) hx hb dX8_doesSubmit_125 (by decide) ?_
  obtain ⟨X_41, h_41, hf42⟩ := m_bv_s hf40
  clear hf40
  refine m_callVv (q := (RX8, TX8, 13)) C [.int v5, .int 7, .int 1] [] (c_X8_setOf l D a cy hG N _ _ _ _ h_41) (m_goodV wl_X8_48 wi_X8_setOf ws_X8_setOf wn_X8 wc_X8_setOf) ⟨rfl, rfl⟩ hv_X8_setOf ⟨Nat.le_of_ble_eq_true rfl, Nat.le_of_ble_eq_true rfl⟩ rfl mM_0 hP hS rfl hl.1 rfl (Nat.le_of_ble_eq_true rfl) dX8_doesSubmit_126 (fun H locs hP hS => ?_)
  refine lv_iload_n hx hb dX8_doesSubmit_129 rfl (lv_at hl 1 rfl) ?_
  refine lv_if_eq (tgt := 137) hx hb dX8_doesSubmit_130 (by decide) (fun c_43 => ?_) (fun c_43 => ?_)
  · have hf44 := m_it c_43 hf42
    clear hf42
    refine lv_aload_n hx hb dX8_doesSubmit_137 rfl (lv_at hl 0 rfl) ?_
    refine lv_iload hx hb dX8_doesSubmit_138 (lv_at hl 2 rfl) ?_
    obtain ⟨r_46, X_46, h_46, hf47⟩ := m_bi_s hf44
    clear hf44
    refine m_callVi (q := (RX8, TX8, 13)) C [.int v4] [] (c_X8_recordsOf l D a cy hG N _ _ h_46) (m_goodV wl_X8_62 wi_X8_recordsOf ws_X8_recordsOf wn_X8 wc_X8_recordsOf) ⟨rfl, rfl⟩ hv_X8_recordsOf ⟨Nat.le_of_ble_eq_true rfl, Nat.le_of_ble_eq_true rfl⟩ rfl mM_0 hP hS rfl hl.1 rfl (Nat.le_of_ble_eq_true rfl) dX8_doesSubmit_140 (fun H locs hP hS => ?_)
    refine lv_aload_n hx hb dX8_doesSubmit_143 rfl (lv_at hl 0 rfl) ?_
    refine m_get C hP mM_0 rfl inX8 0 (by decide) wf_X8_7 rfl dX8_doesSubmit_144 ?_
    refine lv_iconst (v := 3) hx hb dX8_doesSubmit_147 (by decide) ?_
    obtain ⟨g_48, hf49⟩ := m_gd_s hf47
    clear hf47
    refine m_ild C hP mM_1 0 rfl g_48 dX8_doesSubmit_148 (fun y_48 e_48 => ?_)
    have hf50 := m_nm_s e_48 hf49
    clear hf49
    refine lv_icmp_lt (tgt := 156) hx hb dX8_doesSubmit_149 (by decide) (fun c_51 => ?_) (fun c_51 => ?_)
    · have hf52 := m_it c_51 hf50
      clear hf50
      refine lv_aload_n hx hb dX8_doesSubmit_156 rfl (lv_at hl 0 rfl) ?_
      obtain ⟨r_54, X_54, h_54, hf55⟩ := m_bi_s hf52
      clear hf52
      refine m_callVi (q := (RX8, TX8, 13)) C [] [] (c_X8_isLate l D a cy hG N _ h_54) (m_goodV wl_X8_77 wi_X8_isLate ws_X8_isLate wn_X8 wc_X8_isLate) ⟨rfl, rfl⟩ hv_X8_isLate ⟨Nat.le_of_ble_eq_true rfl, Nat.le_of_ble_eq_true rfl⟩ rfl mM_0 hP hS rfl hl.1 rfl (Nat.le_of_ble_eq_true rfl) dX8_doesSubmit_157 (fun H locs hP hS => ?_)
      refine lv_if_eq (tgt := 167) hx hb dX8_doesSubmit_160 (by decide) (fun c_56 => ?_) (fun c_56 => ?_)
      · have hf57 := m_it c_56 hf55
        clear hf55
        refine lv_iconst (v := 0) hx hb dX8_doesSubmit_167 (by decide) ?_
        exact w_X8_doesSubmit_168 l D a cy hG N C _ _ _ hf57 H locs ls hP hS (lv_sub hl [0, 3] rfl)
      · have hf58 := m_ie c_56 hf55
        clear hf55
        refine lv_iconst (v := 3) hx hb dX8_doesSubmit_163 (by decide) ?_
        refine lv_goto (tgt := 168) hx hb dX8_doesSubmit_164 (by decide) ?_
        exact w_X8_doesSubmit_168 l D a cy hG N C _ _ _ hf58 H locs ls hP hS (lv_sub hl [0, 3] rfl)
    · have hf53 := m_ie c_51 hf50
      clear hf50
      refine lv_iconst (v := 2) hx hb dX8_doesSubmit_152 (by decide) ?_
      refine lv_goto (tgt := 168) hx hb dX8_doesSubmit_153 (by decide) ?_
      exact w_X8_doesSubmit_168 l D a cy hG N C _ _ _ hf53 H locs ls hP hS (lv_sub hl [0, 3] rfl)
  · have hf45 := m_ie c_43 hf42
    clear hf42
    refine lv_iconst (v := 1) hx hb dX8_doesSubmit_133 (by decide) ?_
    refine lv_goto (tgt := 168) hx hb dX8_doesSubmit_134 (by decide) ?_
    exact w_X8_doesSubmit_168 l D a cy hG N C _ _ _ hf45 H locs ls hP hS (lv_sub hl [0, 3] rfl)
def f_X8_doesSubmit_26 (N : Nat) (v1 : Int32) (v2 : Int32) (v3 : Int32) (u0 : Int32) (X : XT) : Option (Int32 × XT) := m_gd (m_in 6 1816) <| m_nm (X 1 (Int32.toNatClampNeg 6)) fun y_10 => m_gd (m_in 6 1816) <| m_nm (X 1 (Int32.toNatClampNeg 6)) fun y_13 => m_nm (y_13 + 1) fun y_16 => m_gd (m_in 6 1816) <| m_nm (m_up X 1 (upd (X 1) (Int32.toNatClampNeg 6) y_16)) fun X_18 => m_bv (f_X8_setOf N y_10 0 v1 X_18) fun X_21 => m_bv (f_X8_setOf N y_10 1 v2 X_21) fun X_23 => if v3 = 0 then (f_X8_doesSubmit_77 N v3 u0 y_10 0 2 y_10 X_23) else (f_X8_doesSubmit_77 N v3 u0 y_10 1 2 y_10 X_23)
set_option maxHeartbeats 4000000 in
set_option maxRecDepth 100000 in
theorem w_X8_doesSubmit_26 (l : Launch) (D : va_G) (a : Nat → Nat) (cy : Nat → ClassId) (hG : m_inj 6 a) (N : Nat) {p : Program} {e : Env} {s : State} {m : MethodId} {args : Array Value} {below : List Frame} {meth : Method} {c : Code} (C : m_Cx p s m args meth c cX8_doesSubmit 7 RX8 (some .int) (Cond.code yX8_doesSubmit cX8_doesSubmit 7 (some .int)) D (m_tc cy) (m_AM a) (m_WM a cy) m_ZM) {r0 : Int32} {X0 : XT} (v1 : Int32) (v2 : Int32) (v3 : Int32) (u0 : Int32) (X : XT) (hf0 : f_X8_doesSubmit_26 N v1 v2 v3 u0 X = some (r0, X0)) : ∀ (H : Heap) (locs : List Loc) (ls : Array Slot), va_P D vwCl (m_WM a cy X) H → va_S (m_AM a) s.heap H locs → lv_has ls 7 [(0, .ref (a 0)), (1, .int v1), (2, .int v2), (3, .int v3)] → W p l e rm_X8_doesSubmit s m args below meth c H locs 0 0 (MQ below (m_QI D (m_WM a cy) (m_AM a) r0 X0) args s 0 0 (m_AM a)) (F0 m 26 ls [.int u0]) := by
  have hx := C.1.1
  have hb := C.1.2.1
  intro H locs ls hP hS hl
  unfold f_X8_doesSubmit_26 at hf0
  refine lv_istore (lv' := [(4, .int u0), (0, .ref (a 0)), (1, .int v1), (2, .int v2), (3, .int v3)]) hx hb dX8_doesSubmit_26 hl (by decide) rfl (fun ls hl => ?_)
  refine lv_aload_n hx hb dX8_doesSubmit_28 rfl (lv_at hl 1 rfl) ?_
  refine m_get C hP mM_0 rfl inX8 0 (by decide) wf_X8_7 rfl dX8_doesSubmit_29 ?_
  refine lv_bipush (v := 6) hx hb dX8_doesSubmit_32 (by decide) ?_
  obtain ⟨g_10, hf11⟩ := m_gd_s hf0
  clear hf0
  refine m_ild C hP mM_1 0 rfl g_10 dX8_doesSubmit_34 (fun y_10 e_10 => ?_)
  have hf12 := m_nm_s e_10 hf11
  clear hf11
  refine lv_istore (lv' := [(5, .int y_10), (4, .int u0), (0, .ref (a 0)), (1, .int v1), (2, .int v2), (3, .int v3)]) hx hb dX8_doesSubmit_35 hl (by decide) rfl (fun ls hl => ?_)
  refine lv_aload_n hx hb dX8_doesSubmit_37 rfl (lv_at hl 2 rfl) ?_
  refine m_get C hP mM_0 rfl inX8 0 (by decide) wf_X8_7 rfl dX8_doesSubmit_38 ?_
  refine lv_bipush (v := 6) hx hb dX8_doesSubmit_41 (by decide) ?_
  refine lv_dup2_11 hx hb dX8_doesSubmit_43 rfl rfl ?_
  obtain ⟨g_13, hf14⟩ := m_gd_s hf12
  clear hf12
  refine m_ild C hP mM_1 0 rfl g_13 dX8_doesSubmit_44 (fun y_13 e_13 => ?_)
  have hf15 := m_nm_s e_13 hf14
  clear hf14
  refine lv_iconst (v := 1) hx hb dX8_doesSubmit_45 (by decide) ?_
  refine lv_iadd hx hb dX8_doesSubmit_46 ?_
  refine lv_topi (fun y_16 e_16 => ?_)
  have hf17 := m_nm_s e_16 hf15
  clear hf15
  obtain ⟨g_18, hf19⟩ := m_gd_s hf17
  clear hf17
  refine m_ist C hP hS mM_1 0 rfl g_18 mMs_1 dX8_doesSubmit_47 (fun X_18 e_18 H locs hP hS => ?_)
  have hf20 := m_nm_s e_18 hf19
  clear hf19
  refine lv_aload_n hx hb dX8_doesSubmit_48 rfl (lv_at hl 2 rfl) ?_
  refine lv_iload hx hb dX8_doesSubmit_49 (lv_at hl 0 rfl) ?_
  refine lv_iconst (v := 0) hx hb dX8_doesSubmit_51 (by decide) ?_
  refine lv_iload_n hx hb dX8_doesSubmit_52 rfl (lv_at hl 3 rfl) ?_
  obtain ⟨X_21, h_21, hf22⟩ := m_bv_s hf20
  clear hf20
  refine m_callVv (q := (RX8, TX8, 13)) C [.int y_10, .int 0, .int v1] [] (c_X8_setOf l D a cy hG N _ _ _ _ h_21) (m_goodV wl_X8_48 wi_X8_setOf ws_X8_setOf wn_X8 wc_X8_setOf) ⟨rfl, rfl⟩ hv_X8_setOf ⟨Nat.le_of_ble_eq_true rfl, Nat.le_of_ble_eq_true rfl⟩ rfl mM_0 hP hS rfl hl.1 rfl (Nat.le_of_ble_eq_true rfl) dX8_doesSubmit_53 (fun H locs hP hS => ?_)
  refine lv_aload_n hx hb dX8_doesSubmit_56 rfl (lv_at hl 2 rfl) ?_
  refine lv_iload hx hb dX8_doesSubmit_57 (lv_at hl 0 rfl) ?_
  refine lv_iconst (v := 1) hx hb dX8_doesSubmit_59 (by decide) ?_
  refine lv_iload_n hx hb dX8_doesSubmit_60 rfl (lv_at hl 4 rfl) ?_
  obtain ⟨X_23, h_23, hf24⟩ := m_bv_s hf22
  clear hf22
  refine m_callVv (q := (RX8, TX8, 13)) C [.int y_10, .int 1, .int v2] [] (c_X8_setOf l D a cy hG N _ _ _ _ h_23) (m_goodV wl_X8_48 wi_X8_setOf ws_X8_setOf wn_X8 wc_X8_setOf) ⟨rfl, rfl⟩ hv_X8_setOf ⟨Nat.le_of_ble_eq_true rfl, Nat.le_of_ble_eq_true rfl⟩ rfl mM_0 hP hS rfl hl.1 rfl (Nat.le_of_ble_eq_true rfl) dX8_doesSubmit_61 (fun H locs hP hS => ?_)
  refine lv_aload_n hx hb dX8_doesSubmit_64 rfl (lv_at hl 2 rfl) ?_
  refine lv_iload hx hb dX8_doesSubmit_65 (lv_at hl 0 rfl) ?_
  refine lv_iconst (v := 2) hx hb dX8_doesSubmit_67 (by decide) ?_
  refine lv_iload_n hx hb dX8_doesSubmit_68 rfl (lv_at hl 5 rfl) ?_
  refine lv_if_eq (tgt := 76) hx hb dX8_doesSubmit_69 (by decide) (fun c_25 => ?_) (fun c_25 => ?_)
  · have hf26 := m_it c_25 hf24
    clear hf24
    refine lv_iconst (v := 0) hx hb dX8_doesSubmit_76 (by decide) ?_
    exact w_X8_doesSubmit_77 l D a cy hG N C _ _ _ _ _ _ _ hf26 H locs ls hP hS (lv_sub hl [2, 5, 1, 0] rfl)
  · have hf27 := m_ie c_25 hf24
    clear hf24
    refine lv_iconst (v := 1) hx hb dX8_doesSubmit_72 (by decide) ?_
    refine lv_goto (tgt := 77) hx hb dX8_doesSubmit_73 (by decide) ?_
    exact w_X8_doesSubmit_77 l D a cy hG N C _ _ _ _ _ _ _ hf27 H locs ls hP hS (lv_sub hl [2, 5, 1, 0] rfl)
def f_X8_doesSubmit (N : Nat) (v1 : Int32) (v2 : Int32) (v3 : Int32) (X : XT) : Option (Int32 × XT) := m_gd (m_in 8 1816) <| m_nm (X 1 (Int32.toNatClampNeg 8)) fun y_1 => if y_1 = (-5) then (m_bi (f_X8_begin N X) fun r_64 X_64 => f_X8_doesSubmit_26 N v1 v2 v3 r_64 X_64) else (m_gd (m_in 8 1816) <| m_nm (X 1 (Int32.toNatClampNeg 8)) fun y_7 => f_X8_doesSubmit_26 N v1 v2 v3 y_7 X)
set_option maxHeartbeats 4000000 in
set_option maxRecDepth 100000 in
theorem c_X8_doesSubmit (l : Launch) (D : va_G) (a : Nat → Nat) (cy : Nat → ClassId) (hG : m_inj 6 a) (N : Nat) (v1 : Int32) (v2 : Int32) (v3 : Int32) (X : XT) {r0 : Int32} {X0 : XT} (hf0 : f_X8_doesSubmit N v1 v2 v3 X = some (r0, X0)) : Met l yX8_doesSubmit (Cond.code yX8_doesSubmit cX8_doesSubmit 7 (some .int) :: m_tbl) rm_X8_doesSubmit (va_Pc [.ref (a 0), .int v1, .int v2, .int v3] (m_PX D (m_tc cy) (m_WM a cy) m_ZM X)) (m_QI D (m_WM a cy) (m_AM a) r0 X0) 0 0 (m_AM a) := by
  refine m_met (own := RX8) hy_X8_doesSubmit rfl (Nat.le_of_ble_eq_true rfl) (m_wl_D hG _) m_ZM_keep ?_
  intro p e s m args below meth c C ls hl hP hS
  have hx := C.1.1
  have hb := C.1.2.1
  have hl : lv_has ls 7 [(0, .ref (a 0)), (1, .int v1), (2, .int v2), (3, .int v3)] := hl
  unfold f_X8_doesSubmit at hf0
  suffices K : ∀ (H : Heap) (locs : List Loc), va_P D vwCl (m_WM a cy X) H → va_S (m_AM a) s.heap H locs → W p l e rm_X8_doesSubmit s m args below meth c H locs 0 0 (MQ below (m_QI D (m_WM a cy) (m_AM a) r0 X0) args s 0 0 (m_AM a)) (F0 m 0 ls []) from K _ _ hP hS
  clear hP hS
  intro H locs hP hS
  refine lv_aload_n hx hb dX8_doesSubmit_0 rfl (lv_at hl 0 rfl) ?_
  refine m_get C hP mM_0 rfl inX8 0 (by decide) wf_X8_7 rfl dX8_doesSubmit_1 ?_
  refine lv_bipush (v := 8) hx hb dX8_doesSubmit_4 (by decide) ?_
  obtain ⟨g_1, hf2⟩ := m_gd_s hf0
  clear hf0
  refine m_ild C hP mM_1 0 rfl g_1 dX8_doesSubmit_6 (fun y_1 e_1 => ?_)
  have hf3 := m_nm_s e_1 hf2
  clear hf2
  refine lv_bipush (v := (-5)) hx hb dX8_doesSubmit_7 (by decide) ?_
  refine lv_icmp_ne (tgt := 19) hx hb dX8_doesSubmit_9 (by decide) (fun c_4 => ?_) (fun c_4 => ?_)
  · have hf5 := m_ie c_4 hf3
    clear hf3
    refine lv_aload_n hx hb dX8_doesSubmit_19 rfl (lv_at hl 0 rfl) ?_
    refine m_get C hP mM_0 rfl inX8 0 (by decide) wf_X8_7 rfl dX8_doesSubmit_20 ?_
    refine lv_bipush (v := 8) hx hb dX8_doesSubmit_23 (by decide) ?_
    obtain ⟨g_7, hf8⟩ := m_gd_s hf5
    clear hf5
    refine m_ild C hP mM_1 0 rfl g_7 dX8_doesSubmit_25 (fun y_7 e_7 => ?_)
    have hf9 := m_nm_s e_7 hf8
    clear hf8
    exact w_X8_doesSubmit_26 l D a cy hG N C _ _ _ _ _ hf9 H locs ls hP hS (lv_sub hl [0, 1, 2, 3] rfl)
  · have hf6 := m_it c_4 hf3
    clear hf3
    refine lv_aload_n hx hb dX8_doesSubmit_12 rfl (lv_at hl 0 rfl) ?_
    obtain ⟨r_64, X_64, h_64, hf65⟩ := m_bi_s hf6
    clear hf6
    refine m_callVi (q := (RX8, TX8, 13)) C [] [] (c_X8_begin l D a cy hG N _ h_64) (m_goodV wl_X8_99 wi_X8_begin ws_X8_begin wn_X8 wc_X8_begin) ⟨rfl, rfl⟩ hv_X8_begin ⟨Nat.le_of_ble_eq_true rfl, Nat.le_of_ble_eq_true rfl⟩ rfl mM_0 hP hS rfl hl.1 rfl (Nat.le_of_ble_eq_true rfl) dX8_doesSubmit_13 (fun H locs hP hS => ?_)
    refine lv_goto (tgt := 26) hx hb dX8_doesSubmit_16 (by decide) ?_
    exact w_X8_doesSubmit_26 l D a cy hG N C _ _ _ _ _ hf65 H locs ls hP hS (lv_sub hl [0, 1, 2, 3] rfl)
abbrev rm_X8_doesFail : Room := { frames := 4, cells := 0, slots := 0, locals := 92 }
def f_X8_doesFail_41 (N : Nat) (v2 : Int32) (X : XT) : Option (Int32 × XT) := m_gd (m_in 11 1816) <| m_nm (X 1 (Int32.toNatClampNeg 11)) fun y_13 => m_nm (y_13 + 1) fun y_16 => m_gd (m_in 11 1816) <| m_nm (m_up X 1 (upd (X 1) (Int32.toNatClampNeg 11) y_16)) fun X_18 => some (v2, X_18)
set_option maxHeartbeats 4000000 in
set_option maxRecDepth 100000 in
theorem w_X8_doesFail_41 (l : Launch) (D : va_G) (a : Nat → Nat) (cy : Nat → ClassId) (hG : m_inj 6 a) (N : Nat) {p : Program} {e : Env} {s : State} {m : MethodId} {args : Array Value} {below : List Frame} {meth : Method} {c : Code} (C : m_Cx p s m args meth c cX8_doesFail 3 RX8 (some .int) (Cond.code yX8_doesFail cX8_doesFail 3 (some .int)) D (m_tc cy) (m_AM a) (m_WM a cy) m_ZM) {r0 : Int32} {X0 : XT} (v2 : Int32) (X : XT) (hf0 : f_X8_doesFail_41 N v2 X = some (r0, X0)) : ∀ (H : Heap) (locs : List Loc) (ls : Array Slot), va_P D vwCl (m_WM a cy X) H → va_S (m_AM a) s.heap H locs → lv_has ls 3 [(0, .ref (a 0)), (2, .int v2)] → W p l e rm_X8_doesFail s m args below meth c H locs 0 0 (MQ below (m_QI D (m_WM a cy) (m_AM a) r0 X0) args s 0 0 (m_AM a)) (F0 m 41 ls []) := by
  have hx := C.1.1
  have hb := C.1.2.1
  intro H locs ls hP hS hl
  unfold f_X8_doesFail_41 at hf0
  refine lv_aload_n hx hb dX8_doesFail_41 rfl (lv_at hl 0 rfl) ?_
  refine m_get C hP mM_0 rfl inX8 0 (by decide) wf_X8_7 rfl dX8_doesFail_42 ?_
  refine lv_bipush (v := 11) hx hb dX8_doesFail_45 (by decide) ?_
  refine lv_dup2_11 hx hb dX8_doesFail_47 rfl rfl ?_
  obtain ⟨g_13, hf14⟩ := m_gd_s hf0
  clear hf0
  refine m_ild C hP mM_1 0 rfl g_13 dX8_doesFail_48 (fun y_13 e_13 => ?_)
  have hf15 := m_nm_s e_13 hf14
  clear hf14
  refine lv_iconst (v := 1) hx hb dX8_doesFail_49 (by decide) ?_
  refine lv_iadd hx hb dX8_doesFail_50 ?_
  refine lv_topi (fun y_16 e_16 => ?_)
  have hf17 := m_nm_s e_16 hf15
  clear hf15
  obtain ⟨g_18, hf19⟩ := m_gd_s hf17
  clear hf17
  refine m_ist C hP hS mM_1 0 rfl g_18 mMs_1 dX8_doesFail_51 (fun X_18 e_18 H locs hP hS => ?_)
  have hf20 := m_nm_s e_18 hf19
  clear hf19
  refine lv_iload_n hx hb dX8_doesFail_52 rfl (lv_at hl 1 rfl) ?_
  exact m_iret C hP hS dX8_doesFail_53 hf20
def f_X8_doesFail (N : Nat) (v1 : Int32) (X : XT) : Option (Int32 × XT) := m_bi (f_X8_openOf N v1 X) fun r_1 X_1 => if r_1 = (-5) then (some ((-5), X_1)) else (m_bi (f_X8_of N r_1 3 X_1) fun r_6 X_6 => if r_6 = 1 then (m_bv (f_X8_takeOut N r_1 5 X_6) fun X_21 => f_X8_doesFail_41 N r_1 X_21) else (m_bv (f_X8_setOf N r_1 3 5 X_6) fun X_11 => f_X8_doesFail_41 N r_1 X_11))
set_option maxHeartbeats 4000000 in
set_option maxRecDepth 100000 in
theorem c_X8_doesFail (l : Launch) (D : va_G) (a : Nat → Nat) (cy : Nat → ClassId) (hG : m_inj 6 a) (N : Nat) (v1 : Int32) (X : XT) {r0 : Int32} {X0 : XT} (hf0 : f_X8_doesFail N v1 X = some (r0, X0)) : Met l yX8_doesFail (Cond.code yX8_doesFail cX8_doesFail 3 (some .int) :: m_tbl) rm_X8_doesFail (va_Pc [.ref (a 0), .int v1] (m_PX D (m_tc cy) (m_WM a cy) m_ZM X)) (m_QI D (m_WM a cy) (m_AM a) r0 X0) 0 0 (m_AM a) := by
  refine m_met (own := RX8) hy_X8_doesFail rfl (Nat.le_of_ble_eq_true rfl) (m_wl_D hG _) m_ZM_keep ?_
  intro p e s m args below meth c C ls hl hP hS
  have hx := C.1.1
  have hb := C.1.2.1
  have hl : lv_has ls 3 [(0, .ref (a 0)), (1, .int v1)] := hl
  unfold f_X8_doesFail at hf0
  suffices K : ∀ (H : Heap) (locs : List Loc), va_P D vwCl (m_WM a cy X) H → va_S (m_AM a) s.heap H locs → W p l e rm_X8_doesFail s m args below meth c H locs 0 0 (MQ below (m_QI D (m_WM a cy) (m_AM a) r0 X0) args s 0 0 (m_AM a)) (F0 m 0 ls []) from K _ _ hP hS
  clear hP hS
  intro H locs hP hS
  refine lv_aload_n hx hb dX8_doesFail_0 rfl (lv_at hl 0 rfl) ?_
  refine lv_iload_n hx hb dX8_doesFail_1 rfl (lv_at hl 1 rfl) ?_
  obtain ⟨r_1, X_1, h_1, hf2⟩ := m_bi_s hf0
  clear hf0
  refine m_callVi (q := (RX8, TX8, 13)) C [.int v1] [] (c_X8_openOf l D a cy hG N _ _ h_1) (m_goodV wl_X8_96 wi_X8_openOf ws_X8_openOf wn_X8 wc_X8_openOf) ⟨rfl, rfl⟩ hv_X8_openOf ⟨Nat.le_of_ble_eq_true rfl, Nat.le_of_ble_eq_true rfl⟩ rfl mM_0 hP hS rfl hl.1 rfl (Nat.le_of_ble_eq_true rfl) dX8_doesFail_2 (fun H locs hP hS => ?_)
  refine lv_istore_n (lv' := [(2, .int r_1), (0, .ref (a 0)), (1, .int v1)]) hx hb dX8_doesFail_5 rfl hl (by decide) rfl (fun ls hl => ?_)
  refine lv_iload_n hx hb dX8_doesFail_6 rfl (lv_at hl 0 rfl) ?_
  refine lv_bipush (v := (-5)) hx hb dX8_doesFail_7 (by decide) ?_
  refine lv_icmp_ne (tgt := 15) hx hb dX8_doesFail_9 (by decide) (fun c_3 => ?_) (fun c_3 => ?_)
  · have hf4 := m_ie c_3 hf2
    clear hf2
    refine lv_aload_n hx hb dX8_doesFail_15 rfl (lv_at hl 1 rfl) ?_
    refine lv_iload_n hx hb dX8_doesFail_16 rfl (lv_at hl 0 rfl) ?_
    refine lv_iconst (v := 3) hx hb dX8_doesFail_17 (by decide) ?_
    obtain ⟨r_6, X_6, h_6, hf7⟩ := m_bi_s hf4
    clear hf4
    refine m_callVi (q := (RX8, TX8, 13)) C [.int r_1, .int 3] [] (c_X8_of l D a cy hG N _ _ _ h_6) (m_goodV wl_X8_40 wi_X8_of ws_X8_of wn_X8 wc_X8_of) ⟨rfl, rfl⟩ hv_X8_of ⟨Nat.le_of_ble_eq_true rfl, Nat.le_of_ble_eq_true rfl⟩ rfl mM_0 hP hS rfl hl.1 rfl (Nat.le_of_ble_eq_true rfl) dX8_doesFail_18 (fun H locs hP hS => ?_)
    refine lv_iconst (v := 1) hx hb dX8_doesFail_21 (by decide) ?_
    refine lv_icmp_ne (tgt := 34) hx hb dX8_doesFail_22 (by decide) (fun c_8 => ?_) (fun c_8 => ?_)
    · have hf9 := m_ie c_8 hf7
      clear hf7
      refine lv_aload_n hx hb dX8_doesFail_34 rfl (lv_at hl 1 rfl) ?_
      refine lv_iload_n hx hb dX8_doesFail_35 rfl (lv_at hl 0 rfl) ?_
      refine lv_iconst (v := 3) hx hb dX8_doesFail_36 (by decide) ?_
      refine lv_iconst (v := 5) hx hb dX8_doesFail_37 (by decide) ?_
      obtain ⟨X_11, h_11, hf12⟩ := m_bv_s hf9
      clear hf9
      refine m_callVv (q := (RX8, TX8, 13)) C [.int r_1, .int 3, .int 5] [] (c_X8_setOf l D a cy hG N _ _ _ _ h_11) (m_goodV wl_X8_48 wi_X8_setOf ws_X8_setOf wn_X8 wc_X8_setOf) ⟨rfl, rfl⟩ hv_X8_setOf ⟨Nat.le_of_ble_eq_true rfl, Nat.le_of_ble_eq_true rfl⟩ rfl mM_0 hP hS rfl hl.1 rfl (Nat.le_of_ble_eq_true rfl) dX8_doesFail_38 (fun H locs hP hS => ?_)
      exact w_X8_doesFail_41 l D a cy hG N C _ _ hf12 H locs ls hP hS (lv_sub hl [1, 0] rfl)
    · have hf10 := m_it c_8 hf7
      clear hf7
      refine lv_aload_n hx hb dX8_doesFail_25 rfl (lv_at hl 1 rfl) ?_
      refine lv_iload_n hx hb dX8_doesFail_26 rfl (lv_at hl 0 rfl) ?_
      refine lv_iconst (v := 5) hx hb dX8_doesFail_27 (by decide) ?_
      obtain ⟨X_21, h_21, hf22⟩ := m_bv_s hf10
      clear hf10
      refine m_callVv (q := (RX8, TX8, 13)) C [.int r_1, .int 5] [] (c_X8_takeOut l D a cy hG N _ _ _ h_21) (m_goodV wl_X8_102 wi_X8_takeOut ws_X8_takeOut wn_X8 wc_X8_takeOut) ⟨rfl, rfl⟩ hv_X8_takeOut ⟨Nat.le_of_ble_eq_true rfl, Nat.le_of_ble_eq_true rfl⟩ rfl mM_0 hP hS rfl hl.1 rfl (Nat.le_of_ble_eq_true rfl) dX8_doesFail_28 (fun H locs hP hS => ?_)
      refine lv_goto (tgt := 41) hx hb dX8_doesFail_31 (by decide) ?_
      exact w_X8_doesFail_41 l D a cy hG N C _ _ hf22 H locs ls hP hS (lv_sub hl [1, 0] rfl)
  · have hf5 := m_it c_3 hf2
    clear hf2
    refine lv_bipush (v := (-5)) hx hb dX8_doesFail_12 (by decide) ?_
    exact m_iret C hP hS dX8_doesFail_14 hf5
abbrev rm_X8_canWithdraw : Room := { frames := 2, cells := 0, slots := 0, locals := 44 }
def f_X8_canWithdraw (N : Nat) (v1 : Int32) (X : XT) : Option (Int32 × XT) := m_bi (f_X8_openOf N v1 X) fun r_1 X_1 => if r_1 = (-5) then (some (0, X_1)) else (m_bi (f_X8_of N r_1 3 X_1) fun r_6 X_6 => if r_6 = 1 then (some (1, X_6)) else (some (0, X_6)))
set_option maxHeartbeats 4000000 in
set_option maxRecDepth 100000 in
theorem c_X8_canWithdraw (l : Launch) (D : va_G) (a : Nat → Nat) (cy : Nat → ClassId) (hG : m_inj 6 a) (N : Nat) (v1 : Int32) (X : XT) {r0 : Int32} {X0 : XT} (hf0 : f_X8_canWithdraw N v1 X = some (r0, X0)) : Met l yX8_canWithdraw (Cond.code yX8_canWithdraw cX8_canWithdraw 3 (some .boolean) :: m_tbl) rm_X8_canWithdraw (va_Pc [.ref (a 0), .int v1] (m_PX D (m_tc cy) (m_WM a cy) m_ZM X)) (m_QI D (m_WM a cy) (m_AM a) r0 X0) 0 0 (m_AM a) := by
  refine m_met (own := RX8) hy_X8_canWithdraw rfl (Nat.le_of_ble_eq_true rfl) (m_wl_D hG _) m_ZM_keep ?_
  intro p e s m args below meth c C ls hl hP hS
  have hx := C.1.1
  have hb := C.1.2.1
  have hl : lv_has ls 3 [(0, .ref (a 0)), (1, .int v1)] := hl
  unfold f_X8_canWithdraw at hf0
  suffices K : ∀ (H : Heap) (locs : List Loc), va_P D vwCl (m_WM a cy X) H → va_S (m_AM a) s.heap H locs → W p l e rm_X8_canWithdraw s m args below meth c H locs 0 0 (MQ below (m_QI D (m_WM a cy) (m_AM a) r0 X0) args s 0 0 (m_AM a)) (F0 m 0 ls []) from K _ _ hP hS
  clear hP hS
  intro H locs hP hS
  refine lv_aload_n hx hb dX8_canWithdraw_0 rfl (lv_at hl 0 rfl) ?_
  refine lv_iload_n hx hb dX8_canWithdraw_1 rfl (lv_at hl 1 rfl) ?_
  obtain ⟨r_1, X_1, h_1, hf2⟩ := m_bi_s hf0
  clear hf0
  refine m_callVi (q := (RX8, TX8, 13)) C [.int v1] [] (c_X8_openOf l D a cy hG N _ _ h_1) (m_goodV wl_X8_96 wi_X8_openOf ws_X8_openOf wn_X8 wc_X8_openOf) ⟨rfl, rfl⟩ hv_X8_openOf ⟨Nat.le_of_ble_eq_true rfl, Nat.le_of_ble_eq_true rfl⟩ rfl mM_0 hP hS rfl hl.1 rfl (Nat.le_of_ble_eq_true rfl) dX8_canWithdraw_2 (fun H locs hP hS => ?_)
  refine lv_istore_n (lv' := [(2, .int r_1), (0, .ref (a 0)), (1, .int v1)]) hx hb dX8_canWithdraw_5 rfl hl (by decide) rfl (fun ls hl => ?_)
  refine lv_iload_n hx hb dX8_canWithdraw_6 rfl (lv_at hl 0 rfl) ?_
  refine lv_bipush (v := (-5)) hx hb dX8_canWithdraw_7 (by decide) ?_
  refine lv_icmp_eq (tgt := 26) hx hb dX8_canWithdraw_9 (by decide) (fun c_3 => ?_) (fun c_3 => ?_)
  · have hf4 := m_it c_3 hf2
    clear hf2
    refine lv_iconst (v := 0) hx hb dX8_canWithdraw_26 (by decide) ?_
    exact m_zret C hP hS dX8_canWithdraw_27 (by decide) hf4
  · have hf5 := m_ie c_3 hf2
    clear hf2
    refine lv_aload_n hx hb dX8_canWithdraw_12 rfl (lv_at hl 1 rfl) ?_
    refine lv_iload_n hx hb dX8_canWithdraw_13 rfl (lv_at hl 0 rfl) ?_
    refine lv_iconst (v := 3) hx hb dX8_canWithdraw_14 (by decide) ?_
    obtain ⟨r_6, X_6, h_6, hf7⟩ := m_bi_s hf5
    clear hf5
    refine m_callVi (q := (RX8, TX8, 13)) C [.int r_1, .int 3] [] (c_X8_of l D a cy hG N _ _ _ h_6) (m_goodV wl_X8_40 wi_X8_of ws_X8_of wn_X8 wc_X8_of) ⟨rfl, rfl⟩ hv_X8_of ⟨Nat.le_of_ble_eq_true rfl, Nat.le_of_ble_eq_true rfl⟩ rfl mM_0 hP hS rfl hl.1 rfl (Nat.le_of_ble_eq_true rfl) dX8_canWithdraw_15 (fun H locs hP hS => ?_)
    refine lv_iconst (v := 1) hx hb dX8_canWithdraw_18 (by decide) ?_
    refine lv_icmp_ne (tgt := 26) hx hb dX8_canWithdraw_19 (by decide) (fun c_8 => ?_) (fun c_8 => ?_)
    · have hf9 := m_ie c_8 hf7
      clear hf7
      refine lv_iconst (v := 0) hx hb dX8_canWithdraw_26 (by decide) ?_
      exact m_zret C hP hS dX8_canWithdraw_27 (by decide) hf9
    · have hf10 := m_it c_8 hf7
      clear hf7
      refine lv_iconst (v := 1) hx hb dX8_canWithdraw_22 (by decide) ?_
      refine lv_goto (tgt := 27) hx hb dX8_canWithdraw_23 (by decide) ?_
      exact m_zret C hP hS dX8_canWithdraw_27 (by decide) hf10
abbrev rm_X8_doesWithdraw : Room := { frames := 4, cells := 0, slots := 0, locals := 92 }
def f_X8_doesWithdraw (N : Nat) (v1 : Int32) (X : XT) : Option (Int32 × XT) := m_bi (f_X8_openOf N v1 X) fun r_1 X_1 => m_bv (f_X8_takeOut N r_1 6 X_1) fun X_3 => m_gd (m_in 12 1816) <| m_nm (X_3 1 (Int32.toNatClampNeg 12)) fun y_5 => m_nm (y_5 + 1) fun y_8 => m_gd (m_in 12 1816) <| m_nm (m_up X_3 1 (upd (X_3 1) (Int32.toNatClampNeg 12) y_8)) fun X_10 => m_bi (f_X8_of N r_1 6 X_10) fun r_13 X_13 => m_bi (f_X8_members N r_13 X_13) fun r_15 X_15 => some (r_15, X_15)
set_option maxHeartbeats 4000000 in
set_option maxRecDepth 100000 in
theorem c_X8_doesWithdraw (l : Launch) (D : va_G) (a : Nat → Nat) (cy : Nat → ClassId) (hG : m_inj 6 a) (N : Nat) (v1 : Int32) (X : XT) {r0 : Int32} {X0 : XT} (hf0 : f_X8_doesWithdraw N v1 X = some (r0, X0)) : Met l yX8_doesWithdraw (Cond.code yX8_doesWithdraw cX8_doesWithdraw 3 (some .int) :: m_tbl) rm_X8_doesWithdraw (va_Pc [.ref (a 0), .int v1] (m_PX D (m_tc cy) (m_WM a cy) m_ZM X)) (m_QI D (m_WM a cy) (m_AM a) r0 X0) 0 0 (m_AM a) := by
  refine m_met (own := RX8) hy_X8_doesWithdraw rfl (Nat.le_of_ble_eq_true rfl) (m_wl_D hG _) m_ZM_keep ?_
  intro p e s m args below meth c C ls hl hP hS
  have hx := C.1.1
  have hb := C.1.2.1
  have hl : lv_has ls 3 [(0, .ref (a 0)), (1, .int v1)] := hl
  unfold f_X8_doesWithdraw at hf0
  suffices K : ∀ (H : Heap) (locs : List Loc), va_P D vwCl (m_WM a cy X) H → va_S (m_AM a) s.heap H locs → W p l e rm_X8_doesWithdraw s m args below meth c H locs 0 0 (MQ below (m_QI D (m_WM a cy) (m_AM a) r0 X0) args s 0 0 (m_AM a)) (F0 m 0 ls []) from K _ _ hP hS
  clear hP hS
  intro H locs hP hS
  refine lv_aload_n hx hb dX8_doesWithdraw_0 rfl (lv_at hl 0 rfl) ?_
  refine lv_iload_n hx hb dX8_doesWithdraw_1 rfl (lv_at hl 1 rfl) ?_
  obtain ⟨r_1, X_1, h_1, hf2⟩ := m_bi_s hf0
  clear hf0
  refine m_callVi (q := (RX8, TX8, 13)) C [.int v1] [] (c_X8_openOf l D a cy hG N _ _ h_1) (m_goodV wl_X8_96 wi_X8_openOf ws_X8_openOf wn_X8 wc_X8_openOf) ⟨rfl, rfl⟩ hv_X8_openOf ⟨Nat.le_of_ble_eq_true rfl, Nat.le_of_ble_eq_true rfl⟩ rfl mM_0 hP hS rfl hl.1 rfl (Nat.le_of_ble_eq_true rfl) dX8_doesWithdraw_2 (fun H locs hP hS => ?_)
  refine lv_istore_n (lv' := [(2, .int r_1), (0, .ref (a 0)), (1, .int v1)]) hx hb dX8_doesWithdraw_5 rfl hl (by decide) rfl (fun ls hl => ?_)
  refine lv_aload_n hx hb dX8_doesWithdraw_6 rfl (lv_at hl 1 rfl) ?_
  refine lv_iload_n hx hb dX8_doesWithdraw_7 rfl (lv_at hl 0 rfl) ?_
  refine lv_bipush (v := 6) hx hb dX8_doesWithdraw_8 (by decide) ?_
  obtain ⟨X_3, h_3, hf4⟩ := m_bv_s hf2
  clear hf2
  refine m_callVv (q := (RX8, TX8, 13)) C [.int r_1, .int 6] [] (c_X8_takeOut l D a cy hG N _ _ _ h_3) (m_goodV wl_X8_102 wi_X8_takeOut ws_X8_takeOut wn_X8 wc_X8_takeOut) ⟨rfl, rfl⟩ hv_X8_takeOut ⟨Nat.le_of_ble_eq_true rfl, Nat.le_of_ble_eq_true rfl⟩ rfl mM_0 hP hS rfl hl.1 rfl (Nat.le_of_ble_eq_true rfl) dX8_doesWithdraw_10 (fun H locs hP hS => ?_)
  refine lv_aload_n hx hb dX8_doesWithdraw_13 rfl (lv_at hl 1 rfl) ?_
  refine m_get C hP mM_0 rfl inX8 0 (by decide) wf_X8_7 rfl dX8_doesWithdraw_14 ?_
  refine lv_bipush (v := 12) hx hb dX8_doesWithdraw_17 (by decide) ?_
  refine lv_dup2_11 hx hb dX8_doesWithdraw_19 rfl rfl ?_
  obtain ⟨g_5, hf6⟩ := m_gd_s hf4
  clear hf4
  refine m_ild C hP mM_1 0 rfl g_5 dX8_doesWithdraw_20 (fun y_5 e_5 => ?_)
  have hf7 := m_nm_s e_5 hf6
  clear hf6
  refine lv_iconst (v := 1) hx hb dX8_doesWithdraw_21 (by decide) ?_
  refine lv_iadd hx hb dX8_doesWithdraw_22 ?_
  refine lv_topi (fun y_8 e_8 => ?_)
  have hf9 := m_nm_s e_8 hf7
  clear hf7
  obtain ⟨g_10, hf11⟩ := m_gd_s hf9
  clear hf9
  refine m_ist C hP hS mM_1 0 rfl g_10 mMs_1 dX8_doesWithdraw_23 (fun X_10 e_10 H locs hP hS => ?_)
  have hf12 := m_nm_s e_10 hf11
  clear hf11
  refine lv_aload_n hx hb dX8_doesWithdraw_24 rfl (lv_at hl 1 rfl) ?_
  refine lv_aload_n hx hb dX8_doesWithdraw_25 rfl (lv_at hl 1 rfl) ?_
  refine lv_iload_n hx hb dX8_doesWithdraw_26 rfl (lv_at hl 0 rfl) ?_
  refine lv_bipush (v := 6) hx hb dX8_doesWithdraw_27 (by decide) ?_
  obtain ⟨r_13, X_13, h_13, hf14⟩ := m_bi_s hf12
  clear hf12
  refine m_callVi (q := (RX8, TX8, 13)) C [.int r_1, .int 6] [.ref (a 0)] (c_X8_of l D a cy hG N _ _ _ h_13) (m_goodV wl_X8_40 wi_X8_of ws_X8_of wn_X8 wc_X8_of) ⟨rfl, rfl⟩ hv_X8_of ⟨Nat.le_of_ble_eq_true rfl, Nat.le_of_ble_eq_true rfl⟩ rfl mM_0 hP hS rfl hl.1 rfl (Nat.le_of_ble_eq_true rfl) dX8_doesWithdraw_29 (fun H locs hP hS => ?_)
  obtain ⟨r_15, X_15, h_15, hf16⟩ := m_bi_s hf14
  clear hf14
  refine m_callVi (q := (RX8, TX8, 13)) C [.int r_13] [] (c_X8_members l D a cy hG N _ _ h_15) (m_goodV wl_X8_68 wi_X8_members ws_X8_members wn_X8 wc_X8_members) ⟨rfl, rfl⟩ hv_X8_members ⟨Nat.le_of_ble_eq_true rfl, Nat.le_of_ble_eq_true rfl⟩ rfl mM_0 hP hS rfl hl.1 rfl (Nat.le_of_ble_eq_true rfl) dX8_doesWithdraw_32 (fun H locs hP hS => ?_)
  exact m_iret C hP hS dX8_doesWithdraw_35 hf16
abbrev rm_X8_doesCrash : Room := { frames := 3, cells := 0, slots := 0, locals := 68 }
def f_X8_doesCrash_47 (N : Nat) (v1 : Int32) (X : XT) : Option (Int32 × XT) := m_gd (m_in 8 1816) <| m_nm (m_up X 1 (upd (X 1) (Int32.toNatClampNeg 8) (-5))) fun X_7 => m_gd (m_in 9 1816) <| m_nm (m_up X_7 1 (upd (X_7 1) (Int32.toNatClampNeg 9) (-5))) fun X_10 => m_gd (m_in 11 1816) <| m_nm (X_10 1 (Int32.toNatClampNeg 11)) fun y_13 => m_nm (y_13 + v1) fun y_16 => m_gd (m_in 11 1816) <| m_nm (m_up X_10 1 (upd (X_10 1) (Int32.toNatClampNeg 11) y_16)) fun X_18 => some (v1, X_18)
set_option maxHeartbeats 4000000 in
set_option maxRecDepth 100000 in
theorem w_X8_doesCrash_47 (l : Launch) (D : va_G) (a : Nat → Nat) (cy : Nat → ClassId) (hG : m_inj 6 a) (N : Nat) {p : Program} {e : Env} {s : State} {m : MethodId} {args : Array Value} {below : List Frame} {meth : Method} {c : Code} (C : m_Cx p s m args meth c cX8_doesCrash 3 RX8 (some .int) (Cond.code yX8_doesCrash cX8_doesCrash 3 (some .int)) D (m_tc cy) (m_AM a) (m_WM a cy) m_ZM) {r0 : Int32} {X0 : XT} (v1 : Int32) (X : XT) (hf0 : f_X8_doesCrash_47 N v1 X = some (r0, X0)) : ∀ (H : Heap) (locs : List Loc) (ls : Array Slot), va_P D vwCl (m_WM a cy X) H → va_S (m_AM a) s.heap H locs → lv_has ls 3 [(0, .ref (a 0)), (1, .int v1)] → W p l e rm_X8_doesCrash s m args below meth c H locs 0 0 (MQ below (m_QI D (m_WM a cy) (m_AM a) r0 X0) args s 0 0 (m_AM a)) (F0 m 47 ls []) := by
  have hx := C.1.1
  have hb := C.1.2.1
  intro H locs ls hP hS hl
  unfold f_X8_doesCrash_47 at hf0
  refine lv_aload_n hx hb dX8_doesCrash_47 rfl (lv_at hl 0 rfl) ?_
  refine m_get C hP mM_0 rfl inX8 0 (by decide) wf_X8_7 rfl dX8_doesCrash_48 ?_
  refine lv_bipush (v := 8) hx hb dX8_doesCrash_51 (by decide) ?_
  refine lv_bipush (v := (-5)) hx hb dX8_doesCrash_53 (by decide) ?_
  obtain ⟨g_7, hf8⟩ := m_gd_s hf0
  clear hf0
  refine m_ist C hP hS mM_1 0 rfl g_7 mMs_1 dX8_doesCrash_55 (fun X_7 e_7 H locs hP hS => ?_)
  have hf9 := m_nm_s e_7 hf8
  clear hf8
  refine lv_aload_n hx hb dX8_doesCrash_56 rfl (lv_at hl 0 rfl) ?_
  refine m_get C hP mM_0 rfl inX8 0 (by decide) wf_X8_7 rfl dX8_doesCrash_57 ?_
  refine lv_bipush (v := 9) hx hb dX8_doesCrash_60 (by decide) ?_
  refine lv_bipush (v := (-5)) hx hb dX8_doesCrash_62 (by decide) ?_
  obtain ⟨g_10, hf11⟩ := m_gd_s hf9
  clear hf9
  refine m_ist C hP hS mM_1 0 rfl g_10 mMs_1 dX8_doesCrash_64 (fun X_10 e_10 H locs hP hS => ?_)
  have hf12 := m_nm_s e_10 hf11
  clear hf11
  refine lv_aload_n hx hb dX8_doesCrash_65 rfl (lv_at hl 0 rfl) ?_
  refine m_get C hP mM_0 rfl inX8 0 (by decide) wf_X8_7 rfl dX8_doesCrash_66 ?_
  refine lv_bipush (v := 11) hx hb dX8_doesCrash_69 (by decide) ?_
  refine lv_dup2_11 hx hb dX8_doesCrash_71 rfl rfl ?_
  obtain ⟨g_13, hf14⟩ := m_gd_s hf12
  clear hf12
  refine m_ild C hP mM_1 0 rfl g_13 dX8_doesCrash_72 (fun y_13 e_13 => ?_)
  have hf15 := m_nm_s e_13 hf14
  clear hf14
  refine lv_iload_n hx hb dX8_doesCrash_73 rfl (lv_at hl 1 rfl) ?_
  refine lv_iadd hx hb dX8_doesCrash_74 ?_
  refine lv_topi (fun y_16 e_16 => ?_)
  have hf17 := m_nm_s e_16 hf15
  clear hf15
  obtain ⟨g_18, hf19⟩ := m_gd_s hf17
  clear hf17
  refine m_ist C hP hS mM_1 0 rfl g_18 mMs_1 dX8_doesCrash_75 (fun X_18 e_18 H locs hP hS => ?_)
  have hf20 := m_nm_s e_18 hf19
  clear hf19
  refine lv_iload_n hx hb dX8_doesCrash_76 rfl (lv_at hl 1 rfl) ?_
  exact m_iret C hP hS dX8_doesCrash_77 hf20
def f_X8_doesCrash_4 (N : Nat) : Nat → Int32 → Int32 → XT → Option (Int32 × XT)
  | 0, _, _, _ => none
  | n + 1, v1, v2, X => m_gd (m_in 7 1816) <| m_nm (X 1 (Int32.toNatClampNeg 7)) fun y_1 => if y_1 ≤ v2 then (f_X8_doesCrash_47 N v1 X) else (m_bi (f_X8_ofGroup N v2 0 X) fun r_21 X_21 => if 4 ≤ r_21 then (m_nm (v2 + 1) fun y_26 => f_X8_doesCrash_4 N n v1 y_26 X_21) else (m_bi (f_X8_turnMembers N v2 5 X_21) fun r_28 X_28 => m_nm (v1 + r_28) fun y_30 => m_bv (f_X8_setGroup N v2 0 5 X_28) fun X_32 => m_nm (v2 + 1) fun y_34 => f_X8_doesCrash_4 N n y_30 y_34 X_32))
set_option maxHeartbeats 4000000 in
set_option maxRecDepth 100000 in
theorem w_X8_doesCrash_4 (l : Launch) (D : va_G) (a : Nat → Nat) (cy : Nat → ClassId) (hG : m_inj 6 a) (N : Nat) {p : Program} {e : Env} {s : State} {m : MethodId} {args : Array Value} {below : List Frame} {meth : Method} {c : Code} (C : m_Cx p s m args meth c cX8_doesCrash 3 RX8 (some .int) (Cond.code yX8_doesCrash cX8_doesCrash 3 (some .int)) D (m_tc cy) (m_AM a) (m_WM a cy) m_ZM) {r0 : Int32} {X0 : XT} : ∀ (n : Nat) (v1 : Int32) (v2 : Int32) (X : XT), f_X8_doesCrash_4 N n v1 v2 X = some (r0, X0) → ∀ (H : Heap) (locs : List Loc) (ls : Array Slot), va_P D vwCl (m_WM a cy X) H → va_S (m_AM a) s.heap H locs → lv_has ls 3 [(0, .ref (a 0)), (1, .int v1), (2, .int v2)] → W p l e rm_X8_doesCrash s m args below meth c H locs 0 0 (MQ below (m_QI D (m_WM a cy) (m_AM a) r0 X0) args s 0 0 (m_AM a)) (F0 m 4 ls []) := by
  have hx := C.1.1
  have hb := C.1.2.1
  intro n
  induction n with
  | zero => intro v1 v2 X hf0; rw [f_X8_doesCrash_4] at hf0; cases hf0
  | succ n ih =>
    intro v1 v2 X hf0 H locs ls hP hS hl
    rw [f_X8_doesCrash_4] at hf0
    refine lv_iload_n hx hb dX8_doesCrash_4 rfl (lv_at hl 2 rfl) ?_
    refine lv_aload_n hx hb dX8_doesCrash_5 rfl (lv_at hl 0 rfl) ?_
    refine m_get C hP mM_0 rfl inX8 0 (by decide) wf_X8_7 rfl dX8_doesCrash_6 ?_
    refine lv_bipush (v := 7) hx hb dX8_doesCrash_9 (by decide) ?_
    obtain ⟨g_1, hf2⟩ := m_gd_s hf0
    clear hf0
    refine m_ild C hP mM_1 0 rfl g_1 dX8_doesCrash_11 (fun y_1 e_1 => ?_)
    have hf3 := m_nm_s e_1 hf2
    clear hf2
    refine lv_icmp_ge (tgt := 47) hx hb dX8_doesCrash_12 (by decide) (fun c_4 => ?_) (fun c_4 => ?_)
    · have hf5 := m_it c_4 hf3
      clear hf3
      exact w_X8_doesCrash_47 l D a cy hG N C _ _ hf5 H locs ls hP hS (lv_sub hl [0, 1] rfl)
    · have hf6 := m_ie c_4 hf3
      clear hf3
      refine lv_aload_n hx hb dX8_doesCrash_15 rfl (lv_at hl 0 rfl) ?_
      refine lv_iload_n hx hb dX8_doesCrash_16 rfl (lv_at hl 2 rfl) ?_
      refine lv_iconst (v := 0) hx hb dX8_doesCrash_17 (by decide) ?_
      obtain ⟨r_21, X_21, h_21, hf22⟩ := m_bi_s hf6
      clear hf6
      refine m_callVi (q := (RX8, TX8, 13)) C [.int v2, .int 0] [] (c_X8_ofGroup l D a cy hG N _ _ _ h_21) (m_goodV wl_X8_52 wi_X8_ofGroup ws_X8_ofGroup wn_X8 wc_X8_ofGroup) ⟨rfl, rfl⟩ hv_X8_ofGroup ⟨Nat.le_of_ble_eq_true rfl, Nat.le_of_ble_eq_true rfl⟩ rfl mM_0 hP hS rfl hl.1 rfl (Nat.le_of_ble_eq_true rfl) dX8_doesCrash_18 (fun H locs hP hS => ?_)
      refine lv_iconst (v := 4) hx hb dX8_doesCrash_21 (by decide) ?_
      refine lv_icmp_ge (tgt := 41) hx hb dX8_doesCrash_22 (by decide) (fun c_23 => ?_) (fun c_23 => ?_)
      · have hf24 := m_it c_23 hf22
        clear hf22
        obtain ⟨y_26, e_26⟩ : ∃ y : Int32, y = v2 + 1 := ⟨_, rfl⟩
        refine lv_iinc (v := y_26) (lv' := [(2, .int y_26), (0, .ref (a 0)), (1, .int v1)]) hx hb dX8_doesCrash_41 hl (k := 2) rfl (by rw [e_26]; rfl) (by decide) rfl (fun ls hl => ?_)
        have hf27 := m_nm_s e_26 hf24
        clear hf24
        refine lv_goto (tgt := 4) hx hb dX8_doesCrash_44 (by decide) ?_
        exact ih _ _ _ hf27 H locs ls hP hS (lv_sub hl [1, 2, 0] rfl)
      · have hf25 := m_ie c_23 hf22
        clear hf22
        refine lv_iload_n hx hb dX8_doesCrash_25 rfl (lv_at hl 1 rfl) ?_
        refine lv_aload_n hx hb dX8_doesCrash_26 rfl (lv_at hl 0 rfl) ?_
        refine lv_iload_n hx hb dX8_doesCrash_27 rfl (lv_at hl 2 rfl) ?_
        refine lv_iconst (v := 5) hx hb dX8_doesCrash_28 (by decide) ?_
        obtain ⟨r_28, X_28, h_28, hf29⟩ := m_bi_s hf25
        clear hf25
        refine m_callVi (q := (RX8, TX8, 13)) C [.int v2, .int 5] [.int v1] (c_X8_turnMembers l D a cy hG N _ _ _ h_28) (m_goodV wl_X8_65 wi_X8_turnMembers ws_X8_turnMembers wn_X8 wc_X8_turnMembers) ⟨rfl, rfl⟩ hv_X8_turnMembers ⟨Nat.le_of_ble_eq_true rfl, Nat.le_of_ble_eq_true rfl⟩ rfl mM_0 hP hS rfl hl.1 rfl (Nat.le_of_ble_eq_true rfl) dX8_doesCrash_29 (fun H locs hP hS => ?_)
        refine lv_iadd hx hb dX8_doesCrash_32 ?_
        refine lv_topi (fun y_30 e_30 => ?_)
        have hf31 := m_nm_s e_30 hf29
        clear hf29
        refine lv_istore_n (lv' := [(1, .int y_30), (0, .ref (a 0)), (2, .int v2)]) hx hb dX8_doesCrash_33 rfl hl (by decide) rfl (fun ls hl => ?_)
        refine lv_aload_n hx hb dX8_doesCrash_34 rfl (lv_at hl 1 rfl) ?_
        refine lv_iload_n hx hb dX8_doesCrash_35 rfl (lv_at hl 2 rfl) ?_
        refine lv_iconst (v := 0) hx hb dX8_doesCrash_36 (by decide) ?_
        refine lv_iconst (v := 5) hx hb dX8_doesCrash_37 (by decide) ?_
        obtain ⟨X_32, h_32, hf33⟩ := m_bv_s hf31
        clear hf31
        refine m_callVv (q := (RX8, TX8, 13)) C [.int v2, .int 0, .int 5] [] (c_X8_setGroup l D a cy hG N _ _ _ _ h_32) (m_goodV wl_X8_59 wi_X8_setGroup ws_X8_setGroup wn_X8 wc_X8_setGroup) ⟨rfl, rfl⟩ hv_X8_setGroup ⟨Nat.le_of_ble_eq_true rfl, Nat.le_of_ble_eq_true rfl⟩ rfl mM_0 hP hS rfl hl.1 rfl (Nat.le_of_ble_eq_true rfl) dX8_doesCrash_38 (fun H locs hP hS => ?_)
        obtain ⟨y_34, e_34⟩ : ∃ y : Int32, y = v2 + 1 := ⟨_, rfl⟩
        refine lv_iinc (v := y_34) (lv' := [(2, .int y_34), (1, .int y_30), (0, .ref (a 0))]) hx hb dX8_doesCrash_41 hl (k := 2) rfl (by rw [e_34]; rfl) (by decide) rfl (fun ls hl => ?_)
        have hf35 := m_nm_s e_34 hf33
        clear hf33
        refine lv_goto (tgt := 4) hx hb dX8_doesCrash_44 (by decide) ?_
        exact ih _ _ _ hf35 H locs ls hP hS (lv_sub hl [2, 1, 0] rfl)
def f_X8_doesCrash (N : Nat) (X : XT) : Option (Int32 × XT) := f_X8_doesCrash_4 N N 0 0 X
set_option maxHeartbeats 4000000 in
set_option maxRecDepth 100000 in
theorem c_X8_doesCrash (l : Launch) (D : va_G) (a : Nat → Nat) (cy : Nat → ClassId) (hG : m_inj 6 a) (N : Nat) (X : XT) {r0 : Int32} {X0 : XT} (hf0 : f_X8_doesCrash N X = some (r0, X0)) : Met l yX8_doesCrash (Cond.code yX8_doesCrash cX8_doesCrash 3 (some .int) :: m_tbl) rm_X8_doesCrash (va_Pc [.ref (a 0)] (m_PX D (m_tc cy) (m_WM a cy) m_ZM X)) (m_QI D (m_WM a cy) (m_AM a) r0 X0) 0 0 (m_AM a) := by
  refine m_met (own := RX8) hy_X8_doesCrash rfl (Nat.le_of_ble_eq_true rfl) (m_wl_D hG _) m_ZM_keep ?_
  intro p e s m args below meth c C ls hl hP hS
  have hx := C.1.1
  have hb := C.1.2.1
  have hl : lv_has ls 3 [(0, .ref (a 0))] := hl
  unfold f_X8_doesCrash at hf0
  suffices K : ∀ (H : Heap) (locs : List Loc), va_P D vwCl (m_WM a cy X) H → va_S (m_AM a) s.heap H locs → W p l e rm_X8_doesCrash s m args below meth c H locs 0 0 (MQ below (m_QI D (m_WM a cy) (m_AM a) r0 X0) args s 0 0 (m_AM a)) (F0 m 0 ls []) from K _ _ hP hS
  clear hP hS
  intro H locs hP hS
  refine lv_iconst (v := 0) hx hb dX8_doesCrash_0 (by decide) ?_
  refine lv_istore_n (lv' := [(1, .int 0), (0, .ref (a 0))]) hx hb dX8_doesCrash_1 rfl hl (by decide) rfl (fun ls hl => ?_)
  refine lv_iconst (v := 0) hx hb dX8_doesCrash_2 (by decide) ?_
  refine lv_istore_n (lv' := [(2, .int 0), (1, .int 0), (0, .ref (a 0))]) hx hb dX8_doesCrash_3 rfl hl (by decide) rfl (fun ls hl => ?_)
  exact w_X8_doesCrash_4 l D a cy hG N C _ _ _ _ hf0 H locs ls hP hS (lv_sub hl [2, 1, 0] rfl)
abbrev rm_X8_submit : Room := { frames := 6, cells := 0, slots := 0, locals := 139 }
def f_X8_submit (N : Nat) (v1 : Int32) (v2 : Int32) (v3 : Int32) (X : XT) : Option (Int32 × XT) := m_bi (f_X8_whyNotSubmitted N v1 v2 X) fun r_1 X_1 => if r_1 = 0 then (m_bv (f_X8_record N X_1) fun X_6 => m_bi (f_X8_doesSubmit N v1 v2 v3 X_6) fun r_8 X_8 => some (r_8, X_8)) else (some (r_1, X_1))
set_option maxHeartbeats 4000000 in
set_option maxRecDepth 100000 in
theorem c_X8_submit (l : Launch) (D : va_G) (a : Nat → Nat) (cy : Nat → ClassId) (hG : m_inj 6 a) (N : Nat) (v1 : Int32) (v2 : Int32) (v3 : Int32) (X : XT) {r0 : Int32} {X0 : XT} (hf0 : f_X8_submit N v1 v2 v3 X = some (r0, X0)) : Met l yX8_submit (Cond.code yX8_submit cX8_submit 5 (some .int) :: m_tbl) rm_X8_submit (va_Pc [.ref (a 0), .int v1, .int v2, .int v3] (m_PX D (m_tc cy) (m_WM a cy) m_ZM X)) (m_QI D (m_WM a cy) (m_AM a) r0 X0) 0 0 (m_AM a) := by
  refine m_met (own := RX8) hy_X8_submit rfl (Nat.le_of_ble_eq_true rfl) (m_wl_D hG _) m_ZM_keep ?_
  intro p e s m args below meth c C ls hl hP hS
  have hx := C.1.1
  have hb := C.1.2.1
  have hl : lv_has ls 5 [(0, .ref (a 0)), (1, .int v1), (2, .int v2), (3, .int v3)] := hl
  unfold f_X8_submit at hf0
  suffices K : ∀ (H : Heap) (locs : List Loc), va_P D vwCl (m_WM a cy X) H → va_S (m_AM a) s.heap H locs → W p l e rm_X8_submit s m args below meth c H locs 0 0 (MQ below (m_QI D (m_WM a cy) (m_AM a) r0 X0) args s 0 0 (m_AM a)) (F0 m 0 ls []) from K _ _ hP hS
  clear hP hS
  intro H locs hP hS
  refine lv_aload_n hx hb dX8_submit_0 rfl (lv_at hl 0 rfl) ?_
  refine lv_iload_n hx hb dX8_submit_1 rfl (lv_at hl 1 rfl) ?_
  refine lv_iload_n hx hb dX8_submit_2 rfl (lv_at hl 2 rfl) ?_
  obtain ⟨r_1, X_1, h_1, hf2⟩ := m_bi_s hf0
  clear hf0
  refine m_callVi (q := (RX8, TX8, 13)) C [.int v1, .int v2] [] (c_X8_whyNotSubmitted l D a cy hG N _ _ _ h_1) (m_goodV wl_X8_106 wi_X8_whyNotSubmitted ws_X8_whyNotSubmitted wn_X8 wc_X8_whyNotSubmitted) ⟨rfl, rfl⟩ hv_X8_whyNotSubmitted ⟨Nat.le_of_ble_eq_true rfl, Nat.le_of_ble_eq_true rfl⟩ rfl mM_0 hP hS rfl hl.1 rfl (Nat.le_of_ble_eq_true rfl) dX8_submit_3 (fun H locs hP hS => ?_)
  refine lv_istore (lv' := [(4, .int r_1), (0, .ref (a 0)), (1, .int v1), (2, .int v2), (3, .int v3)]) hx hb dX8_submit_6 hl (by decide) rfl (fun ls hl => ?_)
  refine lv_iload hx hb dX8_submit_8 (lv_at hl 0 rfl) ?_
  refine lv_if_eq (tgt := 16) hx hb dX8_submit_10 (by decide) (fun c_3 => ?_) (fun c_3 => ?_)
  · have hf4 := m_it c_3 hf2
    clear hf2
    refine lv_aload_n hx hb dX8_submit_16 rfl (lv_at hl 1 rfl) ?_
    obtain ⟨X_6, h_6, hf7⟩ := m_bv_s hf4
    clear hf4
    refine m_callVv (q := (RX8, TX8, 13)) C [] [] (c_X8_record l D a cy hG N _ h_6) (m_goodV wl_X8_37 wi_X8_record ws_X8_record wn_X8 wc_X8_record) ⟨rfl, rfl⟩ hv_X8_record ⟨Nat.le_of_ble_eq_true rfl, Nat.le_of_ble_eq_true rfl⟩ rfl mM_0 hP hS rfl hl.1 rfl (Nat.le_of_ble_eq_true rfl) dX8_submit_17 (fun H locs hP hS => ?_)
    refine lv_aload_n hx hb dX8_submit_20 rfl (lv_at hl 1 rfl) ?_
    refine lv_iload_n hx hb dX8_submit_21 rfl (lv_at hl 2 rfl) ?_
    refine lv_iload_n hx hb dX8_submit_22 rfl (lv_at hl 3 rfl) ?_
    refine lv_iload_n hx hb dX8_submit_23 rfl (lv_at hl 4 rfl) ?_
    obtain ⟨r_8, X_8, h_8, hf9⟩ := m_bi_s hf7
    clear hf7
    refine m_callVi (q := (RX8, TX8, 13)) C [.int v1, .int v2, .int v3] [] (c_X8_doesSubmit l D a cy hG N _ _ _ _ h_8) (m_goodV wl_X8_109 wi_X8_doesSubmit ws_X8_doesSubmit wn_X8 wc_X8_doesSubmit) ⟨rfl, rfl⟩ hv_X8_doesSubmit ⟨Nat.le_of_ble_eq_true rfl, Nat.le_of_ble_eq_true rfl⟩ rfl mM_0 hP hS rfl hl.1 rfl (Nat.le_of_ble_eq_true rfl) dX8_submit_24 (fun H locs hP hS => ?_)
    exact m_iret C hP hS dX8_submit_27 hf9
  · have hf5 := m_ie c_3 hf2
    clear hf2
    refine lv_iload hx hb dX8_submit_13 (lv_at hl 0 rfl) ?_
    exact m_iret C hP hS dX8_submit_15 hf5
abbrev rm_X8_fail : Room := { frames := 5, cells := 0, slots := 0, locals := 114 }
def f_X8_fail (N : Nat) (v1 : Int32) (X : XT) : Option (Int32 × XT) := m_bi (f_X8_isClient N v1 X) fun r_1 X_1 => if r_1 = 0 then (some ((-1), X_1)) else (m_bv (f_X8_record N X_1) fun X_6 => m_bi (f_X8_doesFail N v1 X_6) fun r_8 X_8 => some (r_8, X_8))
set_option maxHeartbeats 4000000 in
set_option maxRecDepth 100000 in
theorem c_X8_fail (l : Launch) (D : va_G) (a : Nat → Nat) (cy : Nat → ClassId) (hG : m_inj 6 a) (N : Nat) (v1 : Int32) (X : XT) {r0 : Int32} {X0 : XT} (hf0 : f_X8_fail N v1 X = some (r0, X0)) : Met l yX8_fail (Cond.code yX8_fail cX8_fail 2 (some .int) :: m_tbl) rm_X8_fail (va_Pc [.ref (a 0), .int v1] (m_PX D (m_tc cy) (m_WM a cy) m_ZM X)) (m_QI D (m_WM a cy) (m_AM a) r0 X0) 0 0 (m_AM a) := by
  refine m_met (own := RX8) hy_X8_fail rfl (Nat.le_of_ble_eq_true rfl) (m_wl_D hG _) m_ZM_keep ?_
  intro p e s m args below meth c C ls hl hP hS
  have hx := C.1.1
  have hb := C.1.2.1
  have hl : lv_has ls 2 [(0, .ref (a 0)), (1, .int v1)] := hl
  unfold f_X8_fail at hf0
  suffices K : ∀ (H : Heap) (locs : List Loc), va_P D vwCl (m_WM a cy X) H → va_S (m_AM a) s.heap H locs → W p l e rm_X8_fail s m args below meth c H locs 0 0 (MQ below (m_QI D (m_WM a cy) (m_AM a) r0 X0) args s 0 0 (m_AM a)) (F0 m 0 ls []) from K _ _ hP hS
  clear hP hS
  intro H locs hP hS
  refine lv_iload_n hx hb dX8_fail_0 rfl (lv_at hl 1 rfl) ?_
  obtain ⟨r_1, X_1, h_1, hf2⟩ := m_bi_s hf0
  clear hf0
  refine m_callSi C [.int v1] [] (c_X8_isClient l D a cy hG N _ _ h_1) (m_goodS wl_X8_92 wst_X8_isClient wn_X8 wc_X8_isClient) ⟨rfl, rfl⟩ hv_X8_isClient ⟨Nat.le_of_ble_eq_true rfl, Nat.le_of_ble_eq_true rfl⟩ hP hS rfl hl.1 rfl (Nat.le_of_ble_eq_true rfl) dX8_fail_1 (fun H locs hP hS => ?_)
  refine lv_if_ne (tgt := 9) hx hb dX8_fail_4 (by decide) (fun c_3 => ?_) (fun c_3 => ?_)
  · have hf4 := m_ie c_3 hf2
    clear hf2
    refine lv_aload_n hx hb dX8_fail_9 rfl (lv_at hl 0 rfl) ?_
    obtain ⟨X_6, h_6, hf7⟩ := m_bv_s hf4
    clear hf4
    refine m_callVv (q := (RX8, TX8, 13)) C [] [] (c_X8_record l D a cy hG N _ h_6) (m_goodV wl_X8_37 wi_X8_record ws_X8_record wn_X8 wc_X8_record) ⟨rfl, rfl⟩ hv_X8_record ⟨Nat.le_of_ble_eq_true rfl, Nat.le_of_ble_eq_true rfl⟩ rfl mM_0 hP hS rfl hl.1 rfl (Nat.le_of_ble_eq_true rfl) dX8_fail_10 (fun H locs hP hS => ?_)
    refine lv_aload_n hx hb dX8_fail_13 rfl (lv_at hl 0 rfl) ?_
    refine lv_iload_n hx hb dX8_fail_14 rfl (lv_at hl 1 rfl) ?_
    obtain ⟨r_8, X_8, h_8, hf9⟩ := m_bi_s hf7
    clear hf7
    refine m_callVi (q := (RX8, TX8, 13)) C [.int v1] [] (c_X8_doesFail l D a cy hG N _ _ h_8) (m_goodV wl_X8_113 wi_X8_doesFail ws_X8_doesFail wn_X8 wc_X8_doesFail) ⟨rfl, rfl⟩ hv_X8_doesFail ⟨Nat.le_of_ble_eq_true rfl, Nat.le_of_ble_eq_true rfl⟩ rfl mM_0 hP hS rfl hl.1 rfl (Nat.le_of_ble_eq_true rfl) dX8_fail_15 (fun H locs hP hS => ?_)
    exact m_iret C hP hS dX8_fail_18 hf9
  · have hf5 := m_it c_3 hf2
    clear hf2
    refine lv_iconst (v := (-1)) hx hb dX8_fail_7 (by decide) ?_
    exact m_iret C hP hS dX8_fail_8 hf5
abbrev rm_X8_withdraw : Room := { frames := 5, cells := 0, slots := 0, locals := 114 }
def f_X8_withdraw (N : Nat) (v1 : Int32) (X : XT) : Option (Int32 × XT) := m_bi (f_X8_isClient N v1 X) fun r_1 X_1 => if r_1 = 0 then (some ((-1), X_1)) else (m_bi (f_X8_canWithdraw N v1 X_1) fun r_6 X_6 => if r_6 = 0 then (some ((-4), X_6)) else (m_bv (f_X8_record N X_6) fun X_11 => m_bi (f_X8_doesWithdraw N v1 X_11) fun r_13 X_13 => some (r_13, X_13)))
set_option maxHeartbeats 4000000 in
set_option maxRecDepth 100000 in
theorem c_X8_withdraw (l : Launch) (D : va_G) (a : Nat → Nat) (cy : Nat → ClassId) (hG : m_inj 6 a) (N : Nat) (v1 : Int32) (X : XT) {r0 : Int32} {X0 : XT} (hf0 : f_X8_withdraw N v1 X = some (r0, X0)) : Met l yX8_withdraw (Cond.code yX8_withdraw cX8_withdraw 2 (some .int) :: m_tbl) rm_X8_withdraw (va_Pc [.ref (a 0), .int v1] (m_PX D (m_tc cy) (m_WM a cy) m_ZM X)) (m_QI D (m_WM a cy) (m_AM a) r0 X0) 0 0 (m_AM a) := by
  refine m_met (own := RX8) hy_X8_withdraw rfl (Nat.le_of_ble_eq_true rfl) (m_wl_D hG _) m_ZM_keep ?_
  intro p e s m args below meth c C ls hl hP hS
  have hx := C.1.1
  have hb := C.1.2.1
  have hl : lv_has ls 2 [(0, .ref (a 0)), (1, .int v1)] := hl
  unfold f_X8_withdraw at hf0
  suffices K : ∀ (H : Heap) (locs : List Loc), va_P D vwCl (m_WM a cy X) H → va_S (m_AM a) s.heap H locs → W p l e rm_X8_withdraw s m args below meth c H locs 0 0 (MQ below (m_QI D (m_WM a cy) (m_AM a) r0 X0) args s 0 0 (m_AM a)) (F0 m 0 ls []) from K _ _ hP hS
  clear hP hS
  intro H locs hP hS
  refine lv_iload_n hx hb dX8_withdraw_0 rfl (lv_at hl 1 rfl) ?_
  obtain ⟨r_1, X_1, h_1, hf2⟩ := m_bi_s hf0
  clear hf0
  refine m_callSi C [.int v1] [] (c_X8_isClient l D a cy hG N _ _ h_1) (m_goodS wl_X8_92 wst_X8_isClient wn_X8 wc_X8_isClient) ⟨rfl, rfl⟩ hv_X8_isClient ⟨Nat.le_of_ble_eq_true rfl, Nat.le_of_ble_eq_true rfl⟩ hP hS rfl hl.1 rfl (Nat.le_of_ble_eq_true rfl) dX8_withdraw_1 (fun H locs hP hS => ?_)
  refine lv_if_ne (tgt := 9) hx hb dX8_withdraw_4 (by decide) (fun c_3 => ?_) (fun c_3 => ?_)
  · have hf4 := m_ie c_3 hf2
    clear hf2
    refine lv_aload_n hx hb dX8_withdraw_9 rfl (lv_at hl 0 rfl) ?_
    refine lv_iload_n hx hb dX8_withdraw_10 rfl (lv_at hl 1 rfl) ?_
    obtain ⟨r_6, X_6, h_6, hf7⟩ := m_bi_s hf4
    clear hf4
    refine m_callVi (q := (RX8, TX8, 13)) C [.int v1] [] (c_X8_canWithdraw l D a cy hG N _ _ h_6) (m_goodV wl_X8_116 wi_X8_canWithdraw ws_X8_canWithdraw wn_X8 wc_X8_canWithdraw) ⟨rfl, rfl⟩ hv_X8_canWithdraw ⟨Nat.le_of_ble_eq_true rfl, Nat.le_of_ble_eq_true rfl⟩ rfl mM_0 hP hS rfl hl.1 rfl (Nat.le_of_ble_eq_true rfl) dX8_withdraw_11 (fun H locs hP hS => ?_)
    refine lv_if_ne (tgt := 20) hx hb dX8_withdraw_14 (by decide) (fun c_8 => ?_) (fun c_8 => ?_)
    · have hf9 := m_ie c_8 hf7
      clear hf7
      refine lv_aload_n hx hb dX8_withdraw_20 rfl (lv_at hl 0 rfl) ?_
      obtain ⟨X_11, h_11, hf12⟩ := m_bv_s hf9
      clear hf9
      refine m_callVv (q := (RX8, TX8, 13)) C [] [] (c_X8_record l D a cy hG N _ h_11) (m_goodV wl_X8_37 wi_X8_record ws_X8_record wn_X8 wc_X8_record) ⟨rfl, rfl⟩ hv_X8_record ⟨Nat.le_of_ble_eq_true rfl, Nat.le_of_ble_eq_true rfl⟩ rfl mM_0 hP hS rfl hl.1 rfl (Nat.le_of_ble_eq_true rfl) dX8_withdraw_21 (fun H locs hP hS => ?_)
      refine lv_aload_n hx hb dX8_withdraw_24 rfl (lv_at hl 0 rfl) ?_
      refine lv_iload_n hx hb dX8_withdraw_25 rfl (lv_at hl 1 rfl) ?_
      obtain ⟨r_13, X_13, h_13, hf14⟩ := m_bi_s hf12
      clear hf12
      refine m_callVi (q := (RX8, TX8, 13)) C [.int v1] [] (c_X8_doesWithdraw l D a cy hG N _ _ h_13) (m_goodV wl_X8_119 wi_X8_doesWithdraw ws_X8_doesWithdraw wn_X8 wc_X8_doesWithdraw) ⟨rfl, rfl⟩ hv_X8_doesWithdraw ⟨Nat.le_of_ble_eq_true rfl, Nat.le_of_ble_eq_true rfl⟩ rfl mM_0 hP hS rfl hl.1 rfl (Nat.le_of_ble_eq_true rfl) dX8_withdraw_26 (fun H locs hP hS => ?_)
      exact m_iret C hP hS dX8_withdraw_29 hf14
    · have hf10 := m_it c_8 hf7
      clear hf7
      refine lv_bipush (v := (-4)) hx hb dX8_withdraw_17 (by decide) ?_
      exact m_iret C hP hS dX8_withdraw_19 hf10
  · have hf5 := m_it c_3 hf2
    clear hf2
    refine lv_iconst (v := (-1)) hx hb dX8_withdraw_7 (by decide) ?_
    exact m_iret C hP hS dX8_withdraw_8 hf5
abbrev rm_X8_crash : Room := { frames := 4, cells := 0, slots := 0, locals := 90 }
def f_X8_crash (N : Nat) (X : XT) : Option (Int32 × XT) := m_bv (f_X8_record N X) fun X_1 => m_bi (f_X8_doesCrash N X_1) fun r_3 X_3 => some (r_3, X_3)
set_option maxHeartbeats 4000000 in
set_option maxRecDepth 100000 in
theorem c_X8_crash (l : Launch) (D : va_G) (a : Nat → Nat) (cy : Nat → ClassId) (hG : m_inj 6 a) (N : Nat) (X : XT) {r0 : Int32} {X0 : XT} (hf0 : f_X8_crash N X = some (r0, X0)) : Met l yX8_crash (Cond.code yX8_crash cX8_crash 1 (some .int) :: m_tbl) rm_X8_crash (va_Pc [.ref (a 0)] (m_PX D (m_tc cy) (m_WM a cy) m_ZM X)) (m_QI D (m_WM a cy) (m_AM a) r0 X0) 0 0 (m_AM a) := by
  refine m_met (own := RX8) hy_X8_crash rfl (Nat.le_of_ble_eq_true rfl) (m_wl_D hG _) m_ZM_keep ?_
  intro p e s m args below meth c C ls hl hP hS
  have hx := C.1.1
  have hb := C.1.2.1
  have hl : lv_has ls 1 [(0, .ref (a 0))] := hl
  unfold f_X8_crash at hf0
  suffices K : ∀ (H : Heap) (locs : List Loc), va_P D vwCl (m_WM a cy X) H → va_S (m_AM a) s.heap H locs → W p l e rm_X8_crash s m args below meth c H locs 0 0 (MQ below (m_QI D (m_WM a cy) (m_AM a) r0 X0) args s 0 0 (m_AM a)) (F0 m 0 ls []) from K _ _ hP hS
  clear hP hS
  intro H locs hP hS
  refine lv_aload_n hx hb dX8_crash_0 rfl (lv_at hl 0 rfl) ?_
  obtain ⟨X_1, h_1, hf2⟩ := m_bv_s hf0
  clear hf0
  refine m_callVv (q := (RX8, TX8, 13)) C [] [] (c_X8_record l D a cy hG N _ h_1) (m_goodV wl_X8_37 wi_X8_record ws_X8_record wn_X8 wc_X8_record) ⟨rfl, rfl⟩ hv_X8_record ⟨Nat.le_of_ble_eq_true rfl, Nat.le_of_ble_eq_true rfl⟩ rfl mM_0 hP hS rfl hl.1 rfl (Nat.le_of_ble_eq_true rfl) dX8_crash_1 (fun H locs hP hS => ?_)
  refine lv_aload_n hx hb dX8_crash_4 rfl (lv_at hl 0 rfl) ?_
  obtain ⟨r_3, X_3, h_3, hf4⟩ := m_bi_s hf2
  clear hf2
  refine m_callVi (q := (RX8, TX8, 13)) C [] [] (c_X8_doesCrash l D a cy hG N _ h_3) (m_goodV wl_X8_122 wi_X8_doesCrash ws_X8_doesCrash wn_X8 wc_X8_doesCrash) ⟨rfl, rfl⟩ hv_X8_doesCrash ⟨Nat.le_of_ble_eq_true rfl, Nat.le_of_ble_eq_true rfl⟩ rfl mM_0 hP hS rfl hl.1 rfl (Nat.le_of_ble_eq_true rfl) dX8_crash_5 (fun H locs hP hS => ?_)
  exact m_iret C hP hS dX8_crash_8 hf4
abbrev rm_X8_tick : Room := { frames := 7, cells := 0, slots := 0, locals := 158 }
def f_X8_tick (N : Nat) (v1 : Int32) (X : XT) : Option (Int32 × XT) := m_bi (f_X8_within N v1 1 99 X) fun r_1 X_1 => if r_1 = 0 then (some ((-2), X_1)) else (m_bv (f_X8_record N X_1) fun X_6 => m_bi (f_X8_ticks N v1 X_6) fun r_8 X_8 => some (r_8, X_8))
set_option maxHeartbeats 4000000 in
set_option maxRecDepth 100000 in
theorem c_X8_tick (l : Launch) (D : va_G) (a : Nat → Nat) (cy : Nat → ClassId) (hG : m_inj 6 a) (N : Nat) (v1 : Int32) (X : XT) {r0 : Int32} {X0 : XT} (hf0 : f_X8_tick N v1 X = some (r0, X0)) : Met l yX8_tick (Cond.code yX8_tick cX8_tick 2 (some .int) :: m_tbl) rm_X8_tick (va_Pc [.ref (a 0), .int v1] (m_PX D (m_tc cy) (m_WM a cy) m_ZM X)) (m_QI D (m_WM a cy) (m_AM a) r0 X0) 0 0 (m_AM a) := by
  refine m_met (own := RX8) hy_X8_tick rfl (Nat.le_of_ble_eq_true rfl) (m_wl_D hG _) m_ZM_keep ?_
  intro p e s m args below meth c C ls hl hP hS
  have hx := C.1.1
  have hb := C.1.2.1
  have hl : lv_has ls 2 [(0, .ref (a 0)), (1, .int v1)] := hl
  unfold f_X8_tick at hf0
  suffices K : ∀ (H : Heap) (locs : List Loc), va_P D vwCl (m_WM a cy X) H → va_S (m_AM a) s.heap H locs → W p l e rm_X8_tick s m args below meth c H locs 0 0 (MQ below (m_QI D (m_WM a cy) (m_AM a) r0 X0) args s 0 0 (m_AM a)) (F0 m 0 ls []) from K _ _ hP hS
  clear hP hS
  intro H locs hP hS
  refine lv_iload_n hx hb dX8_tick_0 rfl (lv_at hl 1 rfl) ?_
  refine lv_iconst (v := 1) hx hb dX8_tick_1 (by decide) ?_
  refine lv_bipush (v := 99) hx hb dX8_tick_2 (by decide) ?_
  obtain ⟨r_1, X_1, h_1, hf2⟩ := m_bi_s hf0
  clear hf0
  refine m_callSi C [.int v1, .int 1, .int 99] [] (c_X8_within l D a cy hG N _ _ _ _ h_1) (m_goodS wl_X8_25 wst_X8_within wn_X8 wc_X8_within) ⟨rfl, rfl⟩ hv_X8_within ⟨Nat.le_of_ble_eq_true rfl, Nat.le_of_ble_eq_true rfl⟩ hP hS rfl hl.1 rfl (Nat.le_of_ble_eq_true rfl) dX8_tick_4 (fun H locs hP hS => ?_)
  refine lv_if_ne (tgt := 13) hx hb dX8_tick_7 (by decide) (fun c_3 => ?_) (fun c_3 => ?_)
  · have hf4 := m_ie c_3 hf2
    clear hf2
    refine lv_aload_n hx hb dX8_tick_13 rfl (lv_at hl 0 rfl) ?_
    obtain ⟨X_6, h_6, hf7⟩ := m_bv_s hf4
    clear hf4
    refine m_callVv (q := (RX8, TX8, 13)) C [] [] (c_X8_record l D a cy hG N _ h_6) (m_goodV wl_X8_37 wi_X8_record ws_X8_record wn_X8 wc_X8_record) ⟨rfl, rfl⟩ hv_X8_record ⟨Nat.le_of_ble_eq_true rfl, Nat.le_of_ble_eq_true rfl⟩ rfl mM_0 hP hS rfl hl.1 rfl (Nat.le_of_ble_eq_true rfl) dX8_tick_14 (fun H locs hP hS => ?_)
    refine lv_aload_n hx hb dX8_tick_17 rfl (lv_at hl 0 rfl) ?_
    refine lv_iload_n hx hb dX8_tick_18 rfl (lv_at hl 1 rfl) ?_
    obtain ⟨r_8, X_8, h_8, hf9⟩ := m_bi_s hf7
    clear hf7
    refine m_callVi (q := (RX8, TX8, 13)) C [.int v1] [] (c_X8_ticks l D a cy hG N _ _ h_8) (m_goodV wl_X8_125 wi_X8_ticks ws_X8_ticks wn_X8 wc_X8_ticks) ⟨rfl, rfl⟩ hv_X8_ticks ⟨Nat.le_of_ble_eq_true rfl, Nat.le_of_ble_eq_true rfl⟩ rfl mM_0 hP hS rfl hl.1 rfl (Nat.le_of_ble_eq_true rfl) dX8_tick_19 (fun H locs hP hS => ?_)
    exact m_iret C hP hS dX8_tick_22 hf9
  · have hf5 := m_it c_3 hf2
    clear hf2
    refine lv_bipush (v := (-2)) hx hb dX8_tick_10 (by decide) ?_
    exact m_iret C hP hS dX8_tick_12 hf5
abbrev rm_X8_leastOf : Room := { frames := 0, cells := 0, slots := 0, locals := 0 }
def f_X8_leastOf (N : Nat) (v0 : Int32) (X : XT) : Option (Int32 × XT) := if v0 = 0 then (some (0, X)) else (if v0 = 3 then (some (0, X)) else (some (1, X)))
set_option maxHeartbeats 4000000 in
set_option maxRecDepth 100000 in
theorem c_X8_leastOf (l : Launch) (D : va_G) (a : Nat → Nat) (cy : Nat → ClassId) (hG : m_inj 6 a) (N : Nat) (v0 : Int32) (X : XT) {r0 : Int32} {X0 : XT} (hf0 : f_X8_leastOf N v0 X = some (r0, X0)) : Met l yX8_leastOf (Cond.code yX8_leastOf cX8_leastOf 1 (some .int) :: m_tbl) rm_X8_leastOf (va_Pc [.int v0] (m_PX D (m_tc cy) (m_WM a cy) m_ZM X)) (m_QI D (m_WM a cy) (m_AM a) r0 X0) 0 0 (m_AM a) := by
  refine m_met (own := RX8) hy_X8_leastOf rfl (Nat.le_of_ble_eq_true rfl) (m_wl_D hG _) m_ZM_keep ?_
  intro p e s m args below meth c C ls hl hP hS
  have hx := C.1.1
  have hb := C.1.2.1
  have hl : lv_has ls 1 [(0, .int v0)] := hl
  unfold f_X8_leastOf at hf0
  suffices K : ∀ (H : Heap) (locs : List Loc), va_P D vwCl (m_WM a cy X) H → va_S (m_AM a) s.heap H locs → W p l e rm_X8_leastOf s m args below meth c H locs 0 0 (MQ below (m_QI D (m_WM a cy) (m_AM a) r0 X0) args s 0 0 (m_AM a)) (F0 m 0 ls []) from K _ _ hP hS
  clear hP hS
  intro H locs hP hS
  refine lv_iload_n hx hb dX8_leastOf_0 rfl (lv_at hl 0 rfl) ?_
  refine lv_if_eq (tgt := 9) hx hb dX8_leastOf_1 (by decide) (fun c_1 => ?_) (fun c_1 => ?_)
  · have hf2 := m_it c_1 hf0
    clear hf0
    refine lv_iconst (v := 0) hx hb dX8_leastOf_9 (by decide) ?_
    refine lv_goto (tgt := 14) hx hb dX8_leastOf_10 (by decide) ?_
    exact m_iret C hP hS dX8_leastOf_14 hf2
  · have hf3 := m_ie c_1 hf0
    clear hf0
    refine lv_iload_n hx hb dX8_leastOf_4 rfl (lv_at hl 0 rfl) ?_
    refine lv_iconst (v := 3) hx hb dX8_leastOf_5 (by decide) ?_
    refine lv_icmp_ne (tgt := 13) hx hb dX8_leastOf_6 (by decide) (fun c_4 => ?_) (fun c_4 => ?_)
    · have hf5 := m_ie c_4 hf3
      clear hf3
      refine lv_iconst (v := 1) hx hb dX8_leastOf_13 (by decide) ?_
      exact m_iret C hP hS dX8_leastOf_14 hf5
    · have hf6 := m_it c_4 hf3
      clear hf3
      refine lv_iconst (v := 0) hx hb dX8_leastOf_9 (by decide) ?_
      refine lv_goto (tgt := 14) hx hb dX8_leastOf_10 (by decide) ?_
      exact m_iret C hP hS dX8_leastOf_14 hf6
abbrev rm_X8_mostOf : Room := { frames := 0, cells := 0, slots := 0, locals := 0 }
def f_X8_mostOf (N : Nat) (v0 : Int32) (X : XT) : Option (Int32 × XT) := if v0 = 1 then (some (40, X)) else (if v0 = 3 then (some (1, X)) else (some (20, X)))
set_option maxHeartbeats 4000000 in
set_option maxRecDepth 100000 in
theorem c_X8_mostOf (l : Launch) (D : va_G) (a : Nat → Nat) (cy : Nat → ClassId) (hG : m_inj 6 a) (N : Nat) (v0 : Int32) (X : XT) {r0 : Int32} {X0 : XT} (hf0 : f_X8_mostOf N v0 X = some (r0, X0)) : Met l yX8_mostOf (Cond.code yX8_mostOf cX8_mostOf 1 (some .int) :: m_tbl) rm_X8_mostOf (va_Pc [.int v0] (m_PX D (m_tc cy) (m_WM a cy) m_ZM X)) (m_QI D (m_WM a cy) (m_AM a) r0 X0) 0 0 (m_AM a) := by
  refine m_met (own := RX8) hy_X8_mostOf rfl (Nat.le_of_ble_eq_true rfl) (m_wl_D hG _) m_ZM_keep ?_
  intro p e s m args below meth c C ls hl hP hS
  have hx := C.1.1
  have hb := C.1.2.1
  have hl : lv_has ls 1 [(0, .int v0)] := hl
  unfold f_X8_mostOf at hf0
  suffices K : ∀ (H : Heap) (locs : List Loc), va_P D vwCl (m_WM a cy X) H → va_S (m_AM a) s.heap H locs → W p l e rm_X8_mostOf s m args below meth c H locs 0 0 (MQ below (m_QI D (m_WM a cy) (m_AM a) r0 X0) args s 0 0 (m_AM a)) (F0 m 0 ls []) from K _ _ hP hS
  clear hP hS
  intro H locs hP hS
  refine lv_iload_n hx hb dX8_mostOf_0 rfl (lv_at hl 0 rfl) ?_
  refine lv_iconst (v := 1) hx hb dX8_mostOf_1 (by decide) ?_
  refine lv_icmp_ne (tgt := 10) hx hb dX8_mostOf_2 (by decide) (fun c_1 => ?_) (fun c_1 => ?_)
  · have hf2 := m_ie c_1 hf0
    clear hf0
    refine lv_iload_n hx hb dX8_mostOf_10 rfl (lv_at hl 0 rfl) ?_
    refine lv_iconst (v := 3) hx hb dX8_mostOf_11 (by decide) ?_
    refine lv_icmp_ne (tgt := 19) hx hb dX8_mostOf_12 (by decide) (fun c_4 => ?_) (fun c_4 => ?_)
    · have hf5 := m_ie c_4 hf2
      clear hf2
      refine lv_bipush (v := 20) hx hb dX8_mostOf_19 (by decide) ?_
      exact m_iret C hP hS dX8_mostOf_21 hf5
    · have hf6 := m_it c_4 hf2
      clear hf2
      refine lv_iconst (v := 1) hx hb dX8_mostOf_15 (by decide) ?_
      refine lv_goto (tgt := 21) hx hb dX8_mostOf_16 (by decide) ?_
      exact m_iret C hP hS dX8_mostOf_21 hf6
  · have hf3 := m_it c_1 hf0
    clear hf0
    refine lv_bipush (v := 40) hx hb dX8_mostOf_5 (by decide) ?_
    refine lv_goto (tgt := 21) hx hb dX8_mostOf_7 (by decide) ?_
    exact m_iret C hP hS dX8_mostOf_21 hf3
