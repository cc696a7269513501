-- written by wip/gen/gen27.py
abbrev rm_L_low : Room := { frames := 0, cells := 0, slots := 0, locals := 0 }
def f_L_low (N : Nat) (v0 : Int32) (v1 : Int32) (X : XT) : Option (Int32 × XT) := m_nm (v0 &&& (2147483647)) fun y_1 => m_gd (¬ v1 = 0) <| m_nm (y_1 - y_1 / v1 * v1) fun y_3 => some (y_3, X)
set_option maxHeartbeats 4000000 in
set_option maxRecDepth 100000 in
theorem c_L_low (l : Launch) (D : va_G) (a : Nat → Nat) (cy : Nat → ClassId) (hG : m_inj 138 a) (N : Nat) (v0 : Int32) (v1 : Int32) (X : XT) {r0 : Int32} {X0 : XT} (hf0 : f_L_low N v0 v1 X = some (r0, X0)) : Met l yL_low (Cond.code yL_low cL_low 2 (some .int) :: m_tbl) rm_L_low (va_Pc [.int v0, .int v1] (m_PX D (m_tc cy) (m_WC a cy) (m_ZC a) X)) (m_QI D (m_WC a cy) (m_AC a) r0 X0) 0 0 (m_AC a) := by
  refine m_met (own := RL) hy_L_low rfl (Nat.le_of_ble_eq_true rfl) (m_wl_D hG _) m_ZC_keep ?_
  intro p e s m args below meth c C ls hl hP hS
  have hx := C.1.1
  have hb := C.1.2.1
  have hl : lv_has ls 2 [(0, .int v0), (1, .int v1)] := hl
  unfold f_L_low at hf0
  suffices K : ∀ (H : Heap) (locs : List Loc), va_P D vwCl (m_WC a cy X) H → va_S (m_AC a) s.heap H locs → W p l e rm_L_low s m args below meth c H locs 0 0 (MQ below (m_QI D (m_WC a cy) (m_AC a) r0 X0) args s 0 0 (m_AC a)) (F0 m 0 ls []) from K _ _ hP hS
  clear hP hS
  intro H locs hP hS
  refine lv_iload_n hx hb dL_low_0 rfl (lv_at hl 0 rfl) ?_
  refine lv_ldc (v := 2147483647) hx hb C.1.2.2.2.1 (m_cw C wq_L_9) dL_low_1 ?_
  refine lv_iand hx hb dL_low_3 ?_
  refine lv_topi (fun y_1 e_1 => ?_)
  have hf2 := m_nm_s e_1 hf0
  clear hf0
  refine lv_iload_n hx hb dL_low_4 rfl (lv_at hl 1 rfl) ?_
  obtain ⟨g_3, hf4⟩ := m_gd_s hf2
  clear hf2
  refine lv_irem hx hb dL_low_5 g_3 ?_
  refine lv_topi (fun y_3 e_3 => ?_)
  have hf5 := m_nm_s e_3 hf4
  clear hf4
  exact m_iret C hP hS dL_low_6 hf5
abbrev rm_L_what : Room := { frames := 0, cells := 0, slots := 0, locals := 0 }
def f_L_what (N : Nat) (v0 : Int32) (X : XT) : Option (Int32 × XT) := m_gd (m_in v0 48) <| m_nm (X 132 (Int32.toNatClampNeg v0)) fun y_1 => m_nm (y_1 >>> ((9 : Int32) &&& 31)) fun y_4 => some (y_4, X)
set_option maxHeartbeats 4000000 in
set_option maxRecDepth 100000 in
theorem c_L_what (l : Launch) (D : va_G) (a : Nat → Nat) (cy : Nat → ClassId) (hG : m_inj 138 a) (N : Nat) (v0 : Int32) (X : XT) {r0 : Int32} {X0 : XT} (hf0 : f_L_what N v0 X = some (r0, X0)) : Met l yL_what (Cond.code yL_what cL_what 2 (some .int) :: m_tbl) rm_L_what (va_Pc [.int v0, .ref (a 132)] (m_PX D (m_tc cy) (m_WC a cy) (m_ZC a) X)) (m_QI D (m_WC a cy) (m_AC a) r0 X0) 0 0 (m_AC a) := by
  refine m_met (own := RL) hy_L_what rfl (Nat.le_of_ble_eq_true rfl) (m_wl_D hG _) m_ZC_keep ?_
  intro p e s m args below meth c C ls hl hP hS
  have hx := C.1.1
  have hb := C.1.2.1
  have hl : lv_has ls 2 [(0, .int v0), (1, .ref (a 132))] := hl
  unfold f_L_what at hf0
  suffices K : ∀ (H : Heap) (locs : List Loc), va_P D vwCl (m_WC a cy X) H → va_S (m_AC a) s.heap H locs → W p l e rm_L_what s m args below meth c H locs 0 0 (MQ below (m_QI D (m_WC a cy) (m_AC a) r0 X0) args s 0 0 (m_AC a)) (F0 m 0 ls []) from K _ _ hP hS
  clear hP hS
  intro H locs hP hS
  refine lv_aload_n hx hb dL_what_0 rfl (lv_at hl 1 rfl) ?_
  refine lv_iload_n hx hb dL_what_1 rfl (lv_at hl 0 rfl) ?_
  obtain ⟨g_1, hf2⟩ := m_gd_s hf0
  clear hf0
  refine m_ild C hP mC_132 0 rfl g_1 dL_what_2 (fun y_1 e_1 => ?_)
  have hf3 := m_nm_s e_1 hf2
  clear hf2
  refine lv_bipush (v := 9) hx hb dL_what_3 (by decide) ?_
  refine lv_ishr hx hb dL_what_5 ?_
  refine lv_topi (fun y_4 e_4 => ?_)
  have hf5 := m_nm_s e_4 hf3
  clear hf3
  exact m_iret C hP hS dL_what_6 hf5
abbrev rm_L_becomes : Room := { frames := 0, cells := 0, slots := 0, locals := 0 }
def f_L_becomes (N : Nat) (v0 : Int32) (v1 : Int32) (X : XT) : Option XT := m_gd (m_in v0 48) <| m_nm (X 132 (Int32.toNatClampNeg v0)) fun y_1 => m_nm (y_1 &&& 511) fun y_4 => m_nm (v1 <<< ((9 : Int32) &&& 31)) fun y_6 => m_nm (y_4 ||| y_6) fun y_8 => m_gd (m_in v0 48) <| m_nm (m_up X 132 (upd (X 132) (Int32.toNatClampNeg v0) y_8)) fun X_10 => some X_10
set_option maxHeartbeats 4000000 in
set_option maxRecDepth 100000 in
theorem c_L_becomes (l : Launch) (D : va_G) (a : Nat → Nat) (cy : Nat → ClassId) (hG : m_inj 138 a) (N : Nat) (v0 : Int32) (v1 : Int32) (X : XT) {X0 : XT} (hf0 : f_L_becomes N v0 v1 X = some X0) : Met l yL_becomes (Cond.code yL_becomes cL_becomes 3 none :: m_tbl) rm_L_becomes (va_Pc [.int v0, .int v1, .ref (a 132)] (m_PX D (m_tc cy) (m_WC a cy) (m_ZC a) X)) (m_QV D (m_WC a cy) (m_AC a) X0) 0 0 (m_AC a) := by
  refine m_met (own := RL) hy_L_becomes rfl (Nat.le_of_ble_eq_true rfl) (m_wl_D hG _) m_ZC_keep ?_
  intro p e s m args below meth c C ls hl hP hS
  have hx := C.1.1
  have hb := C.1.2.1
  have hl : lv_has ls 3 [(0, .int v0), (1, .int v1), (2, .ref (a 132))] := hl
  unfold f_L_becomes at hf0
  suffices K : ∀ (H : Heap) (locs : List Loc), va_P D vwCl (m_WC a cy X) H → va_S (m_AC a) s.heap H locs → W p l e rm_L_becomes s m args below meth c H locs 0 0 (MQ below (m_QV D (m_WC a cy) (m_AC a) X0) args s 0 0 (m_AC a)) (F0 m 0 ls []) from K _ _ hP hS
  clear hP hS
  intro H locs hP hS
  refine lv_aload_n hx hb dL_becomes_0 rfl (lv_at hl 2 rfl) ?_
  refine lv_iload_n hx hb dL_becomes_1 rfl (lv_at hl 0 rfl) ?_
  refine lv_aload_n hx hb dL_becomes_2 rfl (lv_at hl 2 rfl) ?_
  refine lv_iload_n hx hb dL_becomes_3 rfl (lv_at hl 0 rfl) ?_
  obtain ⟨g_1, hf2⟩ := m_gd_s hf0
  clear hf0
  refine m_ild C hP mC_132 0 rfl g_1 dL_becomes_4 (fun y_1 e_1 => ?_)
  have hf3 := m_nm_s e_1 hf2
  clear hf2
  refine lv_sipush (v := 511) hx hb dL_becomes_5 (by decide) ?_
  refine lv_iand hx hb dL_becomes_8 ?_
  refine lv_topi (fun y_4 e_4 => ?_)
  have hf5 := m_nm_s e_4 hf3
  clear hf3
  refine lv_iload_n hx hb dL_becomes_9 rfl (lv_at hl 1 rfl) ?_
  refine lv_bipush (v := 9) hx hb dL_becomes_10 (by decide) ?_
  refine lv_ishl hx hb dL_becomes_12 ?_
  refine lv_topi (fun y_6 e_6 => ?_)
  have hf7 := m_nm_s e_6 hf5
  clear hf5
  refine lv_ior hx hb dL_becomes_13 ?_
  refine lv_topi (fun y_8 e_8 => ?_)
  have hf9 := m_nm_s e_8 hf7
  clear hf7
  obtain ⟨g_10, hf11⟩ := m_gd_s hf9
  clear hf9
  refine m_ist C hP hS mC_132 0 rfl g_10 mCs_132 dL_becomes_14 (fun X_10 e_10 H locs hP hS => ?_)
  have hf12 := m_nm_s e_10 hf11
  clear hf11
  exact m_vret C hP hS dL_becomes_15 hf12
abbrev rm_L_records : Room := { frames := 0, cells := 0, slots := 0, locals := 0 }
def f_L_records (N : Nat) (v0 : Int32) (X : XT) : Option (Int32 × XT) := m_gd (m_in v0 48) <| m_nm (X 132 (Int32.toNatClampNeg v0)) fun y_1 => m_nm (y_1 >>> ((4 : Int32) &&& 31)) fun y_4 => m_nm (y_4 &&& 15) fun y_6 => some (y_6, X)
set_option maxHeartbeats 4000000 in
set_option maxRecDepth 100000 in
theorem c_L_records (l : Launch) (D : va_G) (a : Nat → Nat) (cy : Nat → ClassId) (hG : m_inj 138 a) (N : Nat) (v0 : Int32) (X : XT) {r0 : Int32} {X0 : XT} (hf0 : f_L_records N v0 X = some (r0, X0)) : Met l yL_records (Cond.code yL_records cL_records 2 (some .int) :: m_tbl) rm_L_records (va_Pc [.int v0, .ref (a 132)] (m_PX D (m_tc cy) (m_WC a cy) (m_ZC a) X)) (m_QI D (m_WC a cy) (m_AC a) r0 X0) 0 0 (m_AC a) := by
  refine m_met (own := RL) hy_L_records rfl (Nat.le_of_ble_eq_true rfl) (m_wl_D hG _) m_ZC_keep ?_
  intro p e s m args below meth c C ls hl hP hS
  have hx := C.1.1
  have hb := C.1.2.1
  have hl : lv_has ls 2 [(0, .int v0), (1, .ref (a 132))] := hl
  unfold f_L_records at hf0
  suffices K : ∀ (H : Heap) (locs : List Loc), va_P D vwCl (m_WC a cy X) H → va_S (m_AC a) s.heap H locs → W p l e rm_L_records s m args below meth c H locs 0 0 (MQ below (m_QI D (m_WC a cy) (m_AC a) r0 X0) args s 0 0 (m_AC a)) (F0 m 0 ls []) from K _ _ hP hS
  clear hP hS
  intro H locs hP hS
  refine lv_aload_n hx hb dL_records_0 rfl (lv_at hl 1 rfl) ?_
  refine lv_iload_n hx hb dL_records_1 rfl (lv_at hl 0 rfl) ?_
  obtain ⟨g_1, hf2⟩ := m_gd_s hf0
  clear hf0
  refine m_ild C hP mC_132 0 rfl g_1 dL_records_2 (fun y_1 e_1 => ?_)
  have hf3 := m_nm_s e_1 hf2
  clear hf2
  refine lv_iconst (v := 4) hx hb dL_records_3 (by decide) ?_
  refine lv_ishr hx hb dL_records_4 ?_
  refine lv_topi (fun y_4 e_4 => ?_)
  have hf5 := m_nm_s e_4 hf3
  clear hf3
  refine lv_bipush (v := 15) hx hb dL_records_5 (by decide) ?_
  refine lv_iand hx hb dL_records_7 ?_
  refine lv_topi (fun y_6 e_6 => ?_)
  have hf7 := m_nm_s e_6 hf5
  clear hf5
  exact m_iret C hP hS dL_records_8 hf7
abbrev rm_L_members : Room := { frames := 1, cells := 0, slots := 0, locals := 21 }
def f_L_members_6 (N : Nat) : Nat → Int32 → Int32 → Int32 → XT → Option (Int32 × XT)
  | 0, _, _, _, _ => none
  | n + 1, v0, v4, v5, X => m_gd (m_in 6 17) <| m_nm (X 131 (Int32.toNatClampNeg 6)) fun y_1 => if y_1 ≤ v5 then (some (v4, X)) else (m_gd (m_in v5 48) <| m_nm (X 135 (Int32.toNatClampNeg v5)) fun y_7 => m_nm ((2 : Int32) * v0) fun y_10 => if y_7 = y_10 then (m_bi (f_L_records N v5 X) fun r_19 X_19 => m_nm ((1000 : Int32) * r_19) fun y_21 => m_nm ((1 : Int32) + y_21) fun y_23 => m_nm (v4 + y_23) fun y_25 => m_nm (v5 + 1) fun y_27 => f_L_members_6 N n v0 y_25 y_27 X_19) else (m_nm (v4 + 0) fun y_15 => m_nm (v5 + 1) fun y_17 => f_L_members_6 N n v0 y_15 y_17 X))
set_option maxHeartbeats 4000000 in
set_option maxRecDepth 100000 in
theorem w_L_members_6 (l : Launch) (D : va_G) (a : Nat → Nat) (cy : Nat → ClassId) (hG : m_inj 138 a) (N : Nat) {p : Program} {e : Env} {s : State} {m : MethodId} {args : Array Value} {below : List Frame} {meth : Method} {c : Code} (C : m_Cx p s m args meth c cL_members 6 RL (some .int) (Cond.code yL_members cL_members 6 (some .int)) D (m_tc cy) (m_AC a) (m_WC a cy) (m_ZC a)) {r0 : Int32} {X0 : XT} : ∀ (n : Nat) (v0 : Int32) (v4 : Int32) (v5 : Int32) (X : XT), f_L_members_6 N n v0 v4 v5 X = some (r0, X0) → ∀ (H : Heap) (locs : List Loc) (ls : Array Slot), va_P D vwCl (m_WC a cy X) H → va_S (m_AC a) s.heap H locs → lv_has ls 6 [(0, .int v0), (1, .ref (a 131)), (2, .ref (a 132)), (3, .ref (a 135)), (4, .int v4), (5, .int v5)] → W p l e rm_L_members s m args below meth c H locs 0 0 (MQ below (m_QI D (m_WC a cy) (m_AC a) r0 X0) args s 0 0 (m_AC a)) (F0 m 6 ls []) := by
  have hx := C.1.1
  have hb := C.1.2.1
  intro n
  induction n with
  | zero => intro v0 v4 v5 X hf0; rw [f_L_members_6] at hf0; cases hf0
  | succ n ih =>
    intro v0 v4 v5 X hf0 H locs ls hP hS hl
    rw [f_L_members_6] at hf0
    refine lv_iload hx hb dL_members_6 (lv_at hl 5 rfl) ?_
    refine lv_aload_n hx hb dL_members_8 rfl (lv_at hl 1 rfl) ?_
    refine lv_bipush (v := 6) hx hb dL_members_9 (by decide) ?_
    obtain ⟨g_1, hf2⟩ := m_gd_s hf0
    clear hf0
    refine m_ild C hP mC_131 0 rfl g_1 dL_members_11 (fun y_1 e_1 => ?_)
    have hf3 := m_nm_s e_1 hf2
    clear hf2
    refine lv_icmp_ge (tgt := 52) hx hb dL_members_12 (by decide) (fun c_4 => ?_) (fun c_4 => ?_)
    · have hf5 := m_it c_4 hf3
      clear hf3
      refine lv_iload hx hb dL_members_52 (lv_at hl 4 rfl) ?_
      exact m_iret C hP hS dL_members_54 hf5
    · have hf6 := m_ie c_4 hf3
      clear hf3
      refine lv_iload hx hb dL_members_15 (lv_at hl 4 rfl) ?_
      refine lv_aload_n hx hb dL_members_17 rfl (lv_at hl 3 rfl) ?_
      refine lv_iload hx hb dL_members_18 (lv_at hl 5 rfl) ?_
      obtain ⟨g_7, hf8⟩ := m_gd_s hf6
      clear hf6
      refine m_ild C hP mC_135 0 rfl g_7 dL_members_20 (fun y_7 e_7 => ?_)
      have hf9 := m_nm_s e_7 hf8
      clear hf8
      refine lv_iconst (v := 2) hx hb dL_members_21 (by decide) ?_
      refine lv_iload_n hx hb dL_members_22 rfl (lv_at hl 0 rfl) ?_
      refine lv_imul hx hb dL_members_23 ?_
      refine lv_topi (fun y_10 e_10 => ?_)
      have hf11 := m_nm_s e_10 hf9
      clear hf9
      refine lv_icmp_ne (tgt := 42) hx hb dL_members_24 (by decide) (fun c_12 => ?_) (fun c_12 => ?_)
      · have hf13 := m_ie c_12 hf11
        clear hf11
        refine lv_iconst (v := 0) hx hb dL_members_42 (by decide) ?_
        refine lv_iadd hx hb dL_members_43 ?_
        refine lv_topi (fun y_15 e_15 => ?_)
        have hf16 := m_nm_s e_15 hf13
        clear hf13
        refine lv_istore (lv' := [(4, .int y_15), (0, .int v0), (1, .ref (a 131)), (2, .ref (a 132)), (3, .ref (a 135)), (5, .int v5)]) hx hb dL_members_44 hl (by decide) rfl (fun ls hl => ?_)
        obtain ⟨y_17, e_17⟩ : ∃ y : Int32, y = v5 + 1 := ⟨_, rfl⟩
        refine lv_iinc (v := y_17) (lv' := [(5, .int y_17), (4, .int y_15), (0, .int v0), (1, .ref (a 131)), (2, .ref (a 132)), (3, .ref (a 135))]) hx hb dL_members_46 hl (k := 5) rfl (by rw [e_17]; rfl) (by decide) rfl (fun ls hl => ?_)
        have hf18 := m_nm_s e_17 hf16
        clear hf16
        refine lv_goto (tgt := 6) hx hb dL_members_49 (by decide) ?_
        exact ih _ _ _ _ hf18 H locs ls hP hS (lv_sub hl [2, 3, 4, 5, 1, 0] rfl)
      · have hf14 := m_it c_12 hf11
        clear hf11
        refine lv_iconst (v := 1) hx hb dL_members_27 (by decide) ?_
        refine lv_sipush (v := 1000) hx hb dL_members_28 (by decide) ?_
        refine lv_iload hx hb dL_members_31 (lv_at hl 5 rfl) ?_
        refine lv_aload_n hx hb dL_members_33 rfl (lv_at hl 2 rfl) ?_
        obtain ⟨r_19, X_19, h_19, hf20⟩ := m_bi_s hf14
        clear hf14
        refine m_callSi C [.int v5, .ref (a 132)] [.int 1000, .int 1, .int v4] (c_L_records l D a cy hG N _ _ h_19) (m_goodS wl_L_10 wst_L_records wn_L wc_L_records) ⟨rfl, rfl⟩ hv_L_records ⟨Nat.le_of_ble_eq_true rfl, Nat.le_of_ble_eq_true rfl⟩ hP hS rfl hl.1 rfl (Nat.le_of_ble_eq_true rfl) dL_members_34 (fun H locs hP hS => ?_)
        refine lv_imul hx hb dL_members_37 ?_
        refine lv_topi (fun y_21 e_21 => ?_)
        have hf22 := m_nm_s e_21 hf20
        clear hf20
        refine lv_iadd hx hb dL_members_38 ?_
        refine lv_topi (fun y_23 e_23 => ?_)
        have hf24 := m_nm_s e_23 hf22
        clear hf22
        refine lv_goto (tgt := 43) hx hb dL_members_39 (by decide) ?_
        refine lv_iadd hx hb dL_members_43 ?_
        refine lv_topi (fun y_25 e_25 => ?_)
        have hf26 := m_nm_s e_25 hf24
        clear hf24
        refine lv_istore (lv' := [(4, .int y_25), (0, .int v0), (1, .ref (a 131)), (2, .ref (a 132)), (3, .ref (a 135)), (5, .int v5)]) hx hb dL_members_44 hl (by decide) rfl (fun ls hl => ?_)
        obtain ⟨y_27, e_27⟩ : ∃ y : Int32, y = v5 + 1 := ⟨_, rfl⟩
        refine lv_iinc (v := y_27) (lv' := [(5, .int y_27), (4, .int y_25), (0, .int v0), (1, .ref (a 131)), (2, .ref (a 132)), (3, .ref (a 135))]) hx hb dL_members_46 hl (k := 5) rfl (by rw [e_27]; rfl) (by decide) rfl (fun ls hl => ?_)
        have hf28 := m_nm_s e_27 hf26
        clear hf26
        refine lv_goto (tgt := 6) hx hb dL_members_49 (by decide) ?_
        exact ih _ _ _ _ hf28 H locs ls hP hS (lv_sub hl [2, 3, 4, 5, 1, 0] rfl)
def f_L_members (N : Nat) (v0 : Int32) (X : XT) : Option (Int32 × XT) := f_L_members_6 N N v0 0 0 X
set_option maxHeartbeats 4000000 in
set_option maxRecDepth 100000 in
theorem c_L_members (l : Launch) (D : va_G) (a : Nat → Nat) (cy : Nat → ClassId) (hG : m_inj 138 a) (N : Nat) (v0 : Int32) (X : XT) {r0 : Int32} {X0 : XT} (hf0 : f_L_members N v0 X = some (r0, X0)) : Met l yL_members (Cond.code yL_members cL_members 6 (some .int) :: m_tbl) rm_L_members (va_Pc [.int v0, .ref (a 131), .ref (a 132), .ref (a 135)] (m_PX D (m_tc cy) (m_WC a cy) (m_ZC a) X)) (m_QI D (m_WC a cy) (m_AC a) r0 X0) 0 0 (m_AC a) := by
  refine m_met (own := RL) hy_L_members rfl (Nat.le_of_ble_eq_true rfl) (m_wl_D hG _) m_ZC_keep ?_
  intro p e s m args below meth c C ls hl hP hS
  have hx := C.1.1
  have hb := C.1.2.1
  have hl : lv_has ls 6 [(0, .int v0), (1, .ref (a 131)), (2, .ref (a 132)), (3, .ref (a 135))] := hl
  unfold f_L_members at hf0
  suffices K : ∀ (H : Heap) (locs : List Loc), va_P D vwCl (m_WC a cy X) H → va_S (m_AC a) s.heap H locs → W p l e rm_L_members s m args below meth c H locs 0 0 (MQ below (m_QI D (m_WC a cy) (m_AC a) r0 X0) args s 0 0 (m_AC a)) (F0 m 0 ls []) from K _ _ hP hS
  clear hP hS
  intro H locs hP hS
  refine lv_iconst (v := 0) hx hb dL_members_0 (by decide) ?_
  refine lv_istore (lv' := [(4, .int 0), (0, .int v0), (1, .ref (a 131)), (2, .ref (a 132)), (3, .ref (a 135))]) hx hb dL_members_1 hl (by decide) rfl (fun ls hl => ?_)
  refine lv_iconst (v := 0) hx hb dL_members_3 (by decide) ?_
  refine lv_istore (lv' := [(5, .int 0), (4, .int 0), (0, .int v0), (1, .ref (a 131)), (2, .ref (a 132)), (3, .ref (a 135))]) hx hb dL_members_4 hl (by decide) rfl (fun ls hl => ?_)
  exact w_L_members_6 l D a cy hG N C _ _ _ _ _ hf0 H locs ls hP hS (lv_sub hl [2, 3, 4, 5, 1, 0] rfl)
abbrev rm_L_firstOf : Room := { frames := 0, cells := 0, slots := 0, locals := 0 }
def f_L_firstOf_2 (N : Nat) : Nat → Int32 → Int32 → XT → Option (Int32 × XT)
  | 0, _, _, _ => none
  | n + 1, v0, v3, X => m_gd (m_in 6 17) <| m_nm (X 131 (Int32.toNatClampNeg 6)) fun y_1 => if y_1 ≤ v3 then (some ((-5), X)) else (m_gd (m_in v3 48) <| m_nm (X 135 (Int32.toNatClampNeg v3)) fun y_7 => m_nm ((2 : Int32) * v0) fun y_10 => if y_7 = y_10 then (some (v3, X)) else (m_nm (v3 + 1) fun y_15 => f_L_firstOf_2 N n v0 y_15 X))
set_option maxHeartbeats 4000000 in
set_option maxRecDepth 100000 in
theorem w_L_firstOf_2 (l : Launch) (D : va_G) (a : Nat → Nat) (cy : Nat → ClassId) (hG : m_inj 138 a) (N : Nat) {p : Program} {e : Env} {s : State} {m : MethodId} {args : Array Value} {below : List Frame} {meth : Method} {c : Code} (C : m_Cx p s m args meth c cL_firstOf 4 RL (some .int) (Cond.code yL_firstOf cL_firstOf 4 (some .int)) D (m_tc cy) (m_AC a) (m_WC a cy) (m_ZC a)) {r0 : Int32} {X0 : XT} : ∀ (n : Nat) (v0 : Int32) (v3 : Int32) (X : XT), f_L_firstOf_2 N n v0 v3 X = some (r0, X0) → ∀ (H : Heap) (locs : List Loc) (ls : Array Slot), va_P D vwCl (m_WC a cy X) H → va_S (m_AC a) s.heap H locs → lv_has ls 4 [(0, .int v0), (1, .ref (a 131)), (2, .ref (a 135)), (3, .int v3)] → W p l e rm_L_firstOf s m args below meth c H locs 0 0 (MQ below (m_QI D (m_WC a cy) (m_AC a) r0 X0) args s 0 0 (m_AC a)) (F0 m 2 ls []) := by
  have hx := C.1.1
  have hb := C.1.2.1
  intro n
  induction n with
  | zero => intro v0 v3 X hf0; rw [f_L_firstOf_2] at hf0; cases hf0
  | succ n ih =>
    intro v0 v3 X hf0 H locs ls hP hS hl
    rw [f_L_firstOf_2] at hf0
    refine lv_iload_n hx hb dL_firstOf_2 rfl (lv_at hl 3 rfl) ?_
    refine lv_aload_n hx hb dL_firstOf_3 rfl (lv_at hl 1 rfl) ?_
    refine lv_bipush (v := 6) hx hb dL_firstOf_4 (by decide) ?_
    obtain ⟨g_1, hf2⟩ := m_gd_s hf0
    clear hf0
    refine m_ild C hP mC_131 0 rfl g_1 dL_firstOf_6 (fun y_1 e_1 => ?_)
    have hf3 := m_nm_s e_1 hf2
    clear hf2
    refine lv_icmp_ge (tgt := 27) hx hb dL_firstOf_7 (by decide) (fun c_4 => ?_) (fun c_4 => ?_)
    · have hf5 := m_it c_4 hf3
      clear hf3
      refine lv_bipush (v := (-5)) hx hb dL_firstOf_27 (by decide) ?_
      exact m_iret C hP hS dL_firstOf_29 hf5
    · have hf6 := m_ie c_4 hf3
      clear hf3
      refine lv_aload_n hx hb dL_firstOf_10 rfl (lv_at hl 2 rfl) ?_
      refine lv_iload_n hx hb dL_firstOf_11 rfl (lv_at hl 3 rfl) ?_
      obtain ⟨g_7, hf8⟩ := m_gd_s hf6
      clear hf6
      refine m_ild C hP mC_135 0 rfl g_7 dL_firstOf_12 (fun y_7 e_7 => ?_)
      have hf9 := m_nm_s e_7 hf8
      clear hf8
      refine lv_iconst (v := 2) hx hb dL_firstOf_13 (by decide) ?_
      refine lv_iload_n hx hb dL_firstOf_14 rfl (lv_at hl 0 rfl) ?_
      refine lv_imul hx hb dL_firstOf_15 ?_
      refine lv_topi (fun y_10 e_10 => ?_)
      have hf11 := m_nm_s e_10 hf9
      clear hf9
      refine lv_icmp_ne (tgt := 21) hx hb dL_firstOf_16 (by decide) (fun c_12 => ?_) (fun c_12 => ?_)
      · have hf13 := m_ie c_12 hf11
        clear hf11
        obtain ⟨y_15, e_15⟩ : ∃ y : Int32, y = v3 + 1 := ⟨_, rfl⟩
        refine lv_iinc (v := y_15) (lv' := [(3, .int y_15), (0, .int v0), (1, .ref (a 131)), (2, .ref (a 135))]) hx hb dL_firstOf_21 hl (k := 3) rfl (by rw [e_15]; rfl) (by decide) rfl (fun ls hl => ?_)
        have hf16 := m_nm_s e_15 hf13
        clear hf13
        refine lv_goto (tgt := 2) hx hb dL_firstOf_24 (by decide) ?_
        exact ih _ _ _ hf16 H locs ls hP hS (lv_sub hl [1, 2, 3, 0] rfl)
      · have hf14 := m_it c_12 hf11
        clear hf11
        refine lv_iload_n hx hb dL_firstOf_19 rfl (lv_at hl 3 rfl) ?_
        exact m_iret C hP hS dL_firstOf_20 hf14
def f_L_firstOf (N : Nat) (v0 : Int32) (X : XT) : Option (Int32 × XT) := f_L_firstOf_2 N N v0 0 X
set_option maxHeartbeats 4000000 in
set_option maxRecDepth 100000 in
theorem c_L_firstOf (l : Launch) (D : va_G) (a : Nat → Nat) (cy : Nat → ClassId) (hG : m_inj 138 a) (N : Nat) (v0 : Int32) (X : XT) {r0 : Int32} {X0 : XT} (hf0 : f_L_firstOf N v0 X = some (r0, X0)) : Met l yL_firstOf (Cond.code yL_firstOf cL_firstOf 4 (some .int) :: m_tbl) rm_L_firstOf (va_Pc [.int v0, .ref (a 131), .ref (a 135)] (m_PX D (m_tc cy) (m_WC a cy) (m_ZC a) X)) (m_QI D (m_WC a cy) (m_AC a) r0 X0) 0 0 (m_AC a) := by
  refine m_met (own := RL) hy_L_firstOf rfl (Nat.le_of_ble_eq_true rfl) (m_wl_D hG _) m_ZC_keep ?_
  intro p e s m args below meth c C ls hl hP hS
  have hx := C.1.1
  have hb := C.1.2.1
  have hl : lv_has ls 4 [(0, .int v0), (1, .ref (a 131)), (2, .ref (a 135))] := hl
  unfold f_L_firstOf at hf0
  suffices K : ∀ (H : Heap) (locs : List Loc), va_P D vwCl (m_WC a cy X) H → va_S (m_AC a) s.heap H locs → W p l e rm_L_firstOf s m args below meth c H locs 0 0 (MQ below (m_QI D (m_WC a cy) (m_AC a) r0 X0) args s 0 0 (m_AC a)) (F0 m 0 ls []) from K _ _ hP hS
  clear hP hS
  intro H locs hP hS
  refine lv_iconst (v := 0) hx hb dL_firstOf_0 (by decide) ?_
  refine lv_istore_n (lv' := [(3, .int 0), (0, .int v0), (1, .ref (a 131)), (2, .ref (a 135))]) hx hb dL_firstOf_1 rfl hl (by decide) rfl (fun ls hl => ?_)
  exact w_L_firstOf_2 l D a cy hG N C _ _ _ _ hf0 H locs ls hP hS (lv_sub hl [1, 2, 3, 0] rfl)
abbrev rm_L_turns : Room := { frames := 1, cells := 0, slots := 0, locals := 22 }
def f_L_turns_6 (N : Nat) : Nat → Int32 → Int32 → Int32 → Int32 → XT → Option (Int32 × XT)
  | 0, _, _, _, _, _ => none
  | n + 1, v0, v1, v5, v6, X => m_gd (m_in 6 17) <| m_nm (X 131 (Int32.toNatClampNeg 6)) fun y_1 => if y_1 ≤ v6 then (some (v5, X)) else (m_gd (m_in v6 48) <| m_nm (X 135 (Int32.toNatClampNeg v6)) fun y_7 => m_nm ((2 : Int32) * v0) fun y_10 => if y_7 = y_10 then (m_bi (f_L_what N v6 X) fun r_17 X_17 => if 4 ≤ r_17 then (m_nm (v6 + 1) fun y_22 => f_L_turns_6 N n v0 v1 v5 y_22 X_17) else (m_bv (f_L_becomes N v6 v1 X_17) fun X_24 => m_nm (v5 + 1) fun y_26 => m_nm (v6 + 1) fun y_28 => f_L_turns_6 N n v0 v1 y_26 y_28 X_24)) else (m_nm (v6 + 1) fun y_15 => f_L_turns_6 N n v0 v1 v5 y_15 X))
set_option maxHeartbeats 4000000 in
set_option maxRecDepth 100000 in
theorem w_L_turns_6 (l : Launch) (D : va_G) (a : Nat → Nat) (cy : Nat → ClassId) (hG : m_inj 138 a) (N : Nat) {p : Program} {e : Env} {s : State} {m : MethodId} {args : Array Value} {below : List Frame} {meth : Method} {c : Code} (C : m_Cx p s m args meth c cL_turns 7 RL (some .int) (Cond.code yL_turns cL_turns 7 (some .int)) D (m_tc cy) (m_AC a) (m_WC a cy) (m_ZC a)) {r0 : Int32} {X0 : XT} : ∀ (n : Nat) (v0 : Int32) (v1 : Int32) (v5 : Int32) (v6 : Int32) (X : XT), f_L_turns_6 N n v0 v1 v5 v6 X = some (r0, X0) → ∀ (H : Heap) (locs : List Loc) (ls : Array Slot), va_P D vwCl (m_WC a cy X) H → va_S (m_AC a) s.heap H locs → lv_has ls 7 [(0, .int v0), (1, .int v1), (2, .ref (a 131)), (3, .ref (a 132)), (4, .ref (a 135)), (5, .int v5), (6, .int v6)] → W p l e rm_L_turns s m args below meth c H locs 0 0 (MQ below (m_QI D (m_WC a cy) (m_AC a) r0 X0) args s 0 0 (m_AC a)) (F0 m 6 ls []) := by
  have hx := C.1.1
  have hb := C.1.2.1
  intro n
  induction n with
  | zero => intro v0 v1 v5 v6 X hf0; rw [f_L_turns_6] at hf0; cases hf0
  | succ n ih =>
    intro v0 v1 v5 v6 X hf0 H locs ls hP hS hl
    rw [f_L_turns_6] at hf0
    refine lv_iload hx hb dL_turns_6 (lv_at hl 6 rfl) ?_
    refine lv_aload_n hx hb dL_turns_8 rfl (lv_at hl 2 rfl) ?_
    refine lv_bipush (v := 6) hx hb dL_turns_9 (by decide) ?_
    obtain ⟨g_1, hf2⟩ := m_gd_s hf0
    clear hf0
    refine m_ild C hP mC_131 0 rfl g_1 dL_turns_11 (fun y_1 e_1 => ?_)
    have hf3 := m_nm_s e_1 hf2
    clear hf2
    refine lv_icmp_ge (tgt := 52) hx hb dL_turns_12 (by decide) (fun c_4 => ?_) (fun c_4 => ?_)
    · have hf5 := m_it c_4 hf3
      clear hf3
      refine lv_iload hx hb dL_turns_52 (lv_at hl 5 rfl) ?_
      exact m_iret C hP hS dL_turns_54 hf5
    · have hf6 := m_ie c_4 hf3
      clear hf3
      refine lv_aload hx hb dL_turns_15 (lv_at hl 4 rfl) ?_
      refine lv_iload hx hb dL_turns_17 (lv_at hl 6 rfl) ?_
      obtain ⟨g_7, hf8⟩ := m_gd_s hf6
      clear hf6
      refine m_ild C hP mC_135 0 rfl g_7 dL_turns_19 (fun y_7 e_7 => ?_)
      have hf9 := m_nm_s e_7 hf8
      clear hf8
      refine lv_iconst (v := 2) hx hb dL_turns_20 (by decide) ?_
      refine lv_iload_n hx hb dL_turns_21 rfl (lv_at hl 0 rfl) ?_
      refine lv_imul hx hb dL_turns_22 ?_
      refine lv_topi (fun y_10 e_10 => ?_)
      have hf11 := m_nm_s e_10 hf9
      clear hf9
      refine lv_icmp_ne (tgt := 46) hx hb dL_turns_23 (by decide) (fun c_12 => ?_) (fun c_12 => ?_)
      · have hf13 := m_ie c_12 hf11
        clear hf11
        obtain ⟨y_15, e_15⟩ : ∃ y : Int32, y = v6 + 1 := ⟨_, rfl⟩
        refine lv_iinc (v := y_15) (lv' := [(6, .int y_15), (0, .int v0), (1, .int v1), (2, .ref (a 131)), (3, .ref (a 132)), (4, .ref (a 135)), (5, .int v5)]) hx hb dL_turns_46 hl (k := 6) rfl (by rw [e_15]; rfl) (by decide) rfl (fun ls hl => ?_)
        have hf16 := m_nm_s e_15 hf13
        clear hf13
        refine lv_goto (tgt := 6) hx hb dL_turns_49 (by decide) ?_
        exact ih _ _ _ _ _ hf16 H locs ls hP hS (lv_sub hl [1, 2, 3, 4, 5, 6, 0] rfl)
      · have hf14 := m_it c_12 hf11
        clear hf11
        refine lv_iload hx hb dL_turns_26 (lv_at hl 6 rfl) ?_
        refine lv_aload_n hx hb dL_turns_28 rfl (lv_at hl 3 rfl) ?_
        obtain ⟨r_17, X_17, h_17, hf18⟩ := m_bi_s hf14
        clear hf14
        refine m_callSi C [.int v6, .ref (a 132)] [] (c_L_what l D a cy hG N _ _ h_17) (m_goodS wl_L_16 wst_L_what wn_L wc_L_what) ⟨rfl, rfl⟩ hv_L_what ⟨Nat.le_of_ble_eq_true rfl, Nat.le_of_ble_eq_true rfl⟩ hP hS rfl hl.1 rfl (Nat.le_of_ble_eq_true rfl) dL_turns_29 (fun H locs hP hS => ?_)
        refine lv_iconst (v := 4) hx hb dL_turns_32 (by decide) ?_
        refine lv_icmp_ge (tgt := 46) hx hb dL_turns_33 (by decide) (fun c_19 => ?_) (fun c_19 => ?_)
        · have hf20 := m_it c_19 hf18
          clear hf18
          obtain ⟨y_22, e_22⟩ : ∃ y : Int32, y = v6 + 1 := ⟨_, rfl⟩
          refine lv_iinc (v := y_22) (lv' := [(6, .int y_22), (0, .int v0), (1, .int v1), (2, .ref (a 131)), (3, .ref (a 132)), (4, .ref (a 135)), (5, .int v5)]) hx hb dL_turns_46 hl (k := 6) rfl (by rw [e_22]; rfl) (by decide) rfl (fun ls hl => ?_)
          have hf23 := m_nm_s e_22 hf20
          clear hf20
          refine lv_goto (tgt := 6) hx hb dL_turns_49 (by decide) ?_
          exact ih _ _ _ _ _ hf23 H locs ls hP hS (lv_sub hl [1, 2, 3, 4, 5, 6, 0] rfl)
        · have hf21 := m_ie c_19 hf18
          clear hf18
          refine lv_iload hx hb dL_turns_36 (lv_at hl 6 rfl) ?_
          refine lv_iload_n hx hb dL_turns_38 rfl (lv_at hl 1 rfl) ?_
          refine lv_aload_n hx hb dL_turns_39 rfl (lv_at hl 3 rfl) ?_
          obtain ⟨X_24, h_24, hf25⟩ := m_bv_s hf21
          clear hf21
          refine m_callSv C [.int v6, .int v1, .ref (a 132)] [] (c_L_becomes l D a cy hG N _ _ _ h_24) (m_goodS wl_L_19 wst_L_becomes wn_L wc_L_becomes) ⟨rfl, rfl⟩ hv_L_becomes ⟨Nat.le_of_ble_eq_true rfl, Nat.le_of_ble_eq_true rfl⟩ hP hS rfl hl.1 rfl (Nat.le_of_ble_eq_true rfl) dL_turns_40 (fun H locs hP hS => ?_)
          obtain ⟨y_26, e_26⟩ : ∃ y : Int32, y = v5 + 1 := ⟨_, rfl⟩
          refine lv_iinc (v := y_26) (lv' := [(5, .int y_26), (0, .int v0), (1, .int v1), (2, .ref (a 131)), (3, .ref (a 132)), (4, .ref (a 135)), (6, .int v6)]) hx hb dL_turns_43 hl (k := 5) rfl (by rw [e_26]; rfl) (by decide) rfl (fun ls hl => ?_)
          have hf27 := m_nm_s e_26 hf25
          clear hf25
          obtain ⟨y_28, e_28⟩ : ∃ y : Int32, y = v6 + 1 := ⟨_, rfl⟩
          refine lv_iinc (v := y_28) (lv' := [(6, .int y_28), (5, .int y_26), (0, .int v0), (1, .int v1), (2, .ref (a 131)), (3, .ref (a 132)), (4, .ref (a 135))]) hx hb dL_turns_46 hl (k := 6) rfl (by rw [e_28]; rfl) (by decide) rfl (fun ls hl => ?_)
          have hf29 := m_nm_s e_28 hf27
          clear hf27
          refine lv_goto (tgt := 6) hx hb dL_turns_49 (by decide) ?_
          exact ih _ _ _ _ _ hf29 H locs ls hP hS (lv_sub hl [2, 3, 4, 5, 6, 1, 0] rfl)
def f_L_turns (N : Nat) (v0 : Int32) (v1 : Int32) (X : XT) : Option (Int32 × XT) := f_L_turns_6 N N v0 v1 0 0 X
set_option maxHeartbeats 4000000 in
set_option maxRecDepth 100000 in
theorem c_L_turns (l : Launch) (D : va_G) (a : Nat → Nat) (cy : Nat → ClassId) (hG : m_inj 138 a) (N : Nat) (v0 : Int32) (v1 : Int32) (X : XT) {r0 : Int32} {X0 : XT} (hf0 : f_L_turns N v0 v1 X = some (r0, X0)) : Met l yL_turns (Cond.code yL_turns cL_turns 7 (some .int) :: m_tbl) rm_L_turns (va_Pc [.int v0, .int v1, .ref (a 131), .ref (a 132), .ref (a 135)] (m_PX D (m_tc cy) (m_WC a cy) (m_ZC a) X)) (m_QI D (m_WC a cy) (m_AC a) r0 X0) 0 0 (m_AC a) := by
  refine m_met (own := RL) hy_L_turns rfl (Nat.le_of_ble_eq_true rfl) (m_wl_D hG _) m_ZC_keep ?_
  intro p e s m args below meth c C ls hl hP hS
  have hx := C.1.1
  have hb := C.1.2.1
  have hl : lv_has ls 7 [(0, .int v0), (1, .int v1), (2, .ref (a 131)), (3, .ref (a 132)), (4, .ref (a 135))] := hl
  unfold f_L_turns at hf0
  suffices K : ∀ (H : Heap) (locs : List Loc), va_P D vwCl (m_WC a cy X) H → va_S (m_AC a) s.heap H locs → W p l e rm_L_turns s m args below meth c H locs 0 0 (MQ below (m_QI D (m_WC a cy) (m_AC a) r0 X0) args s 0 0 (m_AC a)) (F0 m 0 ls []) from K _ _ hP hS
  clear hP hS
  intro H locs hP hS
  refine lv_iconst (v := 0) hx hb dL_turns_0 (by decide) ?_
  refine lv_istore (lv' := [(5, .int 0), (0, .int v0), (1, .int v1), (2, .ref (a 131)), (3, .ref (a 132)), (4, .ref (a 135))]) hx hb dL_turns_1 hl (by decide) rfl (fun ls hl => ?_)
  refine lv_iconst (v := 0) hx hb dL_turns_3 (by decide) ?_
  refine lv_istore (lv' := [(6, .int 0), (5, .int 0), (0, .int v0), (1, .int v1), (2, .ref (a 131)), (3, .ref (a 132)), (4, .ref (a 135))]) hx hb dL_turns_4 hl (by decide) rfl (fun ls hl => ?_)
  exact w_L_turns_6 l D a cy hG N C _ _ _ _ _ _ hf0 H locs ls hP hS (lv_sub hl [2, 3, 4, 5, 6, 1, 0] rfl)
abbrev rm_L_writes : Room := { frames := 2, cells := 0, slots := 0, locals := 48 }
def f_L_writes_3 (N : Nat) : Nat → Int32 → XT → Option XT
  | 0, _, _ => none
  | n + 1, v4, X => m_gd (m_in 7 17) <| m_nm (X 131 (Int32.toNatClampNeg 7)) fun y_1 => if y_1 ≤ v4 then (some X) else (m_gd (m_in 9 17) <| m_nm (X 131 (Int32.toNatClampNeg 9)) fun y_7 => if 0 ≤ y_7 then (m_nm (v4 + 1) fun y_13 => f_L_writes_3 N n y_13 X) else (m_gd (m_in v4 48) <| m_nm (X 136 (Int32.toNatClampNeg v4)) fun y_15 => m_nm (y_15 &&& 7) fun y_18 => if y_18 = 2 then (m_gd (m_in 9 17) <| m_nm (m_up X 131 (upd (X 131) (Int32.toNatClampNeg 9) v4)) fun X_25 => m_gd (m_in v4 48) <| m_nm (X_25 136 (Int32.toNatClampNeg v4)) fun y_28 => m_nm (y_28 + 1) fun y_31 => m_gd (m_in v4 48) <| m_nm (m_up X_25 136 (upd (X_25 136) (Int32.toNatClampNeg v4) y_31)) fun X_33 => m_gd (m_in 4 17) <| m_nm (X_33 131 (Int32.toNatClampNeg 4)) fun y_36 => m_bi (f_L_members N v4 X_33) fun r_39 X_39 => m_nm (r_39 / 4000) fun y_41 => m_nm (y_36 + y_41) fun y_43 => m_gd (m_in 10 17) <| m_nm (m_up X_39 131 (upd (X_39 131) (Int32.toNatClampNeg 10) y_43)) fun X_45 => m_bi (f_L_turns N v4 3 X_45) fun r_48 X_48 => m_nm (v4 + 1) fun y_50 => f_L_writes_3 N n y_50 X_48) else (m_nm (v4 + 1) fun y_23 => f_L_writes_3 N n y_23 X)))
set_option maxHeartbeats 4000000 in
set_option maxRecDepth 100000 in
theorem w_L_writes_3 (l : Launch) (D : va_G) (a : Nat → Nat) (cy : Nat → ClassId) (hG : m_inj 138 a) (N : Nat) {p : Program} {e : Env} {s : State} {m : MethodId} {args : Array Value} {below : List Frame} {meth : Method} {c : Code} (C : m_Cx p s m args meth c cL_writes 5 RL none (Cond.code yL_writes cL_writes 5 none) D (m_tc cy) (m_AC a) (m_WC a cy) (m_ZC a)) {X0 : XT} : ∀ (n : Nat) (v4 : Int32) (X : XT), f_L_writes_3 N n v4 X = some X0 → ∀ (H : Heap) (locs : List Loc) (ls : Array Slot), va_P D vwCl (m_WC a cy X) H → va_S (m_AC a) s.heap H locs → lv_has ls 5 [(0, .ref (a 131)), (1, .ref (a 132)), (2, .ref (a 135)), (3, .ref (a 136)), (4, .int v4)] → W p l e rm_L_writes s m args below meth c H locs 0 0 (MQ below (m_QV D (m_WC a cy) (m_AC a) X0) args s 0 0 (m_AC a)) (F0 m 3 ls []) := by
  have hx := C.1.1
  have hb := C.1.2.1
  intro n
  induction n with
  | zero => intro v4 X hf0; rw [f_L_writes_3] at hf0; cases hf0
  | succ n ih =>
    intro v4 X hf0 H locs ls hP hS hl
    rw [f_L_writes_3] at hf0
    refine lv_iload hx hb dL_writes_3 (lv_at hl 4 rfl) ?_
    refine lv_aload_n hx hb dL_writes_5 rfl (lv_at hl 0 rfl) ?_
    refine lv_bipush (v := 7) hx hb dL_writes_6 (by decide) ?_
    obtain ⟨g_1, hf2⟩ := m_gd_s hf0
    clear hf0
    refine m_ild C hP mC_131 0 rfl g_1 dL_writes_8 (fun y_1 e_1 => ?_)
    have hf3 := m_nm_s e_1 hf2
    clear hf2
    refine lv_icmp_ge (tgt := 80) hx hb dL_writes_9 (by decide) (fun c_4 => ?_) (fun c_4 => ?_)
    · have hf5 := m_it c_4 hf3
      clear hf3
      exact m_vret C hP hS dL_writes_80 hf5
    · have hf6 := m_ie c_4 hf3
      clear hf3
      refine lv_aload_n hx hb dL_writes_12 rfl (lv_at hl 0 rfl) ?_
      refine lv_bipush (v := 9) hx hb dL_writes_13 (by decide) ?_
      obtain ⟨g_7, hf8⟩ := m_gd_s hf6
      clear hf6
      refine m_ild C hP mC_131 0 rfl g_7 dL_writes_15 (fun y_7 e_7 => ?_)
      have hf9 := m_nm_s e_7 hf8
      clear hf8
      refine lv_if_ge (tgt := 74) hx hb dL_writes_16 (by decide) (fun c_10 => ?_) (fun c_10 => ?_)
      · have hf11 := m_it c_10 hf9
        clear hf9
        obtain ⟨y_13, e_13⟩ : ∃ y : Int32, y = v4 + 1 := ⟨_, rfl⟩
        refine lv_iinc (v := y_13) (lv' := [(4, .int y_13), (0, .ref (a 131)), (1, .ref (a 132)), (2, .ref (a 135)), (3, .ref (a 136))]) hx hb dL_writes_74 hl (k := 4) rfl (by rw [e_13]; rfl) (by decide) rfl (fun ls hl => ?_)
        have hf14 := m_nm_s e_13 hf11
        clear hf11
        refine lv_goto (tgt := 3) hx hb dL_writes_77 (by decide) ?_
        exact ih _ _ hf14 H locs ls hP hS (lv_sub hl [1, 2, 3, 4, 0] rfl)
      · have hf12 := m_ie c_10 hf9
        clear hf9
        refine lv_aload_n hx hb dL_writes_19 rfl (lv_at hl 3 rfl) ?_
        refine lv_iload hx hb dL_writes_20 (lv_at hl 4 rfl) ?_
        obtain ⟨g_15, hf16⟩ := m_gd_s hf12
        clear hf12
        refine m_ild C hP mC_136 0 rfl g_15 dL_writes_22 (fun y_15 e_15 => ?_)
        have hf17 := m_nm_s e_15 hf16
        clear hf16
        refine lv_bipush (v := 7) hx hb dL_writes_23 (by decide) ?_
        refine lv_iand hx hb dL_writes_25 ?_
        refine lv_topi (fun y_18 e_18 => ?_)
        have hf19 := m_nm_s e_18 hf17
        clear hf17
        refine lv_iconst (v := 2) hx hb dL_writes_26 (by decide) ?_
        refine lv_icmp_ne (tgt := 74) hx hb dL_writes_27 (by decide) (fun c_20 => ?_) (fun c_20 => ?_)
        · have hf21 := m_ie c_20 hf19
          clear hf19
          obtain ⟨y_23, e_23⟩ : ∃ y : Int32, y = v4 + 1 := ⟨_, rfl⟩
          refine lv_iinc (v := y_23) (lv' := [(4, .int y_23), (0, .ref (a 131)), (1, .ref (a 132)), (2, .ref (a 135)), (3, .ref (a 136))]) hx hb dL_writes_74 hl (k := 4) rfl (by rw [e_23]; rfl) (by decide) rfl (fun ls hl => ?_)
          have hf24 := m_nm_s e_23 hf21
          clear hf21
          refine lv_goto (tgt := 3) hx hb dL_writes_77 (by decide) ?_
          exact ih _ _ hf24 H locs ls hP hS (lv_sub hl [1, 2, 3, 4, 0] rfl)
        · have hf22 := m_it c_20 hf19
          clear hf19
          refine lv_aload_n hx hb dL_writes_30 rfl (lv_at hl 0 rfl) ?_
          refine lv_bipush (v := 9) hx hb dL_writes_31 (by decide) ?_
          refine lv_iload hx hb dL_writes_33 (lv_at hl 4 rfl) ?_
          obtain ⟨g_25, hf26⟩ := m_gd_s hf22
          clear hf22
          refine m_ist C hP hS mC_131 0 rfl g_25 mCs_131 dL_writes_35 (fun X_25 e_25 H locs hP hS => ?_)
          have hf27 := m_nm_s e_25 hf26
          clear hf26
          refine lv_aload_n hx hb dL_writes_36 rfl (lv_at hl 3 rfl) ?_
          refine lv_iload hx hb dL_writes_37 (lv_at hl 4 rfl) ?_
          refine lv_dup2_11 hx hb dL_writes_39 rfl rfl ?_
          obtain ⟨g_28, hf29⟩ := m_gd_s hf27
          clear hf27
          refine m_ild C hP mC_136 0 rfl g_28 dL_writes_40 (fun y_28 e_28 => ?_)
          have hf30 := m_nm_s e_28 hf29
          clear hf29
          refine lv_iconst (v := 1) hx hb dL_writes_41 (by decide) ?_
          refine lv_iadd hx hb dL_writes_42 ?_
          refine lv_topi (fun y_31 e_31 => ?_)
          have hf32 := m_nm_s e_31 hf30
          clear hf30
          obtain ⟨g_33, hf34⟩ := m_gd_s hf32
          clear hf32
          refine m_ist C hP hS mC_136 0 rfl g_33 mCs_136 dL_writes_43 (fun X_33 e_33 H locs hP hS => ?_)
          have hf35 := m_nm_s e_33 hf34
          clear hf34
          refine lv_aload_n hx hb dL_writes_44 rfl (lv_at hl 0 rfl) ?_
          refine lv_bipush (v := 10) hx hb dL_writes_45 (by decide) ?_
          refine lv_aload_n hx hb dL_writes_47 rfl (lv_at hl 0 rfl) ?_
          refine lv_iconst (v := 4) hx hb dL_writes_48 (by decide) ?_
          obtain ⟨g_36, hf37⟩ := m_gd_s hf35
          clear hf35
          refine m_ild C hP mC_131 0 rfl g_36 dL_writes_49 (fun y_36 e_36 => ?_)
          have hf38 := m_nm_s e_36 hf37
          clear hf37
          refine lv_iload hx hb dL_writes_50 (lv_at hl 4 rfl) ?_
          refine lv_aload_n hx hb dL_writes_52 rfl (lv_at hl 0 rfl) ?_
          refine lv_aload_n hx hb dL_writes_53 rfl (lv_at hl 1 rfl) ?_
          refine lv_aload_n hx hb dL_writes_54 rfl (lv_at hl 2 rfl) ?_
          obtain ⟨r_39, X_39, h_39, hf40⟩ := m_bi_s hf38
          clear hf38
          refine m_callSi C [.int v4, .ref (a 131), .ref (a 132), .ref (a 135)] [.int y_36, .int 10, .ref (a 131)] (c_L_members l D a cy hG N _ _ h_39) (m_goodS wl_L_23 wst_L_members wn_L wc_L_members) ⟨rfl, rfl⟩ hv_L_members ⟨Nat.le_of_ble_eq_true rfl, Nat.le_of_ble_eq_true rfl⟩ hP hS rfl hl.1 rfl (Nat.le_of_ble_eq_true rfl) dL_writes_55 (fun H locs hP hS => ?_)
          refine lv_sipush (v := 4000) hx hb dL_writes_58 (by decide) ?_
          refine lv_idiv hx hb dL_writes_61 (by decide) ?_
          refine lv_topi (fun y_41 e_41 => ?_)
          have hf42 := m_nm_s e_41 hf40
          clear hf40
          refine lv_iadd hx hb dL_writes_62 ?_
          refine lv_topi (fun y_43 e_43 => ?_)
          have hf44 := m_nm_s e_43 hf42
          clear hf42
          obtain ⟨g_45, hf46⟩ := m_gd_s hf44
          clear hf44
          refine m_ist C hP hS mC_131 0 rfl g_45 mCs_131 dL_writes_63 (fun X_45 e_45 H locs hP hS => ?_)
          have hf47 := m_nm_s e_45 hf46
          clear hf46
          refine lv_iload hx hb dL_writes_64 (lv_at hl 4 rfl) ?_
          refine lv_iconst (v := 3) hx hb dL_writes_66 (by decide) ?_
          refine lv_aload_n hx hb dL_writes_67 rfl (lv_at hl 0 rfl) ?_
          refine lv_aload_n hx hb dL_writes_68 rfl (lv_at hl 1 rfl) ?_
          refine lv_aload_n hx hb dL_writes_69 rfl (lv_at hl 2 rfl) ?_
          obtain ⟨r_48, X_48, h_48, hf49⟩ := m_bi_s hf47
          clear hf47
          refine m_callSi C [.int v4, .int 3, .ref (a 131), .ref (a 132), .ref (a 135)] [] (c_L_turns l D a cy hG N _ _ _ h_48) (m_goodS wl_L_27 wst_L_turns wn_L wc_L_turns) ⟨rfl, rfl⟩ hv_L_turns ⟨Nat.le_of_ble_eq_true rfl, Nat.le_of_ble_eq_true rfl⟩ hP hS rfl hl.1 rfl (Nat.le_of_ble_eq_true rfl) dL_writes_70 (fun H locs hP hS => ?_)
          refine lv_pop hx hb dL_writes_73 rfl ?_
          obtain ⟨y_50, e_50⟩ : ∃ y : Int32, y = v4 + 1 := ⟨_, rfl⟩
          refine lv_iinc (v := y_50) (lv' := [(4, .int y_50), (0, .ref (a 131)), (1, .ref (a 132)), (2, .ref (a 135)), (3, .ref (a 136))]) hx hb dL_writes_74 hl (k := 4) rfl (by rw [e_50]; rfl) (by decide) rfl (fun ls hl => ?_)
          have hf51 := m_nm_s e_50 hf49
          clear hf49
          refine lv_goto (tgt := 3) hx hb dL_writes_77 (by decide) ?_
          exact ih _ _ hf51 H locs ls hP hS (lv_sub hl [1, 2, 3, 4, 0] rfl)
def f_L_writes (N : Nat) (X : XT) : Option XT := f_L_writes_3 N N 0 X
set_option maxHeartbeats 4000000 in
set_option maxRecDepth 100000 in
theorem c_L_writes (l : Launch) (D : va_G) (a : Nat → Nat) (cy : Nat → ClassId) (hG : m_inj 138 a) (N : Nat) (X : XT) {X0 : XT} (hf0 : f_L_writes N X = some X0) : Met l yL_writes (Cond.code yL_writes cL_writes 5 none :: m_tbl) rm_L_writes (va_Pc [.ref (a 131), .ref (a 132), .ref (a 135), .ref (a 136)] (m_PX D (m_tc cy) (m_WC a cy) (m_ZC a) X)) (m_QV D (m_WC a cy) (m_AC a) X0) 0 0 (m_AC a) := by
  refine m_met (own := RL) hy_L_writes rfl (Nat.le_of_ble_eq_true rfl) (m_wl_D hG _) m_ZC_keep ?_
  intro p e s m args below meth c C ls hl hP hS
  have hx := C.1.1
  have hb := C.1.2.1
  have hl : lv_has ls 5 [(0, .ref (a 131)), (1, .ref (a 132)), (2, .ref (a 135)), (3, .ref (a 136))] := hl
  unfold f_L_writes at hf0
  suffices K : ∀ (H : Heap) (locs : List Loc), va_P D vwCl (m_WC a cy X) H → va_S (m_AC a) s.heap H locs → W p l e rm_L_writes s m args below meth c H locs 0 0 (MQ below (m_QV D (m_WC a cy) (m_AC a) X0) args s 0 0 (m_AC a)) (F0 m 0 ls []) from K _ _ hP hS
  clear hP hS
  intro H locs hP hS
  refine lv_iconst (v := 0) hx hb dL_writes_0 (by decide) ?_
  refine lv_istore (lv' := [(4, .int 0), (0, .ref (a 131)), (1, .ref (a 132)), (2, .ref (a 135)), (3, .ref (a 136))]) hx hb dL_writes_1 hl (by decide) rfl (fun ls hl => ?_)
  exact w_L_writes_3 l D a cy hG N C _ _ _ hf0 H locs ls hP hS (lv_sub hl [1, 2, 3, 4, 0] rfl)
abbrev rm_L_closes : Room := { frames := 3, cells := 0, slots := 0, locals := 72 }
def f_L_closes_110 (N : Nat) (u0 : Int32) (u1 : Int32) (X : XT) : Option XT := m_gd (m_in u1 17) <| m_nm (m_up X 131 (upd (X 131) (Int32.toNatClampNeg u1) u0)) fun X_40 => m_bv (f_L_writes N X_40) fun X_43 => some X_43
set_option maxHeartbeats 4000000 in
set_option maxRecDepth 100000 in
theorem w_L_closes_110 (l : Launch) (D : va_G) (a : Nat → Nat) (cy : Nat → ClassId) (hG : m_inj 138 a) (N : Nat) {p : Program} {e : Env} {s : State} {m : MethodId} {args : Array Value} {below : List Frame} {meth : Method} {c : Code} (C : m_Cx p s m args meth c cL_closes 7 RL none (Cond.code yL_closes cL_closes 7 none) D (m_tc cy) (m_AC a) (m_WC a cy) (m_ZC a)) {X0 : XT} (u0 : Int32) (u1 : Int32) (X : XT) (hf0 : f_L_closes_110 N u0 u1 X = some X0) : ∀ (H : Heap) (locs : List Loc) (ls : Array Slot), va_P D vwCl (m_WC a cy X) H → va_S (m_AC a) s.heap H locs → lv_has ls 7 [(1, .ref (a 131)), (2, .ref (a 132)), (3, .ref (a 135)), (4, .ref (a 136))] → W p l e rm_L_closes s m args below meth c H locs 0 0 (MQ below (m_QV D (m_WC a cy) (m_AC a) X0) args s 0 0 (m_AC a)) (F0 m 110 ls [.int u0, .int u1, .ref (a 131)]) := by
  have hx := C.1.1
  have hb := C.1.2.1
  intro H locs ls hP hS hl
  unfold f_L_closes_110 at hf0
  obtain ⟨g_40, hf41⟩ := m_gd_s hf0
  clear hf0
  refine m_ist C hP hS mC_131 0 rfl g_40 mCs_131 dL_closes_110 (fun X_40 e_40 H locs hP hS => ?_)
  have hf42 := m_nm_s e_40 hf41
  clear hf41
  refine lv_aload_n hx hb dL_closes_111 rfl (lv_at hl 0 rfl) ?_
  refine lv_aload_n hx hb dL_closes_112 rfl (lv_at hl 1 rfl) ?_
  refine lv_aload_n hx hb dL_closes_113 rfl (lv_at hl 2 rfl) ?_
  refine lv_aload hx hb dL_closes_114 (lv_at hl 3 rfl) ?_
  obtain ⟨X_43, h_43, hf44⟩ := m_bv_s hf42
  clear hf42
  refine m_callSv C [.ref (a 131), .ref (a 132), .ref (a 135), .ref (a 136)] [] (c_L_writes l D a cy hG N _ h_43) (m_goodS wl_L_31 wst_L_writes wn_L wc_L_writes) ⟨rfl, rfl⟩ hv_L_writes ⟨Nat.le_of_ble_eq_true rfl, Nat.le_of_ble_eq_true rfl⟩ hP hS rfl hl.1 rfl (Nat.le_of_ble_eq_true rfl) dL_closes_116 (fun H locs hP hS => ?_)
  exact m_vret C hP hS dL_closes_119 hf44
def f_L_closes_86 (N : Nat) (X : XT) : Option XT := m_gd (m_in 5 17) <| m_nm (X 131 (Int32.toNatClampNeg 5)) fun y_26 => if y_26 = 1 then (m_gd (m_in 1 17) <| m_nm (X 131 (Int32.toNatClampNeg 1)) fun y_34 => if y_34 ≤ 0 then (f_L_closes_110 N 0 1 X) else (m_gd (m_in 1 17) <| m_nm (X 131 (Int32.toNatClampNeg 1)) fun y_45 => m_nm (y_45 - 1) fun y_48 => f_L_closes_110 N y_48 1 X)) else (m_bv (f_L_writes N X) fun X_32 => some X_32)
set_option maxHeartbeats 4000000 in
set_option maxRecDepth 100000 in
theorem w_L_closes_86 (l : Launch) (D : va_G) (a : Nat → Nat) (cy : Nat → ClassId) (hG : m_inj 138 a) (N : Nat) {p : Program} {e : Env} {s : State} {m : MethodId} {args : Array Value} {below : List Frame} {meth : Method} {c : Code} (C : m_Cx p s m args meth c cL_closes 7 RL none (Cond.code yL_closes cL_closes 7 none) D (m_tc cy) (m_AC a) (m_WC a cy) (m_ZC a)) {X0 : XT} (X : XT) (hf0 : f_L_closes_86 N X = some X0) : ∀ (H : Heap) (locs : List Loc) (ls : Array Slot), va_P D vwCl (m_WC a cy X) H → va_S (m_AC a) s.heap H locs → lv_has ls 7 [(1, .ref (a 131)), (2, .ref (a 132)), (3, .ref (a 135)), (4, .ref (a 136))] → W p l e rm_L_closes s m args below meth c H locs 0 0 (MQ below (m_QV D (m_WC a cy) (m_AC a) X0) args s 0 0 (m_AC a)) (F0 m 86 ls []) := by
  have hx := C.1.1
  have hb := C.1.2.1
  intro H locs ls hP hS hl
  unfold f_L_closes_86 at hf0
  refine lv_aload_n hx hb dL_closes_86 rfl (lv_at hl 0 rfl) ?_
  refine lv_iconst (v := 5) hx hb dL_closes_87 (by decide) ?_
  obtain ⟨g_26, hf27⟩ := m_gd_s hf0
  clear hf0
  refine m_ild C hP mC_131 0 rfl g_26 dL_closes_88 (fun y_26 e_26 => ?_)
  have hf28 := m_nm_s e_26 hf27
  clear hf27
  refine lv_iconst (v := 1) hx hb dL_closes_89 (by decide) ?_
  refine lv_icmp_ne (tgt := 111) hx hb dL_closes_90 (by decide) (fun c_29 => ?_) (fun c_29 => ?_)
  · have hf30 := m_ie c_29 hf28
    clear hf28
    refine lv_aload_n hx hb dL_closes_111 rfl (lv_at hl 0 rfl) ?_
    refine lv_aload_n hx hb dL_closes_112 rfl (lv_at hl 1 rfl) ?_
    refine lv_aload_n hx hb dL_closes_113 rfl (lv_at hl 2 rfl) ?_
    refine lv_aload hx hb dL_closes_114 (lv_at hl 3 rfl) ?_
    obtain ⟨X_32, h_32, hf33⟩ := m_bv_s hf30
    clear hf30
    refine m_callSv C [.ref (a 131), .ref (a 132), .ref (a 135), .ref (a 136)] [] (c_L_writes l D a cy hG N _ h_32) (m_goodS wl_L_31 wst_L_writes wn_L wc_L_writes) ⟨rfl, rfl⟩ hv_L_writes ⟨Nat.le_of_ble_eq_true rfl, Nat.le_of_ble_eq_true rfl⟩ hP hS rfl hl.1 rfl (Nat.le_of_ble_eq_true rfl) dL_closes_116 (fun H locs hP hS => ?_)
    exact m_vret C hP hS dL_closes_119 hf33
  · have hf31 := m_it c_29 hf28
    clear hf28
    refine lv_aload_n hx hb dL_closes_93 rfl (lv_at hl 0 rfl) ?_
    refine lv_iconst (v := 1) hx hb dL_closes_94 (by decide) ?_
    refine lv_aload_n hx hb dL_closes_95 rfl (lv_at hl 0 rfl) ?_
    refine lv_iconst (v := 1) hx hb dL_closes_96 (by decide) ?_
    obtain ⟨g_34, hf35⟩ := m_gd_s hf31
    clear hf31
    refine m_ild C hP mC_131 0 rfl g_34 dL_closes_97 (fun y_34 e_34 => ?_)
    have hf36 := m_nm_s e_34 hf35
    clear hf35
    refine lv_if_le (tgt := 109) hx hb dL_closes_98 (by decide) (fun c_37 => ?_) (fun c_37 => ?_)
    · have hf38 := m_it c_37 hf36
      clear hf36
      refine lv_iconst (v := 0) hx hb dL_closes_109 (by decide) ?_
      exact w_L_closes_110 l D a cy hG N C _ _ _ hf38 H locs ls hP hS (lv_sub hl [0, 1, 2, 3] rfl)
    · have hf39 := m_ie c_37 hf36
      clear hf36
      refine lv_aload_n hx hb dL_closes_101 rfl (lv_at hl 0 rfl) ?_
      refine lv_iconst (v := 1) hx hb dL_closes_102 (by decide) ?_
      obtain ⟨g_45, hf46⟩ := m_gd_s hf39
      clear hf39
      refine m_ild C hP mC_131 0 rfl g_45 dL_closes_103 (fun y_45 e_45 => ?_)
      have hf47 := m_nm_s e_45 hf46
      clear hf46
      refine lv_iconst (v := 1) hx hb dL_closes_104 (by decide) ?_
      refine lv_isub hx hb dL_closes_105 ?_
      refine lv_topi (fun y_48 e_48 => ?_)
      have hf49 := m_nm_s e_48 hf47
      clear hf47
      refine lv_goto (tgt := 110) hx hb dL_closes_106 (by decide) ?_
      exact w_L_closes_110 l D a cy hG N C _ _ _ hf49 H locs ls hP hS (lv_sub hl [0, 1, 2, 3] rfl)
def f_L_closes_82 (N : Nat) (u0 : Int32) (u1 : Int32) (X : XT) : Option XT := m_gd (m_in u1 17) <| m_nm (m_up X 131 (upd (X 131) (Int32.toNatClampNeg u1) u0)) fun X_65 => m_bv (f_L_writes N X_65) fun X_68 => some X_68
set_option maxHeartbeats 4000000 in
set_option maxRecDepth 100000 in
theorem w_L_closes_82 (l : Launch) (D : va_G) (a : Nat → Nat) (cy : Nat → ClassId) (hG : m_inj 138 a) (N : Nat) {p : Program} {e : Env} {s : State} {m : MethodId} {args : Array Value} {below : List Frame} {meth : Method} {c : Code} (C : m_Cx p s m args meth c cL_closes 7 RL none (Cond.code yL_closes cL_closes 7 none) D (m_tc cy) (m_AC a) (m_WC a cy) (m_ZC a)) {X0 : XT} (u0 : Int32) (u1 : Int32) (X : XT) (hf0 : f_L_closes_82 N u0 u1 X = some X0) : ∀ (H : Heap) (locs : List Loc) (ls : Array Slot), va_P D vwCl (m_WC a cy X) H → va_S (m_AC a) s.heap H locs → lv_has ls 7 [(1, .ref (a 131)), (2, .ref (a 132)), (3, .ref (a 135)), (4, .ref (a 136))] → W p l e rm_L_closes s m args below meth c H locs 0 0 (MQ below (m_QV D (m_WC a cy) (m_AC a) X0) args s 0 0 (m_AC a)) (F0 m 82 ls [.int u0, .int u1, .ref (a 131)]) := by
  have hx := C.1.1
  have hb := C.1.2.1
  intro H locs ls hP hS hl
  unfold f_L_closes_82 at hf0
  obtain ⟨g_65, hf66⟩ := m_gd_s hf0
  clear hf0
  refine m_ist C hP hS mC_131 0 rfl g_65 mCs_131 dL_closes_82 (fun X_65 e_65 H locs hP hS => ?_)
  have hf67 := m_nm_s e_65 hf66
  clear hf66
  refine lv_goto (tgt := 111) hx hb dL_closes_83 (by decide) ?_
  refine lv_aload_n hx hb dL_closes_111 rfl (lv_at hl 0 rfl) ?_
  refine lv_aload_n hx hb dL_closes_112 rfl (lv_at hl 1 rfl) ?_
  refine lv_aload_n hx hb dL_closes_113 rfl (lv_at hl 2 rfl) ?_
  refine lv_aload hx hb dL_closes_114 (lv_at hl 3 rfl) ?_
  obtain ⟨X_68, h_68, hf69⟩ := m_bv_s hf67
  clear hf67
  refine m_callSv C [.ref (a 131), .ref (a 132), .ref (a 135), .ref (a 136)] [] (c_L_writes l D a cy hG N _ h_68) (m_goodS wl_L_31 wst_L_writes wn_L wc_L_writes) ⟨rfl, rfl⟩ hv_L_writes ⟨Nat.le_of_ble_eq_true rfl, Nat.le_of_ble_eq_true rfl⟩ hP hS rfl hl.1 rfl (Nat.le_of_ble_eq_true rfl) dL_closes_116 (fun H locs hP hS => ?_)
  exact m_vret C hP hS dL_closes_119 hf69
def f_L_closes (N : Nat) (v0 : Int32) (X : XT) : Option XT := m_gd (m_in 8 17) <| m_nm (X 131 (Int32.toNatClampNeg 8)) fun y_1 => m_bi (f_L_members N y_1 X) fun r_4 X_4 => m_nm (r_4 - r_4 / 1000 * 1000) fun y_6 => m_gd (m_in 8 17) <| m_nm (m_up X_4 131 (upd (X_4 131) (Int32.toNatClampNeg 8) (-5))) fun X_8 => m_nm ((8 : Int32) * v0) fun y_11 => m_nm ((2 : Int32) + y_11) fun y_13 => m_gd (m_in y_1 48) <| m_nm (m_up X_8 136 (upd (X_8 136) (Int32.toNatClampNeg y_1) y_13)) fun X_15 => m_bi (f_L_turns N y_1 2 X_15) fun r_18 X_18 => m_gd (m_in 5 17) <| m_nm (X_18 131 (Int32.toNatClampNeg 5)) fun y_20 => if y_20 = 1 then (if y_6 ≤ 1 then (f_L_closes_86 N  X_18) else (m_gd (m_in 1 17) <| m_nm (X_18 131 (Int32.toNatClampNeg 1)) fun y_53 => m_gd (m_in 2 17) <| m_nm (X_18 131 (Int32.toNatClampNeg 2)) fun y_56 => if y_56 ≤ y_53 then (m_gd (m_in 2 17) <| m_nm (X_18 131 (Int32.toNatClampNeg 2)) fun y_62 => f_L_closes_82 N y_62 1 X_18) else (m_gd (m_in 1 17) <| m_nm (X_18 131 (Int32.toNatClampNeg 1)) fun y_70 => m_nm (y_70 + 1) fun y_73 => f_L_closes_82 N y_73 1 X_18))) else (f_L_closes_86 N  X_18)
set_option maxHeartbeats 4000000 in
set_option maxRecDepth 100000 in
theorem c_L_closes (l : Launch) (D : va_G) (a : Nat → Nat) (cy : Nat → ClassId) (hG : m_inj 138 a) (N : Nat) (v0 : Int32) (X : XT) {X0 : XT} (hf0 : f_L_closes N v0 X = some X0) : Met l yL_closes (Cond.code yL_closes cL_closes 7 none :: m_tbl) rm_L_closes (va_Pc [.int v0, .ref (a 131), .ref (a 132), .ref (a 135), .ref (a 136)] (m_PX D (m_tc cy) (m_WC a cy) (m_ZC a) X)) (m_QV D (m_WC a cy) (m_AC a) X0) 0 0 (m_AC a) := by
  refine m_met (own := RL) hy_L_closes rfl (Nat.le_of_ble_eq_true rfl) (m_wl_D hG _) m_ZC_keep ?_
  intro p e s m args below meth c C ls hl hP hS
  have hx := C.1.1
  have hb := C.1.2.1
  have hl : lv_has ls 7 [(0, .int v0), (1, .ref (a 131)), (2, .ref (a 132)), (3, .ref (a 135)), (4, .ref (a 136))] := hl
  unfold f_L_closes at hf0
  suffices K : ∀ (H : Heap) (locs : List Loc), va_P D vwCl (m_WC a cy X) H → va_S (m_AC a) s.heap H locs → W p l e rm_L_closes s m args below meth c H locs 0 0 (MQ below (m_QV D (m_WC a cy) (m_AC a) X0) args s 0 0 (m_AC a)) (F0 m 0 ls []) from K _ _ hP hS
  clear hP hS
  intro H locs hP hS
  refine lv_aload_n hx hb dL_closes_0 rfl (lv_at hl 1 rfl) ?_
  refine lv_bipush (v := 8) hx hb dL_closes_1 (by decide) ?_
  obtain ⟨g_1, hf2⟩ := m_gd_s hf0
  clear hf0
  refine m_ild C hP mC_131 0 rfl g_1 dL_closes_3 (fun y_1 e_1 => ?_)
  have hf3 := m_nm_s e_1 hf2
  clear hf2
  refine lv_istore (lv' := [(5, .int y_1), (0, .int v0), (1, .ref (a 131)), (2, .ref (a 132)), (3, .ref (a 135)), (4, .ref (a 136))]) hx hb dL_closes_4 hl (by decide) rfl (fun ls hl => ?_)
  refine lv_iload hx hb dL_closes_6 (lv_at hl 0 rfl) ?_
  refine lv_aload_n hx hb dL_closes_8 rfl (lv_at hl 2 rfl) ?_
  refine lv_aload_n hx hb dL_closes_9 rfl (lv_at hl 3 rfl) ?_
  refine lv_aload_n hx hb dL_closes_10 rfl (lv_at hl 4 rfl) ?_
  obtain ⟨r_4, X_4, h_4, hf5⟩ := m_bi_s hf3
  clear hf3
  refine m_callSi C [.int y_1, .ref (a 131), .ref (a 132), .ref (a 135)] [] (c_L_members l D a cy hG N _ _ h_4) (m_goodS wl_L_23 wst_L_members wn_L wc_L_members) ⟨rfl, rfl⟩ hv_L_members ⟨Nat.le_of_ble_eq_true rfl, Nat.le_of_ble_eq_true rfl⟩ hP hS rfl hl.1 rfl (Nat.le_of_ble_eq_true rfl) dL_closes_11 (fun H locs hP hS => ?_)
  refine lv_sipush (v := 1000) hx hb dL_closes_14 (by decide) ?_
  refine lv_irem hx hb dL_closes_17 (by decide) ?_
  refine lv_topi (fun y_6 e_6 => ?_)
  have hf7 := m_nm_s e_6 hf5
  clear hf5
  refine lv_istore (lv' := [(6, .int y_6), (5, .int y_1), (0, .int v0), (1, .ref (a 131)), (2, .ref (a 132)), (3, .ref (a 135)), (4, .ref (a 136))]) hx hb dL_closes_18 hl (by decide) rfl (fun ls hl => ?_)
  refine lv_aload_n hx hb dL_closes_20 rfl (lv_at hl 3 rfl) ?_
  refine lv_bipush (v := 8) hx hb dL_closes_21 (by decide) ?_
  refine lv_bipush (v := (-5)) hx hb dL_closes_23 (by decide) ?_
  obtain ⟨g_8, hf9⟩ := m_gd_s hf7
  clear hf7
  refine m_ist C hP hS mC_131 0 rfl g_8 mCs_131 dL_closes_25 (fun X_8 e_8 H locs hP hS => ?_)
  have hf10 := m_nm_s e_8 hf9
  clear hf9
  refine lv_aload hx hb dL_closes_26 (lv_at hl 6 rfl) ?_
  refine lv_iload hx hb dL_closes_28 (lv_at hl 1 rfl) ?_
  refine lv_iconst (v := 2) hx hb dL_closes_30 (by decide) ?_
  refine lv_bipush (v := 8) hx hb dL_closes_31 (by decide) ?_
  refine lv_iload_n hx hb dL_closes_33 rfl (lv_at hl 2 rfl) ?_
  refine lv_imul hx hb dL_closes_34 ?_
  refine lv_topi (fun y_11 e_11 => ?_)
  have hf12 := m_nm_s e_11 hf10
  clear hf10
  refine lv_iadd hx hb dL_closes_35 ?_
  refine lv_topi (fun y_13 e_13 => ?_)
  have hf14 := m_nm_s e_13 hf12
  clear hf12
  obtain ⟨g_15, hf16⟩ := m_gd_s hf14
  clear hf14
  refine m_ist C hP hS mC_136 0 rfl g_15 mCs_136 dL_closes_36 (fun X_15 e_15 H locs hP hS => ?_)
  have hf17 := m_nm_s e_15 hf16
  clear hf16
  refine lv_iload hx hb dL_closes_37 (lv_at hl 1 rfl) ?_
  refine lv_iconst (v := 2) hx hb dL_closes_39 (by decide) ?_
  refine lv_aload_n hx hb dL_closes_40 rfl (lv_at hl 3 rfl) ?_
  refine lv_aload_n hx hb dL_closes_41 rfl (lv_at hl 4 rfl) ?_
  refine lv_aload_n hx hb dL_closes_42 rfl (lv_at hl 5 rfl) ?_
  obtain ⟨r_18, X_18, h_18, hf19⟩ := m_bi_s hf17
  clear hf17
  refine m_callSi C [.int y_1, .int 2, .ref (a 131), .ref (a 132), .ref (a 135)] [] (c_L_turns l D a cy hG N _ _ _ h_18) (m_goodS wl_L_27 wst_L_turns wn_L wc_L_turns) ⟨rfl, rfl⟩ hv_L_turns ⟨Nat.le_of_ble_eq_true rfl, Nat.le_of_ble_eq_true rfl⟩ hP hS rfl hl.1 rfl (Nat.le_of_ble_eq_true rfl) dL_closes_43 (fun H locs hP hS => ?_)
  refine lv_pop hx hb dL_closes_46 rfl ?_
  refine lv_aload_n hx hb dL_closes_47 rfl (lv_at hl 3 rfl) ?_
  refine lv_iconst (v := 5) hx hb dL_closes_48 (by decide) ?_
  obtain ⟨g_20, hf21⟩ := m_gd_s hf19
  clear hf19
  refine m_ild C hP mC_131 0 rfl g_20 dL_closes_49 (fun y_20 e_20 => ?_)
  have hf22 := m_nm_s e_20 hf21
  clear hf21
  refine lv_iconst (v := 1) hx hb dL_closes_50 (by decide) ?_
  refine lv_icmp_ne (tgt := 86) hx hb dL_closes_51 (by decide) (fun c_23 => ?_) (fun c_23 => ?_)
  · have hf24 := m_ie c_23 hf22
    clear hf22
    exact w_L_closes_86 l D a cy hG N C  _ hf24 H locs ls hP hS (lv_sub hl [3, 4, 5, 6] rfl)
  · have hf25 := m_it c_23 hf22
    clear hf22
    refine lv_iload hx hb dL_closes_54 (lv_at hl 0 rfl) ?_
    refine lv_iconst (v := 1) hx hb dL_closes_56 (by decide) ?_
    refine lv_icmp_le (tgt := 86) hx hb dL_closes_57 (by decide) (fun c_50 => ?_) (fun c_50 => ?_)
    · have hf51 := m_it c_50 hf25
      clear hf25
      exact w_L_closes_86 l D a cy hG N C  _ hf51 H locs ls hP hS (lv_sub hl [3, 4, 5, 6] rfl)
    · have hf52 := m_ie c_50 hf25
      clear hf25
      refine lv_aload_n hx hb dL_closes_60 rfl (lv_at hl 3 rfl) ?_
      refine lv_iconst (v := 1) hx hb dL_closes_61 (by decide) ?_
      refine lv_aload_n hx hb dL_closes_62 rfl (lv_at hl 3 rfl) ?_
      refine lv_iconst (v := 1) hx hb dL_closes_63 (by decide) ?_
      obtain ⟨g_53, hf54⟩ := m_gd_s hf52
      clear hf52
      refine m_ild C hP mC_131 0 rfl g_53 dL_closes_64 (fun y_53 e_53 => ?_)
      have hf55 := m_nm_s e_53 hf54
      clear hf54
      refine lv_aload_n hx hb dL_closes_65 rfl (lv_at hl 3 rfl) ?_
      refine lv_iconst (v := 2) hx hb dL_closes_66 (by decide) ?_
      obtain ⟨g_56, hf57⟩ := m_gd_s hf55
      clear hf55
      refine m_ild C hP mC_131 0 rfl g_56 dL_closes_67 (fun y_56 e_56 => ?_)
      have hf58 := m_nm_s e_56 hf57
      clear hf57
      refine lv_icmp_ge (tgt := 79) hx hb dL_closes_68 (by decide) (fun c_59 => ?_) (fun c_59 => ?_)
      · have hf60 := m_it c_59 hf58
        clear hf58
        refine lv_aload_n hx hb dL_closes_79 rfl (lv_at hl 3 rfl) ?_
        refine lv_iconst (v := 2) hx hb dL_closes_80 (by decide) ?_
        obtain ⟨g_62, hf63⟩ := m_gd_s hf60
        clear hf60
        refine m_ild C hP mC_131 0 rfl g_62 dL_closes_81 (fun y_62 e_62 => ?_)
        have hf64 := m_nm_s e_62 hf63
        clear hf63
        exact w_L_closes_82 l D a cy hG N C _ _ _ hf64 H locs ls hP hS (lv_sub hl [3, 4, 5, 6] rfl)
      · have hf61 := m_ie c_59 hf58
        clear hf58
        refine lv_aload_n hx hb dL_closes_71 rfl (lv_at hl 3 rfl) ?_
        refine lv_iconst (v := 1) hx hb dL_closes_72 (by decide) ?_
        obtain ⟨g_70, hf71⟩ := m_gd_s hf61
        clear hf61
        refine m_ild C hP mC_131 0 rfl g_70 dL_closes_73 (fun y_70 e_70 => ?_)
        have hf72 := m_nm_s e_70 hf71
        clear hf71
        refine lv_iconst (v := 1) hx hb dL_closes_74 (by decide) ?_
        refine lv_iadd hx hb dL_closes_75 ?_
        refine lv_topi (fun y_73 e_73 => ?_)
        have hf74 := m_nm_s e_73 hf72
        clear hf72
        refine lv_goto (tgt := 82) hx hb dL_closes_76 (by decide) ?_
        exact w_L_closes_82 l D a cy hG N C _ _ _ hf74 H locs ls hP hS (lv_sub hl [3, 4, 5, 6] rfl)
abbrev rm_L_open : Room := { frames := 1, cells := 0, slots := 0, locals := 21 }
def f_L_open_2 (N : Nat) : Nat → Int32 → Int32 → XT → Option (Int32 × XT)
  | 0, _, _, _ => none
  | n + 1, v0, v3, X => m_gd (m_in 6 17) <| m_nm (X 131 (Int32.toNatClampNeg 6)) fun y_1 => if y_1 ≤ v3 then (some ((-5), X)) else (m_gd (m_in v3 48) <| m_nm (X 132 (Int32.toNatClampNeg v3)) fun y_7 => m_nm (y_7 &&& 15) fun y_10 => if y_10 = v0 then (m_bi (f_L_what N v3 X) fun r_17 X_17 => if 4 ≤ r_17 then (m_nm (v3 + 1) fun y_22 => f_L_open_2 N n v0 y_22 X_17) else (some (v3, X_17))) else (m_nm (v3 + 1) fun y_15 => f_L_open_2 N n v0 y_15 X))
set_option maxHeartbeats 4000000 in
set_option maxRecDepth 100000 in
theorem w_L_open_2 (l : Launch) (D : va_G) (a : Nat → Nat) (cy : Nat → ClassId) (hG : m_inj 138 a) (N : Nat) {p : Program} {e : Env} {s : State} {m : MethodId} {args : Array Value} {below : List Frame} {meth : Method} {c : Code} (C : m_Cx p s m args meth c cL_open 4 RL (some .int) (Cond.code yL_open cL_open 4 (some .int)) D (m_tc cy) (m_AC a) (m_WC a cy) (m_ZC a)) {r0 : Int32} {X0 : XT} : ∀ (n : Nat) (v0 : Int32) (v3 : Int32) (X : XT), f_L_open_2 N n v0 v3 X = some (r0, X0) → ∀ (H : Heap) (locs : List Loc) (ls : Array Slot), va_P D vwCl (m_WC a cy X) H → va_S (m_AC a) s.heap H locs → lv_has ls 4 [(0, .int v0), (1, .ref (a 131)), (2, .ref (a 132)), (3, .int v3)] → W p l e rm_L_open s m args below meth c H locs 0 0 (MQ below (m_QI D (m_WC a cy) (m_AC a) r0 X0) args s 0 0 (m_AC a)) (F0 m 2 ls []) := by
  have hx := C.1.1
  have hb := C.1.2.1
  intro n
  induction n with
  | zero => intro v0 v3 X hf0; rw [f_L_open_2] at hf0; cases hf0
  | succ n ih =>
    intro v0 v3 X hf0 H locs ls hP hS hl
    rw [f_L_open_2] at hf0
    refine lv_iload_n hx hb dL_open_2 rfl (lv_at hl 3 rfl) ?_
    refine lv_aload_n hx hb dL_open_3 rfl (lv_at hl 1 rfl) ?_
    refine lv_bipush (v := 6) hx hb dL_open_4 (by decide) ?_
    obtain ⟨g_1, hf2⟩ := m_gd_s hf0
    clear hf0
    refine m_ild C hP mC_131 0 rfl g_1 dL_open_6 (fun y_1 e_1 => ?_)
    have hf3 := m_nm_s e_1 hf2
    clear hf2
    refine lv_icmp_ge (tgt := 37) hx hb dL_open_7 (by decide) (fun c_4 => ?_) (fun c_4 => ?_)
    · have hf5 := m_it c_4 hf3
      clear hf3
      refine lv_bipush (v := (-5)) hx hb dL_open_37 (by decide) ?_
      exact m_iret C hP hS dL_open_39 hf5
    · have hf6 := m_ie c_4 hf3
      clear hf3
      refine lv_aload_n hx hb dL_open_10 rfl (lv_at hl 2 rfl) ?_
      refine lv_iload_n hx hb dL_open_11 rfl (lv_at hl 3 rfl) ?_
      obtain ⟨g_7, hf8⟩ := m_gd_s hf6
      clear hf6
      refine m_ild C hP mC_132 0 rfl g_7 dL_open_12 (fun y_7 e_7 => ?_)
      have hf9 := m_nm_s e_7 hf8
      clear hf8
      refine lv_bipush (v := 15) hx hb dL_open_13 (by decide) ?_
      refine lv_iand hx hb dL_open_15 ?_
      refine lv_topi (fun y_10 e_10 => ?_)
      have hf11 := m_nm_s e_10 hf9
      clear hf9
      refine lv_iload_n hx hb dL_open_16 rfl (lv_at hl 0 rfl) ?_
      refine lv_icmp_ne (tgt := 31) hx hb dL_open_17 (by decide) (fun c_12 => ?_) (fun c_12 => ?_)
      · have hf13 := m_ie c_12 hf11
        clear hf11
        obtain ⟨y_15, e_15⟩ : ∃ y : Int32, y = v3 + 1 := ⟨_, rfl⟩
        refine lv_iinc (v := y_15) (lv' := [(3, .int y_15), (0, .int v0), (1, .ref (a 131)), (2, .ref (a 132))]) hx hb dL_open_31 hl (k := 3) rfl (by rw [e_15]; rfl) (by decide) rfl (fun ls hl => ?_)
        have hf16 := m_nm_s e_15 hf13
        clear hf13
        refine lv_goto (tgt := 2) hx hb dL_open_34 (by decide) ?_
        exact ih _ _ _ hf16 H locs ls hP hS (lv_sub hl [1, 2, 3, 0] rfl)
      · have hf14 := m_it c_12 hf11
        clear hf11
        refine lv_iload_n hx hb dL_open_20 rfl (lv_at hl 3 rfl) ?_
        refine lv_aload_n hx hb dL_open_21 rfl (lv_at hl 2 rfl) ?_
        obtain ⟨r_17, X_17, h_17, hf18⟩ := m_bi_s hf14
        clear hf14
        refine m_callSi C [.int v3, .ref (a 132)] [] (c_L_what l D a cy hG N _ _ h_17) (m_goodS wl_L_16 wst_L_what wn_L wc_L_what) ⟨rfl, rfl⟩ hv_L_what ⟨Nat.le_of_ble_eq_true rfl, Nat.le_of_ble_eq_true rfl⟩ hP hS rfl hl.1 rfl (Nat.le_of_ble_eq_true rfl) dL_open_22 (fun H locs hP hS => ?_)
        refine lv_iconst (v := 4) hx hb dL_open_25 (by decide) ?_
        refine lv_icmp_ge (tgt := 31) hx hb dL_open_26 (by decide) (fun c_19 => ?_) (fun c_19 => ?_)
        · have hf20 := m_it c_19 hf18
          clear hf18
          obtain ⟨y_22, e_22⟩ : ∃ y : Int32, y = v3 + 1 := ⟨_, rfl⟩
          refine lv_iinc (v := y_22) (lv' := [(3, .int y_22), (0, .int v0), (1, .ref (a 131)), (2, .ref (a 132))]) hx hb dL_open_31 hl (k := 3) rfl (by rw [e_22]; rfl) (by decide) rfl (fun ls hl => ?_)
          have hf23 := m_nm_s e_22 hf20
          clear hf20
          refine lv_goto (tgt := 2) hx hb dL_open_34 (by decide) ?_
          exact ih _ _ _ hf23 H locs ls hP hS (lv_sub hl [1, 2, 3, 0] rfl)
        · have hf21 := m_ie c_19 hf18
          clear hf18
          refine lv_iload_n hx hb dL_open_29 rfl (lv_at hl 3 rfl) ?_
          exact m_iret C hP hS dL_open_30 hf21
def f_L_open (N : Nat) (v0 : Int32) (X : XT) : Option (Int32 × XT) := f_L_open_2 N N v0 0 X
set_option maxHeartbeats 4000000 in
set_option maxRecDepth 100000 in
theorem c_L_open (l : Launch) (D : va_G) (a : Nat → Nat) (cy : Nat → ClassId) (hG : m_inj 138 a) (N : Nat) (v0 : Int32) (X : XT) {r0 : Int32} {X0 : XT} (hf0 : f_L_open N v0 X = some (r0, X0)) : Met l yL_open (Cond.code yL_open cL_open 4 (some .int) :: m_tbl) rm_L_open (va_Pc [.int v0, .ref (a 131), .ref (a 132)] (m_PX D (m_tc cy) (m_WC a cy) (m_ZC a) X)) (m_QI D (m_WC a cy) (m_AC a) r0 X0) 0 0 (m_AC a) := by
  refine m_met (own := RL) hy_L_open rfl (Nat.le_of_ble_eq_true rfl) (m_wl_D hG _) m_ZC_keep ?_
  intro p e s m args below meth c C ls hl hP hS
  have hx := C.1.1
  have hb := C.1.2.1
  have hl : lv_has ls 4 [(0, .int v0), (1, .ref (a 131)), (2, .ref (a 132))] := hl
  unfold f_L_open at hf0
  suffices K : ∀ (H : Heap) (locs : List Loc), va_P D vwCl (m_WC a cy X) H → va_S (m_AC a) s.heap H locs → W p l e rm_L_open s m args below meth c H locs 0 0 (MQ below (m_QI D (m_WC a cy) (m_AC a) r0 X0) args s 0 0 (m_AC a)) (F0 m 0 ls []) from K _ _ hP hS
  clear hP hS
  intro H locs hP hS
  refine lv_iconst (v := 0) hx hb dL_open_0 (by decide) ?_
  refine lv_istore_n (lv' := [(3, .int 0), (0, .int v0), (1, .ref (a 131)), (2, .ref (a 132))]) hx hb dL_open_1 rfl hl (by decide) rfl (fun ls hl => ?_)
  exact w_L_open_2 l D a cy hG N C _ _ _ _ hf0 H locs ls hP hS (lv_sub hl [1, 2, 3, 0] rfl)
