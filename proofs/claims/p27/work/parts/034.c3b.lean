-- written by wip/gen/gen.py
abbrev rm_X3_finishWriting : Room := { frames := 2, cells := 0, slots := 0, locals := 43 }
def f_X3_finishWriting_140 (N : Nat) (v2 : Int32) (X : XT) : Option (Int32 × XT) := m_gd (m_in 1 8) <| m_nm (X 19 (Int32.toNatClampNeg 1)) fun y_26 => m_nm (y_26 + v2) fun y_29 => m_gd (m_in 1 8) <| m_nm (m_up X 19 (upd (X 19) (Int32.toNatClampNeg 1) y_29)) fun X_31 => some (v2, X_31)
set_option maxHeartbeats 4000000 in
set_option maxRecDepth 100000 in
theorem w_X3_finishWriting_140 (l : Launch) (D : va_G) (a : Nat → Nat) (cy : Nat → ClassId) (hG : m_inj 138 a) (N : Nat) {p : Program} {e : Env} {s : State} {m : MethodId} {args : Array Value} {below : List Frame} {meth : Method} {c : Code} (C : m_Cx p s m args meth c cX3_finishWriting 5 RX3 (some .int) (Cond.code yX3_finishWriting cX3_finishWriting 5 (some .int)) D (m_tc cy) (m_AC a) (m_WC a cy) (m_ZC a)) {r0 : Int32} {X0 : XT} (v2 : Int32) (X : XT) (hf0 : f_X3_finishWriting_140 N v2 X = some (r0, X0)) : ∀ (H : Heap) (locs : List Loc) (ls : Array Slot), va_P D vwCl (m_WC a cy X) H → va_S (m_AC a) s.heap H locs → lv_has ls 5 [(0, .ref (a 0)), (2, .int v2)] → W p l e rm_X3_finishWriting s m args below meth c H locs 0 0 (MQ below (m_QI D (m_WC a cy) (m_AC a) r0 X0) args s 0 0 (m_AC a)) (F0 m 140 ls []) := by
  have hx := C.1.1
  have hb := C.1.2.1
  intro H locs ls hP hS hl
  unfold f_X3_finishWriting_140 at hf0
  refine lv_aload_n hx hb dX3_finishWriting_140 rfl (lv_at hl 0 rfl) ?_
  refine m_get C hP mC_0 rfl inX3 4 (by decide) wf_X3_39 rfl dX3_finishWriting_141 ?_
  refine lv_iconst (v := 1) hx hb dX3_finishWriting_144 (by decide) ?_
  refine lv_dup2_11 hx hb dX3_finishWriting_145 rfl rfl ?_
  obtain ⟨g_26, hf27⟩ := m_gd_s hf0
  clear hf0
  refine m_ild C hP mC_19 0 rfl g_26 dX3_finishWriting_146 (fun y_26 e_26 => ?_)
  have hf28 := m_nm_s e_26 hf27
  clear hf27
  refine lv_iload_n hx hb dX3_finishWriting_147 rfl (lv_at hl 1 rfl) ?_
  refine lv_iadd hx hb dX3_finishWriting_148 ?_
  refine lv_topi (fun y_29 e_29 => ?_)
  have hf30 := m_nm_s e_29 hf28
  clear hf28
  obtain ⟨g_31, hf32⟩ := m_gd_s hf30
  clear hf30
  refine m_ist C hP hS mC_19 0 rfl g_31 mCs_19 dX3_finishWriting_149 (fun X_31 e_31 H locs hP hS => ?_)
  have hf33 := m_nm_s e_31 hf32
  clear hf32
  refine lv_iload_n hx hb dX3_finishWriting_150 rfl (lv_at hl 1 rfl) ?_
  exact m_iret C hP hS dX3_finishWriting_151 hf33
def f_X3_finishWriting_52 (N : Nat) : Nat → Int32 → Int32 → Int32 → XT → Option (Int32 × XT)
  | 0, _, _, _, _ => none
  | n + 1, v1, v2, v3, X => if 12 ≤ v3 then (f_X3_finishWriting_140 N v2 X) else (m_gd (m_in v3 12) <| m_nm (X 20 (Int32.toNatClampNeg v3)) fun y_34 => if y_34 = (-5) then (m_nm (v3 + 1) fun y_40 => f_X3_finishWriting_52 N n v1 v2 y_40 X) else (m_bi (f_X0_groupOf N y_34 X) fun r_42 X_42 => if r_42 = v1 then (m_bv (f_X0_answer N y_34 (X_42 0 6) X_42) fun X_49 => m_gd (m_in v3 12) <| m_nm (m_up X_49 20 (upd (X_49 20) (Int32.toNatClampNeg v3) (-5))) fun X_51 => m_gd (m_in 7 8) <| m_nm (X_51 19 (Int32.toNatClampNeg 7)) fun y_54 => m_bi (f_X0_submitTimeOf N y_34 X_51) fun r_57 X_57 => m_nm ((X_51 0 6) - r_57) fun y_59 => m_nm (y_54 + y_59) fun y_61 => m_gd (m_in 7 8) <| m_nm (m_up X_57 19 (upd (X_57 19) (Int32.toNatClampNeg 7) y_61)) fun X_63 => m_nm (v2 + 1) fun y_66 => m_nm (v3 + 1) fun y_68 => f_X3_finishWriting_52 N n v1 y_66 y_68 X_63) else (m_nm (v3 + 1) fun y_47 => f_X3_finishWriting_52 N n v1 v2 y_47 X_42)))
set_option maxHeartbeats 4000000 in
set_option maxRecDepth 100000 in
theorem w_X3_finishWriting_52 (l : Launch) (D : va_G) (a : Nat → Nat) (cy : Nat → ClassId) (hG : m_inj 138 a) (N : Nat) {p : Program} {e : Env} {s : State} {m : MethodId} {args : Array Value} {below : List Frame} {meth : Method} {c : Code} (C : m_Cx p s m args meth c cX3_finishWriting 5 RX3 (some .int) (Cond.code yX3_finishWriting cX3_finishWriting 5 (some .int)) D (m_tc cy) (m_AC a) (m_WC a cy) (m_ZC a)) {r0 : Int32} {X0 : XT} : ∀ (n : Nat) (v1 : Int32) (v2 : Int32) (v3 : Int32) (X : XT), f_X3_finishWriting_52 N n v1 v2 v3 X = some (r0, X0) → ∀ (H : Heap) (locs : List Loc) (ls : Array Slot), va_P D vwCl (m_WC a cy X) H → va_S (m_AC a) s.heap H locs → lv_has ls 5 [(0, .ref (a 0)), (1, .int v1), (2, .int v2), (3, .int v3)] → W p l e rm_X3_finishWriting s m args below meth c H locs 0 0 (MQ below (m_QI D (m_WC a cy) (m_AC a) r0 X0) args s 0 0 (m_AC a)) (F0 m 52 ls []) := by
  have hx := C.1.1
  have hb := C.1.2.1
  intro n
  induction n with
  | zero => intro v1 v2 v3 X hf0; rw [f_X3_finishWriting_52] at hf0; cases hf0
  | succ n ih =>
    intro v1 v2 v3 X hf0 H locs ls hP hS hl
    rw [f_X3_finishWriting_52] at hf0
    refine lv_iload_n hx hb dX3_finishWriting_52 rfl (lv_at hl 3 rfl) ?_
    refine lv_bipush (v := 12) hx hb dX3_finishWriting_53 (by decide) ?_
    refine lv_icmp_ge (tgt := 140) hx hb dX3_finishWriting_55 (by decide) (fun c_23 => ?_) (fun c_23 => ?_)
    · have hf24 := m_it c_23 hf0
      clear hf0
      exact w_X3_finishWriting_140 l D a cy hG N C _ _ hf24 H locs ls hP hS (lv_sub hl [0, 2] rfl)
    · have hf25 := m_ie c_23 hf0
      clear hf0
      refine lv_aload_n hx hb dX3_finishWriting_58 rfl (lv_at hl 0 rfl) ?_
      refine m_get C hP mC_0 rfl inX3 5 (by decide) wf_X3_43 rfl dX3_finishWriting_59 ?_
      refine lv_iload_n hx hb dX3_finishWriting_62 rfl (lv_at hl 3 rfl) ?_
      obtain ⟨g_34, hf35⟩ := m_gd_s hf25
      clear hf25
      refine m_ild C hP mC_20 0 rfl g_34 dX3_finishWriting_63 (fun y_34 e_34 => ?_)
      have hf36 := m_nm_s e_34 hf35
      clear hf35
      refine lv_istore (lv' := [(4, .int y_34), (0, .ref (a 0)), (1, .int v1), (2, .int v2), (3, .int v3)]) hx hb dX3_finishWriting_64 hl (by decide) rfl (fun ls hl => ?_)
      refine lv_iload hx hb dX3_finishWriting_66 (lv_at hl 0 rfl) ?_
      refine lv_bipush (v := (-5)) hx hb dX3_finishWriting_68 (by decide) ?_
      refine lv_icmp_eq (tgt := 134) hx hb dX3_finishWriting_70 (by decide) (fun c_37 => ?_) (fun c_37 => ?_)
      · have hf38 := m_it c_37 hf36
        clear hf36
        obtain ⟨y_40, e_40⟩ : ∃ y : Int32, y = v3 + 1 := ⟨_, rfl⟩
        refine lv_iinc (v := y_40) (lv' := [(3, .int y_40), (4, .int y_34), (0, .ref (a 0)), (1, .int v1), (2, .int v2)]) hx hb dX3_finishWriting_134 hl (k := 4) rfl (by rw [e_40]; rfl) (by decide) rfl (fun ls hl => ?_)
        have hf41 := m_nm_s e_40 hf38
        clear hf38
        refine lv_goto (tgt := 52) hx hb dX3_finishWriting_137 (by decide) ?_
        exact ih _ _ _ _ hf41 H locs ls hP hS (lv_sub hl [2, 3, 4, 0] rfl)
      · have hf39 := m_ie c_37 hf36
        clear hf36
        refine lv_aload_n hx hb dX3_finishWriting_73 rfl (lv_at hl 1 rfl) ?_
        refine m_get C hP mC_0 rfl inX3 0 (by decide) wf_X3_12 rfl dX3_finishWriting_74 ?_
        refine lv_iload hx hb dX3_finishWriting_77 (lv_at hl 0 rfl) ?_
        obtain ⟨r_42, X_42, h_42, hf43⟩ := m_bi_s hf39
        clear hf39
        refine m_callVi (q := (RX0, TX0, 9)) C [.int y_34] [] (c_X0_groupOf l D a cy hG N _ _ h_42) (m_goodV wl_X3_140 wi_X0_groupOf ws_X0_groupOf wn_X0 wc_X0_groupOf) ⟨rfl, rfl⟩ hv_X0_groupOf ⟨Nat.le_of_ble_eq_true rfl, Nat.le_of_ble_eq_true rfl⟩ rfl mC_1 hP hS rfl hl.1 rfl (Nat.le_of_ble_eq_true rfl) dX3_finishWriting_79 (fun H locs hP hS => ?_)
        refine lv_iload_n hx hb dX3_finishWriting_82 rfl (lv_at hl 2 rfl) ?_
        refine lv_icmp_ne (tgt := 134) hx hb dX3_finishWriting_83 (by decide) (fun c_44 => ?_) (fun c_44 => ?_)
        · have hf45 := m_ie c_44 hf43
          clear hf43
          obtain ⟨y_47, e_47⟩ : ∃ y : Int32, y = v3 + 1 := ⟨_, rfl⟩
          refine lv_iinc (v := y_47) (lv' := [(3, .int y_47), (4, .int y_34), (0, .ref (a 0)), (1, .int v1), (2, .int v2)]) hx hb dX3_finishWriting_134 hl (k := 4) rfl (by rw [e_47]; rfl) (by decide) rfl (fun ls hl => ?_)
          have hf48 := m_nm_s e_47 hf45
          clear hf45
          refine lv_goto (tgt := 52) hx hb dX3_finishWriting_137 (by decide) ?_
          exact ih _ _ _ _ hf48 H locs ls hP hS (lv_sub hl [2, 3, 4, 0] rfl)
        · have hf46 := m_it c_44 hf43
          clear hf43
          refine lv_aload_n hx hb dX3_finishWriting_86 rfl (lv_at hl 1 rfl) ?_
          refine m_get C hP mC_0 rfl inX3 0 (by decide) wf_X3_12 rfl dX3_finishWriting_87 ?_
          refine lv_iload hx hb dX3_finishWriting_90 (lv_at hl 0 rfl) ?_
          refine lv_aload_n hx hb dX3_finishWriting_92 rfl (lv_at hl 1 rfl) ?_
          refine m_get C hP mC_0 rfl inX3 6 (by decide) wf_X3_75 rfl dX3_finishWriting_93 ?_
          obtain ⟨X_49, h_49, hf50⟩ := m_bv_s hf46
          clear hf46
          refine m_callVv (q := (RX0, TX0, 9)) C [.int y_34, .int (X_42 0 6)] [] (c_X0_answer l D a cy hG N _ _ _ h_49) (m_goodV wl_X3_208 wi_X0_answer ws_X0_answer wn_X0 wc_X0_answer) ⟨rfl, rfl⟩ hv_X0_answer ⟨Nat.le_of_ble_eq_true rfl, Nat.le_of_ble_eq_true rfl⟩ rfl mC_1 hP hS rfl hl.1 rfl (Nat.le_of_ble_eq_true rfl) dX3_finishWriting_96 (fun H locs hP hS => ?_)
          refine lv_aload_n hx hb dX3_finishWriting_99 rfl (lv_at hl 1 rfl) ?_
          refine m_get C hP mC_0 rfl inX3 5 (by decide) wf_X3_43 rfl dX3_finishWriting_100 ?_
          refine lv_iload_n hx hb dX3_finishWriting_103 rfl (lv_at hl 4 rfl) ?_
          refine lv_bipush (v := (-5)) hx hb dX3_finishWriting_104 (by decide) ?_
          obtain ⟨g_51, hf52⟩ := m_gd_s hf50
          clear hf50
          refine m_ist C hP hS mC_20 0 rfl g_51 mCs_20 dX3_finishWriting_106 (fun X_51 e_51 H locs hP hS => ?_)
          have hf53 := m_nm_s e_51 hf52
          clear hf52
          refine lv_aload_n hx hb dX3_finishWriting_107 rfl (lv_at hl 1 rfl) ?_
          refine m_get C hP mC_0 rfl inX3 4 (by decide) wf_X3_39 rfl dX3_finishWriting_108 ?_
          refine lv_bipush (v := 7) hx hb dX3_finishWriting_111 (by decide) ?_
          refine lv_dup2_11 hx hb dX3_finishWriting_113 rfl rfl ?_
          obtain ⟨g_54, hf55⟩ := m_gd_s hf53
          clear hf53
          refine m_ild C hP mC_19 0 rfl g_54 dX3_finishWriting_114 (fun y_54 e_54 => ?_)
          have hf56 := m_nm_s e_54 hf55
          clear hf55
          refine lv_aload_n hx hb dX3_finishWriting_115 rfl (lv_at hl 1 rfl) ?_
          refine m_get C hP mC_0 rfl inX3 6 (by decide) wf_X3_75 rfl dX3_finishWriting_116 ?_
          refine lv_aload_n hx hb dX3_finishWriting_119 rfl (lv_at hl 1 rfl) ?_
          refine m_get C hP mC_0 rfl inX3 0 (by decide) wf_X3_12 rfl dX3_finishWriting_120 ?_
          refine lv_iload hx hb dX3_finishWriting_123 (lv_at hl 0 rfl) ?_
          obtain ⟨r_57, X_57, h_57, hf58⟩ := m_bi_s hf56
          clear hf56
          refine m_callVi (q := (RX0, TX0, 9)) C [.int y_34] [.int (X_51 0 6), .int y_54, .int 7, .ref (a 19)] (c_X0_submitTimeOf l D a cy hG N _ _ h_57) (m_goodV wl_X3_211 wi_X0_submitTimeOf ws_X0_submitTimeOf wn_X0 wc_X0_submitTimeOf) ⟨rfl, rfl⟩ hv_X0_submitTimeOf ⟨Nat.le_of_ble_eq_true rfl, Nat.le_of_ble_eq_true rfl⟩ rfl mC_1 hP hS rfl hl.1 rfl (Nat.le_of_ble_eq_true rfl) dX3_finishWriting_125 (fun H locs hP hS => ?_)
          refine lv_isub hx hb dX3_finishWriting_128 ?_
          refine lv_topi (fun y_59 e_59 => ?_)
          have hf60 := m_nm_s e_59 hf58
          clear hf58
          refine lv_iadd hx hb dX3_finishWriting_129 ?_
          refine lv_topi (fun y_61 e_61 => ?_)
          have hf62 := m_nm_s e_61 hf60
          clear hf60
          obtain ⟨g_63, hf64⟩ := m_gd_s hf62
          clear hf62
          refine m_ist C hP hS mC_19 0 rfl g_63 mCs_19 dX3_finishWriting_130 (fun X_63 e_63 H locs hP hS => ?_)
          have hf65 := m_nm_s e_63 hf64
          clear hf64
          obtain ⟨y_66, e_66⟩ : ∃ y : Int32, y = v2 + 1 := ⟨_, rfl⟩
          refine lv_iinc (v := y_66) (lv' := [(2, .int y_66), (4, .int y_34), (0, .ref (a 0)), (1, .int v1), (3, .int v3)]) hx hb dX3_finishWriting_131 hl (k := 3) rfl (by rw [e_66]; rfl) (by decide) rfl (fun ls hl => ?_)
          have hf67 := m_nm_s e_66 hf65
          clear hf65
          obtain ⟨y_68, e_68⟩ : ∃ y : Int32, y = v3 + 1 := ⟨_, rfl⟩
          refine lv_iinc (v := y_68) (lv' := [(3, .int y_68), (2, .int y_66), (4, .int y_34), (0, .ref (a 0)), (1, .int v1)]) hx hb dX3_finishWriting_134 hl (k := 4) rfl (by rw [e_68]; rfl) (by decide) rfl (fun ls hl => ?_)
          have hf69 := m_nm_s e_68 hf67
          clear hf67
          refine lv_goto (tgt := 52) hx hb dX3_finishWriting_137 (by decide) ?_
          exact ih _ _ _ _ hf69 H locs ls hP hS (lv_sub hl [3, 4, 1, 0] rfl)
def f_X3_finishWriting (N : Nat) (X : XT) : Option (Int32 × XT) := m_nm (m_up X 0 (upd (X 0) 10 (-5))) fun X_1 => m_bv (f_X1_setState N (X 0 10) 4 X_1) fun X_3 => m_gd (m_in 5 8) <| m_nm (X_3 19 (Int32.toNatClampNeg 5)) fun y_5 => m_nm (y_5 + 1) fun y_8 => m_gd (m_in 5 8) <| m_nm (m_up X_3 19 (upd (X_3 19) (Int32.toNatClampNeg 5) y_8)) fun X_10 => m_gd (m_in 6 8) <| m_nm (X_10 19 (Int32.toNatClampNeg 6)) fun y_13 => m_bi (f_X1_recordsOf N (X 0 10) X_10) fun r_16 X_16 => m_nm (y_13 + r_16) fun y_18 => m_gd (m_in 6 8) <| m_nm (m_up X_16 19 (upd (X_16 19) (Int32.toNatClampNeg 6) y_18)) fun X_20 => f_X3_finishWriting_52 N N (X 0 10) 0 0 X_20
set_option maxHeartbeats 4000000 in
set_option maxRecDepth 100000 in
theorem c_X3_finishWriting (l : Launch) (D : va_G) (a : Nat → Nat) (cy : Nat → ClassId) (hG : m_inj 138 a) (N : Nat) (X : XT) {r0 : Int32} {X0 : XT} (hf0 : f_X3_finishWriting N X = some (r0, X0)) : Met l yX3_finishWriting (Cond.code yX3_finishWriting cX3_finishWriting 5 (some .int) :: m_tbl) rm_X3_finishWriting (va_Pc [.ref (a 0)] (m_PX D (m_tc cy) (m_WC a cy) (m_ZC a) X)) (m_QI D (m_WC a cy) (m_AC a) r0 X0) 0 0 (m_AC a) := by
  refine m_met (own := RX3) hy_X3_finishWriting rfl (Nat.le_of_ble_eq_true rfl) (m_wl_D hG _) m_ZC_keep ?_
  intro p e s m args below meth c C ls hl hP hS
  have hx := C.1.1
  have hb := C.1.2.1
  have hl : lv_has ls 5 [(0, .ref (a 0))] := hl
  unfold f_X3_finishWriting at hf0
  suffices K : ∀ (H : Heap) (locs : List Loc), va_P D vwCl (m_WC a cy X) H → va_S (m_AC a) s.heap H locs → W p l e rm_X3_finishWriting s m args below meth c H locs 0 0 (MQ below (m_QI D (m_WC a cy) (m_AC a) r0 X0) args s 0 0 (m_AC a)) (F0 m 0 ls []) from K _ _ hP hS
  clear hP hS
  intro H locs hP hS
  refine lv_aload_n hx hb dX3_finishWriting_0 rfl (lv_at hl 0 rfl) ?_
  refine m_get C hP mC_0 rfl inX3 10 (by decide) wf_X3_53 rfl dX3_finishWriting_1 ?_
  refine lv_istore_n (lv' := [(1, .int (X 0 10)), (0, .ref (a 0))]) hx hb dX3_finishWriting_4 rfl hl (by decide) rfl (fun ls hl => ?_)
  refine lv_aload_n hx hb dX3_finishWriting_5 rfl (lv_at hl 1 rfl) ?_
  refine lv_bipush (v := (-5)) hx hb dX3_finishWriting_6 (by decide) ?_
  refine m_put C hP hS mC_0 rfl inX3 tyX3_ok nmX3 10 (by decide) wf_X3_53 rfl rfl rfl (Nat.le_of_ble_eq_true rfl) mC_0_10 dX3_finishWriting_8 (fun X_1 e_1 H locs hP hS => ?_)
  have hf2 := m_nm_s e_1 hf0
  clear hf0
  refine lv_aload_n hx hb dX3_finishWriting_11 rfl (lv_at hl 1 rfl) ?_
  refine m_get C hP mC_0 rfl inX3 1 (by decide) wf_X3_21 rfl dX3_finishWriting_12 ?_
  refine lv_iload_n hx hb dX3_finishWriting_15 rfl (lv_at hl 0 rfl) ?_
  refine lv_iconst (v := 4) hx hb dX3_finishWriting_16 (by decide) ?_
  obtain ⟨X_3, h_3, hf4⟩ := m_bv_s hf2
  clear hf2
  refine m_callVv (q := (RX1, TX1, 5)) C [.int (X 0 10), .int 4] [] (c_X1_setState l D a cy hG N _ _ _ h_3) (m_goodV wl_X3_189 wi_X1_setState ws_X1_setState wn_X1 wc_X1_setState) ⟨rfl, rfl⟩ hv_X1_setState ⟨Nat.le_of_ble_eq_true rfl, Nat.le_of_ble_eq_true rfl⟩ rfl mC_10 hP hS rfl hl.1 rfl (Nat.le_of_ble_eq_true rfl) dX3_finishWriting_17 (fun H locs hP hS => ?_)
  refine lv_aload_n hx hb dX3_finishWriting_20 rfl (lv_at hl 1 rfl) ?_
  refine m_get C hP mC_0 rfl inX3 4 (by decide) wf_X3_39 rfl dX3_finishWriting_21 ?_
  refine lv_iconst (v := 5) hx hb dX3_finishWriting_24 (by decide) ?_
  refine lv_dup2_11 hx hb dX3_finishWriting_25 rfl rfl ?_
  obtain ⟨g_5, hf6⟩ := m_gd_s hf4
  clear hf4
  refine m_ild C hP mC_19 0 rfl g_5 dX3_finishWriting_26 (fun y_5 e_5 => ?_)
  have hf7 := m_nm_s e_5 hf6
  clear hf6
  refine lv_iconst (v := 1) hx hb dX3_finishWriting_27 (by decide) ?_
  refine lv_iadd hx hb dX3_finishWriting_28 ?_
  refine lv_topi (fun y_8 e_8 => ?_)
  have hf9 := m_nm_s e_8 hf7
  clear hf7
  obtain ⟨g_10, hf11⟩ := m_gd_s hf9
  clear hf9
  refine m_ist C hP hS mC_19 0 rfl g_10 mCs_19 dX3_finishWriting_29 (fun X_10 e_10 H locs hP hS => ?_)
  have hf12 := m_nm_s e_10 hf11
  clear hf11
  refine lv_aload_n hx hb dX3_finishWriting_30 rfl (lv_at hl 1 rfl) ?_
  refine m_get C hP mC_0 rfl inX3 4 (by decide) wf_X3_39 rfl dX3_finishWriting_31 ?_
  refine lv_bipush (v := 6) hx hb dX3_finishWriting_34 (by decide) ?_
  refine lv_dup2_11 hx hb dX3_finishWriting_36 rfl rfl ?_
  obtain ⟨g_13, hf14⟩ := m_gd_s hf12
  clear hf12
  refine m_ild C hP mC_19 0 rfl g_13 dX3_finishWriting_37 (fun y_13 e_13 => ?_)
  have hf15 := m_nm_s e_13 hf14
  clear hf14
  refine lv_aload_n hx hb dX3_finishWriting_38 rfl (lv_at hl 1 rfl) ?_
  refine m_get C hP mC_0 rfl inX3 1 (by decide) wf_X3_21 rfl dX3_finishWriting_39 ?_
  refine lv_iload_n hx hb dX3_finishWriting_42 rfl (lv_at hl 0 rfl) ?_
  obtain ⟨r_16, X_16, h_16, hf17⟩ := m_bi_s hf15
  clear hf15
  refine m_callVi (q := (RX1, TX1, 5)) C [.int (X 0 10)] [.int y_13, .int 6, .ref (a 19)] (c_X1_recordsOf l D a cy hG N _ _ h_16) (m_goodV wl_X3_117 wi_X1_recordsOf ws_X1_recordsOf wn_X1 wc_X1_recordsOf) ⟨rfl, rfl⟩ hv_X1_recordsOf ⟨Nat.le_of_ble_eq_true rfl, Nat.le_of_ble_eq_true rfl⟩ rfl mC_10 hP hS rfl hl.1 rfl (Nat.le_of_ble_eq_true rfl) dX3_finishWriting_43 (fun H locs hP hS => ?_)
  refine lv_iadd hx hb dX3_finishWriting_46 ?_
  refine lv_topi (fun y_18 e_18 => ?_)
  have hf19 := m_nm_s e_18 hf17
  clear hf17
  obtain ⟨g_20, hf21⟩ := m_gd_s hf19
  clear hf19
  refine m_ist C hP hS mC_19 0 rfl g_20 mCs_19 dX3_finishWriting_47 (fun X_20 e_20 H locs hP hS => ?_)
  have hf22 := m_nm_s e_20 hf21
  clear hf21
  refine lv_iconst (v := 0) hx hb dX3_finishWriting_48 (by decide) ?_
  refine lv_istore_n (lv' := [(2, .int 0), (1, .int (X 0 10)), (0, .ref (a 0))]) hx hb dX3_finishWriting_49 rfl hl (by decide) rfl (fun ls hl => ?_)
  refine lv_iconst (v := 0) hx hb dX3_finishWriting_50 (by decide) ?_
  refine lv_istore_n (lv' := [(3, .int 0), (2, .int 0), (1, .int (X 0 10)), (0, .ref (a 0))]) hx hb dX3_finishWriting_51 rfl hl (by decide) rfl (fun ls hl => ?_)
  exact w_X3_finishWriting_52 l D a cy hG N C _ _ _ _ _ hf22 H locs ls hP hS (lv_sub hl [3, 2, 1, 0] rfl)
abbrev rm_X3_passTick : Room := { frames := 3, cells := 0, slots := 0, locals := 73 }
def f_X3_passTick_43 (N : Nat) (v1 : Int32) (X : XT) : Option (Int32 × XT) := if (X 0 8) = (-5) then (m_bv (f_X3_startWriting N X) fun X_11 => some (v1, X_11)) else (if (X 0 6) < (X 0 9) then (m_bv (f_X3_startWriting N X) fun X_16 => some (v1, X_16)) else (m_bv (f_X3_closeGathering N 3 X) fun X_18 => m_bv (f_X3_startWriting N X_18) fun X_20 => some (v1, X_20)))
set_option maxHeartbeats 4000000 in
set_option maxRecDepth 100000 in
theorem w_X3_passTick_43 (l : Launch) (D : va_G) (a : Nat → Nat) (cy : Nat → ClassId) (hG : m_inj 138 a) (N : Nat) {p : Program} {e : Env} {s : State} {m : MethodId} {args : Array Value} {below : List Frame} {meth : Method} {c : Code} (C : m_Cx p s m args meth c cX3_passTick 2 RX3 (some .int) (Cond.code yX3_passTick cX3_passTick 2 (some .int)) D (m_tc cy) (m_AC a) (m_WC a cy) (m_ZC a)) {r0 : Int32} {X0 : XT} (v1 : Int32) (X : XT) (hf0 : f_X3_passTick_43 N v1 X = some (r0, X0)) : ∀ (H : Heap) (locs : List Loc) (ls : Array Slot), va_P D vwCl (m_WC a cy X) H → va_S (m_AC a) s.heap H locs → lv_has ls 2 [(0, .ref (a 0)), (1, .int v1)] → W p l e rm_X3_passTick s m args below meth c H locs 0 0 (MQ below (m_QI D (m_WC a cy) (m_AC a) r0 X0) args s 0 0 (m_AC a)) (F0 m 43 ls []) := by
  have hx := C.1.1
  have hb := C.1.2.1
  intro H locs ls hP hS hl
  unfold f_X3_passTick_43 at hf0
  refine lv_aload_n hx hb dX3_passTick_43 rfl (lv_at hl 0 rfl) ?_
  refine m_get C hP mC_0 rfl inX3 8 (by decide) wf_X3_50 rfl dX3_passTick_44 ?_
  refine lv_bipush (v := (-5)) hx hb dX3_passTick_47 (by decide) ?_
  refine lv_icmp_eq (tgt := 68) hx hb dX3_passTick_49 (by decide) (fun c_8 => ?_) (fun c_8 => ?_)
  · have hf9 := m_it c_8 hf0
    clear hf0
    refine lv_aload_n hx hb dX3_passTick_68 rfl (lv_at hl 0 rfl) ?_
    obtain ⟨X_11, h_11, hf12⟩ := m_bv_s hf9
    clear hf9
    refine m_callVv (q := (RX3, TX3, 12)) C [] [] (c_X3_startWriting l D a cy hG N _ h_11) (m_goodV wl_X3_128 wi_X3_startWriting ws_X3_startWriting wn_X3 wc_X3_startWriting) ⟨rfl, rfl⟩ hv_X3_startWriting ⟨Nat.le_of_ble_eq_true rfl, Nat.le_of_ble_eq_true rfl⟩ rfl mC_0 hP hS rfl hl.1 rfl (Nat.le_of_ble_eq_true rfl) dX3_passTick_69 (fun H locs hP hS => ?_)
    refine lv_iload_n hx hb dX3_passTick_72 rfl (lv_at hl 1 rfl) ?_
    exact m_iret C hP hS dX3_passTick_73 hf12
  · have hf10 := m_ie c_8 hf0
    clear hf0
    refine lv_aload_n hx hb dX3_passTick_52 rfl (lv_at hl 0 rfl) ?_
    refine m_get C hP mC_0 rfl inX3 9 (by decide) wf_X3_78 rfl dX3_passTick_53 ?_
    refine lv_aload_n hx hb dX3_passTick_56 rfl (lv_at hl 0 rfl) ?_
    refine m_get C hP mC_0 rfl inX3 6 (by decide) wf_X3_75 rfl dX3_passTick_57 ?_
    refine lv_icmp_gt (tgt := 68) hx hb dX3_passTick_60 (by decide) (fun c_13 => ?_) (fun c_13 => ?_)
    · have hf14 := m_it c_13 hf10
      clear hf10
      refine lv_aload_n hx hb dX3_passTick_68 rfl (lv_at hl 0 rfl) ?_
      obtain ⟨X_16, h_16, hf17⟩ := m_bv_s hf14
      clear hf14
      refine m_callVv (q := (RX3, TX3, 12)) C [] [] (c_X3_startWriting l D a cy hG N _ h_16) (m_goodV wl_X3_128 wi_X3_startWriting ws_X3_startWriting wn_X3 wc_X3_startWriting) ⟨rfl, rfl⟩ hv_X3_startWriting ⟨Nat.le_of_ble_eq_true rfl, Nat.le_of_ble_eq_true rfl⟩ rfl mC_0 hP hS rfl hl.1 rfl (Nat.le_of_ble_eq_true rfl) dX3_passTick_69 (fun H locs hP hS => ?_)
      refine lv_iload_n hx hb dX3_passTick_72 rfl (lv_at hl 1 rfl) ?_
      exact m_iret C hP hS dX3_passTick_73 hf17
    · have hf15 := m_ie c_13 hf10
      clear hf10
      refine lv_aload_n hx hb dX3_passTick_63 rfl (lv_at hl 0 rfl) ?_
      refine lv_iconst (v := 3) hx hb dX3_passTick_64 (by decide) ?_
      obtain ⟨X_18, h_18, hf19⟩ := m_bv_s hf15
      clear hf15
      refine m_callVv (q := (RX3, TX3, 12)) C [.int 3] [] (c_X3_closeGathering l D a cy hG N _ _ h_18) (m_goodV wl_X3_124 wi_X3_closeGathering ws_X3_closeGathering wn_X3 wc_X3_closeGathering) ⟨rfl, rfl⟩ hv_X3_closeGathering ⟨Nat.le_of_ble_eq_true rfl, Nat.le_of_ble_eq_true rfl⟩ rfl mC_0 hP hS rfl hl.1 rfl (Nat.le_of_ble_eq_true rfl) dX3_passTick_65 (fun H locs hP hS => ?_)
      refine lv_aload_n hx hb dX3_passTick_68 rfl (lv_at hl 0 rfl) ?_
      obtain ⟨X_20, h_20, hf21⟩ := m_bv_s hf19
      clear hf19
      refine m_callVv (q := (RX3, TX3, 12)) C [] [] (c_X3_startWriting l D a cy hG N _ h_20) (m_goodV wl_X3_128 wi_X3_startWriting ws_X3_startWriting wn_X3 wc_X3_startWriting) ⟨rfl, rfl⟩ hv_X3_startWriting ⟨Nat.le_of_ble_eq_true rfl, Nat.le_of_ble_eq_true rfl⟩ rfl mC_0 hP hS rfl hl.1 rfl (Nat.le_of_ble_eq_true rfl) dX3_passTick_69 (fun H locs hP hS => ?_)
      refine lv_iload_n hx hb dX3_passTick_72 rfl (lv_at hl 1 rfl) ?_
      exact m_iret C hP hS dX3_passTick_73 hf21
def f_X3_passTick (N : Nat) (X : XT) : Option (Int32 × XT) := m_nm ((X 0 6) + 1) fun y_1 => m_nm (m_up X 0 (upd (X 0) 6 y_1)) fun X_3 => if (X_3 0 10) = (-5) then (f_X3_passTick_43 N 0 X_3) else (m_nm ((X_3 0 11) - 1) fun y_22 => m_nm (m_up X_3 0 (upd (X_3 0) 11 y_22)) fun X_24 => if 0 < (X_24 0 11) then (f_X3_passTick_43 N 0 X_24) else (m_bi (f_X3_finishWriting N X_24) fun r_29 X_29 => f_X3_passTick_43 N r_29 X_29))
set_option maxHeartbeats 4000000 in
set_option maxRecDepth 100000 in
theorem c_X3_passTick (l : Launch) (D : va_G) (a : Nat → Nat) (cy : Nat → ClassId) (hG : m_inj 138 a) (N : Nat) (X : XT) {r0 : Int32} {X0 : XT} (hf0 : f_X3_passTick N X = some (r0, X0)) : Met l yX3_passTick (Cond.code yX3_passTick cX3_passTick 2 (some .int) :: m_tbl) rm_X3_passTick (va_Pc [.ref (a 0)] (m_PX D (m_tc cy) (m_WC a cy) (m_ZC a) X)) (m_QI D (m_WC a cy) (m_AC a) r0 X0) 0 0 (m_AC a) := by
  refine m_met (own := RX3) hy_X3_passTick rfl (Nat.le_of_ble_eq_true rfl) (m_wl_D hG _) m_ZC_keep ?_
  intro p e s m args below meth c C ls hl hP hS
  have hx := C.1.1
  have hb := C.1.2.1
  have hl : lv_has ls 2 [(0, .ref (a 0))] := hl
  unfold f_X3_passTick at hf0
  suffices K : ∀ (H : Heap) (locs : List Loc), va_P D vwCl (m_WC a cy X) H → va_S (m_AC a) s.heap H locs → W p l e rm_X3_passTick s m args below meth c H locs 0 0 (MQ below (m_QI D (m_WC a cy) (m_AC a) r0 X0) args s 0 0 (m_AC a)) (F0 m 0 ls []) from K _ _ hP hS
  clear hP hS
  intro H locs hP hS
  refine lv_aload_n hx hb dX3_passTick_0 rfl (lv_at hl 0 rfl) ?_
  refine lv_dup hx hb dX3_passTick_1 rfl ?_
  refine m_get C hP mC_0 rfl inX3 6 (by decide) wf_X3_75 rfl dX3_passTick_2 ?_
  refine lv_iconst (v := 1) hx hb dX3_passTick_5 (by decide) ?_
  refine lv_iadd hx hb dX3_passTick_6 ?_
  refine lv_topi (fun y_1 e_1 => ?_)
  have hf2 := m_nm_s e_1 hf0
  clear hf0
  refine m_put C hP hS mC_0 rfl inX3 tyX3_ok nmX3 6 (by decide) wf_X3_75 rfl rfl rfl (Nat.le_of_ble_eq_true rfl) mC_0_6 dX3_passTick_7 (fun X_3 e_3 H locs hP hS => ?_)
  have hf4 := m_nm_s e_3 hf2
  clear hf2
  refine lv_iconst (v := 0) hx hb dX3_passTick_10 (by decide) ?_
  refine lv_istore_n (lv' := [(1, .int 0), (0, .ref (a 0))]) hx hb dX3_passTick_11 rfl hl (by decide) rfl (fun ls hl => ?_)
  refine lv_aload_n hx hb dX3_passTick_12 rfl (lv_at hl 1 rfl) ?_
  refine m_get C hP mC_0 rfl inX3 10 (by decide) wf_X3_53 rfl dX3_passTick_13 ?_
  refine lv_bipush (v := (-5)) hx hb dX3_passTick_16 (by decide) ?_
  refine lv_icmp_eq (tgt := 43) hx hb dX3_passTick_18 (by decide) (fun c_5 => ?_) (fun c_5 => ?_)
  · have hf6 := m_it c_5 hf4
    clear hf4
    exact w_X3_passTick_43 l D a cy hG N C _ _ hf6 H locs ls hP hS (lv_sub hl [1, 0] rfl)
  · have hf7 := m_ie c_5 hf4
    clear hf4
    refine lv_aload_n hx hb dX3_passTick_21 rfl (lv_at hl 1 rfl) ?_
    refine lv_dup hx hb dX3_passTick_22 rfl ?_
    refine m_get C hP mC_0 rfl inX3 11 (by decide) wf_X3_81 rfl dX3_passTick_23 ?_
    refine lv_iconst (v := 1) hx hb dX3_passTick_26 (by decide) ?_
    refine lv_isub hx hb dX3_passTick_27 ?_
    refine lv_topi (fun y_22 e_22 => ?_)
    have hf23 := m_nm_s e_22 hf7
    clear hf7
    refine m_put C hP hS mC_0 rfl inX3 tyX3_ok nmX3 11 (by decide) wf_X3_81 rfl rfl rfl (Nat.le_of_ble_eq_true rfl) mC_0_11 dX3_passTick_28 (fun X_24 e_24 H locs hP hS => ?_)
    have hf25 := m_nm_s e_24 hf23
    clear hf23
    refine lv_aload_n hx hb dX3_passTick_31 rfl (lv_at hl 1 rfl) ?_
    refine m_get C hP mC_0 rfl inX3 11 (by decide) wf_X3_81 rfl dX3_passTick_32 ?_
    refine lv_if_gt (tgt := 43) hx hb dX3_passTick_35 (by decide) (fun c_26 => ?_) (fun c_26 => ?_)
    · have hf27 := m_it c_26 hf25
      clear hf25
      exact w_X3_passTick_43 l D a cy hG N C _ _ hf27 H locs ls hP hS (lv_sub hl [1, 0] rfl)
    · have hf28 := m_ie c_26 hf25
      clear hf25
      refine lv_aload_n hx hb dX3_passTick_38 rfl (lv_at hl 1 rfl) ?_
      obtain ⟨r_29, X_29, h_29, hf30⟩ := m_bi_s hf28
      clear hf28
      refine m_callVi (q := (RX3, TX3, 12)) C [] [] (c_X3_finishWriting l D a cy hG N _ h_29) (m_goodV wl_X3_205 wi_X3_finishWriting ws_X3_finishWriting wn_X3 wc_X3_finishWriting) ⟨rfl, rfl⟩ hv_X3_finishWriting ⟨Nat.le_of_ble_eq_true rfl, Nat.le_of_ble_eq_true rfl⟩ rfl mC_0 hP hS rfl hl.1 rfl (Nat.le_of_ble_eq_true rfl) dX3_passTick_39 (fun H locs hP hS => ?_)
      refine lv_istore_n (lv' := [(1, .int r_29), (0, .ref (a 0))]) hx hb dX3_passTick_42 rfl hl (by decide) rfl (fun ls hl => ?_)
      exact w_X3_passTick_43 l D a cy hG N C _ _ hf30 H locs ls hP hS (lv_sub hl [1, 0] rfl)
abbrev rm_X3_passTicks : Room := { frames := 4, cells := 0, slots := 0, locals := 94 }
def f_X3_passTicks_4 (N : Nat) : Nat → Int32 → Int32 → Int32 → XT → Option (Int32 × XT)
  | 0, _, _, _, _ => none
  | n + 1, v1, v2, v3, X => if v1 ≤ v3 then (some (v2, X)) else (m_bi (f_X3_passTick N X) fun r_4 X_4 => m_nm (v2 + r_4) fun y_6 => m_nm (v3 + 1) fun y_8 => f_X3_passTicks_4 N n v1 y_6 y_8 X_4)
set_option maxHeartbeats 4000000 in
set_option maxRecDepth 100000 in
theorem w_X3_passTicks_4 (l : Launch) (D : va_G) (a : Nat → Nat) (cy : Nat → ClassId) (hG : m_inj 138 a) (N : Nat) {p : Program} {e : Env} {s : State} {m : MethodId} {args : Array Value} {below : List Frame} {meth : Method} {c : Code} (C : m_Cx p s m args meth c cX3_passTicks 4 RX3 (some .int) (Cond.code yX3_passTicks cX3_passTicks 4 (some .int)) D (m_tc cy) (m_AC a) (m_WC a cy) (m_ZC a)) {r0 : Int32} {X0 : XT} : ∀ (n : Nat) (v1 : Int32) (v2 : Int32) (v3 : Int32) (X : XT), f_X3_passTicks_4 N n v1 v2 v3 X = some (r0, X0) → ∀ (H : Heap) (locs : List Loc) (ls : Array Slot), va_P D vwCl (m_WC a cy X) H → va_S (m_AC a) s.heap H locs → lv_has ls 4 [(0, .ref (a 0)), (1, .int v1), (2, .int v2), (3, .int v3)] → W p l e rm_X3_passTicks s m args below meth c H locs 0 0 (MQ below (m_QI D (m_WC a cy) (m_AC a) r0 X0) args s 0 0 (m_AC a)) (F0 m 4 ls []) := by
  have hx := C.1.1
  have hb := C.1.2.1
  intro n
  induction n with
  | zero => intro v1 v2 v3 X hf0; rw [f_X3_passTicks_4] at hf0; cases hf0
  | succ n ih =>
    intro v1 v2 v3 X hf0 H locs ls hP hS hl
    rw [f_X3_passTicks_4] at hf0
    refine lv_iload_n hx hb dX3_passTicks_4 rfl (lv_at hl 3 rfl) ?_
    refine lv_iload_n hx hb dX3_passTicks_5 rfl (lv_at hl 1 rfl) ?_
    refine lv_icmp_ge (tgt := 22) hx hb dX3_passTicks_6 (by decide) (fun c_1 => ?_) (fun c_1 => ?_)
    · have hf2 := m_it c_1 hf0
      clear hf0
      refine lv_iload_n hx hb dX3_passTicks_22 rfl (lv_at hl 2 rfl) ?_
      exact m_iret C hP hS dX3_passTicks_23 hf2
    · have hf3 := m_ie c_1 hf0
      clear hf0
      refine lv_iload_n hx hb dX3_passTicks_9 rfl (lv_at hl 2 rfl) ?_
      refine lv_aload_n hx hb dX3_passTicks_10 rfl (lv_at hl 0 rfl) ?_
      obtain ⟨r_4, X_4, h_4, hf5⟩ := m_bi_s hf3
      clear hf3
      refine m_callVi (q := (RX3, TX3, 12)) C [] [.int v2] (c_X3_passTick l D a cy hG N _ h_4) (m_goodV wl_X3_202 wi_X3_passTick ws_X3_passTick wn_X3 wc_X3_passTick) ⟨rfl, rfl⟩ hv_X3_passTick ⟨Nat.le_of_ble_eq_true rfl, Nat.le_of_ble_eq_true rfl⟩ rfl mC_0 hP hS rfl hl.1 rfl (Nat.le_of_ble_eq_true rfl) dX3_passTicks_11 (fun H locs hP hS => ?_)
      refine lv_iadd hx hb dX3_passTicks_14 ?_
      refine lv_topi (fun y_6 e_6 => ?_)
      have hf7 := m_nm_s e_6 hf5
      clear hf5
      refine lv_istore_n (lv' := [(2, .int y_6), (0, .ref (a 0)), (1, .int v1), (3, .int v3)]) hx hb dX3_passTicks_15 rfl hl (by decide) rfl (fun ls hl => ?_)
      obtain ⟨y_8, e_8⟩ : ∃ y : Int32, y = v3 + 1 := ⟨_, rfl⟩
      refine lv_iinc (v := y_8) (lv' := [(3, .int y_8), (2, .int y_6), (0, .ref (a 0)), (1, .int v1)]) hx hb dX3_passTicks_16 hl (k := 3) rfl (by rw [e_8]; rfl) (by decide) rfl (fun ls hl => ?_)
      have hf9 := m_nm_s e_8 hf7
      clear hf7
      refine lv_goto (tgt := 4) hx hb dX3_passTicks_19 (by decide) ?_
      exact ih _ _ _ _ hf9 H locs ls hP hS (lv_sub hl [2, 3, 1, 0] rfl)
def f_X3_passTicks (N : Nat) (v1 : Int32) (X : XT) : Option (Int32 × XT) := f_X3_passTicks_4 N N v1 0 0 X
set_option maxHeartbeats 4000000 in
set_option maxRecDepth 100000 in
theorem c_X3_passTicks (l : Launch) (D : va_G) (a : Nat → Nat) (cy : Nat → ClassId) (hG : m_inj 138 a) (N : Nat) (v1 : Int32) (X : XT) {r0 : Int32} {X0 : XT} (hf0 : f_X3_passTicks N v1 X = some (r0, X0)) : Met l yX3_passTicks (Cond.code yX3_passTicks cX3_passTicks 4 (some .int) :: m_tbl) rm_X3_passTicks (va_Pc [.ref (a 0), .int v1] (m_PX D (m_tc cy) (m_WC a cy) (m_ZC a) X)) (m_QI D (m_WC a cy) (m_AC a) r0 X0) 0 0 (m_AC a) := by
  refine m_met (own := RX3) hy_X3_passTicks rfl (Nat.le_of_ble_eq_true rfl) (m_wl_D hG _) m_ZC_keep ?_
  intro p e s m args below meth c C ls hl hP hS
  have hx := C.1.1
  have hb := C.1.2.1
  have hl : lv_has ls 4 [(0, .ref (a 0)), (1, .int v1)] := hl
  unfold f_X3_passTicks at hf0
  suffices K : ∀ (H : Heap) (locs : List Loc), va_P D vwCl (m_WC a cy X) H → va_S (m_AC a) s.heap H locs → W p l e rm_X3_passTicks s m args below meth c H locs 0 0 (MQ below (m_QI D (m_WC a cy) (m_AC a) r0 X0) args s 0 0 (m_AC a)) (F0 m 0 ls []) from K _ _ hP hS
  clear hP hS
  intro H locs hP hS
  refine lv_iconst (v := 0) hx hb dX3_passTicks_0 (by decide) ?_
  refine lv_istore_n (lv' := [(2, .int 0), (0, .ref (a 0)), (1, .int v1)]) hx hb dX3_passTicks_1 rfl hl (by decide) rfl (fun ls hl => ?_)
  refine lv_iconst (v := 0) hx hb dX3_passTicks_2 (by decide) ?_
  refine lv_istore_n (lv' := [(3, .int 0), (2, .int 0), (0, .ref (a 0)), (1, .int v1)]) hx hb dX3_passTicks_3 rfl hl (by decide) rfl (fun ls hl => ?_)
  exact w_X3_passTicks_4 l D a cy hG N C _ _ _ _ _ hf0 H locs ls hP hS (lv_sub hl [2, 3, 1, 0] rfl)
abbrev rm_X3_change : Room := { frames := 2, cells := 0, slots := 0, locals := 44 }
def f_X3_change (N : Nat) (v1 : Int32) (v2 : Int32) (X : XT) : Option (Int32 × XT) := m_bi (f_X6_change N v1 v2 X) fun r_1 X_1 => some (r_1, X_1)
set_option maxHeartbeats 4000000 in
set_option maxRecDepth 100000 in
theorem c_X3_change (l : Launch) (D : va_G) (a : Nat → Nat) (cy : Nat → ClassId) (hG : m_inj 138 a) (N : Nat) (v1 : Int32) (v2 : Int32) (X : XT) {r0 : Int32} {X0 : XT} (hf0 : f_X3_change N v1 v2 X = some (r0, X0)) : Met l yX3_change (Cond.code yX3_change cX3_change 3 (some .int) :: m_tbl) rm_X3_change (va_Pc [.ref (a 0), .int v1, .int v2] (m_PX D (m_tc cy) (m_WC a cy) (m_ZC a) X)) (m_QI D (m_WC a cy) (m_AC a) r0 X0) 0 0 (m_AC a) := by
  refine m_met (own := RX3) hy_X3_change rfl (Nat.le_of_ble_eq_true rfl) (m_wl_D hG _) m_ZC_keep ?_
  intro p e s m args below meth c C ls hl hP hS
  have hx := C.1.1
  have hb := C.1.2.1
  have hl : lv_has ls 3 [(0, .ref (a 0)), (1, .int v1), (2, .int v2)] := hl
  unfold f_X3_change at hf0
  suffices K : ∀ (H : Heap) (locs : List Loc), va_P D vwCl (m_WC a cy X) H → va_S (m_AC a) s.heap H locs → W p l e rm_X3_change s m args below meth c H locs 0 0 (MQ below (m_QI D (m_WC a cy) (m_AC a) r0 X0) args s 0 0 (m_AC a)) (F0 m 0 ls []) from K _ _ hP hS
  clear hP hS
  intro H locs hP hS
  refine lv_aload_n hx hb dX3_change_0 rfl (lv_at hl 0 rfl) ?_
  refine m_get C hP mC_0 rfl inX3 3 (by decide) wf_X3_35 rfl dX3_change_1 ?_
  refine lv_iload_n hx hb dX3_change_4 rfl (lv_at hl 1 rfl) ?_
  refine lv_iload_n hx hb dX3_change_5 rfl (lv_at hl 2 rfl) ?_
  obtain ⟨r_1, X_1, h_1, hf2⟩ := m_bi_s hf0
  clear hf0
  refine m_callVi (q := (RX6, TX6, 1)) C [.int v1, .int v2] [] (c_X6_change l D a cy hG N _ _ _ h_1) (m_goodV wl_X3_199 wi_X6_change ws_X6_change wn_X6 wc_X6_change) ⟨rfl, rfl⟩ hv_X6_change ⟨Nat.le_of_ble_eq_true rfl, Nat.le_of_ble_eq_true rfl⟩ rfl mC_17 hP hS rfl hl.1 rfl (Nat.le_of_ble_eq_true rfl) dX3_change_6 (fun H locs hP hS => ?_)
  exact m_iret C hP hS dX3_change_9 hf2
abbrev rm_X3_aboutCommit : Room := { frames := 2, cells := 0, slots := 0, locals := 42 }
def f_X3_aboutCommit (N : Nat) (v1 : Int32) (v2 : Int32) (X : XT) : Option (Int32 × XT) := m_bi (f_X0_has N v1 X) fun r_1 X_1 => if r_1 = 0 then (some ((-1), X_1)) else (if v2 = 0 then (m_bi (f_X0_clientOf N v1 X_1) fun r_9 X_9 => some (r_9, X_9)) else (if v2 = 1 then (m_bi (f_X0_recordsOf N v1 X_1) fun r_14 X_14 => some (r_14, X_14)) else (if v2 = 2 then (m_bi (f_X0_isUrgent N v1 X_1) fun r_19 X_19 => if r_19 = 0 then (some (0, X_19)) else (some (1, X_19))) else (if v2 = 3 then (m_bi (f_X0_stateOf N v1 X_1) fun r_27 X_27 => some (r_27, X_27)) else (if v2 = 4 then (m_bi (f_X0_submitTimeOf N v1 X_1) fun r_32 X_32 => some (r_32, X_32)) else (if v2 = 5 then (m_bi (f_X0_answerTimeOf N v1 X_1) fun r_37 X_37 => some (r_37, X_37)) else (if v2 = 6 then (m_bi (f_X0_groupOf N v1 X_1) fun r_42 X_42 => some (r_42, X_42)) else (some ((-2), X_1)))))))))
set_option maxHeartbeats 4000000 in
set_option maxRecDepth 100000 in
theorem c_X3_aboutCommit (l : Launch) (D : va_G) (a : Nat → Nat) (cy : Nat → ClassId) (hG : m_inj 138 a) (N : Nat) (v1 : Int32) (v2 : Int32) (X : XT) {r0 : Int32} {X0 : XT} (hf0 : f_X3_aboutCommit N v1 v2 X = some (r0, X0)) : Met l yX3_aboutCommit (Cond.code yX3_aboutCommit cX3_aboutCommit 3 (some .int) :: m_tbl) rm_X3_aboutCommit (va_Pc [.ref (a 0), .int v1, .int v2] (m_PX D (m_tc cy) (m_WC a cy) (m_ZC a) X)) (m_QI D (m_WC a cy) (m_AC a) r0 X0) 0 0 (m_AC a) := by
  refine m_met (own := RX3) hy_X3_aboutCommit rfl (Nat.le_of_ble_eq_true rfl) (m_wl_D hG _) m_ZC_keep ?_
  intro p e s m args below meth c C ls hl hP hS
  have hx := C.1.1
  have hb := C.1.2.1
  have hl : lv_has ls 3 [(0, .ref (a 0)), (1, .int v1), (2, .int v2)] := hl
  unfold f_X3_aboutCommit at hf0
  suffices K : ∀ (H : Heap) (locs : List Loc), va_P D vwCl (m_WC a cy X) H → va_S (m_AC a) s.heap H locs → W p l e rm_X3_aboutCommit s m args below meth c H locs 0 0 (MQ below (m_QI D (m_WC a cy) (m_AC a) r0 X0) args s 0 0 (m_AC a)) (F0 m 0 ls []) from K _ _ hP hS
  clear hP hS
  intro H locs hP hS
  refine lv_aload_n hx hb dX3_aboutCommit_0 rfl (lv_at hl 0 rfl) ?_
  refine m_get C hP mC_0 rfl inX3 0 (by decide) wf_X3_12 rfl dX3_aboutCommit_1 ?_
  refine lv_iload_n hx hb dX3_aboutCommit_4 rfl (lv_at hl 1 rfl) ?_
  obtain ⟨r_1, X_1, h_1, hf2⟩ := m_bi_s hf0
  clear hf0
  refine m_callVi (q := (RX0, TX0, 9)) C [.int v1] [] (c_X0_has l D a cy hG N _ _ h_1) (m_goodV wl_X3_217 wi_X0_has ws_X0_has wn_X0 wc_X0_has) ⟨rfl, rfl⟩ hv_X0_has ⟨Nat.le_of_ble_eq_true rfl, Nat.le_of_ble_eq_true rfl⟩ rfl mC_1 hP hS rfl hl.1 rfl (Nat.le_of_ble_eq_true rfl) dX3_aboutCommit_5 (fun H locs hP hS => ?_)
  refine lv_if_ne (tgt := 13) hx hb dX3_aboutCommit_8 (by decide) (fun c_3 => ?_) (fun c_3 => ?_)
  · have hf4 := m_ie c_3 hf2
    clear hf2
    refine lv_iload_n hx hb dX3_aboutCommit_13 rfl (lv_at hl 2 rfl) ?_
    by_cases c_6 : v2 = 0
    · have hf7 := m_it c_6 hf4
      clear hf4
      refine lv_tableIn (tgt := 56) hx hb dX3_aboutCommit_14 (by rw [c_6]; decide) (by rw [c_6]; decide) (by rw [c_6]; rfl) (by decide) ?_
      refine lv_aload_n hx hb dX3_aboutCommit_56 rfl (lv_at hl 0 rfl) ?_
      refine m_get C hP mC_0 rfl inX3 0 (by decide) wf_X3_12 rfl dX3_aboutCommit_57 ?_
      refine lv_iload_n hx hb dX3_aboutCommit_60 rfl (lv_at hl 1 rfl) ?_
      obtain ⟨r_9, X_9, h_9, hf10⟩ := m_bi_s hf7
      clear hf7
      refine m_callVi (q := (RX0, TX0, 9)) C [.int v1] [] (c_X0_clientOf l D a cy hG N _ _ h_9) (m_goodV wl_X3_149 wi_X0_clientOf ws_X0_clientOf wn_X0 wc_X0_clientOf) ⟨rfl, rfl⟩ hv_X0_clientOf ⟨Nat.le_of_ble_eq_true rfl, Nat.le_of_ble_eq_true rfl⟩ rfl mC_1 hP hS rfl hl.1 rfl (Nat.le_of_ble_eq_true rfl) dX3_aboutCommit_61 (fun H locs hP hS => ?_)
      exact m_iret C hP hS dX3_aboutCommit_64 hf10
    · have hf8 := m_ie c_6 hf4
      clear hf4
      by_cases c_11 : v2 = 1
      · have hf12 := m_it c_11 hf8
        clear hf8
        refine lv_tableIn (tgt := 65) hx hb dX3_aboutCommit_14 (by rw [c_11]; decide) (by rw [c_11]; decide) (by rw [c_11]; rfl) (by decide) ?_
        refine lv_aload_n hx hb dX3_aboutCommit_65 rfl (lv_at hl 0 rfl) ?_
        refine m_get C hP mC_0 rfl inX3 0 (by decide) wf_X3_12 rfl dX3_aboutCommit_66 ?_
        refine lv_iload_n hx hb dX3_aboutCommit_69 rfl (lv_at hl 1 rfl) ?_
        obtain ⟨r_14, X_14, h_14, hf15⟩ := m_bi_s hf12
        clear hf12
        refine m_callVi (q := (RX0, TX0, 9)) C [.int v1] [] (c_X0_recordsOf l D a cy hG N _ _ h_14) (m_goodV wl_X3_185 wi_X0_recordsOf ws_X0_recordsOf wn_X0 wc_X0_recordsOf) ⟨rfl, rfl⟩ hv_X0_recordsOf ⟨Nat.le_of_ble_eq_true rfl, Nat.le_of_ble_eq_true rfl⟩ rfl mC_1 hP hS rfl hl.1 rfl (Nat.le_of_ble_eq_true rfl) dX3_aboutCommit_70 (fun H locs hP hS => ?_)
        exact m_iret C hP hS dX3_aboutCommit_73 hf15
      · have hf13 := m_ie c_11 hf8
        clear hf8
        by_cases c_16 : v2 = 2
        · have hf17 := m_it c_16 hf13
          clear hf13
          refine lv_tableIn (tgt := 74) hx hb dX3_aboutCommit_14 (by rw [c_16]; decide) (by rw [c_16]; decide) (by rw [c_16]; rfl) (by decide) ?_
          refine lv_aload_n hx hb dX3_aboutCommit_74 rfl (lv_at hl 0 rfl) ?_
          refine m_get C hP mC_0 rfl inX3 0 (by decide) wf_X3_12 rfl dX3_aboutCommit_75 ?_
          refine lv_iload_n hx hb dX3_aboutCommit_78 rfl (lv_at hl 1 rfl) ?_
          obtain ⟨r_19, X_19, h_19, hf20⟩ := m_bi_s hf17
          clear hf17
          refine m_callVi (q := (RX0, TX0, 9)) C [.int v1] [] (c_X0_isUrgent l D a cy hG N _ _ h_19) (m_goodV wl_X3_220 wi_X0_isUrgent ws_X0_isUrgent wn_X0 wc_X0_isUrgent) ⟨rfl, rfl⟩ hv_X0_isUrgent ⟨Nat.le_of_ble_eq_true rfl, Nat.le_of_ble_eq_true rfl⟩ rfl mC_1 hP hS rfl hl.1 rfl (Nat.le_of_ble_eq_true rfl) dX3_aboutCommit_79 (fun H locs hP hS => ?_)
          refine lv_if_eq (tgt := 89) hx hb dX3_aboutCommit_82 (by decide) (fun c_21 => ?_) (fun c_21 => ?_)
          · have hf22 := m_it c_21 hf20
            clear hf20
            refine lv_iconst (v := 0) hx hb dX3_aboutCommit_89 (by decide) ?_
            exact m_iret C hP hS dX3_aboutCommit_90 hf22
          · have hf23 := m_ie c_21 hf20
            clear hf20
            refine lv_iconst (v := 1) hx hb dX3_aboutCommit_85 (by decide) ?_
            refine lv_goto (tgt := 90) hx hb dX3_aboutCommit_86 (by decide) ?_
            exact m_iret C hP hS dX3_aboutCommit_90 hf23
        · have hf18 := m_ie c_16 hf13
          clear hf13
          by_cases c_24 : v2 = 3
          · have hf25 := m_it c_24 hf18
            clear hf18
            refine lv_tableIn (tgt := 91) hx hb dX3_aboutCommit_14 (by rw [c_24]; decide) (by rw [c_24]; decide) (by rw [c_24]; rfl) (by decide) ?_
            refine lv_aload_n hx hb dX3_aboutCommit_91 rfl (lv_at hl 0 rfl) ?_
            refine m_get C hP mC_0 rfl inX3 0 (by decide) wf_X3_12 rfl dX3_aboutCommit_92 ?_
            refine lv_iload_n hx hb dX3_aboutCommit_95 rfl (lv_at hl 1 rfl) ?_
            obtain ⟨r_27, X_27, h_27, hf28⟩ := m_bi_s hf25
            clear hf25
            refine m_callVi (q := (RX0, TX0, 9)) C [.int v1] [] (c_X0_stateOf l D a cy hG N _ _ h_27) (m_goodV wl_X3_131 wi_X0_stateOf ws_X0_stateOf wn_X0 wc_X0_stateOf) ⟨rfl, rfl⟩ hv_X0_stateOf ⟨Nat.le_of_ble_eq_true rfl, Nat.le_of_ble_eq_true rfl⟩ rfl mC_1 hP hS rfl hl.1 rfl (Nat.le_of_ble_eq_true rfl) dX3_aboutCommit_96 (fun H locs hP hS => ?_)
            exact m_iret C hP hS dX3_aboutCommit_99 hf28
          · have hf26 := m_ie c_24 hf18
            clear hf18
            by_cases c_29 : v2 = 4
            · have hf30 := m_it c_29 hf26
              clear hf26
              refine lv_tableIn (tgt := 100) hx hb dX3_aboutCommit_14 (by rw [c_29]; decide) (by rw [c_29]; decide) (by rw [c_29]; rfl) (by decide) ?_
              refine lv_aload_n hx hb dX3_aboutCommit_100 rfl (lv_at hl 0 rfl) ?_
              refine m_get C hP mC_0 rfl inX3 0 (by decide) wf_X3_12 rfl dX3_aboutCommit_101 ?_
              refine lv_iload_n hx hb dX3_aboutCommit_104 rfl (lv_at hl 1 rfl) ?_
              obtain ⟨r_32, X_32, h_32, hf33⟩ := m_bi_s hf30
              clear hf30
              refine m_callVi (q := (RX0, TX0, 9)) C [.int v1] [] (c_X0_submitTimeOf l D a cy hG N _ _ h_32) (m_goodV wl_X3_211 wi_X0_submitTimeOf ws_X0_submitTimeOf wn_X0 wc_X0_submitTimeOf) ⟨rfl, rfl⟩ hv_X0_submitTimeOf ⟨Nat.le_of_ble_eq_true rfl, Nat.le_of_ble_eq_true rfl⟩ rfl mC_1 hP hS rfl hl.1 rfl (Nat.le_of_ble_eq_true rfl) dX3_aboutCommit_105 (fun H locs hP hS => ?_)
              exact m_iret C hP hS dX3_aboutCommit_108 hf33
            · have hf31 := m_ie c_29 hf26
              clear hf26
              by_cases c_34 : v2 = 5
              · have hf35 := m_it c_34 hf31
                clear hf31
                refine lv_tableIn (tgt := 109) hx hb dX3_aboutCommit_14 (by rw [c_34]; decide) (by rw [c_34]; decide) (by rw [c_34]; rfl) (by decide) ?_
                refine lv_aload_n hx hb dX3_aboutCommit_109 rfl (lv_at hl 0 rfl) ?_
                refine m_get C hP mC_0 rfl inX3 0 (by decide) wf_X3_12 rfl dX3_aboutCommit_110 ?_
                refine lv_iload_n hx hb dX3_aboutCommit_113 rfl (lv_at hl 1 rfl) ?_
                obtain ⟨r_37, X_37, h_37, hf38⟩ := m_bi_s hf35
                clear hf35
                refine m_callVi (q := (RX0, TX0, 9)) C [.int v1] [] (c_X0_answerTimeOf l D a cy hG N _ _ h_37) (m_goodV wl_X3_223 wi_X0_answerTimeOf ws_X0_answerTimeOf wn_X0 wc_X0_answerTimeOf) ⟨rfl, rfl⟩ hv_X0_answerTimeOf ⟨Nat.le_of_ble_eq_true rfl, Nat.le_of_ble_eq_true rfl⟩ rfl mC_1 hP hS rfl hl.1 rfl (Nat.le_of_ble_eq_true rfl) dX3_aboutCommit_114 (fun H locs hP hS => ?_)
                exact m_iret C hP hS dX3_aboutCommit_117 hf38
              · have hf36 := m_ie c_34 hf31
                clear hf31
                by_cases c_39 : v2 = 6
                · have hf40 := m_it c_39 hf36
                  clear hf36
                  refine lv_tableIn (tgt := 118) hx hb dX3_aboutCommit_14 (by rw [c_39]; decide) (by rw [c_39]; decide) (by rw [c_39]; rfl) (by decide) ?_
                  refine lv_aload_n hx hb dX3_aboutCommit_118 rfl (lv_at hl 0 rfl) ?_
                  refine m_get C hP mC_0 rfl inX3 0 (by decide) wf_X3_12 rfl dX3_aboutCommit_119 ?_
                  refine lv_iload_n hx hb dX3_aboutCommit_122 rfl (lv_at hl 1 rfl) ?_
                  obtain ⟨r_42, X_42, h_42, hf43⟩ := m_bi_s hf40
                  clear hf40
                  refine m_callVi (q := (RX0, TX0, 9)) C [.int v1] [] (c_X0_groupOf l D a cy hG N _ _ h_42) (m_goodV wl_X3_140 wi_X0_groupOf ws_X0_groupOf wn_X0 wc_X0_groupOf) ⟨rfl, rfl⟩ hv_X0_groupOf ⟨Nat.le_of_ble_eq_true rfl, Nat.le_of_ble_eq_true rfl⟩ rfl mC_1 hP hS rfl hl.1 rfl (Nat.le_of_ble_eq_true rfl) dX3_aboutCommit_123 (fun H locs hP hS => ?_)
                  exact m_iret C hP hS dX3_aboutCommit_126 hf43
                · have hf41 := m_ie c_39 hf36
                  clear hf36
                  have n_6 := lv_neT (a := 0) c_6 (by decide)
                  have n_11 := lv_neT (a := 1) c_11 (by decide)
                  have n_16 := lv_neT (a := 2) c_16 (by decide)
                  have n_24 := lv_neT (a := 3) c_24 (by decide)
                  have n_29 := lv_neT (a := 4) c_29 (by decide)
                  have n_34 := lv_neT (a := 5) c_34 (by decide)
                  have n_39 := lv_neT (a := 6) c_39 (by decide)
                  refine lv_tableOut (tgt := 127) hx hb dX3_aboutCommit_14 (by omega) (by decide) ?_
                  refine lv_bipush (v := (-2)) hx hb dX3_aboutCommit_127 (by decide) ?_
                  exact m_iret C hP hS dX3_aboutCommit_129 hf41
  · have hf5 := m_it c_3 hf2
    clear hf2
    refine lv_iconst (v := (-1)) hx hb dX3_aboutCommit_11 (by decide) ?_
    exact m_iret C hP hS dX3_aboutCommit_12 hf5
abbrev rm_X3_aboutGroup : Room := { frames := 2, cells := 0, slots := 0, locals := 42 }
def f_X3_aboutGroup (N : Nat) (v1 : Int32) (v2 : Int32) (X : XT) : Option (Int32 × XT) := m_bi (f_X1_has N v1 X) fun r_1 X_1 => if r_1 = 0 then (some ((-1), X_1)) else (if v2 = 0 then (m_bi (f_X1_stateOf N v1 X_1) fun r_9 X_9 => some (r_9, X_9)) else (if v2 = 1 then (m_bi (f_X1_membersOf N v1 X_1) fun r_14 X_14 => some (r_14, X_14)) else (if v2 = 2 then (m_bi (f_X1_recordsOf N v1 X_1) fun r_19 X_19 => some (r_19, X_19)) else (if v2 = 3 then (if v1 = (X_1 0 8) then (m_bi (f_X0_memberAt N v1 0 X_1) fun r_27 X_27 => m_bi (f_X0_clientOf N r_27 X_27) fun r_29 X_29 => some (r_29, X_29)) else (some ((-5), X_1))) else (if v2 = 4 then (if v1 = (X_1 0 8) then (some ((X_1 0 9), X_1)) else (some ((-5), X_1))) else (if v2 = 5 then (m_bi (f_X1_reasonOf N v1 X_1) fun r_40 X_40 => some (r_40, X_40)) else (if v2 = 6 then (if v1 = (X_1 0 10) then (some ((X_1 0 11), X_1)) else (some ((-5), X_1))) else (some ((-2), X_1)))))))))
set_option maxHeartbeats 4000000 in
set_option maxRecDepth 100000 in
theorem c_X3_aboutGroup (l : Launch) (D : va_G) (a : Nat → Nat) (cy : Nat → ClassId) (hG : m_inj 138 a) (N : Nat) (v1 : Int32) (v2 : Int32) (X : XT) {r0 : Int32} {X0 : XT} (hf0 : f_X3_aboutGroup N v1 v2 X = some (r0, X0)) : Met l yX3_aboutGroup (Cond.code yX3_aboutGroup cX3_aboutGroup 3 (some .int) :: m_tbl) rm_X3_aboutGroup (va_Pc [.ref (a 0), .int v1, .int v2] (m_PX D (m_tc cy) (m_WC a cy) (m_ZC a) X)) (m_QI D (m_WC a cy) (m_AC a) r0 X0) 0 0 (m_AC a) := by
  refine m_met (own := RX3) hy_X3_aboutGroup rfl (Nat.le_of_ble_eq_true rfl) (m_wl_D hG _) m_ZC_keep ?_
  intro p e s m args below meth c C ls hl hP hS
  have hx := C.1.1
  have hb := C.1.2.1
  have hl : lv_has ls 3 [(0, .ref (a 0)), (1, .int v1), (2, .int v2)] := hl
  unfold f_X3_aboutGroup at hf0
  suffices K : ∀ (H : Heap) (locs : List Loc), va_P D vwCl (m_WC a cy X) H → va_S (m_AC a) s.heap H locs → W p l e rm_X3_aboutGroup s m args below meth c H locs 0 0 (MQ below (m_QI D (m_WC a cy) (m_AC a) r0 X0) args s 0 0 (m_AC a)) (F0 m 0 ls []) from K _ _ hP hS
  clear hP hS
  intro H locs hP hS
  refine lv_aload_n hx hb dX3_aboutGroup_0 rfl (lv_at hl 0 rfl) ?_
  refine m_get C hP mC_0 rfl inX3 1 (by decide) wf_X3_21 rfl dX3_aboutGroup_1 ?_
  refine lv_iload_n hx hb dX3_aboutGroup_4 rfl (lv_at hl 1 rfl) ?_
  obtain ⟨r_1, X_1, h_1, hf2⟩ := m_bi_s hf0
  clear hf0
  refine m_callVi (q := (RX1, TX1, 5)) C [.int v1] [] (c_X1_has l D a cy hG N _ _ h_1) (m_goodV wl_X3_226 wi_X1_has ws_X1_has wn_X1 wc_X1_has) ⟨rfl, rfl⟩ hv_X1_has ⟨Nat.le_of_ble_eq_true rfl, Nat.le_of_ble_eq_true rfl⟩ rfl mC_10 hP hS rfl hl.1 rfl (Nat.le_of_ble_eq_true rfl) dX3_aboutGroup_5 (fun H locs hP hS => ?_)
  refine lv_if_ne (tgt := 13) hx hb dX3_aboutGroup_8 (by decide) (fun c_3 => ?_) (fun c_3 => ?_)
  · have hf4 := m_ie c_3 hf2
    clear hf2
    refine lv_iload_n hx hb dX3_aboutGroup_13 rfl (lv_at hl 2 rfl) ?_
    by_cases c_6 : v2 = 0
    · have hf7 := m_it c_6 hf4
      clear hf4
      refine lv_tableIn (tgt := 56) hx hb dX3_aboutGroup_14 (by rw [c_6]; decide) (by rw [c_6]; decide) (by rw [c_6]; rfl) (by decide) ?_
      refine lv_aload_n hx hb dX3_aboutGroup_56 rfl (lv_at hl 0 rfl) ?_
      refine m_get C hP mC_0 rfl inX3 1 (by decide) wf_X3_21 rfl dX3_aboutGroup_57 ?_
      refine lv_iload_n hx hb dX3_aboutGroup_60 rfl (lv_at hl 1 rfl) ?_
      obtain ⟨r_9, X_9, h_9, hf10⟩ := m_bi_s hf7
      clear hf7
      refine m_callVi (q := (RX1, TX1, 5)) C [.int v1] [] (c_X1_stateOf l D a cy hG N _ _ h_9) (m_goodV wl_X3_227 wi_X1_stateOf ws_X1_stateOf wn_X1 wc_X1_stateOf) ⟨rfl, rfl⟩ hv_X1_stateOf ⟨Nat.le_of_ble_eq_true rfl, Nat.le_of_ble_eq_true rfl⟩ rfl mC_10 hP hS rfl hl.1 rfl (Nat.le_of_ble_eq_true rfl) dX3_aboutGroup_61 (fun H locs hP hS => ?_)
      exact m_iret C hP hS dX3_aboutGroup_64 hf10
    · have hf8 := m_ie c_6 hf4
      clear hf4
      by_cases c_11 : v2 = 1
      · have hf12 := m_it c_11 hf8
        clear hf8
        refine lv_tableIn (tgt := 65) hx hb dX3_aboutGroup_14 (by rw [c_11]; decide) (by rw [c_11]; decide) (by rw [c_11]; rfl) (by decide) ?_
        refine lv_aload_n hx hb dX3_aboutGroup_65 rfl (lv_at hl 0 rfl) ?_
        refine m_get C hP mC_0 rfl inX3 1 (by decide) wf_X3_21 rfl dX3_aboutGroup_66 ?_
        refine lv_iload_n hx hb dX3_aboutGroup_69 rfl (lv_at hl 1 rfl) ?_
        obtain ⟨r_14, X_14, h_14, hf15⟩ := m_bi_s hf12
        clear hf12
        refine m_callVi (q := (RX1, TX1, 5)) C [.int v1] [] (c_X1_membersOf l D a cy hG N _ _ h_14) (m_goodV wl_X3_143 wi_X1_membersOf ws_X1_membersOf wn_X1 wc_X1_membersOf) ⟨rfl, rfl⟩ hv_X1_membersOf ⟨Nat.le_of_ble_eq_true rfl, Nat.le_of_ble_eq_true rfl⟩ rfl mC_10 hP hS rfl hl.1 rfl (Nat.le_of_ble_eq_true rfl) dX3_aboutGroup_70 (fun H locs hP hS => ?_)
        exact m_iret C hP hS dX3_aboutGroup_73 hf15
      · have hf13 := m_ie c_11 hf8
        clear hf8
        by_cases c_16 : v2 = 2
        · have hf17 := m_it c_16 hf13
          clear hf13
          refine lv_tableIn (tgt := 74) hx hb dX3_aboutGroup_14 (by rw [c_16]; decide) (by rw [c_16]; decide) (by rw [c_16]; rfl) (by decide) ?_
          refine lv_aload_n hx hb dX3_aboutGroup_74 rfl (lv_at hl 0 rfl) ?_
          refine m_get C hP mC_0 rfl inX3 1 (by decide) wf_X3_21 rfl dX3_aboutGroup_75 ?_
          refine lv_iload_n hx hb dX3_aboutGroup_78 rfl (lv_at hl 1 rfl) ?_
          obtain ⟨r_19, X_19, h_19, hf20⟩ := m_bi_s hf17
          clear hf17
          refine m_callVi (q := (RX1, TX1, 5)) C [.int v1] [] (c_X1_recordsOf l D a cy hG N _ _ h_19) (m_goodV wl_X3_117 wi_X1_recordsOf ws_X1_recordsOf wn_X1 wc_X1_recordsOf) ⟨rfl, rfl⟩ hv_X1_recordsOf ⟨Nat.le_of_ble_eq_true rfl, Nat.le_of_ble_eq_true rfl⟩ rfl mC_10 hP hS rfl hl.1 rfl (Nat.le_of_ble_eq_true rfl) dX3_aboutGroup_79 (fun H locs hP hS => ?_)
          exact m_iret C hP hS dX3_aboutGroup_82 hf20
        · have hf18 := m_ie c_16 hf13
          clear hf13
          by_cases c_21 : v2 = 3
          · have hf22 := m_it c_21 hf18
            clear hf18
            refine lv_tableIn (tgt := 83) hx hb dX3_aboutGroup_14 (by rw [c_21]; decide) (by rw [c_21]; decide) (by rw [c_21]; rfl) (by decide) ?_
            refine lv_iload_n hx hb dX3_aboutGroup_83 rfl (lv_at hl 1 rfl) ?_
            refine lv_aload_n hx hb dX3_aboutGroup_84 rfl (lv_at hl 0 rfl) ?_
            refine m_get C hP mC_0 rfl inX3 8 (by decide) wf_X3_50 rfl dX3_aboutGroup_85 ?_
            refine lv_icmp_ne (tgt := 110) hx hb dX3_aboutGroup_88 (by decide) (fun c_24 => ?_) (fun c_24 => ?_)
            · have hf25 := m_ie c_24 hf22
              clear hf22
              refine lv_bipush (v := (-5)) hx hb dX3_aboutGroup_110 (by decide) ?_
              exact m_iret C hP hS dX3_aboutGroup_112 hf25
            · have hf26 := m_it c_24 hf22
              clear hf22
              refine lv_aload_n hx hb dX3_aboutGroup_91 rfl (lv_at hl 0 rfl) ?_
              refine m_get C hP mC_0 rfl inX3 0 (by decide) wf_X3_12 rfl dX3_aboutGroup_92 ?_
              refine lv_aload_n hx hb dX3_aboutGroup_95 rfl (lv_at hl 0 rfl) ?_
              refine m_get C hP mC_0 rfl inX3 0 (by decide) wf_X3_12 rfl dX3_aboutGroup_96 ?_
              refine lv_iload_n hx hb dX3_aboutGroup_99 rfl (lv_at hl 1 rfl) ?_
              refine lv_iconst (v := 0) hx hb dX3_aboutGroup_100 (by decide) ?_
              obtain ⟨r_27, X_27, h_27, hf28⟩ := m_bi_s hf26
              clear hf26
              refine m_callVi (q := (RX0, TX0, 9)) C [.int v1, .int 0] [.ref (a 1)] (c_X0_memberAt l D a cy hG N _ _ _ h_27) (m_goodV wl_X3_179 wi_X0_memberAt ws_X0_memberAt wn_X0 wc_X0_memberAt) ⟨rfl, rfl⟩ hv_X0_memberAt ⟨Nat.le_of_ble_eq_true rfl, Nat.le_of_ble_eq_true rfl⟩ rfl mC_1 hP hS rfl hl.1 rfl (Nat.le_of_ble_eq_true rfl) dX3_aboutGroup_101 (fun H locs hP hS => ?_)
              obtain ⟨r_29, X_29, h_29, hf30⟩ := m_bi_s hf28
              clear hf28
              refine m_callVi (q := (RX0, TX0, 9)) C [.int r_27] [] (c_X0_clientOf l D a cy hG N _ _ h_29) (m_goodV wl_X3_149 wi_X0_clientOf ws_X0_clientOf wn_X0 wc_X0_clientOf) ⟨rfl, rfl⟩ hv_X0_clientOf ⟨Nat.le_of_ble_eq_true rfl, Nat.le_of_ble_eq_true rfl⟩ rfl mC_1 hP hS rfl hl.1 rfl (Nat.le_of_ble_eq_true rfl) dX3_aboutGroup_104 (fun H locs hP hS => ?_)
              refine lv_goto (tgt := 112) hx hb dX3_aboutGroup_107 (by decide) ?_
              exact m_iret C hP hS dX3_aboutGroup_112 hf30
          · have hf23 := m_ie c_21 hf18
            clear hf18
            by_cases c_31 : v2 = 4
            · have hf32 := m_it c_31 hf23
              clear hf23
              refine lv_tableIn (tgt := 113) hx hb dX3_aboutGroup_14 (by rw [c_31]; decide) (by rw [c_31]; decide) (by rw [c_31]; rfl) (by decide) ?_
              refine lv_iload_n hx hb dX3_aboutGroup_113 rfl (lv_at hl 1 rfl) ?_
              refine lv_aload_n hx hb dX3_aboutGroup_114 rfl (lv_at hl 0 rfl) ?_
              refine m_get C hP mC_0 rfl inX3 8 (by decide) wf_X3_50 rfl dX3_aboutGroup_115 ?_
              refine lv_icmp_ne (tgt := 128) hx hb dX3_aboutGroup_118 (by decide) (fun c_34 => ?_) (fun c_34 => ?_)
              · have hf35 := m_ie c_34 hf32
                clear hf32
                refine lv_bipush (v := (-5)) hx hb dX3_aboutGroup_128 (by decide) ?_
                exact m_iret C hP hS dX3_aboutGroup_130 hf35
              · have hf36 := m_it c_34 hf32
                clear hf32
                refine lv_aload_n hx hb dX3_aboutGroup_121 rfl (lv_at hl 0 rfl) ?_
                refine m_get C hP mC_0 rfl inX3 9 (by decide) wf_X3_78 rfl dX3_aboutGroup_122 ?_
                refine lv_goto (tgt := 130) hx hb dX3_aboutGroup_125 (by decide) ?_
                exact m_iret C hP hS dX3_aboutGroup_130 hf36
            · have hf33 := m_ie c_31 hf23
              clear hf23
              by_cases c_37 : v2 = 5
              · have hf38 := m_it c_37 hf33
                clear hf33
                refine lv_tableIn (tgt := 131) hx hb dX3_aboutGroup_14 (by rw [c_37]; decide) (by rw [c_37]; decide) (by rw [c_37]; rfl) (by decide) ?_
                refine lv_aload_n hx hb dX3_aboutGroup_131 rfl (lv_at hl 0 rfl) ?_
                refine m_get C hP mC_0 rfl inX3 1 (by decide) wf_X3_21 rfl dX3_aboutGroup_132 ?_
                refine lv_iload_n hx hb dX3_aboutGroup_135 rfl (lv_at hl 1 rfl) ?_
                obtain ⟨r_40, X_40, h_40, hf41⟩ := m_bi_s hf38
                clear hf38
                refine m_callVi (q := (RX1, TX1, 5)) C [.int v1] [] (c_X1_reasonOf l D a cy hG N _ _ h_40) (m_goodV wl_X3_228 wi_X1_reasonOf ws_X1_reasonOf wn_X1 wc_X1_reasonOf) ⟨rfl, rfl⟩ hv_X1_reasonOf ⟨Nat.le_of_ble_eq_true rfl, Nat.le_of_ble_eq_true rfl⟩ rfl mC_10 hP hS rfl hl.1 rfl (Nat.le_of_ble_eq_true rfl) dX3_aboutGroup_136 (fun H locs hP hS => ?_)
                exact m_iret C hP hS dX3_aboutGroup_139 hf41
              · have hf39 := m_ie c_37 hf33
                clear hf33
                by_cases c_42 : v2 = 6
                · have hf43 := m_it c_42 hf39
                  clear hf39
                  refine lv_tableIn (tgt := 140) hx hb dX3_aboutGroup_14 (by rw [c_42]; decide) (by rw [c_42]; decide) (by rw [c_42]; rfl) (by decide) ?_
                  refine lv_iload_n hx hb dX3_aboutGroup_140 rfl (lv_at hl 1 rfl) ?_
                  refine lv_aload_n hx hb dX3_aboutGroup_141 rfl (lv_at hl 0 rfl) ?_
                  refine m_get C hP mC_0 rfl inX3 10 (by decide) wf_X3_53 rfl dX3_aboutGroup_142 ?_
                  refine lv_icmp_ne (tgt := 155) hx hb dX3_aboutGroup_145 (by decide) (fun c_45 => ?_) (fun c_45 => ?_)
                  · have hf46 := m_ie c_45 hf43
                    clear hf43
                    refine lv_bipush (v := (-5)) hx hb dX3_aboutGroup_155 (by decide) ?_
                    exact m_iret C hP hS dX3_aboutGroup_157 hf46
                  · have hf47 := m_it c_45 hf43
                    clear hf43
                    refine lv_aload_n hx hb dX3_aboutGroup_148 rfl (lv_at hl 0 rfl) ?_
                    refine m_get C hP mC_0 rfl inX3 11 (by decide) wf_X3_81 rfl dX3_aboutGroup_149 ?_
                    refine lv_goto (tgt := 157) hx hb dX3_aboutGroup_152 (by decide) ?_
                    exact m_iret C hP hS dX3_aboutGroup_157 hf47
                · have hf44 := m_ie c_42 hf39
                  clear hf39
                  have n_6 := lv_neT (a := 0) c_6 (by decide)
                  have n_11 := lv_neT (a := 1) c_11 (by decide)
                  have n_16 := lv_neT (a := 2) c_16 (by decide)
                  have n_21 := lv_neT (a := 3) c_21 (by decide)
                  have n_31 := lv_neT (a := 4) c_31 (by decide)
                  have n_37 := lv_neT (a := 5) c_37 (by decide)
                  have n_42 := lv_neT (a := 6) c_42 (by decide)
                  refine lv_tableOut (tgt := 158) hx hb dX3_aboutGroup_14 (by omega) (by decide) ?_
                  refine lv_bipush (v := (-2)) hx hb dX3_aboutGroup_158 (by decide) ?_
                  exact m_iret C hP hS dX3_aboutGroup_160 hf44
  · have hf5 := m_it c_3 hf2
    clear hf2
    refine lv_iconst (v := (-1)) hx hb dX3_aboutGroup_11 (by decide) ?_
    exact m_iret C hP hS dX3_aboutGroup_12 hf5
abbrev rm_X3_memberAt : Room := { frames := 1, cells := 0, slots := 0, locals := 24 }
def f_X3_memberAt (N : Nat) (v1 : Int32) (v2 : Int32) (X : XT) : Option (Int32 × XT) := m_bi (f_X1_has N v1 X) fun r_1 X_1 => if r_1 = 0 then (some ((-1), X_1)) else (if 0 ≤ v2 then (m_bi (f_X0_memberAt N v1 v2 X_1) fun r_9 X_9 => some (r_9, X_9)) else (some ((-2), X_1)))
set_option maxHeartbeats 4000000 in
set_option maxRecDepth 100000 in
theorem c_X3_memberAt (l : Launch) (D : va_G) (a : Nat → Nat) (cy : Nat → ClassId) (hG : m_inj 138 a) (N : Nat) (v1 : Int32) (v2 : Int32) (X : XT) {r0 : Int32} {X0 : XT} (hf0 : f_X3_memberAt N v1 v2 X = some (r0, X0)) : Met l yX3_memberAt (Cond.code yX3_memberAt cX3_memberAt 3 (some .int) :: m_tbl) rm_X3_memberAt (va_Pc [.ref (a 0), .int v1, .int v2] (m_PX D (m_tc cy) (m_WC a cy) (m_ZC a) X)) (m_QI D (m_WC a cy) (m_AC a) r0 X0) 0 0 (m_AC a) := by
  refine m_met (own := RX3) hy_X3_memberAt rfl (Nat.le_of_ble_eq_true rfl) (m_wl_D hG _) m_ZC_keep ?_
  intro p e s m args below meth c C ls hl hP hS
  have hx := C.1.1
  have hb := C.1.2.1
  have hl : lv_has ls 3 [(0, .ref (a 0)), (1, .int v1), (2, .int v2)] := hl
  unfold f_X3_memberAt at hf0
  suffices K : ∀ (H : Heap) (locs : List Loc), va_P D vwCl (m_WC a cy X) H → va_S (m_AC a) s.heap H locs → W p l e rm_X3_memberAt s m args below meth c H locs 0 0 (MQ below (m_QI D (m_WC a cy) (m_AC a) r0 X0) args s 0 0 (m_AC a)) (F0 m 0 ls []) from K _ _ hP hS
  clear hP hS
  intro H locs hP hS
  refine lv_aload_n hx hb dX3_memberAt_0 rfl (lv_at hl 0 rfl) ?_
  refine m_get C hP mC_0 rfl inX3 1 (by decide) wf_X3_21 rfl dX3_memberAt_1 ?_
  refine lv_iload_n hx hb dX3_memberAt_4 rfl (lv_at hl 1 rfl) ?_
  obtain ⟨r_1, X_1, h_1, hf2⟩ := m_bi_s hf0
  clear hf0
  refine m_callVi (q := (RX1, TX1, 5)) C [.int v1] [] (c_X1_has l D a cy hG N _ _ h_1) (m_goodV wl_X3_226 wi_X1_has ws_X1_has wn_X1 wc_X1_has) ⟨rfl, rfl⟩ hv_X1_has ⟨Nat.le_of_ble_eq_true rfl, Nat.le_of_ble_eq_true rfl⟩ rfl mC_10 hP hS rfl hl.1 rfl (Nat.le_of_ble_eq_true rfl) dX3_memberAt_5 (fun H locs hP hS => ?_)
  refine lv_if_ne (tgt := 13) hx hb dX3_memberAt_8 (by decide) (fun c_3 => ?_) (fun c_3 => ?_)
  · have hf4 := m_ie c_3 hf2
    clear hf2
    refine lv_iload_n hx hb dX3_memberAt_13 rfl (lv_at hl 2 rfl) ?_
    refine lv_if_ge (tgt := 20) hx hb dX3_memberAt_14 (by decide) (fun c_6 => ?_) (fun c_6 => ?_)
    · have hf7 := m_it c_6 hf4
      clear hf4
      refine lv_aload_n hx hb dX3_memberAt_20 rfl (lv_at hl 0 rfl) ?_
      refine m_get C hP mC_0 rfl inX3 0 (by decide) wf_X3_12 rfl dX3_memberAt_21 ?_
      refine lv_iload_n hx hb dX3_memberAt_24 rfl (lv_at hl 1 rfl) ?_
      refine lv_iload_n hx hb dX3_memberAt_25 rfl (lv_at hl 2 rfl) ?_
      obtain ⟨r_9, X_9, h_9, hf10⟩ := m_bi_s hf7
      clear hf7
      refine m_callVi (q := (RX0, TX0, 9)) C [.int v1, .int v2] [] (c_X0_memberAt l D a cy hG N _ _ _ h_9) (m_goodV wl_X3_179 wi_X0_memberAt ws_X0_memberAt wn_X0 wc_X0_memberAt) ⟨rfl, rfl⟩ hv_X0_memberAt ⟨Nat.le_of_ble_eq_true rfl, Nat.le_of_ble_eq_true rfl⟩ rfl mC_1 hP hS rfl hl.1 rfl (Nat.le_of_ble_eq_true rfl) dX3_memberAt_26 (fun H locs hP hS => ?_)
      exact m_iret C hP hS dX3_memberAt_29 hf10
    · have hf8 := m_ie c_6 hf4
      clear hf4
      refine lv_bipush (v := (-2)) hx hb dX3_memberAt_17 (by decide) ?_
      exact m_iret C hP hS dX3_memberAt_19 hf8
  · have hf5 := m_it c_3 hf2
    clear hf2
    refine lv_iconst (v := (-1)) hx hb dX3_memberAt_11 (by decide) ?_
    exact m_iret C hP hS dX3_memberAt_12 hf5
abbrev rm_X3_queuedAt : Room := { frames := 2, cells := 0, slots := 0, locals := 41 }
def f_X3_queuedAt (N : Nat) (v1 : Int32) (X : XT) : Option (Int32 × XT) := m_bi (f_X4_at N v1 X) fun r_1 X_1 => some (r_1, X_1)
set_option maxHeartbeats 4000000 in
set_option maxRecDepth 100000 in
theorem c_X3_queuedAt (l : Launch) (D : va_G) (a : Nat → Nat) (cy : Nat → ClassId) (hG : m_inj 138 a) (N : Nat) (v1 : Int32) (X : XT) {r0 : Int32} {X0 : XT} (hf0 : f_X3_queuedAt N v1 X = some (r0, X0)) : Met l yX3_queuedAt (Cond.code yX3_queuedAt cX3_queuedAt 2 (some .int) :: m_tbl) rm_X3_queuedAt (va_Pc [.ref (a 0), .int v1] (m_PX D (m_tc cy) (m_WC a cy) (m_ZC a) X)) (m_QI D (m_WC a cy) (m_AC a) r0 X0) 0 0 (m_AC a) := by
  refine m_met (own := RX3) hy_X3_queuedAt rfl (Nat.le_of_ble_eq_true rfl) (m_wl_D hG _) m_ZC_keep ?_
  intro p e s m args below meth c C ls hl hP hS
  have hx := C.1.1
  have hb := C.1.2.1
  have hl : lv_has ls 2 [(0, .ref (a 0)), (1, .int v1)] := hl
  unfold f_X3_queuedAt at hf0
  suffices K : ∀ (H : Heap) (locs : List Loc), va_P D vwCl (m_WC a cy X) H → va_S (m_AC a) s.heap H locs → W p l e rm_X3_queuedAt s m args below meth c H locs 0 0 (MQ below (m_QI D (m_WC a cy) (m_AC a) r0 X0) args s 0 0 (m_AC a)) (F0 m 0 ls []) from K _ _ hP hS
  clear hP hS
  intro H locs hP hS
  refine lv_aload_n hx hb dX3_queuedAt_0 rfl (lv_at hl 0 rfl) ?_
  refine m_get C hP mC_0 rfl inX3 2 (by decide) wf_X3_28 rfl dX3_queuedAt_1 ?_
  refine lv_iload_n hx hb dX3_queuedAt_4 rfl (lv_at hl 1 rfl) ?_
  obtain ⟨r_1, X_1, h_1, hf2⟩ := m_bi_s hf0
  clear hf0
  refine m_callVi (q := (RX4, TX4, 3)) C [.int v1] [] (c_X4_at l D a cy hG N _ _ h_1) (m_goodV wl_X3_231 wi_X4_at ws_X4_at wn_X4 wc_X4_at) ⟨rfl, rfl⟩ hv_X4_at ⟨Nat.le_of_ble_eq_true rfl, Nat.le_of_ble_eq_true rfl⟩ rfl mC_15 hP hS rfl hl.1 rfl (Nat.le_of_ble_eq_true rfl) dX3_queuedAt_5 (fun H locs hP hS => ?_)
  exact m_iret C hP hS dX3_queuedAt_8 hf2
abbrev rm_X3_busyClients : Room := { frames := 0, cells := 0, slots := 0, locals := 0 }
def f_X3_busyClients_4 (N : Nat) : Nat → Int32 → Int32 → XT → Option (Int32 × XT)
  | 0, _, _, _ => none
  | n + 1, v1, v2, X => if 12 ≤ v2 then (some (v1, X)) else (m_gd (m_in v2 12) <| m_nm (X 20 (Int32.toNatClampNeg v2)) fun y_4 => if y_4 = (-5) then (m_nm (v2 + 1) fun y_10 => f_X3_busyClients_4 N n v1 y_10 X) else (m_nm (v1 + 1) fun y_12 => m_nm (v2 + 1) fun y_14 => f_X3_busyClients_4 N n y_12 y_14 X))
set_option maxHeartbeats 4000000 in
set_option maxRecDepth 100000 in
theorem w_X3_busyClients_4 (l : Launch) (D : va_G) (a : Nat → Nat) (cy : Nat → ClassId) (hG : m_inj 138 a) (N : Nat) {p : Program} {e : Env} {s : State} {m : MethodId} {args : Array Value} {below : List Frame} {meth : Method} {c : Code} (C : m_Cx p s m args meth c cX3_busyClients 3 RX3 (some .int) (Cond.code yX3_busyClients cX3_busyClients 3 (some .int)) D (m_tc cy) (m_AC a) (m_WC a cy) (m_ZC a)) {r0 : Int32} {X0 : XT} : ∀ (n : Nat) (v1 : Int32) (v2 : Int32) (X : XT), f_X3_busyClients_4 N n v1 v2 X = some (r0, X0) → ∀ (H : Heap) (locs : List Loc) (ls : Array Slot), va_P D vwCl (m_WC a cy X) H → va_S (m_AC a) s.heap H locs → lv_has ls 3 [(0, .ref (a 0)), (1, .int v1), (2, .int v2)] → W p l e rm_X3_busyClients s m args below meth c H locs 0 0 (MQ below (m_QI D (m_WC a cy) (m_AC a) r0 X0) args s 0 0 (m_AC a)) (F0 m 4 ls []) := by
  have hx := C.1.1
  have hb := C.1.2.1
  intro n
  induction n with
  | zero => intro v1 v2 X hf0; rw [f_X3_busyClients_4] at hf0; cases hf0
  | succ n ih =>
    intro v1 v2 X hf0 H locs ls hP hS hl
    rw [f_X3_busyClients_4] at hf0
    refine lv_iload_n hx hb dX3_busyClients_4 rfl (lv_at hl 2 rfl) ?_
    refine lv_bipush (v := 12) hx hb dX3_busyClients_5 (by decide) ?_
    refine lv_icmp_ge (tgt := 30) hx hb dX3_busyClients_7 (by decide) (fun c_1 => ?_) (fun c_1 => ?_)
    · have hf2 := m_it c_1 hf0
      clear hf0
      refine lv_iload_n hx hb dX3_busyClients_30 rfl (lv_at hl 1 rfl) ?_
      exact m_iret C hP hS dX3_busyClients_31 hf2
    · have hf3 := m_ie c_1 hf0
      clear hf0
      refine lv_aload_n hx hb dX3_busyClients_10 rfl (lv_at hl 0 rfl) ?_
      refine m_get C hP mC_0 rfl inX3 5 (by decide) wf_X3_43 rfl dX3_busyClients_11 ?_
      refine lv_iload_n hx hb dX3_busyClients_14 rfl (lv_at hl 2 rfl) ?_
      obtain ⟨g_4, hf5⟩ := m_gd_s hf3
      clear hf3
      refine m_ild C hP mC_20 0 rfl g_4 dX3_busyClients_15 (fun y_4 e_4 => ?_)
      have hf6 := m_nm_s e_4 hf5
      clear hf5
      refine lv_bipush (v := (-5)) hx hb dX3_busyClients_16 (by decide) ?_
      refine lv_icmp_eq (tgt := 24) hx hb dX3_busyClients_18 (by decide) (fun c_7 => ?_) (fun c_7 => ?_)
      · have hf8 := m_it c_7 hf6
        clear hf6
        obtain ⟨y_10, e_10⟩ : ∃ y : Int32, y = v2 + 1 := ⟨_, rfl⟩
        refine lv_iinc (v := y_10) (lv' := [(2, .int y_10), (0, .ref (a 0)), (1, .int v1)]) hx hb dX3_busyClients_24 hl (k := 2) rfl (by rw [e_10]; rfl) (by decide) rfl (fun ls hl => ?_)
        have hf11 := m_nm_s e_10 hf8
        clear hf8
        refine lv_goto (tgt := 4) hx hb dX3_busyClients_27 (by decide) ?_
        exact ih _ _ _ hf11 H locs ls hP hS (lv_sub hl [1, 2, 0] rfl)
      · have hf9 := m_ie c_7 hf6
        clear hf6
        obtain ⟨y_12, e_12⟩ : ∃ y : Int32, y = v1 + 1 := ⟨_, rfl⟩
        refine lv_iinc (v := y_12) (lv' := [(1, .int y_12), (0, .ref (a 0)), (2, .int v2)]) hx hb dX3_busyClients_21 hl (k := 1) rfl (by rw [e_12]; rfl) (by decide) rfl (fun ls hl => ?_)
        have hf13 := m_nm_s e_12 hf9
        clear hf9
        obtain ⟨y_14, e_14⟩ : ∃ y : Int32, y = v2 + 1 := ⟨_, rfl⟩
        refine lv_iinc (v := y_14) (lv' := [(2, .int y_14), (1, .int y_12), (0, .ref (a 0))]) hx hb dX3_busyClients_24 hl (k := 2) rfl (by rw [e_14]; rfl) (by decide) rfl (fun ls hl => ?_)
        have hf15 := m_nm_s e_14 hf13
        clear hf13
        refine lv_goto (tgt := 4) hx hb dX3_busyClients_27 (by decide) ?_
        exact ih _ _ _ hf15 H locs ls hP hS (lv_sub hl [2, 1, 0] rfl)
def f_X3_busyClients (N : Nat) (X : XT) : Option (Int32 × XT) := f_X3_busyClients_4 N N 0 0 X
set_option maxHeartbeats 4000000 in
set_option maxRecDepth 100000 in
theorem c_X3_busyClients (l : Launch) (D : va_G) (a : Nat → Nat) (cy : Nat → ClassId) (hG : m_inj 138 a) (N : Nat) (X : XT) {r0 : Int32} {X0 : XT} (hf0 : f_X3_busyClients N X = some (r0, X0)) : Met l yX3_busyClients (Cond.code yX3_busyClients cX3_busyClients 3 (some .int) :: m_tbl) rm_X3_busyClients (va_Pc [.ref (a 0)] (m_PX D (m_tc cy) (m_WC a cy) (m_ZC a) X)) (m_QI D (m_WC a cy) (m_AC a) r0 X0) 0 0 (m_AC a) := by
  refine m_met (own := RX3) hy_X3_busyClients rfl (Nat.le_of_ble_eq_true rfl) (m_wl_D hG _) m_ZC_keep ?_
  intro p e s m args below meth c C ls hl hP hS
  have hx := C.1.1
  have hb := C.1.2.1
  have hl : lv_has ls 3 [(0, .ref (a 0))] := hl
  unfold f_X3_busyClients at hf0
  suffices K : ∀ (H : Heap) (locs : List Loc), va_P D vwCl (m_WC a cy X) H → va_S (m_AC a) s.heap H locs → W p l e rm_X3_busyClients s m args below meth c H locs 0 0 (MQ below (m_QI D (m_WC a cy) (m_AC a) r0 X0) args s 0 0 (m_AC a)) (F0 m 0 ls []) from K _ _ hP hS
  clear hP hS
  intro H locs hP hS
  refine lv_iconst (v := 0) hx hb dX3_busyClients_0 (by decide) ?_
  refine lv_istore_n (lv' := [(1, .int 0), (0, .ref (a 0))]) hx hb dX3_busyClients_1 rfl hl (by decide) rfl (fun ls hl => ?_)
  refine lv_iconst (v := 0) hx hb dX3_busyClients_2 (by decide) ?_
  refine lv_istore_n (lv' := [(2, .int 0), (1, .int 0), (0, .ref (a 0))]) hx hb dX3_busyClients_3 rfl hl (by decide) rfl (fun ls hl => ?_)
  exact w_X3_busyClients_4 l D a cy hG N C _ _ _ _ hf0 H locs ls hP hS (lv_sub hl [2, 1, 0] rfl)
abbrev rm_X3_aboutNow : Room := { frames := 1, cells := 0, slots := 0, locals := 22 }
def f_X3_aboutNow (N : Nat) (v1 : Int32) (X : XT) : Option (Int32 × XT) := if v1 = 0 then (some ((X 0 6), X)) else (if v1 = 1 then (some ((X 0 7), X)) else (if v1 = 2 then (some ((X 0 8), X)) else (if v1 = 3 then (some ((X 0 10), X)) else (if v1 = 4 then (m_bi (f_X4_size N X) fun r_16 X_16 => some (r_16, X_16)) else (if v1 = 5 then (m_bi (f_X3_busyClients N X) fun r_21 X_21 => some (r_21, X_21)) else (if v1 = 6 then (m_nm (v1 - 6) fun y_26 => m_bi (f_X6_valueOf N y_26 X) fun r_28 X_28 => some (r_28, X_28)) else (if v1 = 7 then (m_nm (v1 - 6) fun y_33 => m_bi (f_X6_valueOf N y_33 X) fun r_35 X_35 => some (r_35, X_35)) else (if v1 = 8 then (m_nm (v1 - 6) fun y_40 => m_bi (f_X6_valueOf N y_40 X) fun r_42 X_42 => some (r_42, X_42)) else (if v1 = 9 then (m_nm (v1 - 6) fun y_47 => m_bi (f_X6_valueOf N y_47 X) fun r_49 X_49 => some (r_49, X_49)) else (some ((-2), X)))))))))))
set_option maxHeartbeats 4000000 in
set_option maxRecDepth 100000 in
theorem c_X3_aboutNow (l : Launch) (D : va_G) (a : Nat → Nat) (cy : Nat → ClassId) (hG : m_inj 138 a) (N : Nat) (v1 : Int32) (X : XT) {r0 : Int32} {X0 : XT} (hf0 : f_X3_aboutNow N v1 X = some (r0, X0)) : Met l yX3_aboutNow (Cond.code yX3_aboutNow cX3_aboutNow 2 (some .int) :: m_tbl) rm_X3_aboutNow (va_Pc [.ref (a 0), .int v1] (m_PX D (m_tc cy) (m_WC a cy) (m_ZC a) X)) (m_QI D (m_WC a cy) (m_AC a) r0 X0) 0 0 (m_AC a) := by
  refine m_met (own := RX3) hy_X3_aboutNow rfl (Nat.le_of_ble_eq_true rfl) (m_wl_D hG _) m_ZC_keep ?_
  intro p e s m args below meth c C ls hl hP hS
  have hx := C.1.1
  have hb := C.1.2.1
  have hl : lv_has ls 2 [(0, .ref (a 0)), (1, .int v1)] := hl
  unfold f_X3_aboutNow at hf0
  suffices K : ∀ (H : Heap) (locs : List Loc), va_P D vwCl (m_WC a cy X) H → va_S (m_AC a) s.heap H locs → W p l e rm_X3_aboutNow s m args below meth c H locs 0 0 (MQ below (m_QI D (m_WC a cy) (m_AC a) r0 X0) args s 0 0 (m_AC a)) (F0 m 0 ls []) from K _ _ hP hS
  clear hP hS
  intro H locs hP hS
  refine lv_iload_n hx hb dX3_aboutNow_0 rfl (lv_at hl 1 rfl) ?_
  by_cases c_1 : v1 = 0
  · have hf2 := m_it c_1 hf0
    clear hf0
    refine lv_tableIn (tgt := 56) hx hb dX3_aboutNow_1 (by rw [c_1]; decide) (by rw [c_1]; decide) (by rw [c_1]; rfl) (by decide) ?_
    refine lv_aload_n hx hb dX3_aboutNow_56 rfl (lv_at hl 0 rfl) ?_
    refine m_get C hP mC_0 rfl inX3 6 (by decide) wf_X3_75 rfl dX3_aboutNow_57 ?_
    exact m_iret C hP hS dX3_aboutNow_60 hf2
  · have hf3 := m_ie c_1 hf0
    clear hf0
    by_cases c_4 : v1 = 1
    · have hf5 := m_it c_4 hf3
      clear hf3
      refine lv_tableIn (tgt := 61) hx hb dX3_aboutNow_1 (by rw [c_4]; decide) (by rw [c_4]; decide) (by rw [c_4]; rfl) (by decide) ?_
      refine lv_aload_n hx hb dX3_aboutNow_61 rfl (lv_at hl 0 rfl) ?_
      refine m_get C hP mC_0 rfl inX3 7 (by decide) wf_X3_46 rfl dX3_aboutNow_62 ?_
      exact m_iret C hP hS dX3_aboutNow_65 hf5
    · have hf6 := m_ie c_4 hf3
      clear hf3
      by_cases c_7 : v1 = 2
      · have hf8 := m_it c_7 hf6
        clear hf6
        refine lv_tableIn (tgt := 66) hx hb dX3_aboutNow_1 (by rw [c_7]; decide) (by rw [c_7]; decide) (by rw [c_7]; rfl) (by decide) ?_
        refine lv_aload_n hx hb dX3_aboutNow_66 rfl (lv_at hl 0 rfl) ?_
        refine m_get C hP mC_0 rfl inX3 8 (by decide) wf_X3_50 rfl dX3_aboutNow_67 ?_
        exact m_iret C hP hS dX3_aboutNow_70 hf8
      · have hf9 := m_ie c_7 hf6
        clear hf6
        by_cases c_10 : v1 = 3
        · have hf11 := m_it c_10 hf9
          clear hf9
          refine lv_tableIn (tgt := 71) hx hb dX3_aboutNow_1 (by rw [c_10]; decide) (by rw [c_10]; decide) (by rw [c_10]; rfl) (by decide) ?_
          refine lv_aload_n hx hb dX3_aboutNow_71 rfl (lv_at hl 0 rfl) ?_
          refine m_get C hP mC_0 rfl inX3 10 (by decide) wf_X3_53 rfl dX3_aboutNow_72 ?_
          exact m_iret C hP hS dX3_aboutNow_75 hf11
        · have hf12 := m_ie c_10 hf9
          clear hf9
          by_cases c_13 : v1 = 4
          · have hf14 := m_it c_13 hf12
            clear hf12
            refine lv_tableIn (tgt := 76) hx hb dX3_aboutNow_1 (by rw [c_13]; decide) (by rw [c_13]; decide) (by rw [c_13]; rfl) (by decide) ?_
            refine lv_aload_n hx hb dX3_aboutNow_76 rfl (lv_at hl 0 rfl) ?_
            refine m_get C hP mC_0 rfl inX3 2 (by decide) wf_X3_28 rfl dX3_aboutNow_77 ?_
            obtain ⟨r_16, X_16, h_16, hf17⟩ := m_bi_s hf14
            clear hf14
            refine m_callVi (q := (RX4, TX4, 3)) C [] [] (c_X4_size l D a cy hG N _ h_16) (m_goodV wl_X3_190 wi_X4_size ws_X4_size wn_X4 wc_X4_size) ⟨rfl, rfl⟩ hv_X4_size ⟨Nat.le_of_ble_eq_true rfl, Nat.le_of_ble_eq_true rfl⟩ rfl mC_15 hP hS rfl hl.1 rfl (Nat.le_of_ble_eq_true rfl) dX3_aboutNow_80 (fun H locs hP hS => ?_)
            exact m_iret C hP hS dX3_aboutNow_83 hf17
          · have hf15 := m_ie c_13 hf12
            clear hf12
            by_cases c_18 : v1 = 5
            · have hf19 := m_it c_18 hf15
              clear hf15
              refine lv_tableIn (tgt := 84) hx hb dX3_aboutNow_1 (by rw [c_18]; decide) (by rw [c_18]; decide) (by rw [c_18]; rfl) (by decide) ?_
              refine lv_aload_n hx hb dX3_aboutNow_84 rfl (lv_at hl 0 rfl) ?_
              obtain ⟨r_21, X_21, h_21, hf22⟩ := m_bi_s hf19
              clear hf19
              refine m_callVi (q := (RX3, TX3, 12)) C [] [] (c_X3_busyClients l D a cy hG N _ h_21) (m_goodV wl_X3_99 wi_X3_busyClients ws_X3_busyClients wn_X3 wc_X3_busyClients) ⟨rfl, rfl⟩ hv_X3_busyClients ⟨Nat.le_of_ble_eq_true rfl, Nat.le_of_ble_eq_true rfl⟩ rfl mC_0 hP hS rfl hl.1 rfl (Nat.le_of_ble_eq_true rfl) dX3_aboutNow_85 (fun H locs hP hS => ?_)
              exact m_iret C hP hS dX3_aboutNow_88 hf22
            · have hf20 := m_ie c_18 hf15
              clear hf15
              by_cases c_23 : v1 = 6
              · have hf24 := m_it c_23 hf20
                clear hf20
                refine lv_tableIn (tgt := 89) hx hb dX3_aboutNow_1 (by rw [c_23]; decide) (by rw [c_23]; decide) (by rw [c_23]; rfl) (by decide) ?_
                refine lv_aload_n hx hb dX3_aboutNow_89 rfl (lv_at hl 0 rfl) ?_
                refine m_get C hP mC_0 rfl inX3 3 (by decide) wf_X3_35 rfl dX3_aboutNow_90 ?_
                refine lv_iload_n hx hb dX3_aboutNow_93 rfl (lv_at hl 1 rfl) ?_
                refine lv_bipush (v := 6) hx hb dX3_aboutNow_94 (by decide) ?_
                refine lv_isub hx hb dX3_aboutNow_96 ?_
                refine lv_topi (fun y_26 e_26 => ?_)
                have hf27 := m_nm_s e_26 hf24
                clear hf24
                obtain ⟨r_28, X_28, h_28, hf29⟩ := m_bi_s hf27
                clear hf27
                refine m_callVi (q := (RX6, TX6, 1)) C [.int y_26] [] (c_X6_valueOf l D a cy hG N _ _ h_28) (m_goodV wl_X3_155 wi_X6_valueOf ws_X6_valueOf wn_X6 wc_X6_valueOf) ⟨rfl, rfl⟩ hv_X6_valueOf ⟨Nat.le_of_ble_eq_true rfl, Nat.le_of_ble_eq_true rfl⟩ rfl mC_17 hP hS rfl hl.1 rfl (Nat.le_of_ble_eq_true rfl) dX3_aboutNow_97 (fun H locs hP hS => ?_)
                exact m_iret C hP hS dX3_aboutNow_100 hf29
              · have hf25 := m_ie c_23 hf20
                clear hf20
                by_cases c_30 : v1 = 7
                · have hf31 := m_it c_30 hf25
                  clear hf25
                  refine lv_tableIn (tgt := 89) hx hb dX3_aboutNow_1 (by rw [c_30]; decide) (by rw [c_30]; decide) (by rw [c_30]; rfl) (by decide) ?_
                  refine lv_aload_n hx hb dX3_aboutNow_89 rfl (lv_at hl 0 rfl) ?_
                  refine m_get C hP mC_0 rfl inX3 3 (by decide) wf_X3_35 rfl dX3_aboutNow_90 ?_
                  refine lv_iload_n hx hb dX3_aboutNow_93 rfl (lv_at hl 1 rfl) ?_
                  refine lv_bipush (v := 6) hx hb dX3_aboutNow_94 (by decide) ?_
                  refine lv_isub hx hb dX3_aboutNow_96 ?_
                  refine lv_topi (fun y_33 e_33 => ?_)
                  have hf34 := m_nm_s e_33 hf31
                  clear hf31
                  obtain ⟨r_35, X_35, h_35, hf36⟩ := m_bi_s hf34
                  clear hf34
                  refine m_callVi (q := (RX6, TX6, 1)) C [.int y_33] [] (c_X6_valueOf l D a cy hG N _ _ h_35) (m_goodV wl_X3_155 wi_X6_valueOf ws_X6_valueOf wn_X6 wc_X6_valueOf) ⟨rfl, rfl⟩ hv_X6_valueOf ⟨Nat.le_of_ble_eq_true rfl, Nat.le_of_ble_eq_true rfl⟩ rfl mC_17 hP hS rfl hl.1 rfl (Nat.le_of_ble_eq_true rfl) dX3_aboutNow_97 (fun H locs hP hS => ?_)
                  exact m_iret C hP hS dX3_aboutNow_100 hf36
                · have hf32 := m_ie c_30 hf25
                  clear hf25
                  by_cases c_37 : v1 = 8
                  · have hf38 := m_it c_37 hf32
                    clear hf32
                    refine lv_tableIn (tgt := 89) hx hb dX3_aboutNow_1 (by rw [c_37]; decide) (by rw [c_37]; decide) (by rw [c_37]; rfl) (by decide) ?_
                    refine lv_aload_n hx hb dX3_aboutNow_89 rfl (lv_at hl 0 rfl) ?_
                    refine m_get C hP mC_0 rfl inX3 3 (by decide) wf_X3_35 rfl dX3_aboutNow_90 ?_
                    refine lv_iload_n hx hb dX3_aboutNow_93 rfl (lv_at hl 1 rfl) ?_
                    refine lv_bipush (v := 6) hx hb dX3_aboutNow_94 (by decide) ?_
                    refine lv_isub hx hb dX3_aboutNow_96 ?_
                    refine lv_topi (fun y_40 e_40 => ?_)
                    have hf41 := m_nm_s e_40 hf38
                    clear hf38
                    obtain ⟨r_42, X_42, h_42, hf43⟩ := m_bi_s hf41
                    clear hf41
                    refine m_callVi (q := (RX6, TX6, 1)) C [.int y_40] [] (c_X6_valueOf l D a cy hG N _ _ h_42) (m_goodV wl_X3_155 wi_X6_valueOf ws_X6_valueOf wn_X6 wc_X6_valueOf) ⟨rfl, rfl⟩ hv_X6_valueOf ⟨Nat.le_of_ble_eq_true rfl, Nat.le_of_ble_eq_true rfl⟩ rfl mC_17 hP hS rfl hl.1 rfl (Nat.le_of_ble_eq_true rfl) dX3_aboutNow_97 (fun H locs hP hS => ?_)
                    exact m_iret C hP hS dX3_aboutNow_100 hf43
                  · have hf39 := m_ie c_37 hf32
                    clear hf32
                    by_cases c_44 : v1 = 9
                    · have hf45 := m_it c_44 hf39
                      clear hf39
                      refine lv_tableIn (tgt := 89) hx hb dX3_aboutNow_1 (by rw [c_44]; decide) (by rw [c_44]; decide) (by rw [c_44]; rfl) (by decide) ?_
                      refine lv_aload_n hx hb dX3_aboutNow_89 rfl (lv_at hl 0 rfl) ?_
                      refine m_get C hP mC_0 rfl inX3 3 (by decide) wf_X3_35 rfl dX3_aboutNow_90 ?_
                      refine lv_iload_n hx hb dX3_aboutNow_93 rfl (lv_at hl 1 rfl) ?_
                      refine lv_bipush (v := 6) hx hb dX3_aboutNow_94 (by decide) ?_
                      refine lv_isub hx hb dX3_aboutNow_96 ?_
                      refine lv_topi (fun y_47 e_47 => ?_)
                      have hf48 := m_nm_s e_47 hf45
                      clear hf45
                      obtain ⟨r_49, X_49, h_49, hf50⟩ := m_bi_s hf48
                      clear hf48
                      refine m_callVi (q := (RX6, TX6, 1)) C [.int y_47] [] (c_X6_valueOf l D a cy hG N _ _ h_49) (m_goodV wl_X3_155 wi_X6_valueOf ws_X6_valueOf wn_X6 wc_X6_valueOf) ⟨rfl, rfl⟩ hv_X6_valueOf ⟨Nat.le_of_ble_eq_true rfl, Nat.le_of_ble_eq_true rfl⟩ rfl mC_17 hP hS rfl hl.1 rfl (Nat.le_of_ble_eq_true rfl) dX3_aboutNow_97 (fun H locs hP hS => ?_)
                      exact m_iret C hP hS dX3_aboutNow_100 hf50
                    · have hf46 := m_ie c_44 hf39
                      clear hf39
                      have n_1 := lv_neT (a := 0) c_1 (by decide)
                      have n_4 := lv_neT (a := 1) c_4 (by decide)
                      have n_7 := lv_neT (a := 2) c_7 (by decide)
                      have n_10 := lv_neT (a := 3) c_10 (by decide)
                      have n_13 := lv_neT (a := 4) c_13 (by decide)
                      have n_18 := lv_neT (a := 5) c_18 (by decide)
                      have n_23 := lv_neT (a := 6) c_23 (by decide)
                      have n_30 := lv_neT (a := 7) c_30 (by decide)
                      have n_37 := lv_neT (a := 8) c_37 (by decide)
                      have n_44 := lv_neT (a := 9) c_44 (by decide)
                      refine lv_tableOut (tgt := 101) hx hb dX3_aboutNow_1 (by omega) (by decide) ?_
                      refine lv_bipush (v := (-2)) hx hb dX3_aboutNow_101 (by decide) ?_
                      exact m_iret C hP hS dX3_aboutNow_103 hf46
abbrev rm_X3_totalOf : Room := { frames := 0, cells := 0, slots := 0, locals := 0 }
def f_X3_totalOf (N : Nat) (v1 : Int32) (X : XT) : Option (Int32 × XT) := if v1 < 0 then (some ((-2), X)) else (if 8 ≤ v1 then (some ((-2), X)) else (m_gd (m_in v1 8) <| m_nm (X 19 (Int32.toNatClampNeg v1)) fun y_7 => some (y_7, X)))
set_option maxHeartbeats 4000000 in
set_option maxRecDepth 100000 in
theorem c_X3_totalOf (l : Launch) (D : va_G) (a : Nat → Nat) (cy : Nat → ClassId) (hG : m_inj 138 a) (N : Nat) (v1 : Int32) (X : XT) {r0 : Int32} {X0 : XT} (hf0 : f_X3_totalOf N v1 X = some (r0, X0)) : Met l yX3_totalOf (Cond.code yX3_totalOf cX3_totalOf 2 (some .int) :: m_tbl) rm_X3_totalOf (va_Pc [.ref (a 0), .int v1] (m_PX D (m_tc cy) (m_WC a cy) (m_ZC a) X)) (m_QI D (m_WC a cy) (m_AC a) r0 X0) 0 0 (m_AC a) := by
  refine m_met (own := RX3) hy_X3_totalOf rfl (Nat.le_of_ble_eq_true rfl) (m_wl_D hG _) m_ZC_keep ?_
  intro p e s m args below meth c C ls hl hP hS
  have hx := C.1.1
  have hb := C.1.2.1
  have hl : lv_has ls 2 [(0, .ref (a 0)), (1, .int v1)] := hl
  unfold f_X3_totalOf at hf0
  suffices K : ∀ (H : Heap) (locs : List Loc), va_P D vwCl (m_WC a cy X) H → va_S (m_AC a) s.heap H locs → W p l e rm_X3_totalOf s m args below meth c H locs 0 0 (MQ below (m_QI D (m_WC a cy) (m_AC a) r0 X0) args s 0 0 (m_AC a)) (F0 m 0 ls []) from K _ _ hP hS
  clear hP hS
  intro H locs hP hS
  refine lv_iload_n hx hb dX3_totalOf_0 rfl (lv_at hl 1 rfl) ?_
  refine lv_if_lt (tgt := 19) hx hb dX3_totalOf_1 (by decide) (fun c_1 => ?_) (fun c_1 => ?_)
  · have hf2 := m_it c_1 hf0
    clear hf0
    refine lv_bipush (v := (-2)) hx hb dX3_totalOf_19 (by decide) ?_
    exact m_iret C hP hS dX3_totalOf_21 hf2
  · have hf3 := m_ie c_1 hf0
    clear hf0
    refine lv_iload_n hx hb dX3_totalOf_4 rfl (lv_at hl 1 rfl) ?_
    refine lv_bipush (v := 8) hx hb dX3_totalOf_5 (by decide) ?_
    refine lv_icmp_ge (tgt := 19) hx hb dX3_totalOf_7 (by decide) (fun c_4 => ?_) (fun c_4 => ?_)
    · have hf5 := m_it c_4 hf3
      clear hf3
      refine lv_bipush (v := (-2)) hx hb dX3_totalOf_19 (by decide) ?_
      exact m_iret C hP hS dX3_totalOf_21 hf5
    · have hf6 := m_ie c_4 hf3
      clear hf3
      refine lv_aload_n hx hb dX3_totalOf_10 rfl (lv_at hl 0 rfl) ?_
      refine m_get C hP mC_0 rfl inX3 4 (by decide) wf_X3_39 rfl dX3_totalOf_11 ?_
      refine lv_iload_n hx hb dX3_totalOf_14 rfl (lv_at hl 1 rfl) ?_
      obtain ⟨g_7, hf8⟩ := m_gd_s hf6
      clear hf6
      refine m_ild C hP mC_19 0 rfl g_7 dX3_totalOf_15 (fun y_7 e_7 => ?_)
      have hf9 := m_nm_s e_7 hf8
      clear hf8
      refine lv_goto (tgt := 21) hx hb dX3_totalOf_16 (by decide) ?_
      exact m_iret C hP hS dX3_totalOf_21 hf9
