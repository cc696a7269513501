-- written by wip/gen/gen27.py
abbrev rm_L_ticks : Room := { frames := 4, cells := 0, slots := 0, locals := 98 }
def f_L_ticks_212 (N : Nat) (k0 : Int32 → Int32 → Int32 → XT → Option (Int32 × XT)) (v0 : Int32) (v8 : Int32) (v9 : Int32) (X : XT) : Option (Int32 × XT) := m_bv (f_L_writes N X) fun X_38 => m_nm (v9 + 1) fun y_40 => k0 v0 v8 y_40 X_38
set_option maxHeartbeats 4000000 in
set_option maxRecDepth 100000 in
theorem w_L_ticks_212 (l : Launch) (D : va_G) (a : Nat → Nat) (cy : Nat → ClassId) (hG : m_inj 138 a) (N : Nat) {p : Program} {e : Env} {s : State} {m : MethodId} {args : Array Value} {below : List Frame} {meth : Method} {c : Code} (C : m_Cx p s m args meth c cL_ticks 12 RL (some .int) (Cond.code yL_ticks cL_ticks 12 (some .int)) D (m_tc cy) (m_AC a) (m_WC a cy) (m_ZC a)) {r0 : Int32} {X0 : XT} (k0 : Int32 → Int32 → Int32 → XT → Option (Int32 × XT)) (kb : ∀ (v0 : Int32) (v8 : Int32) (v9 : Int32) (X : XT), k0 v0 v8 v9 X = some (r0, X0) → ∀ (H : Heap) (locs : List Loc) (ls : Array Slot), va_P D vwCl (m_WC a cy X) H → va_S (m_AC a) s.heap H locs → lv_has ls 12 [(0, .int v0), (1, .ref (a 131)), (2, .ref (a 132)), (3, .ref (a 133)), (4, .ref (a 134)), (5, .ref (a 135)), (6, .ref (a 136)), (7, .ref (a 137)), (8, .int v8), (9, .int v9)] → W p l e rm_L_ticks s m args below meth c H locs 0 0 (MQ below (m_QI D (m_WC a cy) (m_AC a) r0 X0) args s 0 0 (m_AC a)) (F0 m 6 ls [])) (v0 : Int32) (v8 : Int32) (v9 : Int32) (X : XT) (hf0 : f_L_ticks_212 N k0 v0 v8 v9 X = some (r0, X0)) : ∀ (H : Heap) (locs : List Loc) (ls : Array Slot), va_P D vwCl (m_WC a cy X) H → va_S (m_AC a) s.heap H locs → lv_has ls 12 [(0, .int v0), (1, .ref (a 131)), (2, .ref (a 132)), (3, .ref (a 133)), (4, .ref (a 134)), (5, .ref (a 135)), (6, .ref (a 136)), (7, .ref (a 137)), (8, .int v8), (9, .int v9)] → W p l e rm_L_ticks s m args below meth c H locs 0 0 (MQ below (m_QI D (m_WC a cy) (m_AC a) r0 X0) args s 0 0 (m_AC a)) (F0 m 212 ls []) := by
  have hx := C.1.1
  have hb := C.1.2.1
  intro H locs ls hP hS hl
  unfold f_L_ticks_212 at hf0
  refine lv_aload_n hx hb dL_ticks_212 rfl (lv_at hl 1 rfl) ?_
  refine lv_aload_n hx hb dL_ticks_213 rfl (lv_at hl 2 rfl) ?_
  refine lv_aload hx hb dL_ticks_214 (lv_at hl 5 rfl) ?_
  refine lv_aload hx hb dL_ticks_216 (lv_at hl 6 rfl) ?_
  obtain ⟨X_38, h_38, hf39⟩ := m_bv_s hf0
  clear hf0
  refine m_callSv C [.ref (a 131), .ref (a 132), .ref (a 135), .ref (a 136)] [] (c_L_writes l D a cy hG N _ h_38) (m_goodS wl_L_31 wst_L_writes wn_L wc_L_writes) ⟨rfl, rfl⟩ hv_L_writes ⟨Nat.le_of_ble_eq_true rfl, Nat.le_of_ble_eq_true rfl⟩ hP hS rfl hl.1 rfl (Nat.le_of_ble_eq_true rfl) dL_ticks_218 (fun H locs hP hS => ?_)
  obtain ⟨y_40, e_40⟩ : ∃ y : Int32, y = v9 + 1 := ⟨_, rfl⟩
  refine lv_iinc (v := y_40) (lv' := [(9, .int y_40), (0, .int v0), (1, .ref (a 131)), (2, .ref (a 132)), (3, .ref (a 133)), (4, .ref (a 134)), (5, .ref (a 135)), (6, .ref (a 136)), (7, .ref (a 137)), (8, .int v8)]) hx hb dL_ticks_221 hl (k := 9) rfl (by rw [e_40]; rfl) (by decide) rfl (fun ls hl => ?_)
  have hf41 := m_nm_s e_40 hf39
  clear hf39
  refine lv_goto (tgt := 6) hx hb dL_ticks_224 (by decide) ?_
  exact kb _ _ _ _ hf41 H locs ls hP hS (lv_sub hl [1, 2, 3, 4, 5, 6, 7, 8, 9, 0] rfl)
def f_L_ticks_182 (N : Nat) (k0 : Int32 → Int32 → Int32 → XT → Option (Int32 × XT)) (v0 : Int32) (v8 : Int32) (v9 : Int32) (X : XT) : Option (Int32 × XT) := m_gd (m_in 8 17) <| m_nm (X 131 (Int32.toNatClampNeg 8)) fun y_32 => if y_32 < 0 then (f_L_ticks_212 N k0 v0 v8 v9 X) else (m_gd (m_in 8 17) <| m_nm (X 131 (Int32.toNatClampNeg 8)) fun y_42 => m_gd (m_in y_42 48) <| m_nm (X 137 (Int32.toNatClampNeg y_42)) fun y_45 => m_gd (m_in 0 17) <| m_nm (X 131 (Int32.toNatClampNeg 0)) fun y_48 => if y_48 < y_45 then (f_L_ticks_212 N k0 v0 v8 v9 X) else (m_bv (f_L_closes N 3 X) fun X_54 => f_L_ticks_212 N k0 v0 v8 v9 X_54))
set_option maxHeartbeats 4000000 in
set_option maxRecDepth 100000 in
theorem w_L_ticks_182 (l : Launch) (D : va_G) (a : Nat → Nat) (cy : Nat → ClassId) (hG : m_inj 138 a) (N : Nat) {p : Program} {e : Env} {s : State} {m : MethodId} {args : Array Value} {below : List Frame} {meth : Method} {c : Code} (C : m_Cx p s m args meth c cL_ticks 12 RL (some .int) (Cond.code yL_ticks cL_ticks 12 (some .int)) D (m_tc cy) (m_AC a) (m_WC a cy) (m_ZC a)) {r0 : Int32} {X0 : XT} (k0 : Int32 → Int32 → Int32 → XT → Option (Int32 × XT)) (kb : ∀ (v0 : Int32) (v8 : Int32) (v9 : Int32) (X : XT), k0 v0 v8 v9 X = some (r0, X0) → ∀ (H : Heap) (locs : List Loc) (ls : Array Slot), va_P D vwCl (m_WC a cy X) H → va_S (m_AC a) s.heap H locs → lv_has ls 12 [(0, .int v0), (1, .ref (a 131)), (2, .ref (a 132)), (3, .ref (a 133)), (4, .ref (a 134)), (5, .ref (a 135)), (6, .ref (a 136)), (7, .ref (a 137)), (8, .int v8), (9, .int v9)] → W p l e rm_L_ticks s m args below meth c H locs 0 0 (MQ below (m_QI D (m_WC a cy) (m_AC a) r0 X0) args s 0 0 (m_AC a)) (F0 m 6 ls [])) (v0 : Int32) (v8 : Int32) (v9 : Int32) (X : XT) (hf0 : f_L_ticks_182 N k0 v0 v8 v9 X = some (r0, X0)) : ∀ (H : Heap) (locs : List Loc) (ls : Array Slot), va_P D vwCl (m_WC a cy X) H → va_S (m_AC a) s.heap H locs → lv_has ls 12 [(0, .int v0), (1, .ref (a 131)), (2, .ref (a 132)), (3, .ref (a 133)), (4, .ref (a 134)), (5, .ref (a 135)), (6, .ref (a 136)), (7, .ref (a 137)), (8, .int v8), (9, .int v9)] → W p l e rm_L_ticks s m args below meth c H locs 0 0 (MQ below (m_QI D (m_WC a cy) (m_AC a) r0 X0) args s 0 0 (m_AC a)) (F0 m 182 ls []) := by
  have hx := C.1.1
  have hb := C.1.2.1
  intro H locs ls hP hS hl
  unfold f_L_ticks_182 at hf0
  refine lv_aload_n hx hb dL_ticks_182 rfl (lv_at hl 1 rfl) ?_
  refine lv_bipush (v := 8) hx hb dL_ticks_183 (by decide) ?_
  obtain ⟨g_32, hf33⟩ := m_gd_s hf0
  clear hf0
  refine m_ild C hP mC_131 0 rfl g_32 dL_ticks_185 (fun y_32 e_32 => ?_)
  have hf34 := m_nm_s e_32 hf33
  clear hf33
  refine lv_if_lt (tgt := 212) hx hb dL_ticks_186 (by decide) (fun c_35 => ?_) (fun c_35 => ?_)
  · have hf36 := m_it c_35 hf34
    clear hf34
    exact w_L_ticks_212 l D a cy hG N C _ kb _ _ _ _ hf36 H locs ls hP hS (lv_sub hl [0, 1, 2, 3, 4, 5, 6, 7, 8, 9] rfl)
  · have hf37 := m_ie c_35 hf34
    clear hf34
    refine lv_aload hx hb dL_ticks_189 (lv_at hl 7 rfl) ?_
    refine lv_aload_n hx hb dL_ticks_191 rfl (lv_at hl 1 rfl) ?_
    refine lv_bipush (v := 8) hx hb dL_ticks_192 (by decide) ?_
    obtain ⟨g_42, hf43⟩ := m_gd_s hf37
    clear hf37
    refine m_ild C hP mC_131 0 rfl g_42 dL_ticks_194 (fun y_42 e_42 => ?_)
    have hf44 := m_nm_s e_42 hf43
    clear hf43
    obtain ⟨g_45, hf46⟩ := m_gd_s hf44
    clear hf44
    refine m_ild C hP mC_137 0 rfl g_45 dL_ticks_195 (fun y_45 e_45 => ?_)
    have hf47 := m_nm_s e_45 hf46
    clear hf46
    refine lv_aload_n hx hb dL_ticks_196 rfl (lv_at hl 1 rfl) ?_
    refine lv_iconst (v := 0) hx hb dL_ticks_197 (by decide) ?_
    obtain ⟨g_48, hf49⟩ := m_gd_s hf47
    clear hf47
    refine m_ild C hP mC_131 0 rfl g_48 dL_ticks_198 (fun y_48 e_48 => ?_)
    have hf50 := m_nm_s e_48 hf49
    clear hf49
    refine lv_icmp_gt (tgt := 212) hx hb dL_ticks_199 (by decide) (fun c_51 => ?_) (fun c_51 => ?_)
    · have hf52 := m_it c_51 hf50
      clear hf50
      exact w_L_ticks_212 l D a cy hG N C _ kb _ _ _ _ hf52 H locs ls hP hS (lv_sub hl [0, 1, 2, 3, 4, 5, 6, 7, 8, 9] rfl)
    · have hf53 := m_ie c_51 hf50
      clear hf50
      refine lv_iconst (v := 3) hx hb dL_ticks_202 (by decide) ?_
      refine lv_aload_n hx hb dL_ticks_203 rfl (lv_at hl 1 rfl) ?_
      refine lv_aload_n hx hb dL_ticks_204 rfl (lv_at hl 2 rfl) ?_
      refine lv_aload hx hb dL_ticks_205 (lv_at hl 5 rfl) ?_
      refine lv_aload hx hb dL_ticks_207 (lv_at hl 6 rfl) ?_
      obtain ⟨X_54, h_54, hf55⟩ := m_bv_s hf53
      clear hf53
      refine m_callSv C [.int 3, .ref (a 131), .ref (a 132), .ref (a 135), .ref (a 136)] [] (c_L_closes l D a cy hG N _ _ h_54) (m_goodS wl_L_35 wst_L_closes wn_L wc_L_closes) ⟨rfl, rfl⟩ hv_L_closes ⟨Nat.le_of_ble_eq_true rfl, Nat.le_of_ble_eq_true rfl⟩ hP hS rfl hl.1 rfl (Nat.le_of_ble_eq_true rfl) dL_ticks_209 (fun H locs hP hS => ?_)
      exact w_L_ticks_212 l D a cy hG N C _ kb _ _ _ _ hf55 H locs ls hP hS (lv_sub hl [0, 1, 2, 3, 4, 5, 6, 7, 8, 9] rfl)
def f_L_ticks_104 (N : Nat) (k0 : Int32 → Int32 → Int32 → XT → Option (Int32 × XT)) : Nat → Int32 → Int32 → Int32 → Int32 → Int32 → XT → Option (Int32 × XT)
  | 0, _, _, _, _, _, _ => none
  | n + 1, v0, v8, v9, v10, v11, X => m_gd (m_in 6 17) <| m_nm (X 131 (Int32.toNatClampNeg 6)) fun y_96 => if y_96 ≤ v11 then (f_L_ticks_182 N k0 v0 v8 v9 X) else (m_gd (m_in v11 48) <| m_nm (X 135 (Int32.toNatClampNeg v11)) fun y_102 => m_nm ((2 : Int32) * v10) fun y_105 => if y_102 = y_105 then (m_bi (f_L_what N v11 X) fun r_112 X_112 => if r_112 = 3 then (m_bv (f_L_becomes N v11 4 X_112) fun X_119 => m_gd (m_in 0 17) <| m_nm (X_119 131 (Int32.toNatClampNeg 0)) fun y_121 => m_gd (m_in v11 48) <| m_nm (m_up X_119 134 (upd (X_119 134) (Int32.toNatClampNeg v11) y_121)) fun X_124 => m_gd (m_in 16 17) <| m_nm (X_124 131 (Int32.toNatClampNeg 16)) fun y_127 => m_gd (m_in 0 17) <| m_nm (X_124 131 (Int32.toNatClampNeg 0)) fun y_130 => m_gd (m_in v11 48) <| m_nm (X_124 133 (Int32.toNatClampNeg v11)) fun y_133 => m_nm (y_130 - y_133) fun y_136 => m_nm (y_127 + y_136) fun y_138 => m_gd (m_in 16 17) <| m_nm (m_up X_124 131 (upd (X_124 131) (Int32.toNatClampNeg 16) y_138)) fun X_140 => m_gd (m_in 11 17) <| m_nm (X_140 131 (Int32.toNatClampNeg 11)) fun y_143 => m_nm (y_143 + 1) fun y_146 => m_gd (m_in 11 17) <| m_nm (m_up X_140 131 (upd (X_140 131) (Int32.toNatClampNeg 11) y_146)) fun X_148 => m_nm (v8 + 1) fun y_151 => m_nm (v11 + 1) fun y_153 => f_L_ticks_104 N k0 n v0 y_151 v9 v10 y_153 X_148) else (m_nm (v11 + 1) fun y_117 => f_L_ticks_104 N k0 n v0 v8 v9 v10 y_117 X_112)) else (m_nm (v11 + 1) fun y_110 => f_L_ticks_104 N k0 n v0 v8 v9 v10 y_110 X))
set_option maxHeartbeats 4000000 in
set_option maxRecDepth 100000 in
theorem w_L_ticks_104 (l : Launch) (D : va_G) (a : Nat → Nat) (cy : Nat → ClassId) (hG : m_inj 138 a) (N : Nat) {p : Program} {e : Env} {s : State} {m : MethodId} {args : Array Value} {below : List Frame} {meth : Method} {c : Code} (C : m_Cx p s m args meth c cL_ticks 12 RL (some .int) (Cond.code yL_ticks cL_ticks 12 (some .int)) D (m_tc cy) (m_AC a) (m_WC a cy) (m_ZC a)) {r0 : Int32} {X0 : XT} (k0 : Int32 → Int32 → Int32 → XT → Option (Int32 × XT)) (kb : ∀ (v0 : Int32) (v8 : Int32) (v9 : Int32) (X : XT), k0 v0 v8 v9 X = some (r0, X0) → ∀ (H : Heap) (locs : List Loc) (ls : Array Slot), va_P D vwCl (m_WC a cy X) H → va_S (m_AC a) s.heap H locs → lv_has ls 12 [(0, .int v0), (1, .ref (a 131)), (2, .ref (a 132)), (3, .ref (a 133)), (4, .ref (a 134)), (5, .ref (a 135)), (6, .ref (a 136)), (7, .ref (a 137)), (8, .int v8), (9, .int v9)] → W p l e rm_L_ticks s m args below meth c H locs 0 0 (MQ below (m_QI D (m_WC a cy) (m_AC a) r0 X0) args s 0 0 (m_AC a)) (F0 m 6 ls [])) : ∀ (n : Nat) (v0 : Int32) (v8 : Int32) (v9 : Int32) (v10 : Int32) (v11 : Int32) (X : XT), f_L_ticks_104 N k0 n v0 v8 v9 v10 v11 X = some (r0, X0) → ∀ (H : Heap) (locs : List Loc) (ls : Array Slot), va_P D vwCl (m_WC a cy X) H → va_S (m_AC a) s.heap H locs → lv_has ls 12 [(0, .int v0), (1, .ref (a 131)), (2, .ref (a 132)), (3, .ref (a 133)), (4, .ref (a 134)), (5, .ref (a 135)), (6, .ref (a 136)), (7, .ref (a 137)), (8, .int v8), (9, .int v9), (10, .int v10), (11, .int v11)] → W p l e rm_L_ticks s m args below meth c H locs 0 0 (MQ below (m_QI D (m_WC a cy) (m_AC a) r0 X0) args s 0 0 (m_AC a)) (F0 m 104 ls []) := by
  have hx := C.1.1
  have hb := C.1.2.1
  intro n
  induction n with
  | zero => intro v0 v8 v9 v10 v11 X hf0; rw [f_L_ticks_104] at hf0; cases hf0
  | succ n ih =>
    intro v0 v8 v9 v10 v11 X hf0 H locs ls hP hS hl
    rw [f_L_ticks_104] at hf0
    refine lv_iload hx hb dL_ticks_104 (lv_at hl 11 rfl) ?_
    refine lv_aload_n hx hb dL_ticks_106 rfl (lv_at hl 1 rfl) ?_
    refine lv_bipush (v := 6) hx hb dL_ticks_107 (by decide) ?_
    obtain ⟨g_96, hf97⟩ := m_gd_s hf0
    clear hf0
    refine m_ild C hP mC_131 0 rfl g_96 dL_ticks_109 (fun y_96 e_96 => ?_)
    have hf98 := m_nm_s e_96 hf97
    clear hf97
    refine lv_icmp_ge (tgt := 182) hx hb dL_ticks_110 (by decide) (fun c_99 => ?_) (fun c_99 => ?_)
    · have hf100 := m_it c_99 hf98
      clear hf98
      exact w_L_ticks_182 l D a cy hG N C _ kb _ _ _ _ hf100 H locs ls hP hS (lv_sub hl [0, 1, 2, 3, 4, 5, 6, 7, 8, 9] rfl)
    · have hf101 := m_ie c_99 hf98
      clear hf98
      refine lv_aload hx hb dL_ticks_113 (lv_at hl 5 rfl) ?_
      refine lv_iload hx hb dL_ticks_115 (lv_at hl 11 rfl) ?_
      obtain ⟨g_102, hf103⟩ := m_gd_s hf101
      clear hf101
      refine m_ild C hP mC_135 0 rfl g_102 dL_ticks_117 (fun y_102 e_102 => ?_)
      have hf104 := m_nm_s e_102 hf103
      clear hf103
      refine lv_iconst (v := 2) hx hb dL_ticks_118 (by decide) ?_
      refine lv_iload hx hb dL_ticks_119 (lv_at hl 10 rfl) ?_
      refine lv_imul hx hb dL_ticks_121 ?_
      refine lv_topi (fun y_105 e_105 => ?_)
      have hf106 := m_nm_s e_105 hf104
      clear hf104
      refine lv_icmp_ne (tgt := 176) hx hb dL_ticks_122 (by decide) (fun c_107 => ?_) (fun c_107 => ?_)
      · have hf108 := m_ie c_107 hf106
        clear hf106
        obtain ⟨y_110, e_110⟩ : ∃ y : Int32, y = v11 + 1 := ⟨_, rfl⟩
        refine lv_iinc (v := y_110) (lv' := [(11, .int y_110), (0, .int v0), (1, .ref (a 131)), (2, .ref (a 132)), (3, .ref (a 133)), (4, .ref (a 134)), (5, .ref (a 135)), (6, .ref (a 136)), (7, .ref (a 137)), (8, .int v8), (9, .int v9), (10, .int v10)]) hx hb dL_ticks_176 hl (k := 11) rfl (by rw [e_110]; rfl) (by decide) rfl (fun ls hl => ?_)
        have hf111 := m_nm_s e_110 hf108
        clear hf108
        refine lv_goto (tgt := 104) hx hb dL_ticks_179 (by decide) ?_
        exact ih _ _ _ _ _ _ hf111 H locs ls hP hS (lv_sub hl [1, 2, 3, 4, 5, 6, 7, 8, 9, 10, 11, 0] rfl)
      · have hf109 := m_it c_107 hf106
        clear hf106
        refine lv_iload hx hb dL_ticks_125 (lv_at hl 11 rfl) ?_
        refine lv_aload_n hx hb dL_ticks_127 rfl (lv_at hl 2 rfl) ?_
        obtain ⟨r_112, X_112, h_112, hf113⟩ := m_bi_s hf109
        clear hf109
        refine m_callSi C [.int v11, .ref (a 132)] [] (c_L_what l D a cy hG N _ _ h_112) (m_goodS wl_L_16 wst_L_what wn_L wc_L_what) ⟨rfl, rfl⟩ hv_L_what ⟨Nat.le_of_ble_eq_true rfl, Nat.le_of_ble_eq_true rfl⟩ hP hS rfl hl.1 rfl (Nat.le_of_ble_eq_true rfl) dL_ticks_128 (fun H locs hP hS => ?_)
        refine lv_iconst (v := 3) hx hb dL_ticks_131 (by decide) ?_
        refine lv_icmp_ne (tgt := 176) hx hb dL_ticks_132 (by decide) (fun c_114 => ?_) (fun c_114 => ?_)
        · have hf115 := m_ie c_114 hf113
          clear hf113
          obtain ⟨y_117, e_117⟩ : ∃ y : Int32, y = v11 + 1 := ⟨_, rfl⟩
          refine lv_iinc (v := y_117) (lv' := [(11, .int y_117), (0, .int v0), (1, .ref (a 131)), (2, .ref (a 132)), (3, .ref (a 133)), (4, .ref (a 134)), (5, .ref (a 135)), (6, .ref (a 136)), (7, .ref (a 137)), (8, .int v8), (9, .int v9), (10, .int v10)]) hx hb dL_ticks_176 hl (k := 11) rfl (by rw [e_117]; rfl) (by decide) rfl (fun ls hl => ?_)
          have hf118 := m_nm_s e_117 hf115
          clear hf115
          refine lv_goto (tgt := 104) hx hb dL_ticks_179 (by decide) ?_
          exact ih _ _ _ _ _ _ hf118 H locs ls hP hS (lv_sub hl [1, 2, 3, 4, 5, 6, 7, 8, 9, 10, 11, 0] rfl)
        · have hf116 := m_it c_114 hf113
          clear hf113
          refine lv_iload hx hb dL_ticks_135 (lv_at hl 11 rfl) ?_
          refine lv_iconst (v := 4) hx hb dL_ticks_137 (by decide) ?_
          refine lv_aload_n hx hb dL_ticks_138 rfl (lv_at hl 2 rfl) ?_
          obtain ⟨X_119, h_119, hf120⟩ := m_bv_s hf116
          clear hf116
          refine m_callSv C [.int v11, .int 4, .ref (a 132)] [] (c_L_becomes l D a cy hG N _ _ _ h_119) (m_goodS wl_L_19 wst_L_becomes wn_L wc_L_becomes) ⟨rfl, rfl⟩ hv_L_becomes ⟨Nat.le_of_ble_eq_true rfl, Nat.le_of_ble_eq_true rfl⟩ hP hS rfl hl.1 rfl (Nat.le_of_ble_eq_true rfl) dL_ticks_139 (fun H locs hP hS => ?_)
          refine lv_aload hx hb dL_ticks_142 (lv_at hl 4 rfl) ?_
          refine lv_iload hx hb dL_ticks_144 (lv_at hl 11 rfl) ?_
          refine lv_aload_n hx hb dL_ticks_146 rfl (lv_at hl 1 rfl) ?_
          refine lv_iconst (v := 0) hx hb dL_ticks_147 (by decide) ?_
          obtain ⟨g_121, hf122⟩ := m_gd_s hf120
          clear hf120
          refine m_ild C hP mC_131 0 rfl g_121 dL_ticks_148 (fun y_121 e_121 => ?_)
          have hf123 := m_nm_s e_121 hf122
          clear hf122
          obtain ⟨g_124, hf125⟩ := m_gd_s hf123
          clear hf123
          refine m_ist C hP hS mC_134 0 rfl g_124 mCs_134 dL_ticks_149 (fun X_124 e_124 H locs hP hS => ?_)
          have hf126 := m_nm_s e_124 hf125
          clear hf125
          refine lv_aload_n hx hb dL_ticks_150 rfl (lv_at hl 1 rfl) ?_
          refine lv_bipush (v := 16) hx hb dL_ticks_151 (by decide) ?_
          refine lv_dup2_11 hx hb dL_ticks_153 rfl rfl ?_
          obtain ⟨g_127, hf128⟩ := m_gd_s hf126
          clear hf126
          refine m_ild C hP mC_131 0 rfl g_127 dL_ticks_154 (fun y_127 e_127 => ?_)
          have hf129 := m_nm_s e_127 hf128
          clear hf128
          refine lv_aload_n hx hb dL_ticks_155 rfl (lv_at hl 1 rfl) ?_
          refine lv_iconst (v := 0) hx hb dL_ticks_156 (by decide) ?_
          obtain ⟨g_130, hf131⟩ := m_gd_s hf129
          clear hf129
          refine m_ild C hP mC_131 0 rfl g_130 dL_ticks_157 (fun y_130 e_130 => ?_)
          have hf132 := m_nm_s e_130 hf131
          clear hf131
          refine lv_aload_n hx hb dL_ticks_158 rfl (lv_at hl 3 rfl) ?_
          refine lv_iload hx hb dL_ticks_159 (lv_at hl 11 rfl) ?_
          obtain ⟨g_133, hf134⟩ := m_gd_s hf132
          clear hf132
          refine m_ild C hP mC_133 0 rfl g_133 dL_ticks_161 (fun y_133 e_133 => ?_)
          have hf135 := m_nm_s e_133 hf134
          clear hf134
          refine lv_isub hx hb dL_ticks_162 ?_
          refine lv_topi (fun y_136 e_136 => ?_)
          have hf137 := m_nm_s e_136 hf135
          clear hf135
          refine lv_iadd hx hb dL_ticks_163 ?_
          refine lv_topi (fun y_138 e_138 => ?_)
          have hf139 := m_nm_s e_138 hf137
          clear hf137
          obtain ⟨g_140, hf141⟩ := m_gd_s hf139
          clear hf139
          refine m_ist C hP hS mC_131 0 rfl g_140 mCs_131 dL_ticks_164 (fun X_140 e_140 H locs hP hS => ?_)
          have hf142 := m_nm_s e_140 hf141
          clear hf141
          refine lv_aload_n hx hb dL_ticks_165 rfl (lv_at hl 1 rfl) ?_
          refine lv_bipush (v := 11) hx hb dL_ticks_166 (by decide) ?_
          refine lv_dup2_11 hx hb dL_ticks_168 rfl rfl ?_
          obtain ⟨g_143, hf144⟩ := m_gd_s hf142
          clear hf142
          refine m_ild C hP mC_131 0 rfl g_143 dL_ticks_169 (fun y_143 e_143 => ?_)
          have hf145 := m_nm_s e_143 hf144
          clear hf144
          refine lv_iconst (v := 1) hx hb dL_ticks_170 (by decide) ?_
          refine lv_iadd hx hb dL_ticks_171 ?_
          refine lv_topi (fun y_146 e_146 => ?_)
          have hf147 := m_nm_s e_146 hf145
          clear hf145
          obtain ⟨g_148, hf149⟩ := m_gd_s hf147
          clear hf147
          refine m_ist C hP hS mC_131 0 rfl g_148 mCs_131 dL_ticks_172 (fun X_148 e_148 H locs hP hS => ?_)
          have hf150 := m_nm_s e_148 hf149
          clear hf149
          obtain ⟨y_151, e_151⟩ : ∃ y : Int32, y = v8 + 1 := ⟨_, rfl⟩
          refine lv_iinc (v := y_151) (lv' := [(8, .int y_151), (0, .int v0), (1, .ref (a 131)), (2, .ref (a 132)), (3, .ref (a 133)), (4, .ref (a 134)), (5, .ref (a 135)), (6, .ref (a 136)), (7, .ref (a 137)), (9, .int v9), (10, .int v10), (11, .int v11)]) hx hb dL_ticks_173 hl (k := 8) rfl (by rw [e_151]; rfl) (by decide) rfl (fun ls hl => ?_)
          have hf152 := m_nm_s e_151 hf150
          clear hf150
          obtain ⟨y_153, e_153⟩ : ∃ y : Int32, y = v11 + 1 := ⟨_, rfl⟩
          refine lv_iinc (v := y_153) (lv' := [(11, .int y_153), (8, .int y_151), (0, .int v0), (1, .ref (a 131)), (2, .ref (a 132)), (3, .ref (a 133)), (4, .ref (a 134)), (5, .ref (a 135)), (6, .ref (a 136)), (7, .ref (a 137)), (9, .int v9), (10, .int v10)]) hx hb dL_ticks_176 hl (k := 11) rfl (by rw [e_153]; rfl) (by decide) rfl (fun ls hl => ?_)
          have hf154 := m_nm_s e_153 hf152
          clear hf152
          refine lv_goto (tgt := 104) hx hb dL_ticks_179 (by decide) ?_
          exact ih _ _ _ _ _ _ hf154 H locs ls hP hS (lv_sub hl [2, 3, 4, 5, 6, 7, 8, 9, 1, 10, 11, 0] rfl)
def f_L_ticks_6 (N : Nat) : Nat → Int32 → Int32 → Int32 → XT → Option (Int32 × XT)
  | 0, _, _, _, _ => none
  | n + 1, v0, v8, v9, X => if v0 ≤ v9 then (some (v8, X)) else (m_gd (m_in 0 17) <| m_nm (X 131 (Int32.toNatClampNeg 0)) fun y_4 => m_nm (y_4 + 1) fun y_7 => m_gd (m_in 0 17) <| m_nm (m_up X 131 (upd (X 131) (Int32.toNatClampNeg 0) y_7)) fun X_9 => m_gd (m_in 10 17) <| m_nm (X_9 131 (Int32.toNatClampNeg 10)) fun y_12 => m_gd (m_in 9 17) <| m_nm (X_9 131 (Int32.toNatClampNeg 9)) fun y_15 => if 0 ≤ y_15 then (m_nm (y_12 - 1) fun y_21 => m_gd (m_in 10 17) <| m_nm (m_up X_9 131 (upd (X_9 131) (Int32.toNatClampNeg 10) y_21)) fun X_23 => m_gd (m_in 9 17) <| m_nm (X_23 131 (Int32.toNatClampNeg 9)) fun y_26 => if y_26 < 0 then (f_L_ticks_182 N (f_L_ticks_6 N n) v0 v8 v9 X_23) else (m_gd (m_in 10 17) <| m_nm (X_23 131 (Int32.toNatClampNeg 10)) fun y_56 => if y_56 = 0 then (m_gd (m_in 9 17) <| m_nm (X_23 131 (Int32.toNatClampNeg 9)) fun y_62 => m_gd (m_in 9 17) <| m_nm (m_up X_23 131 (upd (X_23 131) (Int32.toNatClampNeg 9) (-5))) fun X_65 => m_gd (m_in y_62 48) <| m_nm (X_65 136 (Int32.toNatClampNeg y_62)) fun y_68 => m_nm (y_68 + 1) fun y_71 => m_gd (m_in y_62 48) <| m_nm (m_up X_65 136 (upd (X_65 136) (Int32.toNatClampNeg y_62) y_71)) fun X_73 => m_gd (m_in 14 17) <| m_nm (X_73 131 (Int32.toNatClampNeg 14)) fun y_76 => m_nm (y_76 + 1) fun y_79 => m_gd (m_in 14 17) <| m_nm (m_up X_73 131 (upd (X_73 131) (Int32.toNatClampNeg 14) y_79)) fun X_81 => m_gd (m_in 15 17) <| m_nm (X_81 131 (Int32.toNatClampNeg 15)) fun y_84 => m_bi (f_L_members N y_62 X_81) fun r_87 X_87 => m_nm (r_87 / 1000) fun y_89 => m_nm (y_84 + y_89) fun y_91 => m_gd (m_in 15 17) <| m_nm (m_up X_87 131 (upd (X_87 131) (Int32.toNatClampNeg 15) y_91)) fun X_93 => f_L_ticks_104 N (f_L_ticks_6 N n) N v0 v8 v9 y_62 0 X_93) else (f_L_ticks_182 N (f_L_ticks_6 N n) v0 v8 v9 X_23))) else (m_nm (y_12 - 0) fun y_155 => m_gd (m_in 10 17) <| m_nm (m_up X_9 131 (upd (X_9 131) (Int32.toNatClampNeg 10) y_155)) fun X_157 => m_gd (m_in 9 17) <| m_nm (X_157 131 (Int32.toNatClampNeg 9)) fun y_160 => if y_160 < 0 then (f_L_ticks_182 N (f_L_ticks_6 N n) v0 v8 v9 X_157) else (m_gd (m_in 10 17) <| m_nm (X_157 131 (Int32.toNatClampNeg 10)) fun y_166 => if y_166 = 0 then (m_gd (m_in 9 17) <| m_nm (X_157 131 (Int32.toNatClampNeg 9)) fun y_172 => m_gd (m_in 9 17) <| m_nm (m_up X_157 131 (upd (X_157 131) (Int32.toNatClampNeg 9) (-5))) fun X_175 => m_gd (m_in y_172 48) <| m_nm (X_175 136 (Int32.toNatClampNeg y_172)) fun y_178 => m_nm (y_178 + 1) fun y_181 => m_gd (m_in y_172 48) <| m_nm (m_up X_175 136 (upd (X_175 136) (Int32.toNatClampNeg y_172) y_181)) fun X_183 => m_gd (m_in 14 17) <| m_nm (X_183 131 (Int32.toNatClampNeg 14)) fun y_186 => m_nm (y_186 + 1) fun y_189 => m_gd (m_in 14 17) <| m_nm (m_up X_183 131 (upd (X_183 131) (Int32.toNatClampNeg 14) y_189)) fun X_191 => m_gd (m_in 15 17) <| m_nm (X_191 131 (Int32.toNatClampNeg 15)) fun y_194 => m_bi (f_L_members N y_172 X_191) fun r_197 X_197 => m_nm (r_197 / 1000) fun y_199 => m_nm (y_194 + y_199) fun y_201 => m_gd (m_in 15 17) <| m_nm (m_up X_197 131 (upd (X_197 131) (Int32.toNatClampNeg 15) y_201)) fun X_203 => f_L_ticks_104 N (f_L_ticks_6 N n) N v0 v8 v9 y_172 0 X_203) else (f_L_ticks_182 N (f_L_ticks_6 N n) v0 v8 v9 X_157))))
set_option maxHeartbeats 4000000 in
set_option maxRecDepth 100000 in
theorem w_L_ticks_6 (l : Launch) (D : va_G) (a : Nat → Nat) (cy : Nat → ClassId) (hG : m_inj 138 a) (N : Nat) {p : Program} {e : Env} {s : State} {m : MethodId} {args : Array Value} {below : List Frame} {meth : Method} {c : Code} (C : m_Cx p s m args meth c cL_ticks 12 RL (some .int) (Cond.code yL_ticks cL_ticks 12 (some .int)) D (m_tc cy) (m_AC a) (m_WC a cy) (m_ZC a)) {r0 : Int32} {X0 : XT} : ∀ (n : Nat) (v0 : Int32) (v8 : Int32) (v9 : Int32) (X : XT), f_L_ticks_6 N n v0 v8 v9 X = some (r0, X0) → ∀ (H : Heap) (locs : List Loc) (ls : Array Slot), va_P D vwCl (m_WC a cy X) H → va_S (m_AC a) s.heap H locs → lv_has ls 12 [(0, .int v0), (1, .ref (a 131)), (2, .ref (a 132)), (3, .ref (a 133)), (4, .ref (a 134)), (5, .ref (a 135)), (6, .ref (a 136)), (7, .ref (a 137)), (8, .int v8), (9, .int v9)] → W p l e rm_L_ticks s m args below meth c H locs 0 0 (MQ below (m_QI D (m_WC a cy) (m_AC a) r0 X0) args s 0 0 (m_AC a)) (F0 m 6 ls []) := by
  have hx := C.1.1
  have hb := C.1.2.1
  intro n
  induction n with
  | zero => intro v0 v8 v9 X hf0; rw [f_L_ticks_6] at hf0; cases hf0
  | succ n ih =>
    intro v0 v8 v9 X hf0 H locs ls hP hS hl
    rw [f_L_ticks_6] at hf0
    refine lv_iload hx hb dL_ticks_6 (lv_at hl 9 rfl) ?_
    refine lv_iload_n hx hb dL_ticks_8 rfl (lv_at hl 0 rfl) ?_
    refine lv_icmp_ge (tgt := 227) hx hb dL_ticks_9 (by decide) (fun c_1 => ?_) (fun c_1 => ?_)
    · have hf2 := m_it c_1 hf0
      clear hf0
      refine lv_iload hx hb dL_ticks_227 (lv_at hl 8 rfl) ?_
      exact m_iret C hP hS dL_ticks_229 hf2
    · have hf3 := m_ie c_1 hf0
      clear hf0
      refine lv_aload_n hx hb dL_ticks_12 rfl (lv_at hl 1 rfl) ?_
      refine lv_iconst (v := 0) hx hb dL_ticks_13 (by decide) ?_
      refine lv_dup2_11 hx hb dL_ticks_14 rfl rfl ?_
      obtain ⟨g_4, hf5⟩ := m_gd_s hf3
      clear hf3
      refine m_ild C hP mC_131 0 rfl g_4 dL_ticks_15 (fun y_4 e_4 => ?_)
      have hf6 := m_nm_s e_4 hf5
      clear hf5
      refine lv_iconst (v := 1) hx hb dL_ticks_16 (by decide) ?_
      refine lv_iadd hx hb dL_ticks_17 ?_
      refine lv_topi (fun y_7 e_7 => ?_)
      have hf8 := m_nm_s e_7 hf6
      clear hf6
      obtain ⟨g_9, hf10⟩ := m_gd_s hf8
      clear hf8
      refine m_ist C hP hS mC_131 0 rfl g_9 mCs_131 dL_ticks_18 (fun X_9 e_9 H locs hP hS => ?_)
      have hf11 := m_nm_s e_9 hf10
      clear hf10
      refine lv_aload_n hx hb dL_ticks_19 rfl (lv_at hl 1 rfl) ?_
      refine lv_bipush (v := 10) hx hb dL_ticks_20 (by decide) ?_
      refine lv_dup2_11 hx hb dL_ticks_22 rfl rfl ?_
      obtain ⟨g_12, hf13⟩ := m_gd_s hf11
      clear hf11
      refine m_ild C hP mC_131 0 rfl g_12 dL_ticks_23 (fun y_12 e_12 => ?_)
      have hf14 := m_nm_s e_12 hf13
      clear hf13
      refine lv_aload_n hx hb dL_ticks_24 rfl (lv_at hl 1 rfl) ?_
      refine lv_bipush (v := 9) hx hb dL_ticks_25 (by decide) ?_
      obtain ⟨g_15, hf16⟩ := m_gd_s hf14
      clear hf14
      refine m_ild C hP mC_131 0 rfl g_15 dL_ticks_27 (fun y_15 e_15 => ?_)
      have hf17 := m_nm_s e_15 hf16
      clear hf16
      refine lv_if_ge (tgt := 35) hx hb dL_ticks_28 (by decide) (fun c_18 => ?_) (fun c_18 => ?_)
      · have hf19 := m_it c_18 hf17
        clear hf17
        refine lv_iconst (v := 1) hx hb dL_ticks_35 (by decide) ?_
        refine lv_isub hx hb dL_ticks_36 ?_
        refine lv_topi (fun y_21 e_21 => ?_)
        have hf22 := m_nm_s e_21 hf19
        clear hf19
        obtain ⟨g_23, hf24⟩ := m_gd_s hf22
        clear hf22
        refine m_ist C hP hS mC_131 0 rfl g_23 mCs_131 dL_ticks_37 (fun X_23 e_23 H locs hP hS => ?_)
        have hf25 := m_nm_s e_23 hf24
        clear hf24
        refine lv_aload_n hx hb dL_ticks_38 rfl (lv_at hl 1 rfl) ?_
        refine lv_bipush (v := 9) hx hb dL_ticks_39 (by decide) ?_
        obtain ⟨g_26, hf27⟩ := m_gd_s hf25
        clear hf25
        refine m_ild C hP mC_131 0 rfl g_26 dL_ticks_41 (fun y_26 e_26 => ?_)
        have hf28 := m_nm_s e_26 hf27
        clear hf27
        refine lv_if_lt (tgt := 182) hx hb dL_ticks_42 (by decide) (fun c_29 => ?_) (fun c_29 => ?_)
        · have hf30 := m_it c_29 hf28
          clear hf28
          exact w_L_ticks_182 l D a cy hG N C _ ih _ _ _ _ hf30 H locs ls hP hS (lv_sub hl [0, 1, 2, 3, 4, 5, 6, 7, 8, 9] rfl)
        · have hf31 := m_ie c_29 hf28
          clear hf28
          refine lv_aload_n hx hb dL_ticks_45 rfl (lv_at hl 1 rfl) ?_
          refine lv_bipush (v := 10) hx hb dL_ticks_46 (by decide) ?_
          obtain ⟨g_56, hf57⟩ := m_gd_s hf31
          clear hf31
          refine m_ild C hP mC_131 0 rfl g_56 dL_ticks_48 (fun y_56 e_56 => ?_)
          have hf58 := m_nm_s e_56 hf57
          clear hf57
          refine lv_if_ne (tgt := 182) hx hb dL_ticks_49 (by decide) (fun c_59 => ?_) (fun c_59 => ?_)
          · have hf60 := m_ie c_59 hf58
            clear hf58
            exact w_L_ticks_182 l D a cy hG N C _ ih _ _ _ _ hf60 H locs ls hP hS (lv_sub hl [0, 1, 2, 3, 4, 5, 6, 7, 8, 9] rfl)
          · have hf61 := m_it c_59 hf58
            clear hf58
            refine lv_aload_n hx hb dL_ticks_52 rfl (lv_at hl 1 rfl) ?_
            refine lv_bipush (v := 9) hx hb dL_ticks_53 (by decide) ?_
            obtain ⟨g_62, hf63⟩ := m_gd_s hf61
            clear hf61
            refine m_ild C hP mC_131 0 rfl g_62 dL_ticks_55 (fun y_62 e_62 => ?_)
            have hf64 := m_nm_s e_62 hf63
            clear hf63
            refine lv_istore (lv' := [(10, .int y_62), (0, .int v0), (1, .ref (a 131)), (2, .ref (a 132)), (3, .ref (a 133)), (4, .ref (a 134)), (5, .ref (a 135)), (6, .ref (a 136)), (7, .ref (a 137)), (8, .int v8), (9, .int v9)]) hx hb dL_ticks_56 hl (by decide) rfl (fun ls hl => ?_)
            refine lv_aload_n hx hb dL_ticks_58 rfl (lv_at hl 2 rfl) ?_
            refine lv_bipush (v := 9) hx hb dL_ticks_59 (by decide) ?_
            refine lv_bipush (v := (-5)) hx hb dL_ticks_61 (by decide) ?_
            obtain ⟨g_65, hf66⟩ := m_gd_s hf64
            clear hf64
            refine m_ist C hP hS mC_131 0 rfl g_65 mCs_131 dL_ticks_63 (fun X_65 e_65 H locs hP hS => ?_)
            have hf67 := m_nm_s e_65 hf66
            clear hf66
            refine lv_aload hx hb dL_ticks_64 (lv_at hl 7 rfl) ?_
            refine lv_iload hx hb dL_ticks_66 (lv_at hl 0 rfl) ?_
            refine lv_dup2_11 hx hb dL_ticks_68 rfl rfl ?_
            obtain ⟨g_68, hf69⟩ := m_gd_s hf67
            clear hf67
            refine m_ild C hP mC_136 0 rfl g_68 dL_ticks_69 (fun y_68 e_68 => ?_)
            have hf70 := m_nm_s e_68 hf69
            clear hf69
            refine lv_iconst (v := 1) hx hb dL_ticks_70 (by decide) ?_
            refine lv_iadd hx hb dL_ticks_71 ?_
            refine lv_topi (fun y_71 e_71 => ?_)
            have hf72 := m_nm_s e_71 hf70
            clear hf70
            obtain ⟨g_73, hf74⟩ := m_gd_s hf72
            clear hf72
            refine m_ist C hP hS mC_136 0 rfl g_73 mCs_136 dL_ticks_72 (fun X_73 e_73 H locs hP hS => ?_)
            have hf75 := m_nm_s e_73 hf74
            clear hf74
            refine lv_aload_n hx hb dL_ticks_73 rfl (lv_at hl 2 rfl) ?_
            refine lv_bipush (v := 14) hx hb dL_ticks_74 (by decide) ?_
            refine lv_dup2_11 hx hb dL_ticks_76 rfl rfl ?_
            obtain ⟨g_76, hf77⟩ := m_gd_s hf75
            clear hf75
            refine m_ild C hP mC_131 0 rfl g_76 dL_ticks_77 (fun y_76 e_76 => ?_)
            have hf78 := m_nm_s e_76 hf77
            clear hf77
            refine lv_iconst (v := 1) hx hb dL_ticks_78 (by decide) ?_
            refine lv_iadd hx hb dL_ticks_79 ?_
            refine lv_topi (fun y_79 e_79 => ?_)
            have hf80 := m_nm_s e_79 hf78
            clear hf78
            obtain ⟨g_81, hf82⟩ := m_gd_s hf80
            clear hf80
            refine m_ist C hP hS mC_131 0 rfl g_81 mCs_131 dL_ticks_80 (fun X_81 e_81 H locs hP hS => ?_)
            have hf83 := m_nm_s e_81 hf82
            clear hf82
            refine lv_aload_n hx hb dL_ticks_81 rfl (lv_at hl 2 rfl) ?_
            refine lv_bipush (v := 15) hx hb dL_ticks_82 (by decide) ?_
            refine lv_dup2_11 hx hb dL_ticks_84 rfl rfl ?_
            obtain ⟨g_84, hf85⟩ := m_gd_s hf83
            clear hf83
            refine m_ild C hP mC_131 0 rfl g_84 dL_ticks_85 (fun y_84 e_84 => ?_)
            have hf86 := m_nm_s e_84 hf85
            clear hf85
            refine lv_iload hx hb dL_ticks_86 (lv_at hl 0 rfl) ?_
            refine lv_aload_n hx hb dL_ticks_88 rfl (lv_at hl 2 rfl) ?_
            refine lv_aload_n hx hb dL_ticks_89 rfl (lv_at hl 3 rfl) ?_
            refine lv_aload hx hb dL_ticks_90 (lv_at hl 6 rfl) ?_
            obtain ⟨r_87, X_87, h_87, hf88⟩ := m_bi_s hf86
            clear hf86
            refine m_callSi C [.int y_62, .ref (a 131), .ref (a 132), .ref (a 135)] [.int y_84, .int 15, .ref (a 131)] (c_L_members l D a cy hG N _ _ h_87) (m_goodS wl_L_23 wst_L_members wn_L wc_L_members) ⟨rfl, rfl⟩ hv_L_members ⟨Nat.le_of_ble_eq_true rfl, Nat.le_of_ble_eq_true rfl⟩ hP hS rfl hl.1 rfl (Nat.le_of_ble_eq_true rfl) dL_ticks_92 (fun H locs hP hS => ?_)
            refine lv_sipush (v := 1000) hx hb dL_ticks_95 (by decide) ?_
            refine lv_idiv hx hb dL_ticks_98 (by decide) ?_
            refine lv_topi (fun y_89 e_89 => ?_)
            have hf90 := m_nm_s e_89 hf88
            clear hf88
            refine lv_iadd hx hb dL_ticks_99 ?_
            refine lv_topi (fun y_91 e_91 => ?_)
            have hf92 := m_nm_s e_91 hf90
            clear hf90
            obtain ⟨g_93, hf94⟩ := m_gd_s hf92
            clear hf92
            refine m_ist C hP hS mC_131 0 rfl g_93 mCs_131 dL_ticks_100 (fun X_93 e_93 H locs hP hS => ?_)
            have hf95 := m_nm_s e_93 hf94
            clear hf94
            refine lv_iconst (v := 0) hx hb dL_ticks_101 (by decide) ?_
            refine lv_istore (lv' := [(11, .int 0), (10, .int y_62), (0, .int v0), (1, .ref (a 131)), (2, .ref (a 132)), (3, .ref (a 133)), (4, .ref (a 134)), (5, .ref (a 135)), (6, .ref (a 136)), (7, .ref (a 137)), (8, .int v8), (9, .int v9)]) hx hb dL_ticks_102 hl (by decide) rfl (fun ls hl => ?_)
            exact w_L_ticks_104 l D a cy hG N C _ ih _ _ _ _ _ _ _ hf95 H locs ls hP hS (lv_sub hl [2, 3, 4, 5, 6, 7, 8, 9, 10, 11, 1, 0] rfl)
      · have hf20 := m_ie c_18 hf17
        clear hf17
        refine lv_iconst (v := 0) hx hb dL_ticks_31 (by decide) ?_
        refine lv_goto (tgt := 36) hx hb dL_ticks_32 (by decide) ?_
        refine lv_isub hx hb dL_ticks_36 ?_
        refine lv_topi (fun y_155 e_155 => ?_)
        have hf156 := m_nm_s e_155 hf20
        clear hf20
        obtain ⟨g_157, hf158⟩ := m_gd_s hf156
        clear hf156
        refine m_ist C hP hS mC_131 0 rfl g_157 mCs_131 dL_ticks_37 (fun X_157 e_157 H locs hP hS => ?_)
        have hf159 := m_nm_s e_157 hf158
        clear hf158
        refine lv_aload_n hx hb dL_ticks_38 rfl (lv_at hl 1 rfl) ?_
        refine lv_bipush (v := 9) hx hb dL_ticks_39 (by decide) ?_
        obtain ⟨g_160, hf161⟩ := m_gd_s hf159
        clear hf159
        refine m_ild C hP mC_131 0 rfl g_160 dL_ticks_41 (fun y_160 e_160 => ?_)
        have hf162 := m_nm_s e_160 hf161
        clear hf161
        refine lv_if_lt (tgt := 182) hx hb dL_ticks_42 (by decide) (fun c_163 => ?_) (fun c_163 => ?_)
        · have hf164 := m_it c_163 hf162
          clear hf162
          exact w_L_ticks_182 l D a cy hG N C _ ih _ _ _ _ hf164 H locs ls hP hS (lv_sub hl [0, 1, 2, 3, 4, 5, 6, 7, 8, 9] rfl)
        · have hf165 := m_ie c_163 hf162
          clear hf162
          refine lv_aload_n hx hb dL_ticks_45 rfl (lv_at hl 1 rfl) ?_
          refine lv_bipush (v := 10) hx hb dL_ticks_46 (by decide) ?_
          obtain ⟨g_166, hf167⟩ := m_gd_s hf165
          clear hf165
          refine m_ild C hP mC_131 0 rfl g_166 dL_ticks_48 (fun y_166 e_166 => ?_)
          have hf168 := m_nm_s e_166 hf167
          clear hf167
          refine lv_if_ne (tgt := 182) hx hb dL_ticks_49 (by decide) (fun c_169 => ?_) (fun c_169 => ?_)
          · have hf170 := m_ie c_169 hf168
            clear hf168
            exact w_L_ticks_182 l D a cy hG N C _ ih _ _ _ _ hf170 H locs ls hP hS (lv_sub hl [0, 1, 2, 3, 4, 5, 6, 7, 8, 9] rfl)
          · have hf171 := m_it c_169 hf168
            clear hf168
            refine lv_aload_n hx hb dL_ticks_52 rfl (lv_at hl 1 rfl) ?_
            refine lv_bipush (v := 9) hx hb dL_ticks_53 (by decide) ?_
            obtain ⟨g_172, hf173⟩ := m_gd_s hf171
            clear hf171
            refine m_ild C hP mC_131 0 rfl g_172 dL_ticks_55 (fun y_172 e_172 => ?_)
            have hf174 := m_nm_s e_172 hf173
            clear hf173
            refine lv_istore (lv' := [(10, .int y_172), (0, .int v0), (1, .ref (a 131)), (2, .ref (a 132)), (3, .ref (a 133)), (4, .ref (a 134)), (5, .ref (a 135)), (6, .ref (a 136)), (7, .ref (a 137)), (8, .int v8), (9, .int v9)]) hx hb dL_ticks_56 hl (by decide) rfl (fun ls hl => ?_)
            refine lv_aload_n hx hb dL_ticks_58 rfl (lv_at hl 2 rfl) ?_
            refine lv_bipush (v := 9) hx hb dL_ticks_59 (by decide) ?_
            refine lv_bipush (v := (-5)) hx hb dL_ticks_61 (by decide) ?_
            obtain ⟨g_175, hf176⟩ := m_gd_s hf174
            clear hf174
            refine m_ist C hP hS mC_131 0 rfl g_175 mCs_131 dL_ticks_63 (fun X_175 e_175 H locs hP hS => ?_)
            have hf177 := m_nm_s e_175 hf176
            clear hf176
            refine lv_aload hx hb dL_ticks_64 (lv_at hl 7 rfl) ?_
            refine lv_iload hx hb dL_ticks_66 (lv_at hl 0 rfl) ?_
            refine lv_dup2_11 hx hb dL_ticks_68 rfl rfl ?_
            obtain ⟨g_178, hf179⟩ := m_gd_s hf177
            clear hf177
            refine m_ild C hP mC_136 0 rfl g_178 dL_ticks_69 (fun y_178 e_178 => ?_)
            have hf180 := m_nm_s e_178 hf179
            clear hf179
            refine lv_iconst (v := 1) hx hb dL_ticks_70 (by decide) ?_
            refine lv_iadd hx hb dL_ticks_71 ?_
            refine lv_topi (fun y_181 e_181 => ?_)
            have hf182 := m_nm_s e_181 hf180
            clear hf180
            obtain ⟨g_183, hf184⟩ := m_gd_s hf182
            clear hf182
            refine m_ist C hP hS mC_136 0 rfl g_183 mCs_136 dL_ticks_72 (fun X_183 e_183 H locs hP hS => ?_)
            have hf185 := m_nm_s e_183 hf184
            clear hf184
            refine lv_aload_n hx hb dL_ticks_73 rfl (lv_at hl 2 rfl) ?_
            refine lv_bipush (v := 14) hx hb dL_ticks_74 (by decide) ?_
            refine lv_dup2_11 hx hb dL_ticks_76 rfl rfl ?_
            obtain ⟨g_186, hf187⟩ := m_gd_s hf185
            clear hf185
            refine m_ild C hP mC_131 0 rfl g_186 dL_ticks_77 (fun y_186 e_186 => ?_)
            have hf188 := m_nm_s e_186 hf187
            clear hf187
            refine lv_iconst (v := 1) hx hb dL_ticks_78 (by decide) ?_
            refine lv_iadd hx hb dL_ticks_79 ?_
            refine lv_topi (fun y_189 e_189 => ?_)
            have hf190 := m_nm_s e_189 hf188
            clear hf188
            obtain ⟨g_191, hf192⟩ := m_gd_s hf190
            clear hf190
            refine m_ist C hP hS mC_131 0 rfl g_191 mCs_131 dL_ticks_80 (fun X_191 e_191 H locs hP hS => ?_)
            have hf193 := m_nm_s e_191 hf192
            clear hf192
            refine lv_aload_n hx hb dL_ticks_81 rfl (lv_at hl 2 rfl) ?_
            refine lv_bipush (v := 15) hx hb dL_ticks_82 (by decide) ?_
            refine lv_dup2_11 hx hb dL_ticks_84 rfl rfl ?_
            obtain ⟨g_194, hf195⟩ := m_gd_s hf193
            clear hf193
            refine m_ild C hP mC_131 0 rfl g_194 dL_ticks_85 (fun y_194 e_194 => ?_)
            have hf196 := m_nm_s e_194 hf195
            clear hf195
            refine lv_iload hx hb dL_ticks_86 (lv_at hl 0 rfl) ?_
            refine lv_aload_n hx hb dL_ticks_88 rfl (lv_at hl 2 rfl) ?_
            refine lv_aload_n hx hb dL_ticks_89 rfl (lv_at hl 3 rfl) ?_
            refine lv_aload hx hb dL_ticks_90 (lv_at hl 6 rfl) ?_
            obtain ⟨r_197, X_197, h_197, hf198⟩ := m_bi_s hf196
            clear hf196
            refine m_callSi C [.int y_172, .ref (a 131), .ref (a 132), .ref (a 135)] [.int y_194, .int 15, .ref (a 131)] (c_L_members l D a cy hG N _ _ h_197) (m_goodS wl_L_23 wst_L_members wn_L wc_L_members) ⟨rfl, rfl⟩ hv_L_members ⟨Nat.le_of_ble_eq_true rfl, Nat.le_of_ble_eq_true rfl⟩ hP hS rfl hl.1 rfl (Nat.le_of_ble_eq_true rfl) dL_ticks_92 (fun H locs hP hS => ?_)
            refine lv_sipush (v := 1000) hx hb dL_ticks_95 (by decide) ?_
            refine lv_idiv hx hb dL_ticks_98 (by decide) ?_
            refine lv_topi (fun y_199 e_199 => ?_)
            have hf200 := m_nm_s e_199 hf198
            clear hf198
            refine lv_iadd hx hb dL_ticks_99 ?_
            refine lv_topi (fun y_201 e_201 => ?_)
            have hf202 := m_nm_s e_201 hf200
            clear hf200
            obtain ⟨g_203, hf204⟩ := m_gd_s hf202
            clear hf202
            refine m_ist C hP hS mC_131 0 rfl g_203 mCs_131 dL_ticks_100 (fun X_203 e_203 H locs hP hS => ?_)
            have hf205 := m_nm_s e_203 hf204
            clear hf204
            refine lv_iconst (v := 0) hx hb dL_ticks_101 (by decide) ?_
            refine lv_istore (lv' := [(11, .int 0), (10, .int y_172), (0, .int v0), (1, .ref (a 131)), (2, .ref (a 132)), (3, .ref (a 133)), (4, .ref (a 134)), (5, .ref (a 135)), (6, .ref (a 136)), (7, .ref (a 137)), (8, .int v8), (9, .int v9)]) hx hb dL_ticks_102 hl (by decide) rfl (fun ls hl => ?_)
            exact w_L_ticks_104 l D a cy hG N C _ ih _ _ _ _ _ _ _ hf205 H locs ls hP hS (lv_sub hl [2, 3, 4, 5, 6, 7, 8, 9, 10, 11, 1, 0] rfl)
def f_L_ticks (N : Nat) (v0 : Int32) (X : XT) : Option (Int32 × XT) := f_L_ticks_6 N N v0 0 0 X
set_option maxHeartbeats 4000000 in
set_option maxRecDepth 100000 in
theorem c_L_ticks (l : Launch) (D : va_G) (a : Nat → Nat) (cy : Nat → ClassId) (hG : m_inj 138 a) (N : Nat) (v0 : Int32) (X : XT) {r0 : Int32} {X0 : XT} (hf0 : f_L_ticks N v0 X = some (r0, X0)) : Met l yL_ticks (Cond.code yL_ticks cL_ticks 12 (some .int) :: m_tbl) rm_L_ticks (va_Pc [.int v0, .ref (a 131), .ref (a 132), .ref (a 133), .ref (a 134), .ref (a 135), .ref (a 136), .ref (a 137)] (m_PX D (m_tc cy) (m_WC a cy) (m_ZC a) X)) (m_QI D (m_WC a cy) (m_AC a) r0 X0) 0 0 (m_AC a) := by
  refine m_met (own := RL) hy_L_ticks rfl (Nat.le_of_ble_eq_true rfl) (m_wl_D hG _) m_ZC_keep ?_
  intro p e s m args below meth c C ls hl hP hS
  have hx := C.1.1
  have hb := C.1.2.1
  have hl : lv_has ls 12 [(0, .int v0), (1, .ref (a 131)), (2, .ref (a 132)), (3, .ref (a 133)), (4, .ref (a 134)), (5, .ref (a 135)), (6, .ref (a 136)), (7, .ref (a 137))] := hl
  unfold f_L_ticks at hf0
  suffices K : ∀ (H : Heap) (locs : List Loc), va_P D vwCl (m_WC a cy X) H → va_S (m_AC a) s.heap H locs → W p l e rm_L_ticks s m args below meth c H locs 0 0 (MQ below (m_QI D (m_WC a cy) (m_AC a) r0 X0) args s 0 0 (m_AC a)) (F0 m 0 ls []) from K _ _ hP hS
  clear hP hS
  intro H locs hP hS
  refine lv_iconst (v := 0) hx hb dL_ticks_0 (by decide) ?_
  refine lv_istore (lv' := [(8, .int 0), (0, .int v0), (1, .ref (a 131)), (2, .ref (a 132)), (3, .ref (a 133)), (4, .ref (a 134)), (5, .ref (a 135)), (6, .ref (a 136)), (7, .ref (a 137))]) hx hb dL_ticks_1 hl (by decide) rfl (fun ls hl => ?_)
  refine lv_iconst (v := 0) hx hb dL_ticks_3 (by decide) ?_
  refine lv_istore (lv' := [(9, .int 0), (8, .int 0), (0, .int v0), (1, .ref (a 131)), (2, .ref (a 132)), (3, .ref (a 133)), (4, .ref (a 134)), (5, .ref (a 135)), (6, .ref (a 136)), (7, .ref (a 137))]) hx hb dL_ticks_4 hl (by decide) rfl (fun ls hl => ?_)
  exact w_L_ticks_6 l D a cy hG N C _ _ _ _ _ hf0 H locs ls hP hS (lv_sub hl [2, 3, 4, 5, 6, 7, 8, 9, 1, 0] rfl)
abbrev rm_L_submits : Room := { frames := 4, cells := 0, slots := 0, locals := 98 }
def f_L_submits_177 (N : Nat) (v10 : Int32) (u0 : Int32) (X : XT) : Option (Int32 × XT) := if u0 ≤ 0 then (some (v10, X)) else (m_bv (f_L_closes N u0 X) fun X_85 => some (v10, X_85))
set_option maxHeartbeats 4000000 in
set_option maxRecDepth 100000 in
theorem w_L_submits_177 (l : Launch) (D : va_G) (a : Nat → Nat) (cy : Nat → ClassId) (hG : m_inj 138 a) (N : Nat) {p : Program} {e : Env} {s : State} {m : MethodId} {args : Array Value} {below : List Frame} {meth : Method} {c : Code} (C : m_Cx p s m args meth c cL_submits 12 RL (some .int) (Cond.code yL_submits cL_submits 12 (some .int)) D (m_tc cy) (m_AC a) (m_WC a cy) (m_ZC a)) {r0 : Int32} {X0 : XT} (v10 : Int32) (u0 : Int32) (X : XT) (hf0 : f_L_submits_177 N v10 u0 X = some (r0, X0)) : ∀ (H : Heap) (locs : List Loc) (ls : Array Slot), va_P D vwCl (m_WC a cy X) H → va_S (m_AC a) s.heap H locs → lv_has ls 12 [(3, .ref (a 131)), (4, .ref (a 132)), (7, .ref (a 135)), (8, .ref (a 136)), (10, .int v10)] → W p l e rm_L_submits s m args below meth c H locs 0 0 (MQ below (m_QI D (m_WC a cy) (m_AC a) r0 X0) args s 0 0 (m_AC a)) (F0 m 177 ls [.int u0]) := by
  have hx := C.1.1
  have hb := C.1.2.1
  intro H locs ls hP hS hl
  unfold f_L_submits_177 at hf0
  refine lv_istore (lv' := [(11, .int u0), (3, .ref (a 131)), (4, .ref (a 132)), (7, .ref (a 135)), (8, .ref (a 136)), (10, .int v10)]) hx hb dL_submits_177 hl (by decide) rfl (fun ls hl => ?_)
  refine lv_iload hx hb dL_submits_179 (lv_at hl 0 rfl) ?_
  refine lv_if_le (tgt := 196) hx hb dL_submits_181 (by decide) (fun c_82 => ?_) (fun c_82 => ?_)
  · have hf83 := m_it c_82 hf0
    clear hf0
    refine lv_iload hx hb dL_submits_196 (lv_at hl 5 rfl) ?_
    exact m_iret C hP hS dL_submits_198 hf83
  · have hf84 := m_ie c_82 hf0
    clear hf0
    refine lv_iload hx hb dL_submits_184 (lv_at hl 0 rfl) ?_
    refine lv_aload_n hx hb dL_submits_186 rfl (lv_at hl 1 rfl) ?_
    refine lv_aload hx hb dL_submits_187 (lv_at hl 2 rfl) ?_
    refine lv_aload hx hb dL_submits_189 (lv_at hl 3 rfl) ?_
    refine lv_aload hx hb dL_submits_191 (lv_at hl 4 rfl) ?_
    obtain ⟨X_85, h_85, hf86⟩ := m_bv_s hf84
    clear hf84
    refine m_callSv C [.int u0, .ref (a 131), .ref (a 132), .ref (a 135), .ref (a 136)] [] (c_L_closes l D a cy hG N _ _ h_85) (m_goodS wl_L_35 wst_L_closes wn_L wc_L_closes) ⟨rfl, rfl⟩ hv_L_closes ⟨Nat.le_of_ble_eq_true rfl, Nat.le_of_ble_eq_true rfl⟩ hP hS rfl hl.1 rfl (Nat.le_of_ble_eq_true rfl) dL_submits_193 (fun H locs hP hS => ?_)
    refine lv_iload hx hb dL_submits_196 (lv_at hl 5 rfl) ?_
    exact m_iret C hP hS dL_submits_198 hf86
def f_L_submits_93 (N : Nat) (v2 : Int32) (v10 : Int32) (u0 : Int32) (u1 : Int32) (u2 : Int32) (X : XT) : Option (Int32 × XT) := m_nm (u1 + u0) fun y_30 => m_nm (y_30 + 512) fun y_32 => m_gd (m_in u2 48) <| m_nm (m_up X 132 (upd (X 132) (Int32.toNatClampNeg u2) y_32)) fun X_34 => m_gd (m_in 0 17) <| m_nm (X_34 131 (Int32.toNatClampNeg 0)) fun y_37 => m_gd (m_in v10 48) <| m_nm (m_up X_34 133 (upd (X_34 133) (Int32.toNatClampNeg v10) y_37)) fun X_40 => m_gd (m_in v10 48) <| m_nm (m_up X_40 134 (upd (X_40 134) (Int32.toNatClampNeg v10) (-5))) fun X_43 => m_gd (m_in 8 17) <| m_nm (X_43 131 (Int32.toNatClampNeg 8)) fun y_46 => m_nm ((2 : Int32) * y_46) fun y_49 => m_gd (m_in v10 48) <| m_nm (m_up X_43 135 (upd (X_43 135) (Int32.toNatClampNeg v10) y_49)) fun X_51 => if v2 = 0 then (m_gd (m_in 8 17) <| m_nm (X_51 131 (Int32.toNatClampNeg 8)) fun y_57 => m_bi (f_L_members N y_57 X_51) fun r_60 X_60 => m_nm (r_60 / 1000) fun y_62 => m_gd (m_in 3 17) <| m_nm (X_60 131 (Int32.toNatClampNeg 3)) fun y_64 => if y_62 < y_64 then (m_gd (m_in 8 17) <| m_nm (X_60 131 (Int32.toNatClampNeg 8)) fun y_70 => m_gd (m_in y_70 48) <| m_nm (X_60 137 (Int32.toNatClampNeg y_70)) fun y_73 => m_gd (m_in 0 17) <| m_nm (X_60 131 (Int32.toNatClampNeg 0)) fun y_76 => if y_76 < y_73 then (f_L_submits_177 N v10 0 X_60) else (f_L_submits_177 N v10 3 X_60)) else (f_L_submits_177 N v10 2 X_60)) else (f_L_submits_177 N v10 1 X_51)
set_option maxHeartbeats 4000000 in
set_option maxRecDepth 100000 in
theorem w_L_submits_93 (l : Launch) (D : va_G) (a : Nat → Nat) (cy : Nat → ClassId) (hG : m_inj 138 a) (N : Nat) {p : Program} {e : Env} {s : State} {m : MethodId} {args : Array Value} {below : List Frame} {meth : Method} {c : Code} (C : m_Cx p s m args meth c cL_submits 12 RL (some .int) (Cond.code yL_submits cL_submits 12 (some .int)) D (m_tc cy) (m_AC a) (m_WC a cy) (m_ZC a)) {r0 : Int32} {X0 : XT} (v2 : Int32) (v10 : Int32) (u0 : Int32) (u1 : Int32) (u2 : Int32) (X : XT) (hf0 : f_L_submits_93 N v2 v10 u0 u1 u2 X = some (r0, X0)) : ∀ (H : Heap) (locs : List Loc) (ls : Array Slot), va_P D vwCl (m_WC a cy X) H → va_S (m_AC a) s.heap H locs → lv_has ls 12 [(2, .int v2), (3, .ref (a 131)), (4, .ref (a 132)), (5, .ref (a 133)), (6, .ref (a 134)), (7, .ref (a 135)), (8, .ref (a 136)), (9, .ref (a 137)), (10, .int v10)] → W p l e rm_L_submits s m args below meth c H locs 0 0 (MQ below (m_QI D (m_WC a cy) (m_AC a) r0 X0) args s 0 0 (m_AC a)) (F0 m 93 ls [.int u0, .int u1, .int u2, .ref (a 132)]) := by
  have hx := C.1.1
  have hb := C.1.2.1
  intro H locs ls hP hS hl
  unfold f_L_submits_93 at hf0
  refine lv_iadd hx hb dL_submits_93 ?_
  refine lv_topi (fun y_30 e_30 => ?_)
  have hf31 := m_nm_s e_30 hf0
  clear hf0
  refine lv_sipush (v := 512) hx hb dL_submits_94 (by decide) ?_
  refine lv_iadd hx hb dL_submits_97 ?_
  refine lv_topi (fun y_32 e_32 => ?_)
  have hf33 := m_nm_s e_32 hf31
  clear hf31
  obtain ⟨g_34, hf35⟩ := m_gd_s hf33
  clear hf33
  refine m_ist C hP hS mC_132 0 rfl g_34 mCs_132 dL_submits_98 (fun X_34 e_34 H locs hP hS => ?_)
  have hf36 := m_nm_s e_34 hf35
  clear hf35
  refine lv_aload hx hb dL_submits_99 (lv_at hl 3 rfl) ?_
  refine lv_iload hx hb dL_submits_101 (lv_at hl 8 rfl) ?_
  refine lv_aload_n hx hb dL_submits_103 rfl (lv_at hl 1 rfl) ?_
  refine lv_iconst (v := 0) hx hb dL_submits_104 (by decide) ?_
  obtain ⟨g_37, hf38⟩ := m_gd_s hf36
  clear hf36
  refine m_ild C hP mC_131 0 rfl g_37 dL_submits_105 (fun y_37 e_37 => ?_)
  have hf39 := m_nm_s e_37 hf38
  clear hf38
  obtain ⟨g_40, hf41⟩ := m_gd_s hf39
  clear hf39
  refine m_ist C hP hS mC_133 0 rfl g_40 mCs_133 dL_submits_106 (fun X_40 e_40 H locs hP hS => ?_)
  have hf42 := m_nm_s e_40 hf41
  clear hf41
  refine lv_aload hx hb dL_submits_107 (lv_at hl 4 rfl) ?_
  refine lv_iload hx hb dL_submits_109 (lv_at hl 8 rfl) ?_
  refine lv_bipush (v := (-5)) hx hb dL_submits_111 (by decide) ?_
  obtain ⟨g_43, hf44⟩ := m_gd_s hf42
  clear hf42
  refine m_ist C hP hS mC_134 0 rfl g_43 mCs_134 dL_submits_113 (fun X_43 e_43 H locs hP hS => ?_)
  have hf45 := m_nm_s e_43 hf44
  clear hf44
  refine lv_aload hx hb dL_submits_114 (lv_at hl 5 rfl) ?_
  refine lv_iload hx hb dL_submits_116 (lv_at hl 8 rfl) ?_
  refine lv_iconst (v := 2) hx hb dL_submits_118 (by decide) ?_
  refine lv_aload_n hx hb dL_submits_119 rfl (lv_at hl 1 rfl) ?_
  refine lv_bipush (v := 8) hx hb dL_submits_120 (by decide) ?_
  obtain ⟨g_46, hf47⟩ := m_gd_s hf45
  clear hf45
  refine m_ild C hP mC_131 0 rfl g_46 dL_submits_122 (fun y_46 e_46 => ?_)
  have hf48 := m_nm_s e_46 hf47
  clear hf47
  refine lv_imul hx hb dL_submits_123 ?_
  refine lv_topi (fun y_49 e_49 => ?_)
  have hf50 := m_nm_s e_49 hf48
  clear hf48
  obtain ⟨g_51, hf52⟩ := m_gd_s hf50
  clear hf50
  refine m_ist C hP hS mC_135 0 rfl g_51 mCs_135 dL_submits_124 (fun X_51 e_51 H locs hP hS => ?_)
  have hf53 := m_nm_s e_51 hf52
  clear hf52
  refine lv_iload_n hx hb dL_submits_125 rfl (lv_at hl 0 rfl) ?_
  refine lv_if_eq (tgt := 133) hx hb dL_submits_126 (by decide) (fun c_54 => ?_) (fun c_54 => ?_)
  · have hf55 := m_it c_54 hf53
    clear hf53
    refine lv_aload_n hx hb dL_submits_133 rfl (lv_at hl 1 rfl) ?_
    refine lv_bipush (v := 8) hx hb dL_submits_134 (by decide) ?_
    obtain ⟨g_57, hf58⟩ := m_gd_s hf55
    clear hf55
    refine m_ild C hP mC_131 0 rfl g_57 dL_submits_136 (fun y_57 e_57 => ?_)
    have hf59 := m_nm_s e_57 hf58
    clear hf58
    refine lv_aload_n hx hb dL_submits_137 rfl (lv_at hl 1 rfl) ?_
    refine lv_aload hx hb dL_submits_138 (lv_at hl 2 rfl) ?_
    refine lv_aload hx hb dL_submits_140 (lv_at hl 5 rfl) ?_
    obtain ⟨r_60, X_60, h_60, hf61⟩ := m_bi_s hf59
    clear hf59
    refine m_callSi C [.int y_57, .ref (a 131), .ref (a 132), .ref (a 135)] [] (c_L_members l D a cy hG N _ _ h_60) (m_goodS wl_L_23 wst_L_members wn_L wc_L_members) ⟨rfl, rfl⟩ hv_L_members ⟨Nat.le_of_ble_eq_true rfl, Nat.le_of_ble_eq_true rfl⟩ hP hS rfl hl.1 rfl (Nat.le_of_ble_eq_true rfl) dL_submits_142 (fun H locs hP hS => ?_)
    refine lv_sipush (v := 1000) hx hb dL_submits_145 (by decide) ?_
    refine lv_idiv hx hb dL_submits_148 (by decide) ?_
    refine lv_topi (fun y_62 e_62 => ?_)
    have hf63 := m_nm_s e_62 hf61
    clear hf61
    refine lv_aload_n hx hb dL_submits_149 rfl (lv_at hl 1 rfl) ?_
    refine lv_iconst (v := 3) hx hb dL_submits_150 (by decide) ?_
    obtain ⟨g_64, hf65⟩ := m_gd_s hf63
    clear hf63
    refine m_ild C hP mC_131 0 rfl g_64 dL_submits_151 (fun y_64 e_64 => ?_)
    have hf66 := m_nm_s e_64 hf65
    clear hf65
    refine lv_icmp_lt (tgt := 159) hx hb dL_submits_152 (by decide) (fun c_67 => ?_) (fun c_67 => ?_)
    · have hf68 := m_it c_67 hf66
      clear hf66
      refine lv_aload hx hb dL_submits_159 (lv_at hl 7 rfl) ?_
      refine lv_aload_n hx hb dL_submits_161 rfl (lv_at hl 1 rfl) ?_
      refine lv_bipush (v := 8) hx hb dL_submits_162 (by decide) ?_
      obtain ⟨g_70, hf71⟩ := m_gd_s hf68
      clear hf68
      refine m_ild C hP mC_131 0 rfl g_70 dL_submits_164 (fun y_70 e_70 => ?_)
      have hf72 := m_nm_s e_70 hf71
      clear hf71
      obtain ⟨g_73, hf74⟩ := m_gd_s hf72
      clear hf72
      refine m_ild C hP mC_137 0 rfl g_73 dL_submits_165 (fun y_73 e_73 => ?_)
      have hf75 := m_nm_s e_73 hf74
      clear hf74
      refine lv_aload_n hx hb dL_submits_166 rfl (lv_at hl 1 rfl) ?_
      refine lv_iconst (v := 0) hx hb dL_submits_167 (by decide) ?_
      obtain ⟨g_76, hf77⟩ := m_gd_s hf75
      clear hf75
      refine m_ild C hP mC_131 0 rfl g_76 dL_submits_168 (fun y_76 e_76 => ?_)
      have hf78 := m_nm_s e_76 hf77
      clear hf77
      refine lv_icmp_gt (tgt := 176) hx hb dL_submits_169 (by decide) (fun c_79 => ?_) (fun c_79 => ?_)
      · have hf80 := m_it c_79 hf78
        clear hf78
        refine lv_iconst (v := 0) hx hb dL_submits_176 (by decide) ?_
        exact w_L_submits_177 l D a cy hG N C _ _ _ hf80 H locs ls hP hS (lv_sub hl [1, 2, 5, 6, 8] rfl)
      · have hf81 := m_ie c_79 hf78
        clear hf78
        refine lv_iconst (v := 3) hx hb dL_submits_172 (by decide) ?_
        refine lv_goto (tgt := 177) hx hb dL_submits_173 (by decide) ?_
        exact w_L_submits_177 l D a cy hG N C _ _ _ hf81 H locs ls hP hS (lv_sub hl [1, 2, 5, 6, 8] rfl)
    · have hf69 := m_ie c_67 hf66
      clear hf66
      refine lv_iconst (v := 2) hx hb dL_submits_155 (by decide) ?_
      refine lv_goto (tgt := 177) hx hb dL_submits_156 (by decide) ?_
      exact w_L_submits_177 l D a cy hG N C _ _ _ hf69 H locs ls hP hS (lv_sub hl [1, 2, 5, 6, 8] rfl)
  · have hf56 := m_ie c_54 hf53
    clear hf53
    refine lv_iconst (v := 1) hx hb dL_submits_129 (by decide) ?_
    refine lv_goto (tgt := 177) hx hb dL_submits_130 (by decide) ?_
    exact w_L_submits_177 l D a cy hG N C _ _ _ hf56 H locs ls hP hS (lv_sub hl [1, 2, 5, 6, 8] rfl)
def f_L_submits_58 (N : Nat) (v0 : Int32) (v1 : Int32) (v2 : Int32) (X : XT) : Option (Int32 × XT) := m_gd (m_in 6 17) <| m_nm (X 131 (Int32.toNatClampNeg 6)) fun y_12 => m_gd (m_in 6 17) <| m_nm (X 131 (Int32.toNatClampNeg 6)) fun y_15 => m_nm (y_15 + 1) fun y_18 => m_gd (m_in 6 17) <| m_nm (m_up X 131 (upd (X 131) (Int32.toNatClampNeg 6) y_18)) fun X_20 => m_nm ((16 : Int32) * v1) fun y_23 => m_nm (v0 + y_23) fun y_25 => if v2 = 0 then (f_L_submits_93 N v2 y_12 0 y_25 y_12 X_20) else (f_L_submits_93 N v2 y_12 256 y_25 y_12 X_20)
set_option maxHeartbeats 4000000 in
set_option maxRecDepth 100000 in
theorem w_L_submits_58 (l : Launch) (D : va_G) (a : Nat → Nat) (cy : Nat → ClassId) (hG : m_inj 138 a) (N : Nat) {p : Program} {e : Env} {s : State} {m : MethodId} {args : Array Value} {below : List Frame} {meth : Method} {c : Code} (C : m_Cx p s m args meth c cL_submits 12 RL (some .int) (Cond.code yL_submits cL_submits 12 (some .int)) D (m_tc cy) (m_AC a) (m_WC a cy) (m_ZC a)) {r0 : Int32} {X0 : XT} (v0 : Int32) (v1 : Int32) (v2 : Int32) (X : XT) (hf0 : f_L_submits_58 N v0 v1 v2 X = some (r0, X0)) : ∀ (H : Heap) (locs : List Loc) (ls : Array Slot), va_P D vwCl (m_WC a cy X) H → va_S (m_AC a) s.heap H locs → lv_has ls 12 [(0, .int v0), (1, .int v1), (2, .int v2), (3, .ref (a 131)), (4, .ref (a 132)), (5, .ref (a 133)), (6, .ref (a 134)), (7, .ref (a 135)), (8, .ref (a 136)), (9, .ref (a 137))] → W p l e rm_L_submits s m args below meth c H locs 0 0 (MQ below (m_QI D (m_WC a cy) (m_AC a) r0 X0) args s 0 0 (m_AC a)) (F0 m 58 ls []) := by
  have hx := C.1.1
  have hb := C.1.2.1
  intro H locs ls hP hS hl
  unfold f_L_submits_58 at hf0
  refine lv_aload_n hx hb dL_submits_58 rfl (lv_at hl 3 rfl) ?_
  refine lv_bipush (v := 6) hx hb dL_submits_59 (by decide) ?_
  obtain ⟨g_12, hf13⟩ := m_gd_s hf0
  clear hf0
  refine m_ild C hP mC_131 0 rfl g_12 dL_submits_61 (fun y_12 e_12 => ?_)
  have hf14 := m_nm_s e_12 hf13
  clear hf13
  refine lv_istore (lv' := [(10, .int y_12), (0, .int v0), (1, .int v1), (2, .int v2), (3, .ref (a 131)), (4, .ref (a 132)), (5, .ref (a 133)), (6, .ref (a 134)), (7, .ref (a 135)), (8, .ref (a 136)), (9, .ref (a 137))]) hx hb dL_submits_62 hl (by decide) rfl (fun ls hl => ?_)
  refine lv_aload_n hx hb dL_submits_64 rfl (lv_at hl 4 rfl) ?_
  refine lv_bipush (v := 6) hx hb dL_submits_65 (by decide) ?_
  refine lv_dup2_11 hx hb dL_submits_67 rfl rfl ?_
  obtain ⟨g_15, hf16⟩ := m_gd_s hf14
  clear hf14
  refine m_ild C hP mC_131 0 rfl g_15 dL_submits_68 (fun y_15 e_15 => ?_)
  have hf17 := m_nm_s e_15 hf16
  clear hf16
  refine lv_iconst (v := 1) hx hb dL_submits_69 (by decide) ?_
  refine lv_iadd hx hb dL_submits_70 ?_
  refine lv_topi (fun y_18 e_18 => ?_)
  have hf19 := m_nm_s e_18 hf17
  clear hf17
  obtain ⟨g_20, hf21⟩ := m_gd_s hf19
  clear hf19
  refine m_ist C hP hS mC_131 0 rfl g_20 mCs_131 dL_submits_71 (fun X_20 e_20 H locs hP hS => ?_)
  have hf22 := m_nm_s e_20 hf21
  clear hf21
  refine lv_aload hx hb dL_submits_72 (lv_at hl 5 rfl) ?_
  refine lv_iload hx hb dL_submits_74 (lv_at hl 0 rfl) ?_
  refine lv_iload_n hx hb dL_submits_76 rfl (lv_at hl 1 rfl) ?_
  refine lv_bipush (v := 16) hx hb dL_submits_77 (by decide) ?_
  refine lv_iload_n hx hb dL_submits_79 rfl (lv_at hl 2 rfl) ?_
  refine lv_imul hx hb dL_submits_80 ?_
  refine lv_topi (fun y_23 e_23 => ?_)
  have hf24 := m_nm_s e_23 hf22
  clear hf22
  refine lv_iadd hx hb dL_submits_81 ?_
  refine lv_topi (fun y_25 e_25 => ?_)
  have hf26 := m_nm_s e_25 hf24
  clear hf24
  refine lv_iload_n hx hb dL_submits_82 rfl (lv_at hl 3 rfl) ?_
  refine lv_if_eq (tgt := 92) hx hb dL_submits_83 (by decide) (fun c_27 => ?_) (fun c_27 => ?_)
  · have hf28 := m_it c_27 hf26
    clear hf26
    refine lv_iconst (v := 0) hx hb dL_submits_92 (by decide) ?_
    exact w_L_submits_93 l D a cy hG N C _ _ _ _ _ _ hf28 H locs ls hP hS (lv_sub hl [3, 4, 5, 6, 7, 8, 9, 10, 0] rfl)
  · have hf29 := m_ie c_27 hf26
    clear hf26
    refine lv_sipush (v := 256) hx hb dL_submits_86 (by decide) ?_
    refine lv_goto (tgt := 93) hx hb dL_submits_89 (by decide) ?_
    exact w_L_submits_93 l D a cy hG N C _ _ _ _ _ _ hf29 H locs ls hP hS (lv_sub hl [3, 4, 5, 6, 7, 8, 9, 10, 0] rfl)
def f_L_submits (N : Nat) (v0 : Int32) (v1 : Int32) (v2 : Int32) (X : XT) : Option (Int32 × XT) := m_bi (f_L_open N v0 X) fun r_1 X_1 => if r_1 < 0 then (m_gd (m_in 8 17) <| m_nm (X_1 131 (Int32.toNatClampNeg 8)) fun y_6 => if 0 ≤ y_6 then (f_L_submits_58 N v0 v1 v2 X_1) else (m_gd (m_in 7 17) <| m_nm (X_1 131 (Int32.toNatClampNeg 7)) fun y_87 => m_gd (m_in 8 17) <| m_nm (m_up X_1 131 (upd (X_1 131) (Int32.toNatClampNeg 8) y_87)) fun X_90 => m_gd (m_in 7 17) <| m_nm (X_90 131 (Int32.toNatClampNeg 7)) fun y_93 => m_gd (m_in y_93 48) <| m_nm (m_up X_90 136 (upd (X_90 136) (Int32.toNatClampNeg y_93) 1)) fun X_96 => m_gd (m_in 7 17) <| m_nm (X_96 131 (Int32.toNatClampNeg 7)) fun y_99 => m_gd (m_in 0 17) <| m_nm (X_96 131 (Int32.toNatClampNeg 0)) fun y_102 => m_gd (m_in 1 17) <| m_nm (X_96 131 (Int32.toNatClampNeg 1)) fun y_105 => m_nm (y_102 + y_105) fun y_108 => m_gd (m_in y_99 48) <| m_nm (m_up X_96 137 (upd (X_96 137) (Int32.toNatClampNeg y_99) y_108)) fun X_110 => m_gd (m_in 7 17) <| m_nm (X_110 131 (Int32.toNatClampNeg 7)) fun y_113 => m_nm (y_113 + 1) fun y_116 => m_gd (m_in 7 17) <| m_nm (m_up X_110 131 (upd (X_110 131) (Int32.toNatClampNeg 7) y_116)) fun X_118 => f_L_submits_58 N v0 v1 v2 X_118)) else (some ((-4), X_1))
set_option maxHeartbeats 4000000 in
set_option maxRecDepth 100000 in
theorem c_L_submits (l : Launch) (D : va_G) (a : Nat → Nat) (cy : Nat → ClassId) (hG : m_inj 138 a) (N : Nat) (v0 : Int32) (v1 : Int32) (v2 : Int32) (X : XT) {r0 : Int32} {X0 : XT} (hf0 : f_L_submits N v0 v1 v2 X = some (r0, X0)) : Met l yL_submits (Cond.code yL_submits cL_submits 12 (some .int) :: m_tbl) rm_L_submits (va_Pc [.int v0, .int v1, .int v2, .ref (a 131), .ref (a 132), .ref (a 133), .ref (a 134), .ref (a 135), .ref (a 136), .ref (a 137)] (m_PX D (m_tc cy) (m_WC a cy) (m_ZC a) X)) (m_QI D (m_WC a cy) (m_AC a) r0 X0) 0 0 (m_AC a) := by
  refine m_met (own := RL) hy_L_submits rfl (Nat.le_of_ble_eq_true rfl) (m_wl_D hG _) m_ZC_keep ?_
  intro p e s m args below meth c C ls hl hP hS
  have hx := C.1.1
  have hb := C.1.2.1
  have hl : lv_has ls 12 [(0, .int v0), (1, .int v1), (2, .int v2), (3, .ref (a 131)), (4, .ref (a 132)), (5, .ref (a 133)), (6, .ref (a 134)), (7, .ref (a 135)), (8, .ref (a 136)), (9, .ref (a 137))] := hl
  unfold f_L_submits at hf0
  suffices K : ∀ (H : Heap) (locs : List Loc), va_P D vwCl (m_WC a cy X) H → va_S (m_AC a) s.heap H locs → W p l e rm_L_submits s m args below meth c H locs 0 0 (MQ below (m_QI D (m_WC a cy) (m_AC a) r0 X0) args s 0 0 (m_AC a)) (F0 m 0 ls []) from K _ _ hP hS
  clear hP hS
  intro H locs hP hS
  refine lv_iload_n hx hb dL_submits_0 rfl (lv_at hl 0 rfl) ?_
  refine lv_aload_n hx hb dL_submits_1 rfl (lv_at hl 3 rfl) ?_
  refine lv_aload hx hb dL_submits_2 (lv_at hl 4 rfl) ?_
  obtain ⟨r_1, X_1, h_1, hf2⟩ := m_bi_s hf0
  clear hf0
  refine m_callSi C [.int v0, .ref (a 131), .ref (a 132)] [] (c_L_open l D a cy hG N _ _ h_1) (m_goodS wl_L_39 wst_L_open wn_L wc_L_open) ⟨rfl, rfl⟩ hv_L_open ⟨Nat.le_of_ble_eq_true rfl, Nat.le_of_ble_eq_true rfl⟩ hP hS rfl hl.1 rfl (Nat.le_of_ble_eq_true rfl) dL_submits_4 (fun H locs hP hS => ?_)
  refine lv_if_lt (tgt := 13) hx hb dL_submits_7 (by decide) (fun c_3 => ?_) (fun c_3 => ?_)
  · have hf4 := m_it c_3 hf2
    clear hf2
    refine lv_aload_n hx hb dL_submits_13 rfl (lv_at hl 3 rfl) ?_
    refine lv_bipush (v := 8) hx hb dL_submits_14 (by decide) ?_
    obtain ⟨g_6, hf7⟩ := m_gd_s hf4
    clear hf4
    refine m_ild C hP mC_131 0 rfl g_6 dL_submits_16 (fun y_6 e_6 => ?_)
    have hf8 := m_nm_s e_6 hf7
    clear hf7
    refine lv_if_ge (tgt := 58) hx hb dL_submits_17 (by decide) (fun c_9 => ?_) (fun c_9 => ?_)
    · have hf10 := m_it c_9 hf8
      clear hf8
      exact w_L_submits_58 l D a cy hG N C _ _ _ _ hf10 H locs ls hP hS (lv_sub hl [0, 1, 2, 3, 4, 5, 6, 7, 8, 9] rfl)
    · have hf11 := m_ie c_9 hf8
      clear hf8
      refine lv_aload_n hx hb dL_submits_20 rfl (lv_at hl 3 rfl) ?_
      refine lv_bipush (v := 8) hx hb dL_submits_21 (by decide) ?_
      refine lv_aload_n hx hb dL_submits_23 rfl (lv_at hl 3 rfl) ?_
      refine lv_bipush (v := 7) hx hb dL_submits_24 (by decide) ?_
      obtain ⟨g_87, hf88⟩ := m_gd_s hf11
      clear hf11
      refine m_ild C hP mC_131 0 rfl g_87 dL_submits_26 (fun y_87 e_87 => ?_)
      have hf89 := m_nm_s e_87 hf88
      clear hf88
      obtain ⟨g_90, hf91⟩ := m_gd_s hf89
      clear hf89
      refine m_ist C hP hS mC_131 0 rfl g_90 mCs_131 dL_submits_27 (fun X_90 e_90 H locs hP hS => ?_)
      have hf92 := m_nm_s e_90 hf91
      clear hf91
      refine lv_aload hx hb dL_submits_28 (lv_at hl 8 rfl) ?_
      refine lv_aload_n hx hb dL_submits_30 rfl (lv_at hl 3 rfl) ?_
      refine lv_bipush (v := 7) hx hb dL_submits_31 (by decide) ?_
      obtain ⟨g_93, hf94⟩ := m_gd_s hf92
      clear hf92
      refine m_ild C hP mC_131 0 rfl g_93 dL_submits_33 (fun y_93 e_93 => ?_)
      have hf95 := m_nm_s e_93 hf94
      clear hf94
      refine lv_iconst (v := 1) hx hb dL_submits_34 (by decide) ?_
      obtain ⟨g_96, hf97⟩ := m_gd_s hf95
      clear hf95
      refine m_ist C hP hS mC_136 0 rfl g_96 mCs_136 dL_submits_35 (fun X_96 e_96 H locs hP hS => ?_)
      have hf98 := m_nm_s e_96 hf97
      clear hf97
      refine lv_aload hx hb dL_submits_36 (lv_at hl 9 rfl) ?_
      refine lv_aload_n hx hb dL_submits_38 rfl (lv_at hl 3 rfl) ?_
      refine lv_bipush (v := 7) hx hb dL_submits_39 (by decide) ?_
      obtain ⟨g_99, hf100⟩ := m_gd_s hf98
      clear hf98
      refine m_ild C hP mC_131 0 rfl g_99 dL_submits_41 (fun y_99 e_99 => ?_)
      have hf101 := m_nm_s e_99 hf100
      clear hf100
      refine lv_aload_n hx hb dL_submits_42 rfl (lv_at hl 3 rfl) ?_
      refine lv_iconst (v := 0) hx hb dL_submits_43 (by decide) ?_
      obtain ⟨g_102, hf103⟩ := m_gd_s hf101
      clear hf101
      refine m_ild C hP mC_131 0 rfl g_102 dL_submits_44 (fun y_102 e_102 => ?_)
      have hf104 := m_nm_s e_102 hf103
      clear hf103
      refine lv_aload_n hx hb dL_submits_45 rfl (lv_at hl 3 rfl) ?_
      refine lv_iconst (v := 1) hx hb dL_submits_46 (by decide) ?_
      obtain ⟨g_105, hf106⟩ := m_gd_s hf104
      clear hf104
      refine m_ild C hP mC_131 0 rfl g_105 dL_submits_47 (fun y_105 e_105 => ?_)
      have hf107 := m_nm_s e_105 hf106
      clear hf106
      refine lv_iadd hx hb dL_submits_48 ?_
      refine lv_topi (fun y_108 e_108 => ?_)
      have hf109 := m_nm_s e_108 hf107
      clear hf107
      obtain ⟨g_110, hf111⟩ := m_gd_s hf109
      clear hf109
      refine m_ist C hP hS mC_137 0 rfl g_110 mCs_137 dL_submits_49 (fun X_110 e_110 H locs hP hS => ?_)
      have hf112 := m_nm_s e_110 hf111
      clear hf111
      refine lv_aload_n hx hb dL_submits_50 rfl (lv_at hl 3 rfl) ?_
      refine lv_bipush (v := 7) hx hb dL_submits_51 (by decide) ?_
      refine lv_dup2_11 hx hb dL_submits_53 rfl rfl ?_
      obtain ⟨g_113, hf114⟩ := m_gd_s hf112
      clear hf112
      refine m_ild C hP mC_131 0 rfl g_113 dL_submits_54 (fun y_113 e_113 => ?_)
      have hf115 := m_nm_s e_113 hf114
      clear hf114
      refine lv_iconst (v := 1) hx hb dL_submits_55 (by decide) ?_
      refine lv_iadd hx hb dL_submits_56 ?_
      refine lv_topi (fun y_116 e_116 => ?_)
      have hf117 := m_nm_s e_116 hf115
      clear hf115
      obtain ⟨g_118, hf119⟩ := m_gd_s hf117
      clear hf117
      refine m_ist C hP hS mC_131 0 rfl g_118 mCs_131 dL_submits_57 (fun X_118 e_118 H locs hP hS => ?_)
      have hf120 := m_nm_s e_118 hf119
      clear hf119
      exact w_L_submits_58 l D a cy hG N C _ _ _ _ hf120 H locs ls hP hS (lv_sub hl [0, 1, 2, 3, 4, 5, 6, 7, 8, 9] rfl)
  · have hf5 := m_ie c_3 hf2
    clear hf2
    refine lv_bipush (v := (-4)) hx hb dL_submits_10 (by decide) ?_
    exact m_iret C hP hS dL_submits_12 hf5
abbrev rm_L_outs : Room := { frames := 2, cells := 0, slots := 0, locals := 46 }
def f_L_outs_23 (N : Nat) (v0 : Int32) (v1 : Int32) (v7 : Int32) (u0 : Int32) (X : XT) : Option XT := m_bv (f_L_becomes N v0 v1 X) fun X_9 => m_gd (m_in v0 48) <| m_nm (X_9 135 (Int32.toNatClampNeg v0)) fun y_11 => m_nm (y_11 + 1) fun y_14 => m_gd (m_in v0 48) <| m_nm (m_up X_9 135 (upd (X_9 135) (Int32.toNatClampNeg v0) y_14)) fun X_16 => m_bi (f_L_members N v7 X_16) fun r_19 X_19 => if r_19 = 0 then (m_gd (m_in v7 48) <| m_nm (m_up X_19 136 (upd (X_19 136) (Int32.toNatClampNeg v7) 5)) fun X_38 => m_gd (m_in 8 17) <| m_nm (m_up X_38 131 (upd (X_38 131) (Int32.toNatClampNeg 8) (-5))) fun X_41 => some X_41) else (if u0 = 0 then (some X_19) else (m_gd (m_in 0 17) <| m_nm (X_19 131 (Int32.toNatClampNeg 0)) fun y_27 => m_gd (m_in 1 17) <| m_nm (X_19 131 (Int32.toNatClampNeg 1)) fun y_30 => m_nm (y_27 + y_30) fun y_33 => m_gd (m_in v7 48) <| m_nm (m_up X_19 137 (upd (X_19 137) (Int32.toNatClampNeg v7) y_33)) fun X_35 => some X_35))
set_option maxHeartbeats 4000000 in
set_option maxRecDepth 100000 in
theorem w_L_outs_23 (l : Launch) (D : va_G) (a : Nat → Nat) (cy : Nat → ClassId) (hG : m_inj 138 a) (N : Nat) {p : Program} {e : Env} {s : State} {m : MethodId} {args : Array Value} {below : List Frame} {meth : Method} {c : Code} (C : m_Cx p s m args meth c cL_outs 9 RL none (Cond.code yL_outs cL_outs 9 none) D (m_tc cy) (m_AC a) (m_WC a cy) (m_ZC a)) {X0 : XT} (v0 : Int32) (v1 : Int32) (v7 : Int32) (u0 : Int32) (X : XT) (hf0 : f_L_outs_23 N v0 v1 v7 u0 X = some X0) : ∀ (H : Heap) (locs : List Loc) (ls : Array Slot), va_P D vwCl (m_WC a cy X) H → va_S (m_AC a) s.heap H locs → lv_has ls 9 [(0, .int v0), (1, .int v1), (2, .ref (a 131)), (3, .ref (a 132)), (4, .ref (a 135)), (5, .ref (a 136)), (6, .ref (a 137)), (7, .int v7)] → W p l e rm_L_outs s m args below meth c H locs 0 0 (MQ below (m_QV D (m_WC a cy) (m_AC a) X0) args s 0 0 (m_AC a)) (F0 m 23 ls [.int u0]) := by
  have hx := C.1.1
  have hb := C.1.2.1
  intro H locs ls hP hS hl
  unfold f_L_outs_23 at hf0
  refine lv_istore (lv' := [(8, .int u0), (0, .int v0), (1, .int v1), (2, .ref (a 131)), (3, .ref (a 132)), (4, .ref (a 135)), (5, .ref (a 136)), (6, .ref (a 137)), (7, .int v7)]) hx hb dL_outs_23 hl (by decide) rfl (fun ls hl => ?_)
  refine lv_iload_n hx hb dL_outs_25 rfl (lv_at hl 1 rfl) ?_
  refine lv_iload_n hx hb dL_outs_26 rfl (lv_at hl 2 rfl) ?_
  refine lv_aload_n hx hb dL_outs_27 rfl (lv_at hl 4 rfl) ?_
  obtain ⟨X_9, h_9, hf10⟩ := m_bv_s hf0
  clear hf0
  refine m_callSv C [.int v0, .int v1, .ref (a 132)] [] (c_L_becomes l D a cy hG N _ _ _ h_9) (m_goodS wl_L_19 wst_L_becomes wn_L wc_L_becomes) ⟨rfl, rfl⟩ hv_L_becomes ⟨Nat.le_of_ble_eq_true rfl, Nat.le_of_ble_eq_true rfl⟩ hP hS rfl hl.1 rfl (Nat.le_of_ble_eq_true rfl) dL_outs_28 (fun H locs hP hS => ?_)
  refine lv_aload hx hb dL_outs_31 (lv_at hl 5 rfl) ?_
  refine lv_iload_n hx hb dL_outs_33 rfl (lv_at hl 1 rfl) ?_
  refine lv_dup2_11 hx hb dL_outs_34 rfl rfl ?_
  obtain ⟨g_11, hf12⟩ := m_gd_s hf10
  clear hf10
  refine m_ild C hP mC_135 0 rfl g_11 dL_outs_35 (fun y_11 e_11 => ?_)
  have hf13 := m_nm_s e_11 hf12
  clear hf12
  refine lv_iconst (v := 1) hx hb dL_outs_36 (by decide) ?_
  refine lv_iadd hx hb dL_outs_37 ?_
  refine lv_topi (fun y_14 e_14 => ?_)
  have hf15 := m_nm_s e_14 hf13
  clear hf13
  obtain ⟨g_16, hf17⟩ := m_gd_s hf15
  clear hf15
  refine m_ist C hP hS mC_135 0 rfl g_16 mCs_135 dL_outs_38 (fun X_16 e_16 H locs hP hS => ?_)
  have hf18 := m_nm_s e_16 hf17
  clear hf17
  refine lv_iload hx hb dL_outs_39 (lv_at hl 8 rfl) ?_
  refine lv_aload_n hx hb dL_outs_41 rfl (lv_at hl 3 rfl) ?_
  refine lv_aload_n hx hb dL_outs_42 rfl (lv_at hl 4 rfl) ?_
  refine lv_aload hx hb dL_outs_43 (lv_at hl 5 rfl) ?_
  obtain ⟨r_19, X_19, h_19, hf20⟩ := m_bi_s hf18
  clear hf18
  refine m_callSi C [.int v7, .ref (a 131), .ref (a 132), .ref (a 135)] [] (c_L_members l D a cy hG N _ _ h_19) (m_goodS wl_L_23 wst_L_members wn_L wc_L_members) ⟨rfl, rfl⟩ hv_L_members ⟨Nat.le_of_ble_eq_true rfl, Nat.le_of_ble_eq_true rfl⟩ hP hS rfl hl.1 rfl (Nat.le_of_ble_eq_true rfl) dL_outs_45 (fun H locs hP hS => ?_)
  refine lv_if_ne (tgt := 66) hx hb dL_outs_48 (by decide) (fun c_21 => ?_) (fun c_21 => ?_)
  · have hf22 := m_ie c_21 hf20
    clear hf20
    refine lv_iload hx hb dL_outs_66 (lv_at hl 0 rfl) ?_
    refine lv_if_eq (tgt := 83) hx hb dL_outs_68 (by decide) (fun c_24 => ?_) (fun c_24 => ?_)
    · have hf25 := m_it c_24 hf22
      clear hf22
      exact m_vret C hP hS dL_outs_83 hf25
    · have hf26 := m_ie c_24 hf22
      clear hf22
      refine lv_aload hx hb dL_outs_71 (lv_at hl 7 rfl) ?_
      refine lv_iload hx hb dL_outs_73 (lv_at hl 8 rfl) ?_
      refine lv_aload_n hx hb dL_outs_75 rfl (lv_at hl 3 rfl) ?_
      refine lv_iconst (v := 0) hx hb dL_outs_76 (by decide) ?_
      obtain ⟨g_27, hf28⟩ := m_gd_s hf26
      clear hf26
      refine m_ild C hP mC_131 0 rfl g_27 dL_outs_77 (fun y_27 e_27 => ?_)
      have hf29 := m_nm_s e_27 hf28
      clear hf28
      refine lv_aload_n hx hb dL_outs_78 rfl (lv_at hl 3 rfl) ?_
      refine lv_iconst (v := 1) hx hb dL_outs_79 (by decide) ?_
      obtain ⟨g_30, hf31⟩ := m_gd_s hf29
      clear hf29
      refine m_ild C hP mC_131 0 rfl g_30 dL_outs_80 (fun y_30 e_30 => ?_)
      have hf32 := m_nm_s e_30 hf31
      clear hf31
      refine lv_iadd hx hb dL_outs_81 ?_
      refine lv_topi (fun y_33 e_33 => ?_)
      have hf34 := m_nm_s e_33 hf32
      clear hf32
      obtain ⟨g_35, hf36⟩ := m_gd_s hf34
      clear hf34
      refine m_ist C hP hS mC_137 0 rfl g_35 mCs_137 dL_outs_82 (fun X_35 e_35 H locs hP hS => ?_)
      have hf37 := m_nm_s e_35 hf36
      clear hf36
      exact m_vret C hP hS dL_outs_83 hf37
  · have hf23 := m_it c_21 hf20
    clear hf20
    refine lv_aload hx hb dL_outs_51 (lv_at hl 6 rfl) ?_
    refine lv_iload hx hb dL_outs_53 (lv_at hl 8 rfl) ?_
    refine lv_iconst (v := 5) hx hb dL_outs_55 (by decide) ?_
    obtain ⟨g_38, hf39⟩ := m_gd_s hf23
    clear hf23
    refine m_ist C hP hS mC_136 0 rfl g_38 mCs_136 dL_outs_56 (fun X_38 e_38 H locs hP hS => ?_)
    have hf40 := m_nm_s e_38 hf39
    clear hf39
    refine lv_aload_n hx hb dL_outs_57 rfl (lv_at hl 3 rfl) ?_
    refine lv_bipush (v := 8) hx hb dL_outs_58 (by decide) ?_
    refine lv_bipush (v := (-5)) hx hb dL_outs_60 (by decide) ?_
    obtain ⟨g_41, hf42⟩ := m_gd_s hf40
    clear hf40
    refine m_ist C hP hS mC_131 0 rfl g_41 mCs_131 dL_outs_62 (fun X_41 e_41 H locs hP hS => ?_)
    have hf43 := m_nm_s e_41 hf42
    clear hf42
    refine lv_goto (tgt := 83) hx hb dL_outs_63 (by decide) ?_
    exact m_vret C hP hS dL_outs_83 hf43
def f_L_outs (N : Nat) (v0 : Int32) (v1 : Int32) (X : XT) : Option XT := m_gd (m_in 8 17) <| m_nm (X 131 (Int32.toNatClampNeg 8)) fun y_1 => m_bi (f_L_firstOf N y_1 X) fun r_4 X_4 => if r_4 = v0 then (f_L_outs_23 N v0 v1 y_1 1 X_4) else (f_L_outs_23 N v0 v1 y_1 0 X_4)
set_option maxHeartbeats 4000000 in
set_option maxRecDepth 100000 in
theorem c_L_outs (l : Launch) (D : va_G) (a : Nat → Nat) (cy : Nat → ClassId) (hG : m_inj 138 a) (N : Nat) (v0 : Int32) (v1 : Int32) (X : XT) {X0 : XT} (hf0 : f_L_outs N v0 v1 X = some X0) : Met l yL_outs (Cond.code yL_outs cL_outs 9 none :: m_tbl) rm_L_outs (va_Pc [.int v0, .int v1, .ref (a 131), .ref (a 132), .ref (a 135), .ref (a 136), .ref (a 137)] (m_PX D (m_tc cy) (m_WC a cy) (m_ZC a) X)) (m_QV D (m_WC a cy) (m_AC a) X0) 0 0 (m_AC a) := by
  refine m_met (own := RL) hy_L_outs rfl (Nat.le_of_ble_eq_true rfl) (m_wl_D hG _) m_ZC_keep ?_
  intro p e s m args below meth c C ls hl hP hS
  have hx := C.1.1
  have hb := C.1.2.1
  have hl : lv_has ls 9 [(0, .int v0), (1, .int v1), (2, .ref (a 131)), (3, .ref (a 132)), (4, .ref (a 135)), (5, .ref (a 136)), (6, .ref (a 137))] := hl
  unfold f_L_outs at hf0
  suffices K : ∀ (H : Heap) (locs : List Loc), va_P D vwCl (m_WC a cy X) H → va_S (m_AC a) s.heap H locs → W p l e rm_L_outs s m args below meth c H locs 0 0 (MQ below (m_QV D (m_WC a cy) (m_AC a) X0) args s 0 0 (m_AC a)) (F0 m 0 ls []) from K _ _ hP hS
  clear hP hS
  intro H locs hP hS
  refine lv_aload_n hx hb dL_outs_0 rfl (lv_at hl 2 rfl) ?_
  refine lv_bipush (v := 8) hx hb dL_outs_1 (by decide) ?_
  obtain ⟨g_1, hf2⟩ := m_gd_s hf0
  clear hf0
  refine m_ild C hP mC_131 0 rfl g_1 dL_outs_3 (fun y_1 e_1 => ?_)
  have hf3 := m_nm_s e_1 hf2
  clear hf2
  refine lv_istore (lv' := [(7, .int y_1), (0, .int v0), (1, .int v1), (2, .ref (a 131)), (3, .ref (a 132)), (4, .ref (a 135)), (5, .ref (a 136)), (6, .ref (a 137))]) hx hb dL_outs_4 hl (by decide) rfl (fun ls hl => ?_)
  refine lv_iload hx hb dL_outs_6 (lv_at hl 0 rfl) ?_
  refine lv_aload_n hx hb dL_outs_8 rfl (lv_at hl 3 rfl) ?_
  refine lv_aload hx hb dL_outs_9 (lv_at hl 5 rfl) ?_
  obtain ⟨r_4, X_4, h_4, hf5⟩ := m_bi_s hf3
  clear hf3
  refine m_callSi C [.int y_1, .ref (a 131), .ref (a 135)] [] (c_L_firstOf l D a cy hG N _ _ h_4) (m_goodS wl_L_43 wst_L_firstOf wn_L wc_L_firstOf) ⟨rfl, rfl⟩ hv_L_firstOf ⟨Nat.le_of_ble_eq_true rfl, Nat.le_of_ble_eq_true rfl⟩ hP hS rfl hl.1 rfl (Nat.le_of_ble_eq_true rfl) dL_outs_11 (fun H locs hP hS => ?_)
  refine lv_iload_n hx hb dL_outs_14 rfl (lv_at hl 1 rfl) ?_
  refine lv_icmp_ne (tgt := 22) hx hb dL_outs_15 (by decide) (fun c_6 => ?_) (fun c_6 => ?_)
  · have hf7 := m_ie c_6 hf5
    clear hf5
    refine lv_iconst (v := 0) hx hb dL_outs_22 (by decide) ?_
    exact w_L_outs_23 l D a cy hG N C _ _ _ _ _ hf7 H locs ls hP hS (lv_sub hl [1, 2, 3, 4, 5, 6, 7, 0] rfl)
  · have hf8 := m_it c_6 hf5
    clear hf5
    refine lv_iconst (v := 1) hx hb dL_outs_18 (by decide) ?_
    refine lv_goto (tgt := 23) hx hb dL_outs_19 (by decide) ?_
    exact w_L_outs_23 l D a cy hG N C _ _ _ _ _ hf8 H locs ls hP hS (lv_sub hl [1, 2, 3, 4, 5, 6, 7, 0] rfl)
abbrev rm_L_due : Room := { frames := 5, cells := 0, slots := 0, locals := 129 }
def f_L_due_298 (N : Nat) (v10 : Int32) (X : XT) : Option (Int32 × XT) := m_gd (m_in 12 17) <| m_nm (X 131 (Int32.toNatClampNeg 12)) fun y_27 => if v10 < 0 then (m_nm (y_27 + 0) fun y_33 => m_gd (m_in 12 17) <| m_nm (m_up X 131 (upd (X 131) (Int32.toNatClampNeg 12) y_33)) fun X_35 => some (v10, X_35)) else (m_nm (y_27 + 1) fun y_38 => m_gd (m_in 12 17) <| m_nm (m_up X 131 (upd (X 131) (Int32.toNatClampNeg 12) y_38)) fun X_40 => some (v10, X_40))
set_option maxHeartbeats 4000000 in
set_option maxRecDepth 100000 in
theorem w_L_due_298 (l : Launch) (D : va_G) (a : Nat → Nat) (cy : Nat → ClassId) (hG : m_inj 138 a) (N : Nat) {p : Program} {e : Env} {s : State} {m : MethodId} {args : Array Value} {below : List Frame} {meth : Method} {c : Code} (C : m_Cx p s m args meth c cL_due 13 RL (some .int) (Cond.code yL_due cL_due 13 (some .int)) D (m_tc cy) (m_AC a) (m_WC a cy) (m_ZC a)) {r0 : Int32} {X0 : XT} (v10 : Int32) (X : XT) (hf0 : f_L_due_298 N v10 X = some (r0, X0)) : ∀ (H : Heap) (locs : List Loc) (ls : Array Slot), va_P D vwCl (m_WC a cy X) H → va_S (m_AC a) s.heap H locs → lv_has ls 13 [(3, .ref (a 131)), (10, .int v10)] → W p l e rm_L_due s m args below meth c H locs 0 0 (MQ below (m_QI D (m_WC a cy) (m_AC a) r0 X0) args s 0 0 (m_AC a)) (F0 m 298 ls []) := by
  have hx := C.1.1
  have hb := C.1.2.1
  intro H locs ls hP hS hl
  unfold f_L_due_298 at hf0
  refine lv_aload_n hx hb dL_due_298 rfl (lv_at hl 0 rfl) ?_
  refine lv_bipush (v := 12) hx hb dL_due_299 (by decide) ?_
  refine lv_dup2_11 hx hb dL_due_301 rfl rfl ?_
  obtain ⟨g_27, hf28⟩ := m_gd_s hf0
  clear hf0
  refine m_ild C hP mC_131 0 rfl g_27 dL_due_302 (fun y_27 e_27 => ?_)
  have hf29 := m_nm_s e_27 hf28
  clear hf28
  refine lv_iload hx hb dL_due_303 (lv_at hl 1 rfl) ?_
  refine lv_if_lt (tgt := 312) hx hb dL_due_305 (by decide) (fun c_30 => ?_) (fun c_30 => ?_)
  · have hf31 := m_it c_30 hf29
    clear hf29
    refine lv_iconst (v := 0) hx hb dL_due_312 (by decide) ?_
    refine lv_iadd hx hb dL_due_313 ?_
    refine lv_topi (fun y_33 e_33 => ?_)
    have hf34 := m_nm_s e_33 hf31
    clear hf31
    obtain ⟨g_35, hf36⟩ := m_gd_s hf34
    clear hf34
    refine m_ist C hP hS mC_131 0 rfl g_35 mCs_131 dL_due_314 (fun X_35 e_35 H locs hP hS => ?_)
    have hf37 := m_nm_s e_35 hf36
    clear hf36
    refine lv_iload hx hb dL_due_315 (lv_at hl 1 rfl) ?_
    exact m_iret C hP hS dL_due_317 hf37
  · have hf32 := m_ie c_30 hf29
    clear hf29
    refine lv_iconst (v := 1) hx hb dL_due_308 (by decide) ?_
    refine lv_goto (tgt := 313) hx hb dL_due_309 (by decide) ?_
    refine lv_iadd hx hb dL_due_313 ?_
    refine lv_topi (fun y_38 e_38 => ?_)
    have hf39 := m_nm_s e_38 hf32
    clear hf32
    obtain ⟨g_40, hf41⟩ := m_gd_s hf39
    clear hf39
    refine m_ist C hP hS mC_131 0 rfl g_40 mCs_131 dL_due_314 (fun X_40 e_40 H locs hP hS => ?_)
    have hf42 := m_nm_s e_40 hf41
    clear hf41
    refine lv_iload hx hb dL_due_315 (lv_at hl 1 rfl) ?_
    exact m_iret C hP hS dL_due_317 hf42
def f_L_due_202 (N : Nat) (v0 : Int32) (v10 : Int32) (u0 : Int32) (X : XT) : Option (Int32 × XT) := if v0 = 4 then (if u0 = 0 then (some ((-4), X)) else (m_gd (m_in 8 17) <| m_nm (X 131 (Int32.toNatClampNeg 8)) fun y_50 => m_bv (f_L_outs N v10 6 X) fun X_53 => m_gd (m_in 13 17) <| m_nm (X_53 131 (Int32.toNatClampNeg 13)) fun y_55 => m_nm (y_55 + 1) fun y_58 => m_gd (m_in 13 17) <| m_nm (m_up X_53 131 (upd (X_53 131) (Int32.toNatClampNeg 13) y_58)) fun X_60 => m_bi (f_L_members N y_50 X_60) fun r_63 X_63 => m_nm (r_63 - r_63 / 1000 * 1000) fun y_65 => some (y_65, X_63))) else (if u0 = 0 then (if v10 < 0 then (f_L_due_298 N v10 X) else (m_bv (f_L_becomes N v10 5 X) fun X_43 => f_L_due_298 N v10 X_43)) else (m_bv (f_L_outs N v10 5 X) fun X_45 => f_L_due_298 N v10 X_45))
set_option maxHeartbeats 4000000 in
set_option maxRecDepth 100000 in
theorem w_L_due_202 (l : Launch) (D : va_G) (a : Nat → Nat) (cy : Nat → ClassId) (hG : m_inj 138 a) (N : Nat) {p : Program} {e : Env} {s : State} {m : MethodId} {args : Array Value} {below : List Frame} {meth : Method} {c : Code} (C : m_Cx p s m args meth c cL_due 13 RL (some .int) (Cond.code yL_due cL_due 13 (some .int)) D (m_tc cy) (m_AC a) (m_WC a cy) (m_ZC a)) {r0 : Int32} {X0 : XT} (v0 : Int32) (v10 : Int32) (u0 : Int32) (X : XT) (hf0 : f_L_due_202 N v0 v10 u0 X = some (r0, X0)) : ∀ (H : Heap) (locs : List Loc) (ls : Array Slot), va_P D vwCl (m_WC a cy X) H → va_S (m_AC a) s.heap H locs → lv_has ls 13 [(0, .int v0), (3, .ref (a 131)), (4, .ref (a 132)), (7, .ref (a 135)), (8, .ref (a 136)), (9, .ref (a 137)), (10, .int v10)] → W p l e rm_L_due s m args below meth c H locs 0 0 (MQ below (m_QI D (m_WC a cy) (m_AC a) r0 X0) args s 0 0 (m_AC a)) (F0 m 202 ls [.int u0]) := by
  have hx := C.1.1
  have hb := C.1.2.1
  intro H locs ls hP hS hl
  unfold f_L_due_202 at hf0
  refine lv_istore (lv' := [(11, .int u0), (0, .int v0), (3, .ref (a 131)), (4, .ref (a 132)), (7, .ref (a 135)), (8, .ref (a 136)), (9, .ref (a 137)), (10, .int v10)]) hx hb dL_due_202 hl (by decide) rfl (fun ls hl => ?_)
  refine lv_iload_n hx hb dL_due_204 rfl (lv_at hl 1 rfl) ?_
  refine lv_iconst (v := 4) hx hb dL_due_205 (by decide) ?_
  refine lv_icmp_ne (tgt := 262) hx hb dL_due_206 (by decide) (fun c_18 => ?_) (fun c_18 => ?_)
  · have hf19 := m_ie c_18 hf0
    clear hf0
    refine lv_iload hx hb dL_due_262 (lv_at hl 0 rfl) ?_
    refine lv_if_eq (tgt := 285) hx hb dL_due_264 (by decide) (fun c_21 => ?_) (fun c_21 => ?_)
    · have hf22 := m_it c_21 hf19
      clear hf19
      refine lv_iload hx hb dL_due_285 (lv_at hl 7 rfl) ?_
      refine lv_if_lt (tgt := 298) hx hb dL_due_287 (by decide) (fun c_24 => ?_) (fun c_24 => ?_)
      · have hf25 := m_it c_24 hf22
        clear hf22
        exact w_L_due_298 l D a cy hG N C _ _ hf25 H locs ls hP hS (lv_sub hl [2, 7] rfl)
      · have hf26 := m_ie c_24 hf22
        clear hf22
        refine lv_iload hx hb dL_due_290 (lv_at hl 7 rfl) ?_
        refine lv_iconst (v := 5) hx hb dL_due_292 (by decide) ?_
        refine lv_aload hx hb dL_due_293 (lv_at hl 3 rfl) ?_
        obtain ⟨X_43, h_43, hf44⟩ := m_bv_s hf26
        clear hf26
        refine m_callSv C [.int v10, .int 5, .ref (a 132)] [] (c_L_becomes l D a cy hG N _ _ _ h_43) (m_goodS wl_L_19 wst_L_becomes wn_L wc_L_becomes) ⟨rfl, rfl⟩ hv_L_becomes ⟨Nat.le_of_ble_eq_true rfl, Nat.le_of_ble_eq_true rfl⟩ hP hS rfl hl.1 rfl (Nat.le_of_ble_eq_true rfl) dL_due_295 (fun H locs hP hS => ?_)
        exact w_L_due_298 l D a cy hG N C _ _ hf44 H locs ls hP hS (lv_sub hl [2, 7] rfl)
    · have hf23 := m_ie c_21 hf19
      clear hf19
      refine lv_iload hx hb dL_due_267 (lv_at hl 7 rfl) ?_
      refine lv_iconst (v := 5) hx hb dL_due_269 (by decide) ?_
      refine lv_aload_n hx hb dL_due_270 rfl (lv_at hl 2 rfl) ?_
      refine lv_aload hx hb dL_due_271 (lv_at hl 3 rfl) ?_
      refine lv_aload hx hb dL_due_273 (lv_at hl 4 rfl) ?_
      refine lv_aload hx hb dL_due_275 (lv_at hl 5 rfl) ?_
      refine lv_aload hx hb dL_due_277 (lv_at hl 6 rfl) ?_
      obtain ⟨X_45, h_45, hf46⟩ := m_bv_s hf23
      clear hf23
      refine m_callSv C [.int v10, .int 5, .ref (a 131), .ref (a 132), .ref (a 135), .ref (a 136), .ref (a 137)] [] (c_L_outs l D a cy hG N _ _ _ h_45) (m_goodS wl_L_54 wst_L_outs wn_L wc_L_outs) ⟨rfl, rfl⟩ hv_L_outs ⟨Nat.le_of_ble_eq_true rfl, Nat.le_of_ble_eq_true rfl⟩ hP hS rfl hl.1 rfl (Nat.le_of_ble_eq_true rfl) dL_due_279 (fun H locs hP hS => ?_)
      refine lv_goto (tgt := 298) hx hb dL_due_282 (by decide) ?_
      exact w_L_due_298 l D a cy hG N C _ _ hf46 H locs ls hP hS (lv_sub hl [2, 7] rfl)
  · have hf20 := m_it c_18 hf0
    clear hf0
    refine lv_iload hx hb dL_due_209 (lv_at hl 0 rfl) ?_
    refine lv_if_ne (tgt := 217) hx hb dL_due_211 (by decide) (fun c_47 => ?_) (fun c_47 => ?_)
    · have hf48 := m_ie c_47 hf20
      clear hf20
      refine lv_aload_n hx hb dL_due_217 rfl (lv_at hl 2 rfl) ?_
      refine lv_bipush (v := 8) hx hb dL_due_218 (by decide) ?_
      obtain ⟨g_50, hf51⟩ := m_gd_s hf48
      clear hf48
      refine m_ild C hP mC_131 0 rfl g_50 dL_due_220 (fun y_50 e_50 => ?_)
      have hf52 := m_nm_s e_50 hf51
      clear hf51
      refine lv_istore (lv' := [(12, .int y_50), (11, .int u0), (0, .int v0), (3, .ref (a 131)), (4, .ref (a 132)), (7, .ref (a 135)), (8, .ref (a 136)), (9, .ref (a 137)), (10, .int v10)]) hx hb dL_due_221 hl (by decide) rfl (fun ls hl => ?_)
      refine lv_iload hx hb dL_due_223 (lv_at hl 8 rfl) ?_
      refine lv_bipush (v := 6) hx hb dL_due_225 (by decide) ?_
      refine lv_aload_n hx hb dL_due_227 rfl (lv_at hl 3 rfl) ?_
      refine lv_aload hx hb dL_due_228 (lv_at hl 4 rfl) ?_
      refine lv_aload hx hb dL_due_230 (lv_at hl 5 rfl) ?_
      refine lv_aload hx hb dL_due_232 (lv_at hl 6 rfl) ?_
      refine lv_aload hx hb dL_due_234 (lv_at hl 7 rfl) ?_
      obtain ⟨X_53, h_53, hf54⟩ := m_bv_s hf52
      clear hf52
      refine m_callSv C [.int v10, .int 6, .ref (a 131), .ref (a 132), .ref (a 135), .ref (a 136), .ref (a 137)] [] (c_L_outs l D a cy hG N _ _ _ h_53) (m_goodS wl_L_54 wst_L_outs wn_L wc_L_outs) ⟨rfl, rfl⟩ hv_L_outs ⟨Nat.le_of_ble_eq_true rfl, Nat.le_of_ble_eq_true rfl⟩ hP hS rfl hl.1 rfl (Nat.le_of_ble_eq_true rfl) dL_due_236 (fun H locs hP hS => ?_)
      refine lv_aload_n hx hb dL_due_239 rfl (lv_at hl 3 rfl) ?_
      refine lv_bipush (v := 13) hx hb dL_due_240 (by decide) ?_
      refine lv_dup2_11 hx hb dL_due_242 rfl rfl ?_
      obtain ⟨g_55, hf56⟩ := m_gd_s hf54
      clear hf54
      refine m_ild C hP mC_131 0 rfl g_55 dL_due_243 (fun y_55 e_55 => ?_)
      have hf57 := m_nm_s e_55 hf56
      clear hf56
      refine lv_iconst (v := 1) hx hb dL_due_244 (by decide) ?_
      refine lv_iadd hx hb dL_due_245 ?_
      refine lv_topi (fun y_58 e_58 => ?_)
      have hf59 := m_nm_s e_58 hf57
      clear hf57
      obtain ⟨g_60, hf61⟩ := m_gd_s hf59
      clear hf59
      refine m_ist C hP hS mC_131 0 rfl g_60 mCs_131 dL_due_246 (fun X_60 e_60 H locs hP hS => ?_)
      have hf62 := m_nm_s e_60 hf61
      clear hf61
      refine lv_iload hx hb dL_due_247 (lv_at hl 0 rfl) ?_
      refine lv_aload_n hx hb dL_due_249 rfl (lv_at hl 3 rfl) ?_
      refine lv_aload hx hb dL_due_250 (lv_at hl 4 rfl) ?_
      refine lv_aload hx hb dL_due_252 (lv_at hl 5 rfl) ?_
      obtain ⟨r_63, X_63, h_63, hf64⟩ := m_bi_s hf62
      clear hf62
      refine m_callSi C [.int y_50, .ref (a 131), .ref (a 132), .ref (a 135)] [] (c_L_members l D a cy hG N _ _ h_63) (m_goodS wl_L_23 wst_L_members wn_L wc_L_members) ⟨rfl, rfl⟩ hv_L_members ⟨Nat.le_of_ble_eq_true rfl, Nat.le_of_ble_eq_true rfl⟩ hP hS rfl hl.1 rfl (Nat.le_of_ble_eq_true rfl) dL_due_254 (fun H locs hP hS => ?_)
      refine lv_sipush (v := 1000) hx hb dL_due_257 (by decide) ?_
      refine lv_irem hx hb dL_due_260 (by decide) ?_
      refine lv_topi (fun y_65 e_65 => ?_)
      have hf66 := m_nm_s e_65 hf64
      clear hf64
      exact m_iret C hP hS dL_due_261 hf66
    · have hf49 := m_it c_47 hf20
      clear hf20
      refine lv_bipush (v := (-4)) hx hb dL_due_214 (by decide) ?_
      exact m_iret C hP hS dL_due_216 hf49
def f_L_due_148 (N : Nat) (v10 : Int32) (X : XT) : Option (Int32 × XT) := m_gd (m_in 8 17) <| m_nm (m_up X 131 (upd (X 131) (Int32.toNatClampNeg 8) (-5))) fun X_78 => m_gd (m_in 9 17) <| m_nm (m_up X_78 131 (upd (X_78 131) (Int32.toNatClampNeg 9) (-5))) fun X_81 => m_gd (m_in 12 17) <| m_nm (X_81 131 (Int32.toNatClampNeg 12)) fun y_84 => m_nm (y_84 + v10) fun y_87 => m_gd (m_in 12 17) <| m_nm (m_up X_81 131 (upd (X_81 131) (Int32.toNatClampNeg 12) y_87)) fun X_89 => some (v10, X_89)
set_option maxHeartbeats 4000000 in
set_option maxRecDepth 100000 in
theorem w_L_due_148 (l : Launch) (D : va_G) (a : Nat → Nat) (cy : Nat → ClassId) (hG : m_inj 138 a) (N : Nat) {p : Program} {e : Env} {s : State} {m : MethodId} {args : Array Value} {below : List Frame} {meth : Method} {c : Code} (C : m_Cx p s m args meth c cL_due 13 RL (some .int) (Cond.code yL_due cL_due 13 (some .int)) D (m_tc cy) (m_AC a) (m_WC a cy) (m_ZC a)) {r0 : Int32} {X0 : XT} (v10 : Int32) (X : XT) (hf0 : f_L_due_148 N v10 X = some (r0, X0)) : ∀ (H : Heap) (locs : List Loc) (ls : Array Slot), va_P D vwCl (m_WC a cy X) H → va_S (m_AC a) s.heap H locs → lv_has ls 13 [(3, .ref (a 131)), (10, .int v10)] → W p l e rm_L_due s m args below meth c H locs 0 0 (MQ below (m_QI D (m_WC a cy) (m_AC a) r0 X0) args s 0 0 (m_AC a)) (F0 m 148 ls []) := by
  have hx := C.1.1
  have hb := C.1.2.1
  intro H locs ls hP hS hl
  unfold f_L_due_148 at hf0
  refine lv_aload_n hx hb dL_due_148 rfl (lv_at hl 0 rfl) ?_
  refine lv_bipush (v := 8) hx hb dL_due_149 (by decide) ?_
  refine lv_bipush (v := (-5)) hx hb dL_due_151 (by decide) ?_
  obtain ⟨g_78, hf79⟩ := m_gd_s hf0
  clear hf0
  refine m_ist C hP hS mC_131 0 rfl g_78 mCs_131 dL_due_153 (fun X_78 e_78 H locs hP hS => ?_)
  have hf80 := m_nm_s e_78 hf79
  clear hf79
  refine lv_aload_n hx hb dL_due_154 rfl (lv_at hl 0 rfl) ?_
  refine lv_bipush (v := 9) hx hb dL_due_155 (by decide) ?_
  refine lv_bipush (v := (-5)) hx hb dL_due_157 (by decide) ?_
  obtain ⟨g_81, hf82⟩ := m_gd_s hf80
  clear hf80
  refine m_ist C hP hS mC_131 0 rfl g_81 mCs_131 dL_due_159 (fun X_81 e_81 H locs hP hS => ?_)
  have hf83 := m_nm_s e_81 hf82
  clear hf82
  refine lv_aload_n hx hb dL_due_160 rfl (lv_at hl 0 rfl) ?_
  refine lv_bipush (v := 12) hx hb dL_due_161 (by decide) ?_
  refine lv_dup2_11 hx hb dL_due_163 rfl rfl ?_
  obtain ⟨g_84, hf85⟩ := m_gd_s hf83
  clear hf83
  refine m_ild C hP mC_131 0 rfl g_84 dL_due_164 (fun y_84 e_84 => ?_)
  have hf86 := m_nm_s e_84 hf85
  clear hf85
  refine lv_iload hx hb dL_due_165 (lv_at hl 1 rfl) ?_
  refine lv_iadd hx hb dL_due_167 ?_
  refine lv_topi (fun y_87 e_87 => ?_)
  have hf88 := m_nm_s e_87 hf86
  clear hf86
  obtain ⟨g_89, hf90⟩ := m_gd_s hf88
  clear hf88
  refine m_ist C hP hS mC_131 0 rfl g_89 mCs_131 dL_due_168 (fun X_89 e_89 H locs hP hS => ?_)
  have hf91 := m_nm_s e_89 hf90
  clear hf90
  refine lv_iload hx hb dL_due_169 (lv_at hl 1 rfl) ?_
  exact m_iret C hP hS dL_due_171 hf91
def f_L_due_90 (N : Nat) : Nat → Int32 → Int32 → XT → Option (Int32 × XT)
  | 0, _, _, _ => none
  | n + 1, v10, v11, X => m_gd (m_in 7 17) <| m_nm (X 131 (Int32.toNatClampNeg 7)) fun y_72 => if y_72 ≤ v11 then (f_L_due_148 N v10 X) else (m_gd (m_in v11 48) <| m_nm (X 136 (Int32.toNatClampNeg v11)) fun y_92 => m_nm (y_92 &&& 7) fun y_95 => if 4 ≤ y_95 then (m_nm (v11 + 1) fun y_100 => f_L_due_90 N n v10 y_100 X) else (m_bi (f_L_turns N v11 5 X) fun r_102 X_102 => m_nm (v10 + r_102) fun y_104 => m_gd (m_in v11 48) <| m_nm (X_102 136 (Int32.toNatClampNeg v11)) fun y_106 => m_nm (y_106 &&& (-8)) fun y_109 => m_nm (y_109 ||| 5) fun y_111 => m_gd (m_in v11 48) <| m_nm (m_up X_102 136 (upd (X_102 136) (Int32.toNatClampNeg v11) y_111)) fun X_113 => m_nm (v11 + 1) fun y_116 => f_L_due_90 N n y_104 y_116 X_113))
set_option maxHeartbeats 4000000 in
set_option maxRecDepth 100000 in
theorem w_L_due_90 (l : Launch) (D : va_G) (a : Nat → Nat) (cy : Nat → ClassId) (hG : m_inj 138 a) (N : Nat) {p : Program} {e : Env} {s : State} {m : MethodId} {args : Array Value} {below : List Frame} {meth : Method} {c : Code} (C : m_Cx p s m args meth c cL_due 13 RL (some .int) (Cond.code yL_due cL_due 13 (some .int)) D (m_tc cy) (m_AC a) (m_WC a cy) (m_ZC a)) {r0 : Int32} {X0 : XT} : ∀ (n : Nat) (v10 : Int32) (v11 : Int32) (X : XT), f_L_due_90 N n v10 v11 X = some (r0, X0) → ∀ (H : Heap) (locs : List Loc) (ls : Array Slot), va_P D vwCl (m_WC a cy X) H → va_S (m_AC a) s.heap H locs → lv_has ls 13 [(3, .ref (a 131)), (4, .ref (a 132)), (7, .ref (a 135)), (8, .ref (a 136)), (10, .int v10), (11, .int v11)] → W p l e rm_L_due s m args below meth c H locs 0 0 (MQ below (m_QI D (m_WC a cy) (m_AC a) r0 X0) args s 0 0 (m_AC a)) (F0 m 90 ls []) := by
  have hx := C.1.1
  have hb := C.1.2.1
  intro n
  induction n with
  | zero => intro v10 v11 X hf0; rw [f_L_due_90] at hf0; cases hf0
  | succ n ih =>
    intro v10 v11 X hf0 H locs ls hP hS hl
    rw [f_L_due_90] at hf0
    refine lv_iload hx hb dL_due_90 (lv_at hl 5 rfl) ?_
    refine lv_aload_n hx hb dL_due_92 rfl (lv_at hl 0 rfl) ?_
    refine lv_bipush (v := 7) hx hb dL_due_93 (by decide) ?_
    obtain ⟨g_72, hf73⟩ := m_gd_s hf0
    clear hf0
    refine m_ild C hP mC_131 0 rfl g_72 dL_due_95 (fun y_72 e_72 => ?_)
    have hf74 := m_nm_s e_72 hf73
    clear hf73
    refine lv_icmp_ge (tgt := 148) hx hb dL_due_96 (by decide) (fun c_75 => ?_) (fun c_75 => ?_)
    · have hf76 := m_it c_75 hf74
      clear hf74
      exact w_L_due_148 l D a cy hG N C _ _ hf76 H locs ls hP hS (lv_sub hl [0, 4] rfl)
    · have hf77 := m_ie c_75 hf74
      clear hf74
      refine lv_aload hx hb dL_due_99 (lv_at hl 3 rfl) ?_
      refine lv_iload hx hb dL_due_101 (lv_at hl 5 rfl) ?_
      obtain ⟨g_92, hf93⟩ := m_gd_s hf77
      clear hf77
      refine m_ild C hP mC_136 0 rfl g_92 dL_due_103 (fun y_92 e_92 => ?_)
      have hf94 := m_nm_s e_92 hf93
      clear hf93
      refine lv_bipush (v := 7) hx hb dL_due_104 (by decide) ?_
      refine lv_iand hx hb dL_due_106 ?_
      refine lv_topi (fun y_95 e_95 => ?_)
      have hf96 := m_nm_s e_95 hf94
      clear hf94
      refine lv_iconst (v := 4) hx hb dL_due_107 (by decide) ?_
      refine lv_icmp_ge (tgt := 142) hx hb dL_due_108 (by decide) (fun c_97 => ?_) (fun c_97 => ?_)
      · have hf98 := m_it c_97 hf96
        clear hf96
        obtain ⟨y_100, e_100⟩ : ∃ y : Int32, y = v11 + 1 := ⟨_, rfl⟩
        refine lv_iinc (v := y_100) (lv' := [(11, .int y_100), (3, .ref (a 131)), (4, .ref (a 132)), (7, .ref (a 135)), (8, .ref (a 136)), (10, .int v10)]) hx hb dL_due_142 hl (k := 5) rfl (by rw [e_100]; rfl) (by decide) rfl (fun ls hl => ?_)
        have hf101 := m_nm_s e_100 hf98
        clear hf98
        refine lv_goto (tgt := 90) hx hb dL_due_145 (by decide) ?_
        exact ih _ _ _ hf101 H locs ls hP hS (lv_sub hl [1, 2, 3, 4, 5, 0] rfl)
      · have hf99 := m_ie c_97 hf96
        clear hf96
        refine lv_iload hx hb dL_due_111 (lv_at hl 4 rfl) ?_
        refine lv_iload hx hb dL_due_113 (lv_at hl 5 rfl) ?_
        refine lv_iconst (v := 5) hx hb dL_due_115 (by decide) ?_
        refine lv_aload_n hx hb dL_due_116 rfl (lv_at hl 0 rfl) ?_
        refine lv_aload hx hb dL_due_117 (lv_at hl 1 rfl) ?_
        refine lv_aload hx hb dL_due_119 (lv_at hl 2 rfl) ?_
        obtain ⟨r_102, X_102, h_102, hf103⟩ := m_bi_s hf99
        clear hf99
        refine m_callSi C [.int v11, .int 5, .ref (a 131), .ref (a 132), .ref (a 135)] [.int v10] (c_L_turns l D a cy hG N _ _ _ h_102) (m_goodS wl_L_27 wst_L_turns wn_L wc_L_turns) ⟨rfl, rfl⟩ hv_L_turns ⟨Nat.le_of_ble_eq_true rfl, Nat.le_of_ble_eq_true rfl⟩ hP hS rfl hl.1 rfl (Nat.le_of_ble_eq_true rfl) dL_due_121 (fun H locs hP hS => ?_)
        refine lv_iadd hx hb dL_due_124 ?_
        refine lv_topi (fun y_104 e_104 => ?_)
        have hf105 := m_nm_s e_104 hf103
        clear hf103
        refine lv_istore (lv' := [(10, .int y_104), (3, .ref (a 131)), (4, .ref (a 132)), (7, .ref (a 135)), (8, .ref (a 136)), (11, .int v11)]) hx hb dL_due_125 hl (by decide) rfl (fun ls hl => ?_)
        refine lv_aload hx hb dL_due_127 (lv_at hl 4 rfl) ?_
        refine lv_iload hx hb dL_due_129 (lv_at hl 5 rfl) ?_
        refine lv_aload hx hb dL_due_131 (lv_at hl 4 rfl) ?_
        refine lv_iload hx hb dL_due_133 (lv_at hl 5 rfl) ?_
        obtain ⟨g_106, hf107⟩ := m_gd_s hf105
        clear hf105
        refine m_ild C hP mC_136 0 rfl g_106 dL_due_135 (fun y_106 e_106 => ?_)
        have hf108 := m_nm_s e_106 hf107
        clear hf107
        refine lv_bipush (v := (-8)) hx hb dL_due_136 (by decide) ?_
        refine lv_iand hx hb dL_due_138 ?_
        refine lv_topi (fun y_109 e_109 => ?_)
        have hf110 := m_nm_s e_109 hf108
        clear hf108
        refine lv_iconst (v := 5) hx hb dL_due_139 (by decide) ?_
        refine lv_ior hx hb dL_due_140 ?_
        refine lv_topi (fun y_111 e_111 => ?_)
        have hf112 := m_nm_s e_111 hf110
        clear hf110
        obtain ⟨g_113, hf114⟩ := m_gd_s hf112
        clear hf112
        refine m_ist C hP hS mC_136 0 rfl g_113 mCs_136 dL_due_141 (fun X_113 e_113 H locs hP hS => ?_)
        have hf115 := m_nm_s e_113 hf114
        clear hf114
        obtain ⟨y_116, e_116⟩ : ∃ y : Int32, y = v11 + 1 := ⟨_, rfl⟩
        refine lv_iinc (v := y_116) (lv' := [(11, .int y_116), (10, .int y_104), (3, .ref (a 131)), (4, .ref (a 132)), (7, .ref (a 135)), (8, .ref (a 136))]) hx hb dL_due_142 hl (k := 5) rfl (by rw [e_116]; rfl) (by decide) rfl (fun ls hl => ?_)
        have hf117 := m_nm_s e_116 hf115
        clear hf115
        refine lv_goto (tgt := 90) hx hb dL_due_145 (by decide) ?_
        exact ih _ _ _ hf117 H locs ls hP hS (lv_sub hl [2, 3, 4, 5, 1, 0] rfl)
def f_L_due_17 (N : Nat) (u0 : Int32) (u1 : Int32) (u2 : Int32) (X : XT) : Option (Int32 × XT) := m_bi (f_L_submits N u2 u1 u0 X) fun r_133 X_133 => some (r_133, X_133)
set_option maxHeartbeats 4000000 in
set_option maxRecDepth 100000 in
theorem w_L_due_17 (l : Launch) (D : va_G) (a : Nat → Nat) (cy : Nat → ClassId) (hG : m_inj 138 a) (N : Nat) {p : Program} {e : Env} {s : State} {m : MethodId} {args : Array Value} {below : List Frame} {meth : Method} {c : Code} (C : m_Cx p s m args meth c cL_due 13 RL (some .int) (Cond.code yL_due cL_due 13 (some .int)) D (m_tc cy) (m_AC a) (m_WC a cy) (m_ZC a)) {r0 : Int32} {X0 : XT} (u0 : Int32) (u1 : Int32) (u2 : Int32) (X : XT) (hf0 : f_L_due_17 N u0 u1 u2 X = some (r0, X0)) : ∀ (H : Heap) (locs : List Loc) (ls : Array Slot), va_P D vwCl (m_WC a cy X) H → va_S (m_AC a) s.heap H locs → lv_has ls 13 [(3, .ref (a 131)), (4, .ref (a 132)), (5, .ref (a 133)), (6, .ref (a 134)), (7, .ref (a 135)), (8, .ref (a 136)), (9, .ref (a 137))] → W p l e rm_L_due s m args below meth c H locs 0 0 (MQ below (m_QI D (m_WC a cy) (m_AC a) r0 X0) args s 0 0 (m_AC a)) (F0 m 17 ls [.int u0, .int u1, .int u2]) := by
  have hx := C.1.1
  have hb := C.1.2.1
  intro H locs ls hP hS hl
  unfold f_L_due_17 at hf0
  refine lv_aload_n hx hb dL_due_17 rfl (lv_at hl 0 rfl) ?_
  refine lv_aload hx hb dL_due_18 (lv_at hl 1 rfl) ?_
  refine lv_aload hx hb dL_due_20 (lv_at hl 2 rfl) ?_
  refine lv_aload hx hb dL_due_22 (lv_at hl 3 rfl) ?_
  refine lv_aload hx hb dL_due_24 (lv_at hl 4 rfl) ?_
  refine lv_aload hx hb dL_due_26 (lv_at hl 5 rfl) ?_
  refine lv_aload hx hb dL_due_28 (lv_at hl 6 rfl) ?_
  obtain ⟨r_133, X_133, h_133, hf134⟩ := m_bi_s hf0
  clear hf0
  refine m_callSi C [.int u2, .int u1, .int u0, .ref (a 131), .ref (a 132), .ref (a 133), .ref (a 134), .ref (a 135), .ref (a 136), .ref (a 137)] [] (c_L_submits l D a cy hG N _ _ _ _ h_133) (m_goodS wl_L_46 wst_L_submits wn_L wc_L_submits) ⟨rfl, rfl⟩ hv_L_submits ⟨Nat.le_of_ble_eq_true rfl, Nat.le_of_ble_eq_true rfl⟩ hP hS rfl hl.1 rfl (Nat.le_of_ble_eq_true rfl) dL_due_30 (fun H locs hP hS => ?_)
  exact m_iret C hP hS dL_due_33 hf134
def f_L_due (N : Nat) (v0 : Int32) (v1 : Int32) (v2 : Int32) (X : XT) : Option (Int32 × XT) := if 2 ≤ v0 then (if v0 = 2 then (m_bi (f_L_ticks N v1 X) fun r_128 X_128 => some (r_128, X_128)) else (if v0 = 5 then (m_nm ((2 : Int32) + v1) fun y_118 => m_gd (m_in y_118 17) <| m_nm (X 131 (Int32.toNatClampNeg y_118)) fun y_120 => m_nm ((2 : Int32) + v1) fun y_123 => m_gd (m_in y_123 17) <| m_nm (m_up X 131 (upd (X 131) (Int32.toNatClampNeg y_123) v2)) fun X_125 => some (y_120, X_125)) else (if v0 = 6 then (f_L_due_90 N N 0 0 X) else (m_bi (f_L_open N v1 X) fun r_13 X_13 => if r_13 < 0 then (f_L_due_202 N v0 r_13 0 X_13) else (m_bi (f_L_what N r_13 X_13) fun r_67 X_67 => if r_67 = 1 then (f_L_due_202 N v0 r_13 1 X_67) else (f_L_due_202 N v0 r_13 0 X_67)))))) else (if v0 = 1 then (f_L_due_17 N 1 v2 v1 X) else (f_L_due_17 N 0 v2 v1 X))
set_option maxHeartbeats 4000000 in
set_option maxRecDepth 100000 in
theorem c_L_due (l : Launch) (D : va_G) (a : Nat → Nat) (cy : Nat → ClassId) (hG : m_inj 138 a) (N : Nat) (v0 : Int32) (v1 : Int32) (v2 : Int32) (X : XT) {r0 : Int32} {X0 : XT} (hf0 : f_L_due N v0 v1 v2 X = some (r0, X0)) : Met l yL_due (Cond.code yL_due cL_due 13 (some .int) :: m_tbl) rm_L_due (va_Pc [.int v0, .int v1, .int v2, .ref (a 131), .ref (a 132), .ref (a 133), .ref (a 134), .ref (a 135), .ref (a 136), .ref (a 137)] (m_PX D (m_tc cy) (m_WC a cy) (m_ZC a) X)) (m_QI D (m_WC a cy) (m_AC a) r0 X0) 0 0 (m_AC a) := by
  refine m_met (own := RL) hy_L_due rfl (Nat.le_of_ble_eq_true rfl) (m_wl_D hG _) m_ZC_keep ?_
  intro p e s m args below meth c C ls hl hP hS
  have hx := C.1.1
  have hb := C.1.2.1
  have hl : lv_has ls 13 [(0, .int v0), (1, .int v1), (2, .int v2), (3, .ref (a 131)), (4, .ref (a 132)), (5, .ref (a 133)), (6, .ref (a 134)), (7, .ref (a 135)), (8, .ref (a 136)), (9, .ref (a 137))] := hl
  unfold f_L_due at hf0
  suffices K : ∀ (H : Heap) (locs : List Loc), va_P D vwCl (m_WC a cy X) H → va_S (m_AC a) s.heap H locs → W p l e rm_L_due s m args below meth c H locs 0 0 (MQ below (m_QI D (m_WC a cy) (m_AC a) r0 X0) args s 0 0 (m_AC a)) (F0 m 0 ls []) from K _ _ hP hS
  clear hP hS
  intro H locs hP hS
  refine lv_iload_n hx hb dL_due_0 rfl (lv_at hl 0 rfl) ?_
  refine lv_iconst (v := 2) hx hb dL_due_1 (by decide) ?_
  refine lv_icmp_ge (tgt := 34) hx hb dL_due_2 (by decide) (fun c_1 => ?_) (fun c_1 => ?_)
  · have hf2 := m_it c_1 hf0
    clear hf0
    refine lv_iload_n hx hb dL_due_34 rfl (lv_at hl 0 rfl) ?_
    refine lv_iconst (v := 2) hx hb dL_due_35 (by decide) ?_
    refine lv_icmp_ne (tgt := 57) hx hb dL_due_36 (by decide) (fun c_4 => ?_) (fun c_4 => ?_)
    · have hf5 := m_ie c_4 hf2
      clear hf2
      refine lv_iload_n hx hb dL_due_57 rfl (lv_at hl 0 rfl) ?_
      refine lv_iconst (v := 5) hx hb dL_due_58 (by decide) ?_
      refine lv_icmp_ne (tgt := 78) hx hb dL_due_59 (by decide) (fun c_7 => ?_) (fun c_7 => ?_)
      · have hf8 := m_ie c_7 hf5
        clear hf5
        refine lv_iload_n hx hb dL_due_78 rfl (lv_at hl 0 rfl) ?_
        refine lv_bipush (v := 6) hx hb dL_due_79 (by decide) ?_
        refine lv_icmp_ne (tgt := 172) hx hb dL_due_81 (by decide) (fun c_10 => ?_) (fun c_10 => ?_)
        · have hf11 := m_ie c_10 hf8
          clear hf8
          refine lv_iload_n hx hb dL_due_172 rfl (lv_at hl 1 rfl) ?_
          refine lv_aload_n hx hb dL_due_173 rfl (lv_at hl 3 rfl) ?_
          refine lv_aload hx hb dL_due_174 (lv_at hl 4 rfl) ?_
          obtain ⟨r_13, X_13, h_13, hf14⟩ := m_bi_s hf11
          clear hf11
          refine m_callSi C [.int v1, .ref (a 131), .ref (a 132)] [] (c_L_open l D a cy hG N _ _ h_13) (m_goodS wl_L_39 wst_L_open wn_L wc_L_open) ⟨rfl, rfl⟩ hv_L_open ⟨Nat.le_of_ble_eq_true rfl, Nat.le_of_ble_eq_true rfl⟩ hP hS rfl hl.1 rfl (Nat.le_of_ble_eq_true rfl) dL_due_176 (fun H locs hP hS => ?_)
          refine lv_istore (lv' := [(10, .int r_13), (0, .int v0), (1, .int v1), (2, .int v2), (3, .ref (a 131)), (4, .ref (a 132)), (5, .ref (a 133)), (6, .ref (a 134)), (7, .ref (a 135)), (8, .ref (a 136)), (9, .ref (a 137))]) hx hb dL_due_179 hl (by decide) rfl (fun ls hl => ?_)
          refine lv_iload hx hb dL_due_181 (lv_at hl 0 rfl) ?_
          refine lv_if_lt (tgt := 201) hx hb dL_due_183 (by decide) (fun c_15 => ?_) (fun c_15 => ?_)
          · have hf16 := m_it c_15 hf14
            clear hf14
            refine lv_iconst (v := 0) hx hb dL_due_201 (by decide) ?_
            exact w_L_due_202 l D a cy hG N C _ _ _ _ hf16 H locs ls hP hS (lv_sub hl [1, 4, 5, 8, 9, 10, 0] rfl)
          · have hf17 := m_ie c_15 hf14
            clear hf14
            refine lv_iload hx hb dL_due_186 (lv_at hl 0 rfl) ?_
            refine lv_aload hx hb dL_due_188 (lv_at hl 5 rfl) ?_
            obtain ⟨r_67, X_67, h_67, hf68⟩ := m_bi_s hf17
            clear hf17
            refine m_callSi C [.int r_13, .ref (a 132)] [] (c_L_what l D a cy hG N _ _ h_67) (m_goodS wl_L_16 wst_L_what wn_L wc_L_what) ⟨rfl, rfl⟩ hv_L_what ⟨Nat.le_of_ble_eq_true rfl, Nat.le_of_ble_eq_true rfl⟩ hP hS rfl hl.1 rfl (Nat.le_of_ble_eq_true rfl) dL_due_190 (fun H locs hP hS => ?_)
            refine lv_iconst (v := 1) hx hb dL_due_193 (by decide) ?_
            refine lv_icmp_ne (tgt := 201) hx hb dL_due_194 (by decide) (fun c_69 => ?_) (fun c_69 => ?_)
            · have hf70 := m_ie c_69 hf68
              clear hf68
              refine lv_iconst (v := 0) hx hb dL_due_201 (by decide) ?_
              exact w_L_due_202 l D a cy hG N C _ _ _ _ hf70 H locs ls hP hS (lv_sub hl [1, 4, 5, 8, 9, 10, 0] rfl)
            · have hf71 := m_it c_69 hf68
              clear hf68
              refine lv_iconst (v := 1) hx hb dL_due_197 (by decide) ?_
              refine lv_goto (tgt := 202) hx hb dL_due_198 (by decide) ?_
              exact w_L_due_202 l D a cy hG N C _ _ _ _ hf71 H locs ls hP hS (lv_sub hl [1, 4, 5, 8, 9, 10, 0] rfl)
        · have hf12 := m_it c_10 hf8
          clear hf8
          refine lv_iconst (v := 0) hx hb dL_due_84 (by decide) ?_
          refine lv_istore (lv' := [(10, .int 0), (0, .int v0), (1, .int v1), (2, .int v2), (3, .ref (a 131)), (4, .ref (a 132)), (5, .ref (a 133)), (6, .ref (a 134)), (7, .ref (a 135)), (8, .ref (a 136)), (9, .ref (a 137))]) hx hb dL_due_85 hl (by decide) rfl (fun ls hl => ?_)
          refine lv_iconst (v := 0) hx hb dL_due_87 (by decide) ?_
          refine lv_istore (lv' := [(11, .int 0), (10, .int 0), (0, .int v0), (1, .int v1), (2, .int v2), (3, .ref (a 131)), (4, .ref (a 132)), (5, .ref (a 133)), (6, .ref (a 134)), (7, .ref (a 135)), (8, .ref (a 136)), (9, .ref (a 137))]) hx hb dL_due_88 hl (by decide) rfl (fun ls hl => ?_)
          exact w_L_due_90 l D a cy hG N C _ _ _ _ hf12 H locs ls hP hS (lv_sub hl [5, 6, 9, 10, 1, 0] rfl)
      · have hf9 := m_it c_7 hf5
        clear hf5
        refine lv_aload_n hx hb dL_due_62 rfl (lv_at hl 3 rfl) ?_
        refine lv_iconst (v := 2) hx hb dL_due_63 (by decide) ?_
        refine lv_iload_n hx hb dL_due_64 rfl (lv_at hl 1 rfl) ?_
        refine lv_iadd hx hb dL_due_65 ?_
        refine lv_topi (fun y_118 e_118 => ?_)
        have hf119 := m_nm_s e_118 hf9
        clear hf9
        obtain ⟨g_120, hf121⟩ := m_gd_s hf119
        clear hf119
        refine m_ild C hP mC_131 0 rfl g_120 dL_due_66 (fun y_120 e_120 => ?_)
        have hf122 := m_nm_s e_120 hf121
        clear hf121
        refine lv_istore (lv' := [(10, .int y_120), (0, .int v0), (1, .int v1), (2, .int v2), (3, .ref (a 131)), (4, .ref (a 132)), (5, .ref (a 133)), (6, .ref (a 134)), (7, .ref (a 135)), (8, .ref (a 136)), (9, .ref (a 137))]) hx hb dL_due_67 hl (by decide) rfl (fun ls hl => ?_)
        refine lv_aload_n hx hb dL_due_69 rfl (lv_at hl 4 rfl) ?_
        refine lv_iconst (v := 2) hx hb dL_due_70 (by decide) ?_
        refine lv_iload_n hx hb dL_due_71 rfl (lv_at hl 2 rfl) ?_
        refine lv_iadd hx hb dL_due_72 ?_
        refine lv_topi (fun y_123 e_123 => ?_)
        have hf124 := m_nm_s e_123 hf122
        clear hf122
        refine lv_iload_n hx hb dL_due_73 rfl (lv_at hl 3 rfl) ?_
        obtain ⟨g_125, hf126⟩ := m_gd_s hf124
        clear hf124
        refine m_ist C hP hS mC_131 0 rfl g_125 mCs_131 dL_due_74 (fun X_125 e_125 H locs hP hS => ?_)
        have hf127 := m_nm_s e_125 hf126
        clear hf126
        refine lv_iload hx hb dL_due_75 (lv_at hl 0 rfl) ?_
        exact m_iret C hP hS dL_due_77 hf127
    · have hf6 := m_it c_4 hf2
      clear hf2
      refine lv_iload_n hx hb dL_due_39 rfl (lv_at hl 1 rfl) ?_
      refine lv_aload_n hx hb dL_due_40 rfl (lv_at hl 3 rfl) ?_
      refine lv_aload hx hb dL_due_41 (lv_at hl 4 rfl) ?_
      refine lv_aload hx hb dL_due_43 (lv_at hl 5 rfl) ?_
      refine lv_aload hx hb dL_due_45 (lv_at hl 6 rfl) ?_
      refine lv_aload hx hb dL_due_47 (lv_at hl 7 rfl) ?_
      refine lv_aload hx hb dL_due_49 (lv_at hl 8 rfl) ?_
      refine lv_aload hx hb dL_due_51 (lv_at hl 9 rfl) ?_
      obtain ⟨r_128, X_128, h_128, hf129⟩ := m_bi_s hf6
      clear hf6
      refine m_callSi C [.int v1, .ref (a 131), .ref (a 132), .ref (a 133), .ref (a 134), .ref (a 135), .ref (a 136), .ref (a 137)] [] (c_L_ticks l D a cy hG N _ _ h_128) (m_goodS wl_L_50 wst_L_ticks wn_L wc_L_ticks) ⟨rfl, rfl⟩ hv_L_ticks ⟨Nat.le_of_ble_eq_true rfl, Nat.le_of_ble_eq_true rfl⟩ hP hS rfl hl.1 rfl (Nat.le_of_ble_eq_true rfl) dL_due_53 (fun H locs hP hS => ?_)
      exact m_iret C hP hS dL_due_56 hf129
  · have hf3 := m_ie c_1 hf0
    clear hf0
    refine lv_iload_n hx hb dL_due_5 rfl (lv_at hl 1 rfl) ?_
    refine lv_iload_n hx hb dL_due_6 rfl (lv_at hl 2 rfl) ?_
    refine lv_iload_n hx hb dL_due_7 rfl (lv_at hl 0 rfl) ?_
    refine lv_iconst (v := 1) hx hb dL_due_8 (by decide) ?_
    refine lv_icmp_ne (tgt := 16) hx hb dL_due_9 (by decide) (fun c_130 => ?_) (fun c_130 => ?_)
    · have hf131 := m_ie c_130 hf3
      clear hf3
      refine lv_iconst (v := 0) hx hb dL_due_16 (by decide) ?_
      exact w_L_due_17 l D a cy hG N C _ _ _ _ hf131 H locs ls hP hS (lv_sub hl [3, 4, 5, 6, 7, 8, 9] rfl)
    · have hf132 := m_it c_130 hf3
      clear hf3
      refine lv_iconst (v := 1) hx hb dL_due_12 (by decide) ?_
      refine lv_goto (tgt := 17) hx hb dL_due_13 (by decide) ?_
      exact w_L_due_17 l D a cy hG N C _ _ _ _ hf132 H locs ls hP hS (lv_sub hl [3, 4, 5, 6, 7, 8, 9] rfl)
abbrev rm_L_call : Room := { frames := 6, cells := 0, slots := 0, locals := 138 }
def f_L_call (N : Nat) (v1 : Int32) (v2 : Int32) (v3 : Int32) (X : XT) : Option (Int32 × XT) := if v1 = 0 then (if v1 = 1 then (m_bi (f_X7_submit N v2 v3 1 X) fun r_9 X_9 => some (r_9, X_9)) else (m_bi (f_X7_submit N v2 v3 0 X) fun r_7 X_7 => some (r_7, X_7))) else (if v1 = 1 then (if v1 = 1 then (m_bi (f_X7_submit N v2 v3 1 X) fun r_19 X_19 => some (r_19, X_19)) else (m_bi (f_X7_submit N v2 v3 0 X) fun r_17 X_17 => some (r_17, X_17))) else (if v1 = 2 then (m_bi (f_X7_tick N v2 X) fun r_24 X_24 => some (r_24, X_24)) else (if v1 = 3 then (m_bi (f_X7_fail N v2 X) fun r_29 X_29 => some (r_29, X_29)) else (if v1 = 4 then (m_bi (f_X7_withdraw N v2 X) fun r_34 X_34 => some (r_34, X_34)) else (if v1 = 5 then (m_bi (f_X7_set N v2 v3 X) fun r_39 X_39 => some (r_39, X_39)) else (m_bi (f_X7_crash N X) fun r_41 X_41 => some (r_41, X_41)))))))
set_option maxHeartbeats 4000000 in
set_option maxRecDepth 100000 in
theorem c_L_call (l : Launch) (D : va_G) (a : Nat → Nat) (cy : Nat → ClassId) (hG : m_inj 138 a) (N : Nat) (v1 : Int32) (v2 : Int32) (v3 : Int32) (X : XT) {r0 : Int32} {X0 : XT} (hf0 : f_L_call N v1 v2 v3 X = some (r0, X0)) : Met l yL_call (Cond.code yL_call cL_call 4 (some .int) :: m_tbl) rm_L_call (va_Pc [.ref (a 126), .int v1, .int v2, .int v3] (m_PX D (m_tc cy) (m_WC a cy) (m_ZC a) X)) (m_QI D (m_WC a cy) (m_AC a) r0 X0) 0 0 (m_AC a) := by
  refine m_met (own := RL) hy_L_call rfl (Nat.le_of_ble_eq_true rfl) (m_wl_D hG _) m_ZC_keep ?_
  intro p e s m args below meth c C ls hl hP hS
  have hx := C.1.1
  have hb := C.1.2.1
  have hl : lv_has ls 4 [(0, .ref (a 126)), (1, .int v1), (2, .int v2), (3, .int v3)] := hl
  unfold f_L_call at hf0
  suffices K : ∀ (H : Heap) (locs : List Loc), va_P D vwCl (m_WC a cy X) H → va_S (m_AC a) s.heap H locs → W p l e rm_L_call s m args below meth c H locs 0 0 (MQ below (m_QI D (m_WC a cy) (m_AC a) r0 X0) args s 0 0 (m_AC a)) (F0 m 0 ls []) from K _ _ hP hS
  clear hP hS
  intro H locs hP hS
  refine lv_iload_n hx hb dL_call_0 rfl (lv_at hl 1 rfl) ?_
  by_cases c_1 : v1 = 0
  · have hf2 := m_it c_1 hf0
    clear hf0
    refine lv_tableIn (tgt := 40) hx hb dL_call_1 (by rw [c_1]; decide) (by rw [c_1]; decide) (by rw [c_1]; rfl) (by decide) ?_
    refine lv_aload_n hx hb dL_call_40 rfl (lv_at hl 0 rfl) ?_
    refine lv_iload_n hx hb dL_call_41 rfl (lv_at hl 2 rfl) ?_
    refine lv_iload_n hx hb dL_call_42 rfl (lv_at hl 3 rfl) ?_
    refine lv_iload_n hx hb dL_call_43 rfl (lv_at hl 1 rfl) ?_
    refine lv_iconst (v := 1) hx hb dL_call_44 (by decide) ?_
    refine lv_icmp_ne (tgt := 52) hx hb dL_call_45 (by decide) (fun c_4 => ?_) (fun c_4 => ?_)
    · have hf5 := m_ie c_4 hf2
      clear hf2
      refine lv_iconst (v := 0) hx hb dL_call_52 (by decide) ?_
      obtain ⟨r_7, X_7, h_7, hf8⟩ := m_bi_s hf5
      clear hf5
      refine m_callVi (q := (RX7, TX7, 5)) C [.int v2, .int v3, .int 0] [] (c_X7_submit l D a cy hG N _ _ _ _ h_7) (m_goodV wl_L_58 wi_X7_submit ws_X7_submit wn_X7 wc_X7_submit) ⟨rfl, rfl⟩ hv_X7_submit ⟨Nat.le_of_ble_eq_true rfl, Nat.le_of_ble_eq_true rfl⟩ rfl mC_126 hP hS rfl hl.1 rfl (Nat.le_of_ble_eq_true rfl) dL_call_53 (fun H locs hP hS => ?_)
      exact m_iret C hP hS dL_call_56 hf8
    · have hf6 := m_it c_4 hf2
      clear hf2
      refine lv_iconst (v := 1) hx hb dL_call_48 (by decide) ?_
      refine lv_goto (tgt := 53) hx hb dL_call_49 (by decide) ?_
      obtain ⟨r_9, X_9, h_9, hf10⟩ := m_bi_s hf6
      clear hf6
      refine m_callVi (q := (RX7, TX7, 5)) C [.int v2, .int v3, .int 1] [] (c_X7_submit l D a cy hG N _ _ _ _ h_9) (m_goodV wl_L_58 wi_X7_submit ws_X7_submit wn_X7 wc_X7_submit) ⟨rfl, rfl⟩ hv_X7_submit ⟨Nat.le_of_ble_eq_true rfl, Nat.le_of_ble_eq_true rfl⟩ rfl mC_126 hP hS rfl hl.1 rfl (Nat.le_of_ble_eq_true rfl) dL_call_53 (fun H locs hP hS => ?_)
      exact m_iret C hP hS dL_call_56 hf10
  · have hf3 := m_ie c_1 hf0
    clear hf0
    by_cases c_11 : v1 = 1
    · have hf12 := m_it c_11 hf3
      clear hf3
      refine lv_tableIn (tgt := 40) hx hb dL_call_1 (by rw [c_11]; decide) (by rw [c_11]; decide) (by rw [c_11]; rfl) (by decide) ?_
      refine lv_aload_n hx hb dL_call_40 rfl (lv_at hl 0 rfl) ?_
      refine lv_iload_n hx hb dL_call_41 rfl (lv_at hl 2 rfl) ?_
      refine lv_iload_n hx hb dL_call_42 rfl (lv_at hl 3 rfl) ?_
      refine lv_iload_n hx hb dL_call_43 rfl (lv_at hl 1 rfl) ?_
      refine lv_iconst (v := 1) hx hb dL_call_44 (by decide) ?_
      refine lv_icmp_ne (tgt := 52) hx hb dL_call_45 (by decide) (fun c_14 => ?_) (fun c_14 => ?_)
      · have hf15 := m_ie c_14 hf12
        clear hf12
        refine lv_iconst (v := 0) hx hb dL_call_52 (by decide) ?_
        obtain ⟨r_17, X_17, h_17, hf18⟩ := m_bi_s hf15
        clear hf15
        refine m_callVi (q := (RX7, TX7, 5)) C [.int v2, .int v3, .int 0] [] (c_X7_submit l D a cy hG N _ _ _ _ h_17) (m_goodV wl_L_58 wi_X7_submit ws_X7_submit wn_X7 wc_X7_submit) ⟨rfl, rfl⟩ hv_X7_submit ⟨Nat.le_of_ble_eq_true rfl, Nat.le_of_ble_eq_true rfl⟩ rfl mC_126 hP hS rfl hl.1 rfl (Nat.le_of_ble_eq_true rfl) dL_call_53 (fun H locs hP hS => ?_)
        exact m_iret C hP hS dL_call_56 hf18
      · have hf16 := m_it c_14 hf12
        clear hf12
        refine lv_iconst (v := 1) hx hb dL_call_48 (by decide) ?_
        refine lv_goto (tgt := 53) hx hb dL_call_49 (by decide) ?_
        obtain ⟨r_19, X_19, h_19, hf20⟩ := m_bi_s hf16
        clear hf16
        refine m_callVi (q := (RX7, TX7, 5)) C [.int v2, .int v3, .int 1] [] (c_X7_submit l D a cy hG N _ _ _ _ h_19) (m_goodV wl_L_58 wi_X7_submit ws_X7_submit wn_X7 wc_X7_submit) ⟨rfl, rfl⟩ hv_X7_submit ⟨Nat.le_of_ble_eq_true rfl, Nat.le_of_ble_eq_true rfl⟩ rfl mC_126 hP hS rfl hl.1 rfl (Nat.le_of_ble_eq_true rfl) dL_call_53 (fun H locs hP hS => ?_)
        exact m_iret C hP hS dL_call_56 hf20
    · have hf13 := m_ie c_11 hf3
      clear hf3
      by_cases c_21 : v1 = 2
      · have hf22 := m_it c_21 hf13
        clear hf13
        refine lv_tableIn (tgt := 57) hx hb dL_call_1 (by rw [c_21]; decide) (by rw [c_21]; decide) (by rw [c_21]; rfl) (by decide) ?_
        refine lv_aload_n hx hb dL_call_57 rfl (lv_at hl 0 rfl) ?_
        refine lv_iload_n hx hb dL_call_58 rfl (lv_at hl 2 rfl) ?_
        obtain ⟨r_24, X_24, h_24, hf25⟩ := m_bi_s hf22
        clear hf22
        refine m_callVi (q := (RX7, TX7, 5)) C [.int v2] [] (c_X7_tick l D a cy hG N _ _ h_24) (m_goodV wl_L_64 wi_X7_tick ws_X7_tick wn_X7 wc_X7_tick) ⟨rfl, rfl⟩ hv_X7_tick ⟨Nat.le_of_ble_eq_true rfl, Nat.le_of_ble_eq_true rfl⟩ rfl mC_126 hP hS rfl hl.1 rfl (Nat.le_of_ble_eq_true rfl) dL_call_59 (fun H locs hP hS => ?_)
        exact m_iret C hP hS dL_call_62 hf25
      · have hf23 := m_ie c_21 hf13
        clear hf13
        by_cases c_26 : v1 = 3
        · have hf27 := m_it c_26 hf23
          clear hf23
          refine lv_tableIn (tgt := 63) hx hb dL_call_1 (by rw [c_26]; decide) (by rw [c_26]; decide) (by rw [c_26]; rfl) (by decide) ?_
          refine lv_aload_n hx hb dL_call_63 rfl (lv_at hl 0 rfl) ?_
          refine lv_iload_n hx hb dL_call_64 rfl (lv_at hl 2 rfl) ?_
          obtain ⟨r_29, X_29, h_29, hf30⟩ := m_bi_s hf27
          clear hf27
          refine m_callVi (q := (RX7, TX7, 5)) C [.int v2] [] (c_X7_fail l D a cy hG N _ _ h_29) (m_goodV wl_L_68 wi_X7_fail ws_X7_fail wn_X7 wc_X7_fail) ⟨rfl, rfl⟩ hv_X7_fail ⟨Nat.le_of_ble_eq_true rfl, Nat.le_of_ble_eq_true rfl⟩ rfl mC_126 hP hS rfl hl.1 rfl (Nat.le_of_ble_eq_true rfl) dL_call_65 (fun H locs hP hS => ?_)
          exact m_iret C hP hS dL_call_68 hf30
        · have hf28 := m_ie c_26 hf23
          clear hf23
          by_cases c_31 : v1 = 4
          · have hf32 := m_it c_31 hf28
            clear hf28
            refine lv_tableIn (tgt := 69) hx hb dL_call_1 (by rw [c_31]; decide) (by rw [c_31]; decide) (by rw [c_31]; rfl) (by decide) ?_
            refine lv_aload_n hx hb dL_call_69 rfl (lv_at hl 0 rfl) ?_
            refine lv_iload_n hx hb dL_call_70 rfl (lv_at hl 2 rfl) ?_
            obtain ⟨r_34, X_34, h_34, hf35⟩ := m_bi_s hf32
            clear hf32
            refine m_callVi (q := (RX7, TX7, 5)) C [.int v2] [] (c_X7_withdraw l D a cy hG N _ _ h_34) (m_goodV wl_L_71 wi_X7_withdraw ws_X7_withdraw wn_X7 wc_X7_withdraw) ⟨rfl, rfl⟩ hv_X7_withdraw ⟨Nat.le_of_ble_eq_true rfl, Nat.le_of_ble_eq_true rfl⟩ rfl mC_126 hP hS rfl hl.1 rfl (Nat.le_of_ble_eq_true rfl) dL_call_71 (fun H locs hP hS => ?_)
            exact m_iret C hP hS dL_call_74 hf35
          · have hf33 := m_ie c_31 hf28
            clear hf28
            by_cases c_36 : v1 = 5
            · have hf37 := m_it c_36 hf33
              clear hf33
              refine lv_tableIn (tgt := 75) hx hb dL_call_1 (by rw [c_36]; decide) (by rw [c_36]; decide) (by rw [c_36]; rfl) (by decide) ?_
              refine lv_aload_n hx hb dL_call_75 rfl (lv_at hl 0 rfl) ?_
              refine lv_iload_n hx hb dL_call_76 rfl (lv_at hl 2 rfl) ?_
              refine lv_iload_n hx hb dL_call_77 rfl (lv_at hl 3 rfl) ?_
              obtain ⟨r_39, X_39, h_39, hf40⟩ := m_bi_s hf37
              clear hf37
              refine m_callVi (q := (RX7, TX7, 5)) C [.int v2, .int v3] [] (c_X7_set l D a cy hG N _ _ _ h_39) (m_goodV wl_L_74 wi_X7_set ws_X7_set wn_X7 wc_X7_set) ⟨rfl, rfl⟩ hv_X7_set ⟨Nat.le_of_ble_eq_true rfl, Nat.le_of_ble_eq_true rfl⟩ rfl mC_126 hP hS rfl hl.1 rfl (Nat.le_of_ble_eq_true rfl) dL_call_78 (fun H locs hP hS => ?_)
              exact m_iret C hP hS dL_call_81 hf40
            · have hf38 := m_ie c_36 hf33
              clear hf33
              have n_1 := lv_neT (a := 0) c_1 (by decide)
              have n_11 := lv_neT (a := 1) c_11 (by decide)
              have n_21 := lv_neT (a := 2) c_21 (by decide)
              have n_26 := lv_neT (a := 3) c_26 (by decide)
              have n_31 := lv_neT (a := 4) c_31 (by decide)
              have n_36 := lv_neT (a := 5) c_36 (by decide)
              refine lv_tableOut (tgt := 82) hx hb dL_call_1 (by omega) (by decide) ?_
              refine lv_aload_n hx hb dL_call_82 rfl (lv_at hl 0 rfl) ?_
              obtain ⟨r_41, X_41, h_41, hf42⟩ := m_bi_s hf38
              clear hf38
              refine m_callVi (q := (RX7, TX7, 5)) C [] [] (c_X7_crash l D a cy hG N _ h_41) (m_goodV wl_L_78 wi_X7_crash ws_X7_crash wn_X7 wc_X7_crash) ⟨rfl, rfl⟩ hv_X7_crash ⟨Nat.le_of_ble_eq_true rfl, Nat.le_of_ble_eq_true rfl⟩ rfl mC_126 hP hS rfl hl.1 rfl (Nat.le_of_ble_eq_true rfl) dL_call_83 (fun H locs hP hS => ?_)
              exact m_iret C hP hS dL_call_86 hf42
abbrev rm_L_told : Room := { frames := 4, cells := 0, slots := 0, locals := 86 }
def f_L_told_116 (N : Nat) : Nat → Int64 → Int32 → XT → Option (Int64 × XT)
  | 0, _, _, _ => none
  | n + 1, v1, v3, X => m_bi (f_X7_total N 4 X) fun r_12 X_12 => if r_12 ≤ v3 then (some (v1, X_12)) else (m_nm ((31 : Int64) * v1) fun y_17 => m_bi (f_X7_group N v3 0 X_12) fun r_19 X_19 => m_nm (Int32.toInt64 r_19) fun y_21 => m_nm ((1000 : Int64) * y_21) fun y_23 => m_nm (y_17 + y_23) fun y_25 => m_bi (f_X7_group N v3 1 X_19) fun r_27 X_27 => m_nm (Int32.toInt64 r_27) fun y_29 => m_nm ((100 : Int64) * y_29) fun y_31 => m_nm (y_25 + y_31) fun y_33 => m_bi (f_X7_group N v3 6 X_27) fun r_35 X_35 => m_nm (Int32.toInt64 r_35) fun y_37 => m_nm ((10 : Int64) * y_37) fun y_39 => m_nm (y_33 + y_39) fun y_41 => m_bi (f_X7_group N v3 4 X_35) fun r_43 X_43 => m_nm (Int32.toInt64 r_43) fun y_45 => m_nm (y_41 + y_45) fun y_47 => m_nm (v3 + 1) fun y_49 => f_L_told_116 N n y_47 y_49 X_43)
set_option maxHeartbeats 4000000 in
set_option maxRecDepth 100000 in
theorem w_L_told_116 (l : Launch) (D : va_G) (a : Nat → Nat) (cy : Nat → ClassId) (hG : m_inj 138 a) (N : Nat) {p : Program} {e : Env} {s : State} {m : MethodId} {args : Array Value} {below : List Frame} {meth : Method} {c : Code} (C : m_Cx p s m args meth c cL_told 4 RL (some .long) (Cond.code yL_told cL_told 4 (some .long)) D (m_tc cy) (m_AC a) (m_WC a cy) (m_ZC a)) {r0 : Int64} {X0 : XT} : ∀ (n : Nat) (v1 : Int64) (v3 : Int32) (X : XT), f_L_told_116 N n v1 v3 X = some (r0, X0) → ∀ (H : Heap) (locs : List Loc) (ls : Array Slot), va_P D vwCl (m_WC a cy X) H → va_S (m_AC a) s.heap H locs → lv_has ls 4 [(0, .ref (a 126)), (1, .long v1), (3, .int v3)] → W p l e rm_L_told s m args below meth c H locs 0 0 (MQ below (m_QL D (m_WC a cy) (m_AC a) r0 X0) args s 0 0 (m_AC a)) (F0 m 116 ls []) := by
  have hx := C.1.1
  have hb := C.1.2.1
  intro n
  induction n with
  | zero => intro v1 v3 X hf0; rw [f_L_told_116] at hf0; cases hf0
  | succ n ih =>
    intro v1 v3 X hf0 H locs ls hP hS hl
    rw [f_L_told_116] at hf0
    refine lv_iload_n hx hb dL_told_116 rfl (lv_at hl 2 rfl) ?_
    refine lv_aload_n hx hb dL_told_117 rfl (lv_at hl 0 rfl) ?_
    refine lv_iconst (v := 4) hx hb dL_told_118 (by decide) ?_
    obtain ⟨r_12, X_12, h_12, hf13⟩ := m_bi_s hf0
    clear hf0
    refine m_callVi (q := (RX7, TX7, 5)) C [.int 4] [.int v3] (c_X7_total l D a cy hG N _ _ h_12) (m_goodV wl_L_89 wi_X7_total ws_X7_total wn_X7 wc_X7_total) ⟨rfl, rfl⟩ hv_X7_total ⟨Nat.le_of_ble_eq_true rfl, Nat.le_of_ble_eq_true rfl⟩ rfl mC_126 hP hS rfl hl.1 rfl (Nat.le_of_ble_eq_true rfl) dL_told_119 (fun H locs hP hS => ?_)
    refine lv_icmp_ge (tgt := 182) hx hb dL_told_122 (by decide) (fun c_14 => ?_) (fun c_14 => ?_)
    · have hf15 := m_it c_14 hf13
      clear hf13
      refine lv_lload_n hx hb dL_told_182 rfl (lv_at hl 1 rfl) ?_
      exact m_lret C hP hS dL_told_183 hf15
    · have hf16 := m_ie c_14 hf13
      clear hf13
      refine lv_ldc2 (v := 31) hx hb C.1.2.2.2.1 (m_cw C wq_L_84) dL_told_125 ?_
      refine lv_lload_n hx hb dL_told_128 rfl (lv_at hl 1 rfl) ?_
      refine lv_lmul hx hb dL_told_129 ?_
      refine lv_topl (fun y_17 e_17 => ?_)
      have hf18 := m_nm_s e_17 hf16
      clear hf16
      refine lv_ldc2 (v := 1000) hx hb C.1.2.2.2.1 (m_cw C wq_L_99) dL_told_130 ?_
      refine lv_aload_n hx hb dL_told_133 rfl (lv_at hl 0 rfl) ?_
      refine lv_iload_n hx hb dL_told_134 rfl (lv_at hl 2 rfl) ?_
      refine lv_iconst (v := 0) hx hb dL_told_135 (by decide) ?_
      obtain ⟨r_19, X_19, h_19, hf20⟩ := m_bi_s hf18
      clear hf18
      refine m_callVi (q := (RX7, TX7, 5)) C [.int v3, .int 0] [.long (1000 : Int64), .long y_17] (c_X7_group l D a cy hG N _ _ _ h_19) (m_goodV wl_L_101 wi_X7_group ws_X7_group wn_X7 wc_X7_group) ⟨rfl, rfl⟩ hv_X7_group ⟨Nat.le_of_ble_eq_true rfl, Nat.le_of_ble_eq_true rfl⟩ rfl mC_126 hP hS rfl hl.1 rfl (Nat.le_of_ble_eq_true rfl) dL_told_136 (fun H locs hP hS => ?_)
      refine lv_i2l hx hb dL_told_139 rfl ?_
      refine lv_topl (fun y_21 e_21 => ?_)
      have hf22 := m_nm_s e_21 hf20
      clear hf20
      refine lv_lmul hx hb dL_told_140 ?_
      refine lv_topl (fun y_23 e_23 => ?_)
      have hf24 := m_nm_s e_23 hf22
      clear hf22
      refine lv_ladd hx hb dL_told_141 ?_
      refine lv_topl (fun y_25 e_25 => ?_)
      have hf26 := m_nm_s e_25 hf24
      clear hf24
      refine lv_ldc2 (v := 100) hx hb C.1.2.2.2.1 (m_cw C wq_L_92) dL_told_142 ?_
      refine lv_aload_n hx hb dL_told_145 rfl (lv_at hl 0 rfl) ?_
      refine lv_iload_n hx hb dL_told_146 rfl (lv_at hl 2 rfl) ?_
      refine lv_iconst (v := 1) hx hb dL_told_147 (by decide) ?_
      obtain ⟨r_27, X_27, h_27, hf28⟩ := m_bi_s hf26
      clear hf26
      refine m_callVi (q := (RX7, TX7, 5)) C [.int v3, .int 1] [.long (100 : Int64), .long y_25] (c_X7_group l D a cy hG N _ _ _ h_27) (m_goodV wl_L_101 wi_X7_group ws_X7_group wn_X7 wc_X7_group) ⟨rfl, rfl⟩ hv_X7_group ⟨Nat.le_of_ble_eq_true rfl, Nat.le_of_ble_eq_true rfl⟩ rfl mC_126 hP hS rfl hl.1 rfl (Nat.le_of_ble_eq_true rfl) dL_told_148 (fun H locs hP hS => ?_)
      refine lv_i2l hx hb dL_told_151 rfl ?_
      refine lv_topl (fun y_29 e_29 => ?_)
      have hf30 := m_nm_s e_29 hf28
      clear hf28
      refine lv_lmul hx hb dL_told_152 ?_
      refine lv_topl (fun y_31 e_31 => ?_)
      have hf32 := m_nm_s e_31 hf30
      clear hf30
      refine lv_ladd hx hb dL_told_153 ?_
      refine lv_topl (fun y_33 e_33 => ?_)
      have hf34 := m_nm_s e_33 hf32
      clear hf32
      refine lv_ldc2 (v := 10) hx hb C.1.2.2.2.1 (m_cw C wq_L_97) dL_told_154 ?_
      refine lv_aload_n hx hb dL_told_157 rfl (lv_at hl 0 rfl) ?_
      refine lv_iload_n hx hb dL_told_158 rfl (lv_at hl 2 rfl) ?_
      refine lv_bipush (v := 6) hx hb dL_told_159 (by decide) ?_
      obtain ⟨r_35, X_35, h_35, hf36⟩ := m_bi_s hf34
      clear hf34
      refine m_callVi (q := (RX7, TX7, 5)) C [.int v3, .int 6] [.long (10 : Int64), .long y_33] (c_X7_group l D a cy hG N _ _ _ h_35) (m_goodV wl_L_101 wi_X7_group ws_X7_group wn_X7 wc_X7_group) ⟨rfl, rfl⟩ hv_X7_group ⟨Nat.le_of_ble_eq_true rfl, Nat.le_of_ble_eq_true rfl⟩ rfl mC_126 hP hS rfl hl.1 rfl (Nat.le_of_ble_eq_true rfl) dL_told_161 (fun H locs hP hS => ?_)
      refine lv_i2l hx hb dL_told_164 rfl ?_
      refine lv_topl (fun y_37 e_37 => ?_)
      have hf38 := m_nm_s e_37 hf36
      clear hf36
      refine lv_lmul hx hb dL_told_165 ?_
      refine lv_topl (fun y_39 e_39 => ?_)
      have hf40 := m_nm_s e_39 hf38
      clear hf38
      refine lv_ladd hx hb dL_told_166 ?_
      refine lv_topl (fun y_41 e_41 => ?_)
      have hf42 := m_nm_s e_41 hf40
      clear hf40
      refine lv_aload_n hx hb dL_told_167 rfl (lv_at hl 0 rfl) ?_
      refine lv_iload_n hx hb dL_told_168 rfl (lv_at hl 2 rfl) ?_
      refine lv_iconst (v := 4) hx hb dL_told_169 (by decide) ?_
      obtain ⟨r_43, X_43, h_43, hf44⟩ := m_bi_s hf42
      clear hf42
      refine m_callVi (q := (RX7, TX7, 5)) C [.int v3, .int 4] [.long y_41] (c_X7_group l D a cy hG N _ _ _ h_43) (m_goodV wl_L_101 wi_X7_group ws_X7_group wn_X7 wc_X7_group) ⟨rfl, rfl⟩ hv_X7_group ⟨Nat.le_of_ble_eq_true rfl, Nat.le_of_ble_eq_true rfl⟩ rfl mC_126 hP hS rfl hl.1 rfl (Nat.le_of_ble_eq_true rfl) dL_told_170 (fun H locs hP hS => ?_)
      refine lv_i2l hx hb dL_told_173 rfl ?_
      refine lv_topl (fun y_45 e_45 => ?_)
      have hf46 := m_nm_s e_45 hf44
      clear hf44
      refine lv_ladd hx hb dL_told_174 ?_
      refine lv_topl (fun y_47 e_47 => ?_)
      have hf48 := m_nm_s e_47 hf46
      clear hf46
      refine lv_lstore_n (lv' := [(1, .long y_47), (0, .ref (a 126)), (3, .int v3)]) hx hb dL_told_175 rfl hl (by decide) rfl (fun ls hl => ?_)
      obtain ⟨y_49, e_49⟩ : ∃ y : Int32, y = v3 + 1 := ⟨_, rfl⟩
      refine lv_iinc (v := y_49) (lv' := [(3, .int y_49), (1, .long y_47), (0, .ref (a 126))]) hx hb dL_told_176 hl (k := 2) rfl (by rw [e_49]; rfl) (by decide) rfl (fun ls hl => ?_)
      have hf50 := m_nm_s e_49 hf48
      clear hf48
      refine lv_goto (tgt := 116) hx hb dL_told_179 (by decide) ?_
      exact ih _ _ _ hf50 H locs ls hP hS (lv_sub hl [2, 1, 0] rfl)
def f_L_told_60 (N : Nat) : Nat → Int64 → Int32 → XT → Option (Int64 × XT)
  | 0, _, _, _ => none
  | n + 1, v1, v3, X => m_bi (f_X7_total N 0 X) fun r_7 X_7 => if r_7 ≤ v3 then (f_L_told_116 N N v1 0 X_7) else (m_nm ((31 : Int64) * v1) fun y_51 => m_bi (f_X7_commit N v3 3 X_7) fun r_53 X_53 => m_nm (Int32.toInt64 r_53) fun y_55 => m_nm ((100 : Int64) * y_55) fun y_57 => m_nm (y_51 + y_57) fun y_59 => m_bi (f_X7_commit N v3 6 X_53) fun r_61 X_61 => m_nm (Int32.toInt64 r_61) fun y_63 => m_nm ((10 : Int64) * y_63) fun y_65 => m_nm (y_59 + y_65) fun y_67 => m_bi (f_X7_commit N v3 5 X_61) fun r_69 X_69 => m_nm (Int32.toInt64 r_69) fun y_71 => m_nm (y_67 + y_71) fun y_73 => m_nm (v3 + 1) fun y_75 => f_L_told_60 N n y_73 y_75 X_69)
set_option maxHeartbeats 4000000 in
set_option maxRecDepth 100000 in
theorem w_L_told_60 (l : Launch) (D : va_G) (a : Nat → Nat) (cy : Nat → ClassId) (hG : m_inj 138 a) (N : Nat) {p : Program} {e : Env} {s : State} {m : MethodId} {args : Array Value} {below : List Frame} {meth : Method} {c : Code} (C : m_Cx p s m args meth c cL_told 4 RL (some .long) (Cond.code yL_told cL_told 4 (some .long)) D (m_tc cy) (m_AC a) (m_WC a cy) (m_ZC a)) {r0 : Int64} {X0 : XT} : ∀ (n : Nat) (v1 : Int64) (v3 : Int32) (X : XT), f_L_told_60 N n v1 v3 X = some (r0, X0) → ∀ (H : Heap) (locs : List Loc) (ls : Array Slot), va_P D vwCl (m_WC a cy X) H → va_S (m_AC a) s.heap H locs → lv_has ls 4 [(0, .ref (a 126)), (1, .long v1), (3, .int v3)] → W p l e rm_L_told s m args below meth c H locs 0 0 (MQ below (m_QL D (m_WC a cy) (m_AC a) r0 X0) args s 0 0 (m_AC a)) (F0 m 60 ls []) := by
  have hx := C.1.1
  have hb := C.1.2.1
  intro n
  induction n with
  | zero => intro v1 v3 X hf0; rw [f_L_told_60] at hf0; cases hf0
  | succ n ih =>
    intro v1 v3 X hf0 H locs ls hP hS hl
    rw [f_L_told_60] at hf0
    refine lv_iload_n hx hb dL_told_60 rfl (lv_at hl 2 rfl) ?_
    refine lv_aload_n hx hb dL_told_61 rfl (lv_at hl 0 rfl) ?_
    refine lv_iconst (v := 0) hx hb dL_told_62 (by decide) ?_
    obtain ⟨r_7, X_7, h_7, hf8⟩ := m_bi_s hf0
    clear hf0
    refine m_callVi (q := (RX7, TX7, 5)) C [.int 0] [.int v3] (c_X7_total l D a cy hG N _ _ h_7) (m_goodV wl_L_89 wi_X7_total ws_X7_total wn_X7 wc_X7_total) ⟨rfl, rfl⟩ hv_X7_total ⟨Nat.le_of_ble_eq_true rfl, Nat.le_of_ble_eq_true rfl⟩ rfl mC_126 hP hS rfl hl.1 rfl (Nat.le_of_ble_eq_true rfl) dL_told_63 (fun H locs hP hS => ?_)
    refine lv_icmp_ge (tgt := 114) hx hb dL_told_66 (by decide) (fun c_9 => ?_) (fun c_9 => ?_)
    · have hf10 := m_it c_9 hf8
      clear hf8
      refine lv_iconst (v := 0) hx hb dL_told_114 (by decide) ?_
      refine lv_istore_n (lv' := [(3, .int 0), (0, .ref (a 126)), (1, .long v1)]) hx hb dL_told_115 rfl hl (by decide) rfl (fun ls hl => ?_)
      exact w_L_told_116 l D a cy hG N C _ _ _ _ hf10 H locs ls hP hS (lv_sub hl [1, 2, 0] rfl)
    · have hf11 := m_ie c_9 hf8
      clear hf8
      refine lv_ldc2 (v := 31) hx hb C.1.2.2.2.1 (m_cw C wq_L_84) dL_told_69 ?_
      refine lv_lload_n hx hb dL_told_72 rfl (lv_at hl 1 rfl) ?_
      refine lv_lmul hx hb dL_told_73 ?_
      refine lv_topl (fun y_51 e_51 => ?_)
      have hf52 := m_nm_s e_51 hf11
      clear hf11
      refine lv_ldc2 (v := 100) hx hb C.1.2.2.2.1 (m_cw C wq_L_92) dL_told_74 ?_
      refine lv_aload_n hx hb dL_told_77 rfl (lv_at hl 0 rfl) ?_
      refine lv_iload_n hx hb dL_told_78 rfl (lv_at hl 2 rfl) ?_
      refine lv_iconst (v := 3) hx hb dL_told_79 (by decide) ?_
      obtain ⟨r_53, X_53, h_53, hf54⟩ := m_bi_s hf52
      clear hf52
      refine m_callVi (q := (RX7, TX7, 5)) C [.int v3, .int 3] [.long (100 : Int64), .long y_51] (c_X7_commit l D a cy hG N _ _ _ h_53) (m_goodV wl_L_94 wi_X7_commit ws_X7_commit wn_X7 wc_X7_commit) ⟨rfl, rfl⟩ hv_X7_commit ⟨Nat.le_of_ble_eq_true rfl, Nat.le_of_ble_eq_true rfl⟩ rfl mC_126 hP hS rfl hl.1 rfl (Nat.le_of_ble_eq_true rfl) dL_told_80 (fun H locs hP hS => ?_)
      refine lv_i2l hx hb dL_told_83 rfl ?_
      refine lv_topl (fun y_55 e_55 => ?_)
      have hf56 := m_nm_s e_55 hf54
      clear hf54
      refine lv_lmul hx hb dL_told_84 ?_
      refine lv_topl (fun y_57 e_57 => ?_)
      have hf58 := m_nm_s e_57 hf56
      clear hf56
      refine lv_ladd hx hb dL_told_85 ?_
      refine lv_topl (fun y_59 e_59 => ?_)
      have hf60 := m_nm_s e_59 hf58
      clear hf58
      refine lv_ldc2 (v := 10) hx hb C.1.2.2.2.1 (m_cw C wq_L_97) dL_told_86 ?_
      refine lv_aload_n hx hb dL_told_89 rfl (lv_at hl 0 rfl) ?_
      refine lv_iload_n hx hb dL_told_90 rfl (lv_at hl 2 rfl) ?_
      refine lv_bipush (v := 6) hx hb dL_told_91 (by decide) ?_
      obtain ⟨r_61, X_61, h_61, hf62⟩ := m_bi_s hf60
      clear hf60
      refine m_callVi (q := (RX7, TX7, 5)) C [.int v3, .int 6] [.long (10 : Int64), .long y_59] (c_X7_commit l D a cy hG N _ _ _ h_61) (m_goodV wl_L_94 wi_X7_commit ws_X7_commit wn_X7 wc_X7_commit) ⟨rfl, rfl⟩ hv_X7_commit ⟨Nat.le_of_ble_eq_true rfl, Nat.le_of_ble_eq_true rfl⟩ rfl mC_126 hP hS rfl hl.1 rfl (Nat.le_of_ble_eq_true rfl) dL_told_93 (fun H locs hP hS => ?_)
      refine lv_i2l hx hb dL_told_96 rfl ?_
      refine lv_topl (fun y_63 e_63 => ?_)
      have hf64 := m_nm_s e_63 hf62
      clear hf62
      refine lv_lmul hx hb dL_told_97 ?_
      refine lv_topl (fun y_65 e_65 => ?_)
      have hf66 := m_nm_s e_65 hf64
      clear hf64
      refine lv_ladd hx hb dL_told_98 ?_
      refine lv_topl (fun y_67 e_67 => ?_)
      have hf68 := m_nm_s e_67 hf66
      clear hf66
      refine lv_aload_n hx hb dL_told_99 rfl (lv_at hl 0 rfl) ?_
      refine lv_iload_n hx hb dL_told_100 rfl (lv_at hl 2 rfl) ?_
      refine lv_iconst (v := 5) hx hb dL_told_101 (by decide) ?_
      obtain ⟨r_69, X_69, h_69, hf70⟩ := m_bi_s hf68
      clear hf68
      refine m_callVi (q := (RX7, TX7, 5)) C [.int v3, .int 5] [.long y_67] (c_X7_commit l D a cy hG N _ _ _ h_69) (m_goodV wl_L_94 wi_X7_commit ws_X7_commit wn_X7 wc_X7_commit) ⟨rfl, rfl⟩ hv_X7_commit ⟨Nat.le_of_ble_eq_true rfl, Nat.le_of_ble_eq_true rfl⟩ rfl mC_126 hP hS rfl hl.1 rfl (Nat.le_of_ble_eq_true rfl) dL_told_102 (fun H locs hP hS => ?_)
      refine lv_i2l hx hb dL_told_105 rfl ?_
      refine lv_topl (fun y_71 e_71 => ?_)
      have hf72 := m_nm_s e_71 hf70
      clear hf70
      refine lv_ladd hx hb dL_told_106 ?_
      refine lv_topl (fun y_73 e_73 => ?_)
      have hf74 := m_nm_s e_73 hf72
      clear hf72
      refine lv_lstore_n (lv' := [(1, .long y_73), (0, .ref (a 126)), (3, .int v3)]) hx hb dL_told_107 rfl hl (by decide) rfl (fun ls hl => ?_)
      obtain ⟨y_75, e_75⟩ : ∃ y : Int32, y = v3 + 1 := ⟨_, rfl⟩
      refine lv_iinc (v := y_75) (lv' := [(3, .int y_75), (1, .long y_73), (0, .ref (a 126))]) hx hb dL_told_108 hl (k := 2) rfl (by rw [e_75]; rfl) (by decide) rfl (fun ls hl => ?_)
      have hf76 := m_nm_s e_75 hf74
      clear hf74
      refine lv_goto (tgt := 60) hx hb dL_told_111 (by decide) ?_
      exact ih _ _ _ hf76 H locs ls hP hS (lv_sub hl [2, 1, 0] rfl)
def f_L_told_33 (N : Nat) : Nat → Int64 → Int32 → XT → Option (Int64 × XT)
  | 0, _, _, _ => none
  | n + 1, v1, v3, X => if 8 ≤ v3 then (f_L_told_60 N N v1 0 X) else (m_nm ((31 : Int64) * v1) fun y_77 => m_bi (f_X7_total N v3 X) fun r_79 X_79 => m_nm (Int32.toInt64 r_79) fun y_81 => m_nm (y_77 + y_81) fun y_83 => m_nm (v3 + 1) fun y_85 => f_L_told_33 N n y_83 y_85 X_79)
set_option maxHeartbeats 4000000 in
set_option maxRecDepth 100000 in
theorem w_L_told_33 (l : Launch) (D : va_G) (a : Nat → Nat) (cy : Nat → ClassId) (hG : m_inj 138 a) (N : Nat) {p : Program} {e : Env} {s : State} {m : MethodId} {args : Array Value} {below : List Frame} {meth : Method} {c : Code} (C : m_Cx p s m args meth c cL_told 4 RL (some .long) (Cond.code yL_told cL_told 4 (some .long)) D (m_tc cy) (m_AC a) (m_WC a cy) (m_ZC a)) {r0 : Int64} {X0 : XT} : ∀ (n : Nat) (v1 : Int64) (v3 : Int32) (X : XT), f_L_told_33 N n v1 v3 X = some (r0, X0) → ∀ (H : Heap) (locs : List Loc) (ls : Array Slot), va_P D vwCl (m_WC a cy X) H → va_S (m_AC a) s.heap H locs → lv_has ls 4 [(0, .ref (a 126)), (1, .long v1), (3, .int v3)] → W p l e rm_L_told s m args below meth c H locs 0 0 (MQ below (m_QL D (m_WC a cy) (m_AC a) r0 X0) args s 0 0 (m_AC a)) (F0 m 33 ls []) := by
  have hx := C.1.1
  have hb := C.1.2.1
  intro n
  induction n with
  | zero => intro v1 v3 X hf0; rw [f_L_told_33] at hf0; cases hf0
  | succ n ih =>
    intro v1 v3 X hf0 H locs ls hP hS hl
    rw [f_L_told_33] at hf0
    refine lv_iload_n hx hb dL_told_33 rfl (lv_at hl 2 rfl) ?_
    refine lv_bipush (v := 8) hx hb dL_told_34 (by decide) ?_
    refine lv_icmp_ge (tgt := 58) hx hb dL_told_36 (by decide) (fun c_4 => ?_) (fun c_4 => ?_)
    · have hf5 := m_it c_4 hf0
      clear hf0
      refine lv_iconst (v := 0) hx hb dL_told_58 (by decide) ?_
      refine lv_istore_n (lv' := [(3, .int 0), (0, .ref (a 126)), (1, .long v1)]) hx hb dL_told_59 rfl hl (by decide) rfl (fun ls hl => ?_)
      exact w_L_told_60 l D a cy hG N C _ _ _ _ hf5 H locs ls hP hS (lv_sub hl [1, 2, 0] rfl)
    · have hf6 := m_ie c_4 hf0
      clear hf0
      refine lv_ldc2 (v := 31) hx hb C.1.2.2.2.1 (m_cw C wq_L_84) dL_told_39 ?_
      refine lv_lload_n hx hb dL_told_42 rfl (lv_at hl 1 rfl) ?_
      refine lv_lmul hx hb dL_told_43 ?_
      refine lv_topl (fun y_77 e_77 => ?_)
      have hf78 := m_nm_s e_77 hf6
      clear hf6
      refine lv_aload_n hx hb dL_told_44 rfl (lv_at hl 0 rfl) ?_
      refine lv_iload_n hx hb dL_told_45 rfl (lv_at hl 2 rfl) ?_
      obtain ⟨r_79, X_79, h_79, hf80⟩ := m_bi_s hf78
      clear hf78
      refine m_callVi (q := (RX7, TX7, 5)) C [.int v3] [.long y_77] (c_X7_total l D a cy hG N _ _ h_79) (m_goodV wl_L_89 wi_X7_total ws_X7_total wn_X7 wc_X7_total) ⟨rfl, rfl⟩ hv_X7_total ⟨Nat.le_of_ble_eq_true rfl, Nat.le_of_ble_eq_true rfl⟩ rfl mC_126 hP hS rfl hl.1 rfl (Nat.le_of_ble_eq_true rfl) dL_told_46 (fun H locs hP hS => ?_)
      refine lv_i2l hx hb dL_told_49 rfl ?_
      refine lv_topl (fun y_81 e_81 => ?_)
      have hf82 := m_nm_s e_81 hf80
      clear hf80
      refine lv_ladd hx hb dL_told_50 ?_
      refine lv_topl (fun y_83 e_83 => ?_)
      have hf84 := m_nm_s e_83 hf82
      clear hf82
      refine lv_lstore_n (lv' := [(1, .long y_83), (0, .ref (a 126)), (3, .int v3)]) hx hb dL_told_51 rfl hl (by decide) rfl (fun ls hl => ?_)
      obtain ⟨y_85, e_85⟩ : ∃ y : Int32, y = v3 + 1 := ⟨_, rfl⟩
      refine lv_iinc (v := y_85) (lv' := [(3, .int y_85), (1, .long y_83), (0, .ref (a 126))]) hx hb dL_told_52 hl (k := 2) rfl (by rw [e_85]; rfl) (by decide) rfl (fun ls hl => ?_)
      have hf86 := m_nm_s e_85 hf84
      clear hf84
      refine lv_goto (tgt := 33) hx hb dL_told_55 (by decide) ?_
      exact ih _ _ _ hf86 H locs ls hP hS (lv_sub hl [2, 1, 0] rfl)
def f_L_told_6 (N : Nat) : Nat → Int64 → Int32 → XT → Option (Int64 × XT)
  | 0, _, _, _ => none
  | n + 1, v1, v3, X => if 10 ≤ v3 then (f_L_told_33 N N v1 0 X) else (m_nm ((31 : Int64) * v1) fun y_87 => m_bi (f_X7_count N v3 X) fun r_89 X_89 => m_nm (Int32.toInt64 r_89) fun y_91 => m_nm (y_87 + y_91) fun y_93 => m_nm (v3 + 1) fun y_95 => f_L_told_6 N n y_93 y_95 X_89)
set_option maxHeartbeats 4000000 in
set_option maxRecDepth 100000 in
theorem w_L_told_6 (l : Launch) (D : va_G) (a : Nat → Nat) (cy : Nat → ClassId) (hG : m_inj 138 a) (N : Nat) {p : Program} {e : Env} {s : State} {m : MethodId} {args : Array Value} {below : List Frame} {meth : Method} {c : Code} (C : m_Cx p s m args meth c cL_told 4 RL (some .long) (Cond.code yL_told cL_told 4 (some .long)) D (m_tc cy) (m_AC a) (m_WC a cy) (m_ZC a)) {r0 : Int64} {X0 : XT} : ∀ (n : Nat) (v1 : Int64) (v3 : Int32) (X : XT), f_L_told_6 N n v1 v3 X = some (r0, X0) → ∀ (H : Heap) (locs : List Loc) (ls : Array Slot), va_P D vwCl (m_WC a cy X) H → va_S (m_AC a) s.heap H locs → lv_has ls 4 [(0, .ref (a 126)), (1, .long v1), (3, .int v3)] → W p l e rm_L_told s m args below meth c H locs 0 0 (MQ below (m_QL D (m_WC a cy) (m_AC a) r0 X0) args s 0 0 (m_AC a)) (F0 m 6 ls []) := by
  have hx := C.1.1
  have hb := C.1.2.1
  intro n
  induction n with
  | zero => intro v1 v3 X hf0; rw [f_L_told_6] at hf0; cases hf0
  | succ n ih =>
    intro v1 v3 X hf0 H locs ls hP hS hl
    rw [f_L_told_6] at hf0
    refine lv_iload_n hx hb dL_told_6 rfl (lv_at hl 2 rfl) ?_
    refine lv_bipush (v := 10) hx hb dL_told_7 (by decide) ?_
    refine lv_icmp_ge (tgt := 31) hx hb dL_told_9 (by decide) (fun c_1 => ?_) (fun c_1 => ?_)
    · have hf2 := m_it c_1 hf0
      clear hf0
      refine lv_iconst (v := 0) hx hb dL_told_31 (by decide) ?_
      refine lv_istore_n (lv' := [(3, .int 0), (0, .ref (a 126)), (1, .long v1)]) hx hb dL_told_32 rfl hl (by decide) rfl (fun ls hl => ?_)
      exact w_L_told_33 l D a cy hG N C _ _ _ _ hf2 H locs ls hP hS (lv_sub hl [1, 2, 0] rfl)
    · have hf3 := m_ie c_1 hf0
      clear hf0
      refine lv_ldc2 (v := 31) hx hb C.1.2.2.2.1 (m_cw C wq_L_84) dL_told_12 ?_
      refine lv_lload_n hx hb dL_told_15 rfl (lv_at hl 1 rfl) ?_
      refine lv_lmul hx hb dL_told_16 ?_
      refine lv_topl (fun y_87 e_87 => ?_)
      have hf88 := m_nm_s e_87 hf3
      clear hf3
      refine lv_aload_n hx hb dL_told_17 rfl (lv_at hl 0 rfl) ?_
      refine lv_iload_n hx hb dL_told_18 rfl (lv_at hl 2 rfl) ?_
      obtain ⟨r_89, X_89, h_89, hf90⟩ := m_bi_s hf88
      clear hf88
      refine m_callVi (q := (RX7, TX7, 5)) C [.int v3] [.long y_87] (c_X7_count l D a cy hG N _ _ h_89) (m_goodV wl_L_86 wi_X7_count ws_X7_count wn_X7 wc_X7_count) ⟨rfl, rfl⟩ hv_X7_count ⟨Nat.le_of_ble_eq_true rfl, Nat.le_of_ble_eq_true rfl⟩ rfl mC_126 hP hS rfl hl.1 rfl (Nat.le_of_ble_eq_true rfl) dL_told_19 (fun H locs hP hS => ?_)
      refine lv_i2l hx hb dL_told_22 rfl ?_
      refine lv_topl (fun y_91 e_91 => ?_)
      have hf92 := m_nm_s e_91 hf90
      clear hf90
      refine lv_ladd hx hb dL_told_23 ?_
      refine lv_topl (fun y_93 e_93 => ?_)
      have hf94 := m_nm_s e_93 hf92
      clear hf92
      refine lv_lstore_n (lv' := [(1, .long y_93), (0, .ref (a 126)), (3, .int v3)]) hx hb dL_told_24 rfl hl (by decide) rfl (fun ls hl => ?_)
      obtain ⟨y_95, e_95⟩ : ∃ y : Int32, y = v3 + 1 := ⟨_, rfl⟩
      refine lv_iinc (v := y_95) (lv' := [(3, .int y_95), (1, .long y_93), (0, .ref (a 126))]) hx hb dL_told_25 hl (k := 2) rfl (by rw [e_95]; rfl) (by decide) rfl (fun ls hl => ?_)
      have hf96 := m_nm_s e_95 hf94
      clear hf94
      refine lv_goto (tgt := 6) hx hb dL_told_28 (by decide) ?_
      exact ih _ _ _ hf96 H locs ls hP hS (lv_sub hl [2, 1, 0] rfl)
def f_L_told (N : Nat) (X : XT) : Option (Int64 × XT) := f_L_told_6 N N (113 : Int64) 0 X
set_option maxHeartbeats 4000000 in
set_option maxRecDepth 100000 in
theorem c_L_told (l : Launch) (D : va_G) (a : Nat → Nat) (cy : Nat → ClassId) (hG : m_inj 138 a) (N : Nat) (X : XT) {r0 : Int64} {X0 : XT} (hf0 : f_L_told N X = some (r0, X0)) : Met l yL_told (Cond.code yL_told cL_told 4 (some .long) :: m_tbl) rm_L_told (va_Pc [.ref (a 126)] (m_PX D (m_tc cy) (m_WC a cy) (m_ZC a) X)) (m_QL D (m_WC a cy) (m_AC a) r0 X0) 0 0 (m_AC a) := by
  refine m_met (own := RL) hy_L_told rfl (Nat.le_of_ble_eq_true rfl) (m_wl_D hG _) m_ZC_keep ?_
  intro p e s m args below meth c C ls hl hP hS
  have hx := C.1.1
  have hb := C.1.2.1
  have hl : lv_has ls 4 [(0, .ref (a 126))] := hl
  unfold f_L_told at hf0
  suffices K : ∀ (H : Heap) (locs : List Loc), va_P D vwCl (m_WC a cy X) H → va_S (m_AC a) s.heap H locs → W p l e rm_L_told s m args below meth c H locs 0 0 (MQ below (m_QL D (m_WC a cy) (m_AC a) r0 X0) args s 0 0 (m_AC a)) (F0 m 0 ls []) from K _ _ hP hS
  clear hP hS
  intro H locs hP hS
  refine lv_ldc2 (v := 113) hx hb C.1.2.2.2.1 (m_cw C wq_L_82) dL_told_0 ?_
  refine lv_lstore_n (lv' := [(1, .long (113 : Int64)), (0, .ref (a 126))]) hx hb dL_told_3 rfl hl (by decide) rfl (fun ls hl => ?_)
  refine lv_iconst (v := 0) hx hb dL_told_4 (by decide) ?_
  refine lv_istore_n (lv' := [(3, .int 0), (1, .long (113 : Int64)), (0, .ref (a 126))]) hx hb dL_told_5 rfl hl (by decide) rfl (fun ls hl => ?_)
  exact w_L_told_6 l D a cy hG N C _ _ _ _ hf0 H locs ls hP hS (lv_sub hl [2, 1, 0] rfl)
