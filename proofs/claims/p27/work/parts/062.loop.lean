-- written by wip/gen/gen27.py
def f_L_law_508 (xs : Nat → Int32) (L N : Nat) (k0 : Int32 → XT → Option (Int32 × XT)) (v9 : Int32) (X : XT) : Option (Int32 × XT) := m_nm (v9 + 1) fun y_92 => k0 y_92 X
set_option maxHeartbeats 4000000 in
set_option maxRecDepth 100000 in
theorem w_L_law_508 (l : Launch) (D : va_G) (a : Nat → Nat) (cy : Nat → ClassId) (N : Nat) {p : Program} {e : Env} {s : State} {m : MethodId} {below : List Frame} {meth : Method} {c : Code} {b L : Nat} {xs : Nat → Int32} (hL : L ≤ 260) (K : lw_K p s m meth c b L xs D a cy) {X0 : XT} (k0 : Int32 → XT → Option (Int32 × XT)) (kb : ∀ (v9 : Int32) (X : XT), k0 v9 X = some (1, X0) → ∀ (d0 : Drawn), s.drawn.sameBut d0 lw_cs → ∀ (H : Heap) (locs : List Loc) (ls : Array Slot), va_P D vwCl (m_WC a cy X) H → va_S (lw_A0 s) s.heap H locs → lv_has ls 19 [(0, .ref b), (1, .ref (a 126)), (2, .ref (a 131)), (3, .ref (a 132)), (4, .ref (a 133)), (5, .ref (a 134)), (6, .ref (a 135)), (7, .ref (a 136)), (8, .ref (a 137)), (9, .int v9)] → W p l e room_1 (s.setDrawn d0) m #[Value.ref b] below meth c H locs 600000 7302250 (lw_Z below #[Value.ref b] s) (F0 m 85 ls [])) (v9 : Int32) (X : XT) (hf0 : f_L_law_508 xs L N k0 v9 X = some (1, X0)) : ∀ (d0 : Drawn), s.drawn.sameBut d0 lw_cs → ∀ (H : Heap) (locs : List Loc) (ls : Array Slot), va_P D vwCl (m_WC a cy X) H → va_S (lw_A0 s) s.heap H locs → lv_has ls 19 [(0, .ref b), (1, .ref (a 126)), (2, .ref (a 131)), (3, .ref (a 132)), (4, .ref (a 133)), (5, .ref (a 134)), (6, .ref (a 135)), (7, .ref (a 136)), (8, .ref (a 137)), (9, .int v9)] → W p l e room_1 (s.setDrawn d0) m #[Value.ref b] below meth c H locs 600000 7302250 (lw_Z below #[Value.ref b] s) (F0 m 508 ls []) := by
  have hx := K.1.1
  have hb := K.1.2.1
  have hr := K.1.2.2.1
  have hlocks := K.1.2.2.2.2.2.2.2.2.1
  intro d0 hd0 H locs ls hP hS hl
  unfold f_L_law_508 at hf0
  obtain ⟨y_92, e_92⟩ : ∃ y : Int32, y = v9 + 1 := ⟨_, rfl⟩
  refine lv_iinc (v := y_92) (lv' := [(9, .int y_92), (0, .ref b), (1, .ref (a 126)), (2, .ref (a 131)), (3, .ref (a 132)), (4, .ref (a 133)), (5, .ref (a 134)), (6, .ref (a 135)), (7, .ref (a 136)), (8, .ref (a 137))]) hx hb dL_law_508 hl (k := 9) rfl (by rw [e_92]; rfl) (by decide) rfl (fun ls hl => ?_)
  have hf93 := m_nm_s e_92 hf0
  clear hf0
  refine lv_goto (tgt := 85) hx hb dL_law_511 (by decide) ?_
  exact kb _ _ hf93 d0 hd0 H locs ls hP hS (lv_sub hl [1, 2, 3, 4, 5, 6, 7, 8, 9, 0] rfl)
def f_L_law_482 (xs : Nat → Int32) (L N : Nat) (k0 : Int32 → XT → Option (Int32 × XT)) (v9 : Int32) (v11 : Int32) (X : XT) : Option (Int32 × XT) := m_nm (v11 >>> ((6 : Int32) &&& 31)) fun y_85 => m_bi (f_L_isSo N y_85 X) fun r_87 X_87 => if r_87 = 0 then (some (0, X_87)) else (f_L_law_508 xs L N k0 v9 X_87)
set_option maxHeartbeats 4000000 in
set_option maxRecDepth 100000 in
theorem w_L_law_482 (l : Launch) (D : va_G) (a : Nat → Nat) (cy : Nat → ClassId) (N : Nat) {p : Program} {e : Env} {s : State} {m : MethodId} {below : List Frame} {meth : Method} {c : Code} {b L : Nat} {xs : Nat → Int32} (hL : L ≤ 260) (K : lw_K p s m meth c b L xs D a cy) {X0 : XT} (k0 : Int32 → XT → Option (Int32 × XT)) (kb : ∀ (v9 : Int32) (X : XT), k0 v9 X = some (1, X0) → ∀ (d0 : Drawn), s.drawn.sameBut d0 lw_cs → ∀ (H : Heap) (locs : List Loc) (ls : Array Slot), va_P D vwCl (m_WC a cy X) H → va_S (lw_A0 s) s.heap H locs → lv_has ls 19 [(0, .ref b), (1, .ref (a 126)), (2, .ref (a 131)), (3, .ref (a 132)), (4, .ref (a 133)), (5, .ref (a 134)), (6, .ref (a 135)), (7, .ref (a 136)), (8, .ref (a 137)), (9, .int v9)] → W p l e room_1 (s.setDrawn d0) m #[Value.ref b] below meth c H locs 600000 7302250 (lw_Z below #[Value.ref b] s) (F0 m 85 ls [])) (v9 : Int32) (v11 : Int32) (X : XT) (hf0 : f_L_law_482 xs L N k0 v9 v11 X = some (1, X0)) : ∀ (d0 : Drawn), s.drawn.sameBut d0 lw_cs → ∀ (H : Heap) (locs : List Loc) (ls : Array Slot), va_P D vwCl (m_WC a cy X) H → va_S (lw_A0 s) s.heap H locs → lv_has ls 19 [(0, .ref b), (1, .ref (a 126)), (2, .ref (a 131)), (3, .ref (a 132)), (4, .ref (a 133)), (5, .ref (a 134)), (6, .ref (a 135)), (7, .ref (a 136)), (8, .ref (a 137)), (9, .int v9), (11, .int v11)] → W p l e room_1 (s.setDrawn d0) m #[Value.ref b] below meth c H locs 600000 7302250 (lw_Z below #[Value.ref b] s) (F0 m 482 ls []) := by
  have hx := K.1.1
  have hb := K.1.2.1
  have hr := K.1.2.2.1
  have hlocks := K.1.2.2.2.2.2.2.2.2.1
  intro d0 hd0 H locs ls hP hS hl
  unfold f_L_law_482 at hf0
  refine lv_aload_n hx hb dL_law_482 rfl (lv_at hl 1 rfl) ?_
  refine lv_iload hx hb dL_law_483 (lv_at hl 10 rfl) ?_
  refine lv_bipush (v := 6) hx hb dL_law_485 (by decide) ?_
  refine lv_ishr hx hb dL_law_487 ?_
  refine lv_topi (fun y_85 e_85 => ?_)
  have hf86 := m_nm_s e_85 hf0
  clear hf0
  refine lv_aload_n hx hb dL_law_488 rfl (lv_at hl 2 rfl) ?_
  refine lv_aload_n hx hb dL_law_489 rfl (lv_at hl 3 rfl) ?_
  refine lv_aload hx hb dL_law_490 (lv_at hl 4 rfl) ?_
  refine lv_aload hx hb dL_law_492 (lv_at hl 5 rfl) ?_
  refine lv_aload hx hb dL_law_494 (lv_at hl 6 rfl) ?_
  refine lv_aload hx hb dL_law_496 (lv_at hl 7 rfl) ?_
  refine lv_aload hx hb dL_law_498 (lv_at hl 8 rfl) ?_
  obtain ⟨r_87, X_87, h_87, hf88⟩ := m_bi_s hf86
  clear hf86
  refine lw_callSd hd0 K [.ref (a 126), .int y_85, .ref (a 131), .ref (a 132), .ref (a 133), .ref (a 134), .ref (a 135), .ref (a 136), .ref (a 137)] [] (c_L_isSo l D a cy K.2.2.2.2 N _ _ h_87) (lw_goodS wl_L_143 wst_L_isSo wn_L wc_L_isSo) ⟨rfl, rfl⟩ hv_L_isSo ⟨Nat.le_of_ble_eq_true rfl, Nat.le_of_ble_eq_true rfl⟩ hP hS rfl hl.1 rfl (Nat.le_of_ble_eq_true rfl) dL_law_500 (fun d0 hd0 H locs hP hS => ?_)
  refine lv_if_ne (tgt := 508) hx hb dL_law_503 (by decide) (fun c_89 => ?_) (fun c_89 => ?_)
  · have hf90 := m_ie c_89 hf88
    clear hf88
    exact w_L_law_508 l D a cy N hL K _ kb _ _ hf90 d0 hd0 H locs ls hP hS (lv_sub hl [0, 1, 2, 3, 4, 5, 6, 7, 8, 9] rfl)
  · have hf91 := m_it c_89 hf88
    clear hf88
    refine lv_iconst (v := 0) hx hb dL_law_506 (by decide) ?_
    exact absurd (show (0 : Int32) = 1 from congrArg Prod.fst (Option.some.inj hf91)) (by decide)
def f_L_law_456 (xs : Nat → Int32) (L N : Nat) (k0 : Int32 → XT → Option (Int32 × XT)) (v9 : Int32) (v11 : Int32) (v12 : Int32) (v13 : Int32) (v14 : Int32) (v17 : Int32) (X : XT) : Option (Int32 × XT) := m_bi (f_L_due N v12 v13 v14 X) fun r_80 X_80 => if v17 = r_80 then (f_L_law_482 xs L N k0 v9 v11 X_80) else (some (0, X_80))
set_option maxHeartbeats 4000000 in
set_option maxRecDepth 100000 in
theorem w_L_law_456 (l : Launch) (D : va_G) (a : Nat → Nat) (cy : Nat → ClassId) (N : Nat) {p : Program} {e : Env} {s : State} {m : MethodId} {below : List Frame} {meth : Method} {c : Code} {b L : Nat} {xs : Nat → Int32} (hL : L ≤ 260) (K : lw_K p s m meth c b L xs D a cy) {X0 : XT} (k0 : Int32 → XT → Option (Int32 × XT)) (kb : ∀ (v9 : Int32) (X : XT), k0 v9 X = some (1, X0) → ∀ (d0 : Drawn), s.drawn.sameBut d0 lw_cs → ∀ (H : Heap) (locs : List Loc) (ls : Array Slot), va_P D vwCl (m_WC a cy X) H → va_S (lw_A0 s) s.heap H locs → lv_has ls 19 [(0, .ref b), (1, .ref (a 126)), (2, .ref (a 131)), (3, .ref (a 132)), (4, .ref (a 133)), (5, .ref (a 134)), (6, .ref (a 135)), (7, .ref (a 136)), (8, .ref (a 137)), (9, .int v9)] → W p l e room_1 (s.setDrawn d0) m #[Value.ref b] below meth c H locs 600000 7302250 (lw_Z below #[Value.ref b] s) (F0 m 85 ls [])) (v9 : Int32) (v11 : Int32) (v12 : Int32) (v13 : Int32) (v14 : Int32) (v17 : Int32) (X : XT) (hf0 : f_L_law_456 xs L N k0 v9 v11 v12 v13 v14 v17 X = some (1, X0)) : ∀ (d0 : Drawn), s.drawn.sameBut d0 lw_cs → ∀ (H : Heap) (locs : List Loc) (ls : Array Slot), va_P D vwCl (m_WC a cy X) H → va_S (lw_A0 s) s.heap H locs → lv_has ls 19 [(0, .ref b), (1, .ref (a 126)), (2, .ref (a 131)), (3, .ref (a 132)), (4, .ref (a 133)), (5, .ref (a 134)), (6, .ref (a 135)), (7, .ref (a 136)), (8, .ref (a 137)), (9, .int v9), (11, .int v11), (12, .int v12), (13, .int v13), (14, .int v14), (17, .int v17)] → W p l e room_1 (s.setDrawn d0) m #[Value.ref b] below meth c H locs 600000 7302250 (lw_Z below #[Value.ref b] s) (F0 m 456 ls []) := by
  have hx := K.1.1
  have hb := K.1.2.1
  have hr := K.1.2.2.1
  have hlocks := K.1.2.2.2.2.2.2.2.2.1
  intro d0 hd0 H locs ls hP hS hl
  unfold f_L_law_456 at hf0
  refine lv_iload hx hb dL_law_456 (lv_at hl 14 rfl) ?_
  refine lv_iload hx hb dL_law_458 (lv_at hl 11 rfl) ?_
  refine lv_iload hx hb dL_law_460 (lv_at hl 12 rfl) ?_
  refine lv_iload hx hb dL_law_462 (lv_at hl 13 rfl) ?_
  refine lv_aload_n hx hb dL_law_464 rfl (lv_at hl 2 rfl) ?_
  refine lv_aload_n hx hb dL_law_465 rfl (lv_at hl 3 rfl) ?_
  refine lv_aload hx hb dL_law_466 (lv_at hl 4 rfl) ?_
  refine lv_aload hx hb dL_law_468 (lv_at hl 5 rfl) ?_
  refine lv_aload hx hb dL_law_470 (lv_at hl 6 rfl) ?_
  refine lv_aload hx hb dL_law_472 (lv_at hl 7 rfl) ?_
  refine lv_aload hx hb dL_law_474 (lv_at hl 8 rfl) ?_
  obtain ⟨r_80, X_80, h_80, hf81⟩ := m_bi_s hf0
  clear hf0
  refine lw_callSi K [.int v12, .int v13, .int v14, .ref (a 131), .ref (a 132), .ref (a 133), .ref (a 134), .ref (a 135), .ref (a 136), .ref (a 137)] [.int v17] (c_L_due l D a cy K.2.2.2.2 N _ _ _ _ h_80) (lw_goodS wl_L_139 wst_L_due wn_L wc_L_due) ⟨rfl, rfl⟩ hv_L_due ⟨Nat.le_of_ble_eq_true rfl, Nat.le_of_ble_eq_true rfl⟩ hP hS rfl hl.1 rfl (Nat.le_of_ble_eq_true rfl) dL_law_476 (fun H locs hP hS => ?_)
  refine lv_icmp_ne (tgt := 506) hx hb dL_law_479 (by decide) (fun c_82 => ?_) (fun c_82 => ?_)
  · have hf83 := m_ie c_82 hf81
    clear hf81
    refine lv_iconst (v := 0) hx hb dL_law_506 (by decide) ?_
    exact absurd (show (0 : Int32) = 1 from congrArg Prod.fst (Option.some.inj hf83)) (by decide)
  · have hf84 := m_it c_82 hf81
    clear hf81
    exact w_L_law_482 l D a cy N hL K _ kb _ _ _ hf84 d0 hd0 H locs ls hP hS (lv_sub hl [0, 1, 2, 3, 4, 5, 6, 7, 8, 9, 10] rfl)
def f_L_law_412 (xs : Nat → Int32) (L N : Nat) (k0 : Int32 → XT → Option (Int32 × XT)) (v9 : Int32) (v10 : Int32) (v11 : Int32) (v12 : Int32) (v13 : Int32) (v14 : Int32) (v15 : Int64) (v17 : Int32) (X : XT) : Option (Int32 × XT) := m_nm (v10 >>> ((24 : Int32) &&& 31)) fun y_73 => m_nm (y_73 &&& 3) fun y_75 => if y_75 = 0 then (m_bi (f_X7_undo N X) fun r_94 X_94 => if r_94 < 0 then (some (0, X_94)) else (m_bl (f_L_told N X_94) fun r_99 X_99 => m_nm (lg_cmp r_99 v15) fun y_101 => if y_101 = 0 then (m_bi (f_L_call N v12 v13 v14 X_99) fun r_106 X_106 => if r_106 = v17 then (f_L_law_456 xs L N k0 v9 v11 v12 v13 v14 v17 X_106) else (some (0, X_106))) else (some (0, X_99)))) else (f_L_law_456 xs L N k0 v9 v11 v12 v13 v14 v17 X)
set_option maxHeartbeats 4000000 in
set_option maxRecDepth 100000 in
theorem w_L_law_412 (l : Launch) (D : va_G) (a : Nat → Nat) (cy : Nat → ClassId) (N : Nat) {p : Program} {e : Env} {s : State} {m : MethodId} {below : List Frame} {meth : Method} {c : Code} {b L : Nat} {xs : Nat → Int32} (hL : L ≤ 260) (K : lw_K p s m meth c b L xs D a cy) {X0 : XT} (k0 : Int32 → XT → Option (Int32 × XT)) (kb : ∀ (v9 : Int32) (X : XT), k0 v9 X = some (1, X0) → ∀ (d0 : Drawn), s.drawn.sameBut d0 lw_cs → ∀ (H : Heap) (locs : List Loc) (ls : Array Slot), va_P D vwCl (m_WC a cy X) H → va_S (lw_A0 s) s.heap H locs → lv_has ls 19 [(0, .ref b), (1, .ref (a 126)), (2, .ref (a 131)), (3, .ref (a 132)), (4, .ref (a 133)), (5, .ref (a 134)), (6, .ref (a 135)), (7, .ref (a 136)), (8, .ref (a 137)), (9, .int v9)] → W p l e room_1 (s.setDrawn d0) m #[Value.ref b] below meth c H locs 600000 7302250 (lw_Z below #[Value.ref b] s) (F0 m 85 ls [])) (v9 : Int32) (v10 : Int32) (v11 : Int32) (v12 : Int32) (v13 : Int32) (v14 : Int32) (v15 : Int64) (v17 : Int32) (X : XT) (hf0 : f_L_law_412 xs L N k0 v9 v10 v11 v12 v13 v14 v15 v17 X = some (1, X0)) : ∀ (d0 : Drawn), s.drawn.sameBut d0 lw_cs → ∀ (H : Heap) (locs : List Loc) (ls : Array Slot), va_P D vwCl (m_WC a cy X) H → va_S (lw_A0 s) s.heap H locs → lv_has ls 19 [(0, .ref b), (1, .ref (a 126)), (2, .ref (a 131)), (3, .ref (a 132)), (4, .ref (a 133)), (5, .ref (a 134)), (6, .ref (a 135)), (7, .ref (a 136)), (8, .ref (a 137)), (9, .int v9), (10, .int v10), (11, .int v11), (12, .int v12), (13, .int v13), (14, .int v14), (15, .long v15), (17, .int v17)] → W p l e room_1 (s.setDrawn d0) m #[Value.ref b] below meth c H locs 600000 7302250 (lw_Z below #[Value.ref b] s) (F0 m 412 ls []) := by
  have hx := K.1.1
  have hb := K.1.2.1
  have hr := K.1.2.2.1
  have hlocks := K.1.2.2.2.2.2.2.2.2.1
  intro d0 hd0 H locs ls hP hS hl
  unfold f_L_law_412 at hf0
  refine lv_iload hx hb dL_law_412 (lv_at hl 10 rfl) ?_
  refine lv_bipush (v := 24) hx hb dL_law_414 (by decide) ?_
  refine lv_ishr hx hb dL_law_416 ?_
  refine lv_topi (fun y_73 e_73 => ?_)
  have hf74 := m_nm_s e_73 hf0
  clear hf0
  refine lv_iconst (v := 3) hx hb dL_law_417 (by decide) ?_
  refine lv_iand hx hb dL_law_418 ?_
  refine lv_topi (fun y_75 e_75 => ?_)
  have hf76 := m_nm_s e_75 hf74
  clear hf74
  refine lv_if_ne (tgt := 456) hx hb dL_law_419 (by decide) (fun c_77 => ?_) (fun c_77 => ?_)
  · have hf78 := m_ie c_77 hf76
    clear hf76
    exact w_L_law_456 l D a cy N hL K _ kb _ _ _ _ _ _ _ hf78 d0 hd0 H locs ls hP hS (lv_sub hl [0, 1, 2, 3, 4, 5, 6, 7, 8, 9, 11, 12, 13, 14, 16] rfl)
  · have hf79 := m_it c_77 hf76
    clear hf76
    refine lv_aload_n hx hb dL_law_422 rfl (lv_at hl 1 rfl) ?_
    obtain ⟨r_94, X_94, h_94, hf95⟩ := m_bi_s hf79
    clear hf79
    refine lw_callVi (q := (RX7, TX7, 5)) K [] [] (c_X7_undo l D a cy K.2.2.2.2 N _ h_94) (lw_goodV wl_L_136 wi_X7_undo ws_X7_undo wn_X7 wc_X7_undo) ⟨rfl, rfl⟩ hv_X7_undo ⟨Nat.le_of_ble_eq_true rfl, Nat.le_of_ble_eq_true rfl⟩ rfl mC_126 hP hS rfl hl.1 rfl (Nat.le_of_ble_eq_true rfl) dL_law_423 (fun H locs hP hS => ?_)
    refine lv_if_lt (tgt := 454) hx hb dL_law_426 (by decide) (fun c_96 => ?_) (fun c_96 => ?_)
    · have hf97 := m_it c_96 hf95
      clear hf95
      refine lv_iconst (v := 0) hx hb dL_law_454 (by decide) ?_
      exact absurd (show (0 : Int32) = 1 from congrArg Prod.fst (Option.some.inj hf97)) (by decide)
    · have hf98 := m_ie c_96 hf95
      clear hf95
      refine lv_aload_n hx hb dL_law_429 rfl (lv_at hl 1 rfl) ?_
      obtain ⟨r_99, X_99, h_99, hf100⟩ := m_bl_s hf98
      clear hf98
      refine lw_callSl K [.ref (a 126)] [] (c_L_told l D a cy K.2.2.2.2 N _ h_99) (lw_goodS wl_L_128 wst_L_told wn_L wc_L_told) ⟨rfl, rfl⟩ hv_L_told ⟨Nat.le_of_ble_eq_true rfl, Nat.le_of_ble_eq_true rfl⟩ hP hS rfl hl.1 rfl (Nat.le_of_ble_eq_true rfl) dL_law_430 (fun H locs hP hS => ?_)
      refine lv_lload hx hb dL_law_433 (lv_at hl 15 rfl) ?_
      refine W.lcmp hx hb dL_law_435 ?_
      refine lv_topi (fun y_101 e_101 => ?_)
      have hf102 := m_nm_s e_101 hf100
      clear hf100
      refine lv_if_ne (tgt := 454) hx hb dL_law_436 (by decide) (fun c_103 => ?_) (fun c_103 => ?_)
      · have hf104 := m_ie c_103 hf102
        clear hf102
        refine lv_iconst (v := 0) hx hb dL_law_454 (by decide) ?_
        exact absurd (show (0 : Int32) = 1 from congrArg Prod.fst (Option.some.inj hf104)) (by decide)
      · have hf105 := m_it c_103 hf102
        clear hf102
        refine lv_aload_n hx hb dL_law_439 rfl (lv_at hl 1 rfl) ?_
        refine lv_iload hx hb dL_law_440 (lv_at hl 12 rfl) ?_
        refine lv_iload hx hb dL_law_442 (lv_at hl 13 rfl) ?_
        refine lv_iload hx hb dL_law_444 (lv_at hl 14 rfl) ?_
        obtain ⟨r_106, X_106, h_106, hf107⟩ := m_bi_s hf105
        clear hf105
        refine lw_callSi K [.ref (a 126), .int v12, .int v13, .int v14] [] (c_L_call l D a cy K.2.2.2.2 N _ _ _ _ h_106) (lw_goodS wl_L_132 wst_L_call wn_L wc_L_call) ⟨rfl, rfl⟩ hv_L_call ⟨Nat.le_of_ble_eq_true rfl, Nat.le_of_ble_eq_true rfl⟩ hP hS rfl hl.1 rfl (Nat.le_of_ble_eq_true rfl) dL_law_446 (fun H locs hP hS => ?_)
        refine lv_iload hx hb dL_law_449 (lv_at hl 16 rfl) ?_
        refine lv_icmp_eq (tgt := 456) hx hb dL_law_451 (by decide) (fun c_108 => ?_) (fun c_108 => ?_)
        · have hf109 := m_it c_108 hf107
          clear hf107
          exact w_L_law_456 l D a cy N hL K _ kb _ _ _ _ _ _ _ hf109 d0 hd0 H locs ls hP hS (lv_sub hl [0, 1, 2, 3, 4, 5, 6, 7, 8, 9, 11, 12, 13, 14, 16] rfl)
        · have hf110 := m_ie c_108 hf107
          clear hf107
          refine lv_iconst (v := 0) hx hb dL_law_454 (by decide) ?_
          exact absurd (show (0 : Int32) = 1 from congrArg Prod.fst (Option.some.inj hf110)) (by decide)
def f_L_law_392 (xs : Nat → Int32) (L N : Nat) (k0 : Int32 → XT → Option (Int32 × XT)) (v9 : Int32) (v10 : Int32) (v11 : Int32) (v12 : Int32) (v13 : Int32) (v14 : Int32) (v15 : Int64) (v17 : Int32) (u0 : Int32) (X : XT) : Option (Int32 × XT) := if u0 = 0 then (f_L_law_412 xs L N k0 v9 v10 v11 v12 v13 v14 v15 v17 X) else (m_bl (f_L_told N X) fun r_111 X_111 => m_nm (lg_cmp r_111 v15) fun y_113 => if y_113 = 0 then (f_L_law_456 xs L N k0 v9 v11 v12 v13 v14 v17 X_111) else (some (0, X_111)))
set_option maxHeartbeats 4000000 in
set_option maxRecDepth 100000 in
theorem w_L_law_392 (l : Launch) (D : va_G) (a : Nat → Nat) (cy : Nat → ClassId) (N : Nat) {p : Program} {e : Env} {s : State} {m : MethodId} {below : List Frame} {meth : Method} {c : Code} {b L : Nat} {xs : Nat → Int32} (hL : L ≤ 260) (K : lw_K p s m meth c b L xs D a cy) {X0 : XT} (k0 : Int32 → XT → Option (Int32 × XT)) (kb : ∀ (v9 : Int32) (X : XT), k0 v9 X = some (1, X0) → ∀ (d0 : Drawn), s.drawn.sameBut d0 lw_cs → ∀ (H : Heap) (locs : List Loc) (ls : Array Slot), va_P D vwCl (m_WC a cy X) H → va_S (lw_A0 s) s.heap H locs → lv_has ls 19 [(0, .ref b), (1, .ref (a 126)), (2, .ref (a 131)), (3, .ref (a 132)), (4, .ref (a 133)), (5, .ref (a 134)), (6, .ref (a 135)), (7, .ref (a 136)), (8, .ref (a 137)), (9, .int v9)] → W p l e room_1 (s.setDrawn d0) m #[Value.ref b] below meth c H locs 600000 7302250 (lw_Z below #[Value.ref b] s) (F0 m 85 ls [])) (v9 : Int32) (v10 : Int32) (v11 : Int32) (v12 : Int32) (v13 : Int32) (v14 : Int32) (v15 : Int64) (v17 : Int32) (u0 : Int32) (X : XT) (hf0 : f_L_law_392 xs L N k0 v9 v10 v11 v12 v13 v14 v15 v17 u0 X = some (1, X0)) : ∀ (d0 : Drawn), s.drawn.sameBut d0 lw_cs → ∀ (H : Heap) (locs : List Loc) (ls : Array Slot), va_P D vwCl (m_WC a cy X) H → va_S (lw_A0 s) s.heap H locs → lv_has ls 19 [(0, .ref b), (1, .ref (a 126)), (2, .ref (a 131)), (3, .ref (a 132)), (4, .ref (a 133)), (5, .ref (a 134)), (6, .ref (a 135)), (7, .ref (a 136)), (8, .ref (a 137)), (9, .int v9), (10, .int v10), (11, .int v11), (12, .int v12), (13, .int v13), (14, .int v14), (15, .long v15), (17, .int v17)] → W p l e room_1 (s.setDrawn d0) m #[Value.ref b] below meth c H locs 600000 7302250 (lw_Z below #[Value.ref b] s) (F0 m 392 ls [.int u0]) := by
  have hx := K.1.1
  have hb := K.1.2.1
  have hr := K.1.2.2.1
  have hlocks := K.1.2.2.2.2.2.2.2.2.1
  intro d0 hd0 H locs ls hP hS hl
  unfold f_L_law_392 at hf0
  refine lv_istore (lv' := [(18, .int u0), (0, .ref b), (1, .ref (a 126)), (2, .ref (a 131)), (3, .ref (a 132)), (4, .ref (a 133)), (5, .ref (a 134)), (6, .ref (a 135)), (7, .ref (a 136)), (8, .ref (a 137)), (9, .int v9), (10, .int v10), (11, .int v11), (12, .int v12), (13, .int v13), (14, .int v14), (15, .long v15), (17, .int v17)]) hx hb dL_law_392 hl (by decide) rfl (fun ls hl => ?_)
  refine lv_iload hx hb dL_law_394 (lv_at hl 0 rfl) ?_
  refine lv_if_eq (tgt := 412) hx hb dL_law_396 (by decide) (fun c_70 => ?_) (fun c_70 => ?_)
  · have hf71 := m_it c_70 hf0
    clear hf0
    exact w_L_law_412 l D a cy N hL K _ kb _ _ _ _ _ _ _ _ _ hf71 d0 hd0 H locs ls hP hS (lv_sub hl [1, 2, 3, 4, 5, 6, 7, 8, 9, 10, 11, 12, 13, 14, 15, 16, 17] rfl)
  · have hf72 := m_ie c_70 hf0
    clear hf0
    refine lv_aload_n hx hb dL_law_399 rfl (lv_at hl 2 rfl) ?_
    obtain ⟨r_111, X_111, h_111, hf112⟩ := m_bl_s hf72
    clear hf72
    refine lw_callSl K [.ref (a 126)] [] (c_L_told l D a cy K.2.2.2.2 N _ h_111) (lw_goodS wl_L_128 wst_L_told wn_L wc_L_told) ⟨rfl, rfl⟩ hv_L_told ⟨Nat.le_of_ble_eq_true rfl, Nat.le_of_ble_eq_true rfl⟩ hP hS rfl hl.1 rfl (Nat.le_of_ble_eq_true rfl) dL_law_400 (fun H locs hP hS => ?_)
    refine lv_lload hx hb dL_law_403 (lv_at hl 16 rfl) ?_
    refine W.lcmp hx hb dL_law_405 ?_
    refine lv_topi (fun y_113 e_113 => ?_)
    have hf114 := m_nm_s e_113 hf112
    clear hf112
    refine lv_if_eq (tgt := 456) hx hb dL_law_406 (by decide) (fun c_115 => ?_) (fun c_115 => ?_)
    · have hf116 := m_it c_115 hf114
      clear hf114
      exact w_L_law_456 l D a cy N hL K _ kb _ _ _ _ _ _ _ hf116 d0 hd0 H locs ls hP hS (lv_sub hl [1, 2, 3, 4, 5, 6, 7, 8, 9, 10, 12, 13, 14, 15, 17] rfl)
    · have hf117 := m_ie c_115 hf114
      clear hf114
      refine lv_goto (tgt := 454) hx hb dL_law_409 (by decide) ?_
      refine lv_iconst (v := 0) hx hb dL_law_454 (by decide) ?_
      exact absurd (show (0 : Int32) = 1 from congrArg Prod.fst (Option.some.inj hf117)) (by decide)
def f_L_law_355 (xs : Nat → Int32) (L N : Nat) (k0 : Int32 → XT → Option (Int32 × XT)) (v9 : Int32) (v10 : Int32) (v11 : Int32) (v12 : Int32) (v13 : Int32) (u0 : Int32) (X : XT) : Option (Int32 × XT) := m_bl (f_L_told N X) fun r_63 X_63 => m_bi (f_L_call N v12 v13 u0 X_63) fun r_65 X_65 => if 0 ≤ r_65 then (f_L_law_392 xs L N k0 v9 v10 v11 v12 v13 u0 r_63 r_65 0 X_65) else (if r_65 = (-5) then (f_L_law_392 xs L N k0 v9 v10 v11 v12 v13 u0 r_63 r_65 0 X_65) else (f_L_law_392 xs L N k0 v9 v10 v11 v12 v13 u0 r_63 r_65 1 X_65))
set_option maxHeartbeats 4000000 in
set_option maxRecDepth 100000 in
theorem w_L_law_355 (l : Launch) (D : va_G) (a : Nat → Nat) (cy : Nat → ClassId) (N : Nat) {p : Program} {e : Env} {s : State} {m : MethodId} {below : List Frame} {meth : Method} {c : Code} {b L : Nat} {xs : Nat → Int32} (hL : L ≤ 260) (K : lw_K p s m meth c b L xs D a cy) {X0 : XT} (k0 : Int32 → XT → Option (Int32 × XT)) (kb : ∀ (v9 : Int32) (X : XT), k0 v9 X = some (1, X0) → ∀ (d0 : Drawn), s.drawn.sameBut d0 lw_cs → ∀ (H : Heap) (locs : List Loc) (ls : Array Slot), va_P D vwCl (m_WC a cy X) H → va_S (lw_A0 s) s.heap H locs → lv_has ls 19 [(0, .ref b), (1, .ref (a 126)), (2, .ref (a 131)), (3, .ref (a 132)), (4, .ref (a 133)), (5, .ref (a 134)), (6, .ref (a 135)), (7, .ref (a 136)), (8, .ref (a 137)), (9, .int v9)] → W p l e room_1 (s.setDrawn d0) m #[Value.ref b] below meth c H locs 600000 7302250 (lw_Z below #[Value.ref b] s) (F0 m 85 ls [])) (v9 : Int32) (v10 : Int32) (v11 : Int32) (v12 : Int32) (v13 : Int32) (u0 : Int32) (X : XT) (hf0 : f_L_law_355 xs L N k0 v9 v10 v11 v12 v13 u0 X = some (1, X0)) : ∀ (d0 : Drawn), s.drawn.sameBut d0 lw_cs → ∀ (H : Heap) (locs : List Loc) (ls : Array Slot), va_P D vwCl (m_WC a cy X) H → va_S (lw_A0 s) s.heap H locs → lv_has ls 19 [(0, .ref b), (1, .ref (a 126)), (2, .ref (a 131)), (3, .ref (a 132)), (4, .ref (a 133)), (5, .ref (a 134)), (6, .ref (a 135)), (7, .ref (a 136)), (8, .ref (a 137)), (9, .int v9), (10, .int v10), (11, .int v11), (12, .int v12), (13, .int v13)] → W p l e room_1 (s.setDrawn d0) m #[Value.ref b] below meth c H locs 600000 7302250 (lw_Z below #[Value.ref b] s) (F0 m 355 ls [.int u0]) := by
  have hx := K.1.1
  have hb := K.1.2.1
  have hr := K.1.2.2.1
  have hlocks := K.1.2.2.2.2.2.2.2.2.1
  intro d0 hd0 H locs ls hP hS hl
  unfold f_L_law_355 at hf0
  refine lv_istore (lv' := [(14, .int u0), (0, .ref b), (1, .ref (a 126)), (2, .ref (a 131)), (3, .ref (a 132)), (4, .ref (a 133)), (5, .ref (a 134)), (6, .ref (a 135)), (7, .ref (a 136)), (8, .ref (a 137)), (9, .int v9), (10, .int v10), (11, .int v11), (12, .int v12), (13, .int v13)]) hx hb dL_law_355 hl (by decide) rfl (fun ls hl => ?_)
  refine lv_aload_n hx hb dL_law_357 rfl (lv_at hl 2 rfl) ?_
  obtain ⟨r_63, X_63, h_63, hf64⟩ := m_bl_s hf0
  clear hf0
  refine lw_callSl K [.ref (a 126)] [] (c_L_told l D a cy K.2.2.2.2 N _ h_63) (lw_goodS wl_L_128 wst_L_told wn_L wc_L_told) ⟨rfl, rfl⟩ hv_L_told ⟨Nat.le_of_ble_eq_true rfl, Nat.le_of_ble_eq_true rfl⟩ hP hS rfl hl.1 rfl (Nat.le_of_ble_eq_true rfl) dL_law_358 (fun H locs hP hS => ?_)
  refine lv_lstore (lv' := [(15, .long r_63), (14, .int u0), (0, .ref b), (1, .ref (a 126)), (2, .ref (a 131)), (3, .ref (a 132)), (4, .ref (a 133)), (5, .ref (a 134)), (6, .ref (a 135)), (7, .ref (a 136)), (8, .ref (a 137)), (9, .int v9), (10, .int v10), (11, .int v11), (12, .int v12), (13, .int v13)]) hx hb dL_law_361 hl (by decide) rfl (fun ls hl => ?_)
  refine lv_aload_n hx hb dL_law_363 rfl (lv_at hl 3 rfl) ?_
  refine lv_iload hx hb dL_law_364 (lv_at hl 14 rfl) ?_
  refine lv_iload hx hb dL_law_366 (lv_at hl 15 rfl) ?_
  refine lv_iload hx hb dL_law_368 (lv_at hl 1 rfl) ?_
  obtain ⟨r_65, X_65, h_65, hf66⟩ := m_bi_s hf64
  clear hf64
  refine lw_callSi K [.ref (a 126), .int v12, .int v13, .int u0] [] (c_L_call l D a cy K.2.2.2.2 N _ _ _ _ h_65) (lw_goodS wl_L_132 wst_L_call wn_L wc_L_call) ⟨rfl, rfl⟩ hv_L_call ⟨Nat.le_of_ble_eq_true rfl, Nat.le_of_ble_eq_true rfl⟩ hP hS rfl hl.1 rfl (Nat.le_of_ble_eq_true rfl) dL_law_370 (fun H locs hP hS => ?_)
  refine lv_istore (lv' := [(17, .int r_65), (15, .long r_63), (14, .int u0), (0, .ref b), (1, .ref (a 126)), (2, .ref (a 131)), (3, .ref (a 132)), (4, .ref (a 133)), (5, .ref (a 134)), (6, .ref (a 135)), (7, .ref (a 136)), (8, .ref (a 137)), (9, .int v9), (10, .int v10), (11, .int v11), (12, .int v12), (13, .int v13)]) hx hb dL_law_373 hl (by decide) rfl (fun ls hl => ?_)
  refine lv_iload hx hb dL_law_375 (lv_at hl 0 rfl) ?_
  refine lv_if_ge (tgt := 391) hx hb dL_law_377 (by decide) (fun c_67 => ?_) (fun c_67 => ?_)
  · have hf68 := m_it c_67 hf66
    clear hf66
    refine lv_iconst (v := 0) hx hb dL_law_391 (by decide) ?_
    exact w_L_law_392 l D a cy N hL K _ kb _ _ _ _ _ _ _ _ _ _ hf68 d0 hd0 H locs ls hP hS (lv_sub hl [3, 4, 5, 6, 7, 8, 9, 10, 11, 12, 13, 14, 15, 16, 2, 1, 0] rfl)
  · have hf69 := m_ie c_67 hf66
    clear hf66
    refine lv_iload hx hb dL_law_380 (lv_at hl 0 rfl) ?_
    refine lv_bipush (v := (-5)) hx hb dL_law_382 (by decide) ?_
    refine lv_icmp_eq (tgt := 391) hx hb dL_law_384 (by decide) (fun c_118 => ?_) (fun c_118 => ?_)
    · have hf119 := m_it c_118 hf69
      clear hf69
      refine lv_iconst (v := 0) hx hb dL_law_391 (by decide) ?_
      exact w_L_law_392 l D a cy N hL K _ kb _ _ _ _ _ _ _ _ _ _ hf119 d0 hd0 H locs ls hP hS (lv_sub hl [3, 4, 5, 6, 7, 8, 9, 10, 11, 12, 13, 14, 15, 16, 2, 1, 0] rfl)
    · have hf120 := m_ie c_118 hf69
      clear hf69
      refine lv_iconst (v := 1) hx hb dL_law_387 (by decide) ?_
      refine lv_goto (tgt := 392) hx hb dL_law_388 (by decide) ?_
      exact w_L_law_392 l D a cy N hL K _ kb _ _ _ _ _ _ _ _ _ _ hf120 d0 hd0 H locs ls hP hS (lv_sub hl [3, 4, 5, 6, 7, 8, 9, 10, 11, 12, 13, 14, 15, 16, 2, 1, 0] rfl)
def f_L_law_268 (xs : Nat → Int32) (L N : Nat) (k0 : Int32 → XT → Option (Int32 × XT)) (v9 : Int32) (v10 : Int32) (v11 : Int32) (v12 : Int32) (u0 : Int32) (X : XT) : Option (Int32 × XT) := if 2 ≤ v12 then (if u0 = 0 then (m_nm (v11 >>> ((4 : Int32) &&& 31)) fun y_133 => m_bi (f_L_low N y_133 21 X) fun r_135 X_135 => f_L_law_355 xs L N k0 v9 v10 v11 v12 u0 r_135 X_135) else (if u0 = 1 then (m_nm (v11 >>> ((4 : Int32) &&& 31)) fun y_127 => m_bi (f_L_low N y_127 40 X) fun r_129 X_129 => m_nm ((1 : Int32) + r_129) fun y_131 => f_L_law_355 xs L N k0 v9 v10 v11 v12 u0 y_131 X_129) else (if u0 = 2 then (m_nm (v11 >>> ((4 : Int32) &&& 31)) fun y_121 => m_bi (f_L_low N y_121 20 X) fun r_123 X_123 => m_nm ((1 : Int32) + r_123) fun y_125 => f_L_law_355 xs L N k0 v9 v10 v11 v12 u0 y_125 X_123) else (m_nm (v11 >>> ((4 : Int32) &&& 31)) fun y_59 => m_bi (f_L_low N y_59 2 X) fun r_61 X_61 => f_L_law_355 xs L N k0 v9 v10 v11 v12 u0 r_61 X_61)))) else (m_nm (v11 >>> ((4 : Int32) &&& 31)) fun y_137 => m_bi (f_L_low N y_137 8 X) fun r_139 X_139 => m_nm ((1 : Int32) + r_139) fun y_141 => f_L_law_355 xs L N k0 v9 v10 v11 v12 u0 y_141 X_139)
set_option maxHeartbeats 4000000 in
set_option maxRecDepth 100000 in
theorem w_L_law_268 (l : Launch) (D : va_G) (a : Nat → Nat) (cy : Nat → ClassId) (N : Nat) {p : Program} {e : Env} {s : State} {m : MethodId} {below : List Frame} {meth : Method} {c : Code} {b L : Nat} {xs : Nat → Int32} (hL : L ≤ 260) (K : lw_K p s m meth c b L xs D a cy) {X0 : XT} (k0 : Int32 → XT → Option (Int32 × XT)) (kb : ∀ (v9 : Int32) (X : XT), k0 v9 X = some (1, X0) → ∀ (d0 : Drawn), s.drawn.sameBut d0 lw_cs → ∀ (H : Heap) (locs : List Loc) (ls : Array Slot), va_P D vwCl (m_WC a cy X) H → va_S (lw_A0 s) s.heap H locs → lv_has ls 19 [(0, .ref b), (1, .ref (a 126)), (2, .ref (a 131)), (3, .ref (a 132)), (4, .ref (a 133)), (5, .ref (a 134)), (6, .ref (a 135)), (7, .ref (a 136)), (8, .ref (a 137)), (9, .int v9)] → W p l e room_1 (s.setDrawn d0) m #[Value.ref b] below meth c H locs 600000 7302250 (lw_Z below #[Value.ref b] s) (F0 m 85 ls [])) (v9 : Int32) (v10 : Int32) (v11 : Int32) (v12 : Int32) (u0 : Int32) (X : XT) (hf0 : f_L_law_268 xs L N k0 v9 v10 v11 v12 u0 X = some (1, X0)) : ∀ (d0 : Drawn), s.drawn.sameBut d0 lw_cs → ∀ (H : Heap) (locs : List Loc) (ls : Array Slot), va_P D vwCl (m_WC a cy X) H → va_S (lw_A0 s) s.heap H locs → lv_has ls 19 [(0, .ref b), (1, .ref (a 126)), (2, .ref (a 131)), (3, .ref (a 132)), (4, .ref (a 133)), (5, .ref (a 134)), (6, .ref (a 135)), (7, .ref (a 136)), (8, .ref (a 137)), (9, .int v9), (10, .int v10), (11, .int v11), (12, .int v12)] → W p l e room_1 (s.setDrawn d0) m #[Value.ref b] below meth c H locs 600000 7302250 (lw_Z below #[Value.ref b] s) (F0 m 268 ls [.int u0]) := by
  have hx := K.1.1
  have hb := K.1.2.1
  have hr := K.1.2.2.1
  have hlocks := K.1.2.2.2.2.2.2.2.2.1
  intro d0 hd0 H locs ls hP hS hl
  unfold f_L_law_268 at hf0
  refine lv_istore (lv' := [(13, .int u0), (0, .ref b), (1, .ref (a 126)), (2, .ref (a 131)), (3, .ref (a 132)), (4, .ref (a 133)), (5, .ref (a 134)), (6, .ref (a 135)), (7, .ref (a 136)), (8, .ref (a 137)), (9, .int v9), (10, .int v10), (11, .int v11), (12, .int v12)]) hx hb dL_law_268 hl (by decide) rfl (fun ls hl => ?_)
  refine lv_iload hx hb dL_law_270 (lv_at hl 13 rfl) ?_
  refine lv_iconst (v := 2) hx hb dL_law_272 (by decide) ?_
  refine lv_icmp_ge (tgt := 290) hx hb dL_law_273 (by decide) (fun c_47 => ?_) (fun c_47 => ?_)
  · have hf48 := m_it c_47 hf0
    clear hf0
    refine lv_iload hx hb dL_law_290 (lv_at hl 0 rfl) ?_
    refine lv_if_ne (tgt := 307) hx hb dL_law_292 (by decide) (fun c_50 => ?_) (fun c_50 => ?_)
    · have hf51 := m_ie c_50 hf48
      clear hf48
      refine lv_iload hx hb dL_law_307 (lv_at hl 0 rfl) ?_
      refine lv_iconst (v := 1) hx hb dL_law_309 (by decide) ?_
      refine lv_icmp_ne (tgt := 327) hx hb dL_law_310 (by decide) (fun c_53 => ?_) (fun c_53 => ?_)
      · have hf54 := m_ie c_53 hf51
        clear hf51
        refine lv_iload hx hb dL_law_327 (lv_at hl 0 rfl) ?_
        refine lv_iconst (v := 2) hx hb dL_law_329 (by decide) ?_
        refine lv_icmp_ne (tgt := 347) hx hb dL_law_330 (by decide) (fun c_56 => ?_) (fun c_56 => ?_)
        · have hf57 := m_ie c_56 hf54
          clear hf54
          refine lv_iload hx hb dL_law_347 (lv_at hl 12 rfl) ?_
          refine lv_iconst (v := 4) hx hb dL_law_349 (by decide) ?_
          refine lv_ishr hx hb dL_law_350 ?_
          refine lv_topi (fun y_59 e_59 => ?_)
          have hf60 := m_nm_s e_59 hf57
          clear hf57
          refine lv_iconst (v := 2) hx hb dL_law_351 (by decide) ?_
          obtain ⟨r_61, X_61, h_61, hf62⟩ := m_bi_s hf60
          clear hf60
          refine lw_callSi K [.int y_59, .int 2] [] (c_L_low l D a cy K.2.2.2.2 N _ _ _ h_61) (lw_goodS wl_L_107 wst_L_low wn_L wc_L_low) ⟨rfl, rfl⟩ hv_L_low ⟨Nat.le_of_ble_eq_true rfl, Nat.le_of_ble_eq_true rfl⟩ hP hS rfl hl.1 rfl (Nat.le_of_ble_eq_true rfl) dL_law_352 (fun H locs hP hS => ?_)
          exact w_L_law_355 l D a cy N hL K _ kb _ _ _ _ _ _ _ hf62 d0 hd0 H locs ls hP hS (lv_sub hl [1, 2, 3, 4, 5, 6, 7, 8, 9, 10, 11, 12, 13, 0] rfl)
        · have hf58 := m_it c_56 hf54
          clear hf54
          refine lv_iconst (v := 1) hx hb dL_law_333 (by decide) ?_
          refine lv_iload hx hb dL_law_334 (lv_at hl 12 rfl) ?_
          refine lv_iconst (v := 4) hx hb dL_law_336 (by decide) ?_
          refine lv_ishr hx hb dL_law_337 ?_
          refine lv_topi (fun y_121 e_121 => ?_)
          have hf122 := m_nm_s e_121 hf58
          clear hf58
          refine lv_bipush (v := 20) hx hb dL_law_338 (by decide) ?_
          obtain ⟨r_123, X_123, h_123, hf124⟩ := m_bi_s hf122
          clear hf122
          refine lw_callSi K [.int y_121, .int 20] [.int 1] (c_L_low l D a cy K.2.2.2.2 N _ _ _ h_123) (lw_goodS wl_L_107 wst_L_low wn_L wc_L_low) ⟨rfl, rfl⟩ hv_L_low ⟨Nat.le_of_ble_eq_true rfl, Nat.le_of_ble_eq_true rfl⟩ hP hS rfl hl.1 rfl (Nat.le_of_ble_eq_true rfl) dL_law_340 (fun H locs hP hS => ?_)
          refine lv_iadd hx hb dL_law_343 ?_
          refine lv_topi (fun y_125 e_125 => ?_)
          have hf126 := m_nm_s e_125 hf124
          clear hf124
          refine lv_goto (tgt := 355) hx hb dL_law_344 (by decide) ?_
          exact w_L_law_355 l D a cy N hL K _ kb _ _ _ _ _ _ _ hf126 d0 hd0 H locs ls hP hS (lv_sub hl [1, 2, 3, 4, 5, 6, 7, 8, 9, 10, 11, 12, 13, 0] rfl)
      · have hf55 := m_it c_53 hf51
        clear hf51
        refine lv_iconst (v := 1) hx hb dL_law_313 (by decide) ?_
        refine lv_iload hx hb dL_law_314 (lv_at hl 12 rfl) ?_
        refine lv_iconst (v := 4) hx hb dL_law_316 (by decide) ?_
        refine lv_ishr hx hb dL_law_317 ?_
        refine lv_topi (fun y_127 e_127 => ?_)
        have hf128 := m_nm_s e_127 hf55
        clear hf55
        refine lv_bipush (v := 40) hx hb dL_law_318 (by decide) ?_
        obtain ⟨r_129, X_129, h_129, hf130⟩ := m_bi_s hf128
        clear hf128
        refine lw_callSi K [.int y_127, .int 40] [.int 1] (c_L_low l D a cy K.2.2.2.2 N _ _ _ h_129) (lw_goodS wl_L_107 wst_L_low wn_L wc_L_low) ⟨rfl, rfl⟩ hv_L_low ⟨Nat.le_of_ble_eq_true rfl, Nat.le_of_ble_eq_true rfl⟩ hP hS rfl hl.1 rfl (Nat.le_of_ble_eq_true rfl) dL_law_320 (fun H locs hP hS => ?_)
        refine lv_iadd hx hb dL_law_323 ?_
        refine lv_topi (fun y_131 e_131 => ?_)
        have hf132 := m_nm_s e_131 hf130
        clear hf130
        refine lv_goto (tgt := 355) hx hb dL_law_324 (by decide) ?_
        exact w_L_law_355 l D a cy N hL K _ kb _ _ _ _ _ _ _ hf132 d0 hd0 H locs ls hP hS (lv_sub hl [1, 2, 3, 4, 5, 6, 7, 8, 9, 10, 11, 12, 13, 0] rfl)
    · have hf52 := m_it c_50 hf48
      clear hf48
      refine lv_iload hx hb dL_law_295 (lv_at hl 12 rfl) ?_
      refine lv_iconst (v := 4) hx hb dL_law_297 (by decide) ?_
      refine lv_ishr hx hb dL_law_298 ?_
      refine lv_topi (fun y_133 e_133 => ?_)
      have hf134 := m_nm_s e_133 hf52
      clear hf52
      refine lv_bipush (v := 21) hx hb dL_law_299 (by decide) ?_
      obtain ⟨r_135, X_135, h_135, hf136⟩ := m_bi_s hf134
      clear hf134
      refine lw_callSi K [.int y_133, .int 21] [] (c_L_low l D a cy K.2.2.2.2 N _ _ _ h_135) (lw_goodS wl_L_107 wst_L_low wn_L wc_L_low) ⟨rfl, rfl⟩ hv_L_low ⟨Nat.le_of_ble_eq_true rfl, Nat.le_of_ble_eq_true rfl⟩ hP hS rfl hl.1 rfl (Nat.le_of_ble_eq_true rfl) dL_law_301 (fun H locs hP hS => ?_)
      refine lv_goto (tgt := 355) hx hb dL_law_304 (by decide) ?_
      exact w_L_law_355 l D a cy N hL K _ kb _ _ _ _ _ _ _ hf136 d0 hd0 H locs ls hP hS (lv_sub hl [1, 2, 3, 4, 5, 6, 7, 8, 9, 10, 11, 12, 13, 0] rfl)
  · have hf49 := m_ie c_47 hf0
    clear hf0
    refine lv_iconst (v := 1) hx hb dL_law_276 (by decide) ?_
    refine lv_iload hx hb dL_law_277 (lv_at hl 12 rfl) ?_
    refine lv_iconst (v := 4) hx hb dL_law_279 (by decide) ?_
    refine lv_ishr hx hb dL_law_280 ?_
    refine lv_topi (fun y_137 e_137 => ?_)
    have hf138 := m_nm_s e_137 hf49
    clear hf49
    refine lv_bipush (v := 8) hx hb dL_law_281 (by decide) ?_
    obtain ⟨r_139, X_139, h_139, hf140⟩ := m_bi_s hf138
    clear hf138
    refine lw_callSi K [.int y_137, .int 8] [.int 1] (c_L_low l D a cy K.2.2.2.2 N _ _ _ h_139) (lw_goodS wl_L_107 wst_L_low wn_L wc_L_low) ⟨rfl, rfl⟩ hv_L_low ⟨Nat.le_of_ble_eq_true rfl, Nat.le_of_ble_eq_true rfl⟩ hP hS rfl hl.1 rfl (Nat.le_of_ble_eq_true rfl) dL_law_283 (fun H locs hP hS => ?_)
    refine lv_iadd hx hb dL_law_286 ?_
    refine lv_topi (fun y_141 e_141 => ?_)
    have hf142 := m_nm_s e_141 hf140
    clear hf140
    refine lv_goto (tgt := 355) hx hb dL_law_287 (by decide) ?_
    exact w_L_law_355 l D a cy N hL K _ kb _ _ _ _ _ _ _ hf142 d0 hd0 H locs ls hP hS (lv_sub hl [1, 2, 3, 4, 5, 6, 7, 8, 9, 10, 11, 12, 13, 0] rfl)
def f_L_law_209 (xs : Nat → Int32) (L N : Nat) (k0 : Int32 → XT → Option (Int32 × XT)) (v9 : Int32) (v10 : Int32) (v11 : Int32) (u0 : Int32) (X : XT) : Option (Int32 × XT) := if u0 = 2 then (m_nm (v11 >>> ((20 : Int32) &&& 31)) fun y_145 => m_bi (f_L_low N y_145 6 X) fun r_147 X_147 => if r_147 = 0 then (m_bi (f_L_low N v11 40 X_147) fun r_156 X_156 => m_nm ((1 : Int32) + r_156) fun y_158 => f_L_law_268 xs L N k0 v9 v10 v11 u0 y_158 X_156) else (m_bi (f_L_low N v11 4 X_147) fun r_152 X_152 => m_nm ((1 : Int32) + r_152) fun y_154 => f_L_law_268 xs L N k0 v9 v10 v11 u0 y_154 X_152)) else (if u0 = 5 then (m_bi (f_L_low N v11 4 X) fun r_143 X_143 => f_L_law_268 xs L N k0 v9 v10 v11 u0 r_143 X_143) else (m_bi (f_L_low N v11 12 X) fun r_45 X_45 => f_L_law_268 xs L N k0 v9 v10 v11 u0 r_45 X_45))
set_option maxHeartbeats 4000000 in
set_option maxRecDepth 100000 in
theorem w_L_law_209 (l : Launch) (D : va_G) (a : Nat → Nat) (cy : Nat → ClassId) (N : Nat) {p : Program} {e : Env} {s : State} {m : MethodId} {below : List Frame} {meth : Method} {c : Code} {b L : Nat} {xs : Nat → Int32} (hL : L ≤ 260) (K : lw_K p s m meth c b L xs D a cy) {X0 : XT} (k0 : Int32 → XT → Option (Int32 × XT)) (kb : ∀ (v9 : Int32) (X : XT), k0 v9 X = some (1, X0) → ∀ (d0 : Drawn), s.drawn.sameBut d0 lw_cs → ∀ (H : Heap) (locs : List Loc) (ls : Array Slot), va_P D vwCl (m_WC a cy X) H → va_S (lw_A0 s) s.heap H locs → lv_has ls 19 [(0, .ref b), (1, .ref (a 126)), (2, .ref (a 131)), (3, .ref (a 132)), (4, .ref (a 133)), (5, .ref (a 134)), (6, .ref (a 135)), (7, .ref (a 136)), (8, .ref (a 137)), (9, .int v9)] → W p l e room_1 (s.setDrawn d0) m #[Value.ref b] below meth c H locs 600000 7302250 (lw_Z below #[Value.ref b] s) (F0 m 85 ls [])) (v9 : Int32) (v10 : Int32) (v11 : Int32) (u0 : Int32) (X : XT) (hf0 : f_L_law_209 xs L N k0 v9 v10 v11 u0 X = some (1, X0)) : ∀ (d0 : Drawn), s.drawn.sameBut d0 lw_cs → ∀ (H : Heap) (locs : List Loc) (ls : Array Slot), va_P D vwCl (m_WC a cy X) H → va_S (lw_A0 s) s.heap H locs → lv_has ls 19 [(0, .ref b), (1, .ref (a 126)), (2, .ref (a 131)), (3, .ref (a 132)), (4, .ref (a 133)), (5, .ref (a 134)), (6, .ref (a 135)), (7, .ref (a 136)), (8, .ref (a 137)), (9, .int v9), (10, .int v10), (11, .int v11)] → W p l e room_1 (s.setDrawn d0) m #[Value.ref b] below meth c H locs 600000 7302250 (lw_Z below #[Value.ref b] s) (F0 m 209 ls [.int u0]) := by
  have hx := K.1.1
  have hb := K.1.2.1
  have hr := K.1.2.2.1
  have hlocks := K.1.2.2.2.2.2.2.2.2.1
  intro d0 hd0 H locs ls hP hS hl
  unfold f_L_law_209 at hf0
  refine lv_istore (lv' := [(12, .int u0), (0, .ref b), (1, .ref (a 126)), (2, .ref (a 131)), (3, .ref (a 132)), (4, .ref (a 133)), (5, .ref (a 134)), (6, .ref (a 135)), (7, .ref (a 136)), (8, .ref (a 137)), (9, .int v9), (10, .int v10), (11, .int v11)]) hx hb dL_law_209 hl (by decide) rfl (fun ls hl => ?_)
  refine lv_iload hx hb dL_law_211 (lv_at hl 0 rfl) ?_
  refine lv_iconst (v := 2) hx hb dL_law_213 (by decide) ?_
  refine lv_icmp_ne (tgt := 246) hx hb dL_law_214 (by decide) (fun c_39 => ?_) (fun c_39 => ?_)
  · have hf40 := m_ie c_39 hf0
    clear hf0
    refine lv_iload hx hb dL_law_246 (lv_at hl 0 rfl) ?_
    refine lv_iconst (v := 5) hx hb dL_law_248 (by decide) ?_
    refine lv_icmp_ne (tgt := 261) hx hb dL_law_249 (by decide) (fun c_42 => ?_) (fun c_42 => ?_)
    · have hf43 := m_ie c_42 hf40
      clear hf40
      refine lv_iload hx hb dL_law_261 (lv_at hl 12 rfl) ?_
      refine lv_bipush (v := 12) hx hb dL_law_263 (by decide) ?_
      obtain ⟨r_45, X_45, h_45, hf46⟩ := m_bi_s hf43
      clear hf43
      refine lw_callSi K [.int v11, .int 12] [] (c_L_low l D a cy K.2.2.2.2 N _ _ _ h_45) (lw_goodS wl_L_107 wst_L_low wn_L wc_L_low) ⟨rfl, rfl⟩ hv_L_low ⟨Nat.le_of_ble_eq_true rfl, Nat.le_of_ble_eq_true rfl⟩ hP hS rfl hl.1 rfl (Nat.le_of_ble_eq_true rfl) dL_law_265 (fun H locs hP hS => ?_)
      exact w_L_law_268 l D a cy N hL K _ kb _ _ _ _ _ _ hf46 d0 hd0 H locs ls hP hS (lv_sub hl [1, 2, 3, 4, 5, 6, 7, 8, 9, 10, 11, 12, 0] rfl)
    · have hf44 := m_it c_42 hf40
      clear hf40
      refine lv_iload hx hb dL_law_252 (lv_at hl 12 rfl) ?_
      refine lv_iconst (v := 4) hx hb dL_law_254 (by decide) ?_
      obtain ⟨r_143, X_143, h_143, hf144⟩ := m_bi_s hf44
      clear hf44
      refine lw_callSi K [.int v11, .int 4] [] (c_L_low l D a cy K.2.2.2.2 N _ _ _ h_143) (lw_goodS wl_L_107 wst_L_low wn_L wc_L_low) ⟨rfl, rfl⟩ hv_L_low ⟨Nat.le_of_ble_eq_true rfl, Nat.le_of_ble_eq_true rfl⟩ hP hS rfl hl.1 rfl (Nat.le_of_ble_eq_true rfl) dL_law_255 (fun H locs hP hS => ?_)
      refine lv_goto (tgt := 268) hx hb dL_law_258 (by decide) ?_
      exact w_L_law_268 l D a cy N hL K _ kb _ _ _ _ _ _ hf144 d0 hd0 H locs ls hP hS (lv_sub hl [1, 2, 3, 4, 5, 6, 7, 8, 9, 10, 11, 12, 0] rfl)
  · have hf41 := m_it c_39 hf0
    clear hf0
    refine lv_iconst (v := 1) hx hb dL_law_217 (by decide) ?_
    refine lv_iload hx hb dL_law_218 (lv_at hl 12 rfl) ?_
    refine lv_iload hx hb dL_law_220 (lv_at hl 12 rfl) ?_
    refine lv_bipush (v := 20) hx hb dL_law_222 (by decide) ?_
    refine lv_ishr hx hb dL_law_224 ?_
    refine lv_topi (fun y_145 e_145 => ?_)
    have hf146 := m_nm_s e_145 hf41
    clear hf41
    refine lv_bipush (v := 6) hx hb dL_law_225 (by decide) ?_
    obtain ⟨r_147, X_147, h_147, hf148⟩ := m_bi_s hf146
    clear hf146
    refine lw_callSi K [.int y_145, .int 6] [.int v11, .int 1] (c_L_low l D a cy K.2.2.2.2 N _ _ _ h_147) (lw_goodS wl_L_107 wst_L_low wn_L wc_L_low) ⟨rfl, rfl⟩ hv_L_low ⟨Nat.le_of_ble_eq_true rfl, Nat.le_of_ble_eq_true rfl⟩ hP hS rfl hl.1 rfl (Nat.le_of_ble_eq_true rfl) dL_law_227 (fun H locs hP hS => ?_)
    refine lv_if_ne (tgt := 238) hx hb dL_law_230 (by decide) (fun c_149 => ?_) (fun c_149 => ?_)
    · have hf150 := m_ie c_149 hf148
      clear hf148
      refine lv_iconst (v := 4) hx hb dL_law_238 (by decide) ?_
      obtain ⟨r_152, X_152, h_152, hf153⟩ := m_bi_s hf150
      clear hf150
      refine lw_callSi K [.int v11, .int 4] [.int 1] (c_L_low l D a cy K.2.2.2.2 N _ _ _ h_152) (lw_goodS wl_L_107 wst_L_low wn_L wc_L_low) ⟨rfl, rfl⟩ hv_L_low ⟨Nat.le_of_ble_eq_true rfl, Nat.le_of_ble_eq_true rfl⟩ hP hS rfl hl.1 rfl (Nat.le_of_ble_eq_true rfl) dL_law_239 (fun H locs hP hS => ?_)
      refine lv_iadd hx hb dL_law_242 ?_
      refine lv_topi (fun y_154 e_154 => ?_)
      have hf155 := m_nm_s e_154 hf153
      clear hf153
      refine lv_goto (tgt := 268) hx hb dL_law_243 (by decide) ?_
      exact w_L_law_268 l D a cy N hL K _ kb _ _ _ _ _ _ hf155 d0 hd0 H locs ls hP hS (lv_sub hl [1, 2, 3, 4, 5, 6, 7, 8, 9, 10, 11, 12, 0] rfl)
    · have hf151 := m_it c_149 hf148
      clear hf148
      refine lv_bipush (v := 40) hx hb dL_law_233 (by decide) ?_
      refine lv_goto (tgt := 239) hx hb dL_law_235 (by decide) ?_
      obtain ⟨r_156, X_156, h_156, hf157⟩ := m_bi_s hf151
      clear hf151
      refine lw_callSi K [.int v11, .int 40] [.int 1] (c_L_low l D a cy K.2.2.2.2 N _ _ _ h_156) (lw_goodS wl_L_107 wst_L_low wn_L wc_L_low) ⟨rfl, rfl⟩ hv_L_low ⟨Nat.le_of_ble_eq_true rfl, Nat.le_of_ble_eq_true rfl⟩ hP hS rfl hl.1 rfl (Nat.le_of_ble_eq_true rfl) dL_law_239 (fun H locs hP hS => ?_)
      refine lv_iadd hx hb dL_law_242 ?_
      refine lv_topi (fun y_158 e_158 => ?_)
      have hf159 := m_nm_s e_158 hf157
      clear hf157
      refine lv_goto (tgt := 268) hx hb dL_law_243 (by decide) ?_
      exact w_L_law_268 l D a cy N hL K _ kb _ _ _ _ _ _ hf159 d0 hd0 H locs ls hP hS (lv_sub hl [1, 2, 3, 4, 5, 6, 7, 8, 9, 10, 11, 12, 0] rfl)
def f_L_law_85 (xs : Nat → Int32) (L N : Nat) : Nat → Int32 → XT → Option (Int32 × XT)
  | 0, _, _ => none
  | n + 1, v9, X => if 46 ≤ v9 then (some (1, X)) else (m_nm ((2 : Int32) * v9) fun y_4 => m_gd (¬ y_4 < 0) <| m_nm (lw_cell xs L y_4) fun y_6 => m_nm ((2 : Int32) * v9) fun y_9 => m_nm (y_9 + 1) fun y_11 => m_gd (¬ y_11 < 0) <| m_nm (lw_cell xs L y_11) fun y_13 => m_bi (f_L_low N y_6 24 X) fun r_16 X_16 => if 11 ≤ r_16 then (if 13 ≤ r_16 then (if 18 ≤ r_16 then (if r_16 = 18 then (f_L_law_209 xs L N (f_L_law_85 xs L N n) v9 y_6 y_13 3 X_16) else (if r_16 = 19 then (f_L_law_209 xs L N (f_L_law_85 xs L N n) v9 y_6 y_13 4 X_16) else (if 22 ≤ r_16 then (if r_16 = 22 then (m_nm (v9 - v9 / 3 * 3) fun y_160 => if y_160 = 0 then (f_L_law_209 xs L N (f_L_law_85 xs L N n) v9 y_6 y_13 6 X_16) else (f_L_law_209 xs L N (f_L_law_85 xs L N n) v9 y_6 y_13 0 X_16)) else (f_L_law_209 xs L N (f_L_law_85 xs L N n) v9 y_6 y_13 0 X_16)) else (f_L_law_209 xs L N (f_L_law_85 xs L N n) v9 y_6 y_13 5 X_16)))) else (f_L_law_209 xs L N (f_L_law_85 xs L N n) v9 y_6 y_13 2 X_16)) else (f_L_law_209 xs L N (f_L_law_85 xs L N n) v9 y_6 y_13 1 X_16)) else (f_L_law_209 xs L N (f_L_law_85 xs L N n) v9 y_6 y_13 0 X_16))
set_option maxHeartbeats 4000000 in
set_option maxRecDepth 100000 in
theorem w_L_law_85 (l : Launch) (D : va_G) (a : Nat → Nat) (cy : Nat → ClassId) (N : Nat) {p : Program} {e : Env} {s : State} {m : MethodId} {below : List Frame} {meth : Method} {c : Code} {b L : Nat} {xs : Nat → Int32} (hL : L ≤ 260) (K : lw_K p s m meth c b L xs D a cy) {X0 : XT} : ∀ (n : Nat) (v9 : Int32) (X : XT), f_L_law_85 xs L N n v9 X = some (1, X0) → ∀ (d0 : Drawn), s.drawn.sameBut d0 lw_cs → ∀ (H : Heap) (locs : List Loc) (ls : Array Slot), va_P D vwCl (m_WC a cy X) H → va_S (lw_A0 s) s.heap H locs → lv_has ls 19 [(0, .ref b), (1, .ref (a 126)), (2, .ref (a 131)), (3, .ref (a 132)), (4, .ref (a 133)), (5, .ref (a 134)), (6, .ref (a 135)), (7, .ref (a 136)), (8, .ref (a 137)), (9, .int v9)] → W p l e room_1 (s.setDrawn d0) m #[Value.ref b] below meth c H locs 600000 7302250 (lw_Z below #[Value.ref b] s) (F0 m 85 ls []) := by
  have hx := K.1.1
  have hb := K.1.2.1
  have hr := K.1.2.2.1
  have hlocks := K.1.2.2.2.2.2.2.2.2.1
  intro n
  induction n with
  | zero => intro v9 X hf0; rw [f_L_law_85] at hf0; cases hf0
  | succ n ih =>
    intro v9 X hf0 d0 hd0 H locs ls hP hS hl
    rw [f_L_law_85] at hf0
    refine lv_iload hx hb dL_law_85 (lv_at hl 9 rfl) ?_
    refine lv_bipush (v := 46) hx hb dL_law_87 (by decide) ?_
    refine lv_icmp_ge (tgt := 514) hx hb dL_law_89 (by decide) (fun c_1 => ?_) (fun c_1 => ?_)
    · have hf2 := m_it c_1 hf0
      clear hf0
      refine lv_iconst (v := 1) hx hb dL_law_514 (by decide) ?_
      refine va_forget (fun q hq => hS.2.2 q hq) ?_
      exact lw_ret hd0 hx hb hr hlocks dL_law_515
    · have hf3 := m_ie c_1 hf0
      clear hf0
      refine lv_aload_n hx hb dL_law_92 rfl (lv_at hl 0 rfl) ?_
      refine lv_iconst (v := 2) hx hb dL_law_93 (by decide) ?_
      refine lv_iload hx hb dL_law_94 (lv_at hl 9 rfl) ?_
      refine lv_imul hx hb dL_law_96 ?_
      refine lv_topi (fun y_4 e_4 => ?_)
      have hf5 := m_nm_s e_4 hf3
      clear hf3
      obtain ⟨g_6, hf8⟩ := m_gd_s hf5
      clear hf5
      refine lw_callCell hL K [] g_6 hP hS hl.1 (Nat.le_of_ble_eq_true rfl) dL_law_97 (fun y_6 e_6 H locs hP hS => ?_)
      have hf7 := m_nm_s e_6 hf8
      clear hf8
      refine lv_istore (lv' := [(10, .int y_6), (0, .ref b), (1, .ref (a 126)), (2, .ref (a 131)), (3, .ref (a 132)), (4, .ref (a 133)), (5, .ref (a 134)), (6, .ref (a 135)), (7, .ref (a 136)), (8, .ref (a 137)), (9, .int v9)]) hx hb dL_law_100 hl (by decide) rfl (fun ls hl => ?_)
      refine lv_aload_n hx hb dL_law_102 rfl (lv_at hl 1 rfl) ?_
      refine lv_iconst (v := 2) hx hb dL_law_103 (by decide) ?_
      refine lv_iload hx hb dL_law_104 (lv_at hl 10 rfl) ?_
      refine lv_imul hx hb dL_law_106 ?_
      refine lv_topi (fun y_9 e_9 => ?_)
      have hf10 := m_nm_s e_9 hf7
      clear hf7
      refine lv_iconst (v := 1) hx hb dL_law_107 (by decide) ?_
      refine lv_iadd hx hb dL_law_108 ?_
      refine lv_topi (fun y_11 e_11 => ?_)
      have hf12 := m_nm_s e_11 hf10
      clear hf10
      obtain ⟨g_13, hf15⟩ := m_gd_s hf12
      clear hf12
      refine lw_callCell hL K [] g_13 hP hS hl.1 (Nat.le_of_ble_eq_true rfl) dL_law_109 (fun y_13 e_13 H locs hP hS => ?_)
      have hf14 := m_nm_s e_13 hf15
      clear hf15
      refine lv_istore (lv' := [(11, .int y_13), (10, .int y_6), (0, .ref b), (1, .ref (a 126)), (2, .ref (a 131)), (3, .ref (a 132)), (4, .ref (a 133)), (5, .ref (a 134)), (6, .ref (a 135)), (7, .ref (a 136)), (8, .ref (a 137)), (9, .int v9)]) hx hb dL_law_112 hl (by decide) rfl (fun ls hl => ?_)
      refine lv_iload hx hb dL_law_114 (lv_at hl 1 rfl) ?_
      refine lv_bipush (v := 24) hx hb dL_law_116 (by decide) ?_
      obtain ⟨r_16, X_16, h_16, hf17⟩ := m_bi_s hf14
      clear hf14
      refine lw_callSi K [.int y_6, .int 24] [] (c_L_low l D a cy K.2.2.2.2 N _ _ _ h_16) (lw_goodS wl_L_107 wst_L_low wn_L wc_L_low) ⟨rfl, rfl⟩ hv_L_low ⟨Nat.le_of_ble_eq_true rfl, Nat.le_of_ble_eq_true rfl⟩ hP hS rfl hl.1 rfl (Nat.le_of_ble_eq_true rfl) dL_law_118 (fun H locs hP hS => ?_)
      refine lv_istore (lv' := [(12, .int r_16), (11, .int y_13), (10, .int y_6), (0, .ref b), (1, .ref (a 126)), (2, .ref (a 131)), (3, .ref (a 132)), (4, .ref (a 133)), (5, .ref (a 134)), (6, .ref (a 135)), (7, .ref (a 136)), (8, .ref (a 137)), (9, .int v9)]) hx hb dL_law_121 hl (by decide) rfl (fun ls hl => ?_)
      refine lv_iload hx hb dL_law_123 (lv_at hl 0 rfl) ?_
      refine lv_bipush (v := 11) hx hb dL_law_125 (by decide) ?_
      refine lv_icmp_ge (tgt := 134) hx hb dL_law_127 (by decide) (fun c_18 => ?_) (fun c_18 => ?_)
      · have hf19 := m_it c_18 hf17
        clear hf17
        refine lv_iload hx hb dL_law_134 (lv_at hl 0 rfl) ?_
        refine lv_bipush (v := 13) hx hb dL_law_136 (by decide) ?_
        refine lv_icmp_ge (tgt := 145) hx hb dL_law_138 (by decide) (fun c_21 => ?_) (fun c_21 => ?_)
        · have hf22 := m_it c_21 hf19
          clear hf19
          refine lv_iload hx hb dL_law_145 (lv_at hl 0 rfl) ?_
          refine lv_bipush (v := 18) hx hb dL_law_147 (by decide) ?_
          refine lv_icmp_ge (tgt := 156) hx hb dL_law_149 (by decide) (fun c_24 => ?_) (fun c_24 => ?_)
          · have hf25 := m_it c_24 hf22
            clear hf22
            refine lv_iload hx hb dL_law_156 (lv_at hl 0 rfl) ?_
            refine lv_bipush (v := 18) hx hb dL_law_158 (by decide) ?_
            refine lv_icmp_ne (tgt := 167) hx hb dL_law_160 (by decide) (fun c_27 => ?_) (fun c_27 => ?_)
            · have hf28 := m_ie c_27 hf25
              clear hf25
              refine lv_iload hx hb dL_law_167 (lv_at hl 0 rfl) ?_
              refine lv_bipush (v := 19) hx hb dL_law_169 (by decide) ?_
              refine lv_icmp_ne (tgt := 178) hx hb dL_law_171 (by decide) (fun c_30 => ?_) (fun c_30 => ?_)
              · have hf31 := m_ie c_30 hf28
                clear hf28
                refine lv_iload hx hb dL_law_178 (lv_at hl 0 rfl) ?_
                refine lv_bipush (v := 22) hx hb dL_law_180 (by decide) ?_
                refine lv_icmp_ge (tgt := 189) hx hb dL_law_182 (by decide) (fun c_33 => ?_) (fun c_33 => ?_)
                · have hf34 := m_it c_33 hf31
                  clear hf31
                  refine lv_iload hx hb dL_law_189 (lv_at hl 0 rfl) ?_
                  refine lv_bipush (v := 22) hx hb dL_law_191 (by decide) ?_
                  refine lv_icmp_ne (tgt := 208) hx hb dL_law_193 (by decide) (fun c_36 => ?_) (fun c_36 => ?_)
                  · have hf37 := m_ie c_36 hf34
                    clear hf34
                    refine lv_iconst (v := 0) hx hb dL_law_208 (by decide) ?_
                    exact w_L_law_209 l D a cy N hL K _ ih _ _ _ _ _ hf37 d0 hd0 H locs ls hP hS (lv_sub hl [3, 4, 5, 6, 7, 8, 9, 10, 11, 12, 2, 1] rfl)
                  · have hf38 := m_it c_36 hf34
                    clear hf34
                    refine lv_iload hx hb dL_law_196 (lv_at hl 12 rfl) ?_
                    refine lv_iconst (v := 3) hx hb dL_law_198 (by decide) ?_
                    refine lv_irem hx hb dL_law_199 (by decide) ?_
                    refine lv_topi (fun y_160 e_160 => ?_)
                    have hf161 := m_nm_s e_160 hf38
                    clear hf38
                    refine lv_if_ne (tgt := 208) hx hb dL_law_200 (by decide) (fun c_162 => ?_) (fun c_162 => ?_)
                    · have hf163 := m_ie c_162 hf161
                      clear hf161
                      refine lv_iconst (v := 0) hx hb dL_law_208 (by decide) ?_
                      exact w_L_law_209 l D a cy N hL K _ ih _ _ _ _ _ hf163 d0 hd0 H locs ls hP hS (lv_sub hl [3, 4, 5, 6, 7, 8, 9, 10, 11, 12, 2, 1] rfl)
                    · have hf164 := m_it c_162 hf161
                      clear hf161
                      refine lv_bipush (v := 6) hx hb dL_law_203 (by decide) ?_
                      refine lv_goto (tgt := 209) hx hb dL_law_205 (by decide) ?_
                      exact w_L_law_209 l D a cy N hL K _ ih _ _ _ _ _ hf164 d0 hd0 H locs ls hP hS (lv_sub hl [3, 4, 5, 6, 7, 8, 9, 10, 11, 12, 2, 1] rfl)
                · have hf35 := m_ie c_33 hf31
                  clear hf31
                  refine lv_iconst (v := 5) hx hb dL_law_185 (by decide) ?_
                  refine lv_goto (tgt := 209) hx hb dL_law_186 (by decide) ?_
                  exact w_L_law_209 l D a cy N hL K _ ih _ _ _ _ _ hf35 d0 hd0 H locs ls hP hS (lv_sub hl [3, 4, 5, 6, 7, 8, 9, 10, 11, 12, 2, 1] rfl)
              · have hf32 := m_it c_30 hf28
                clear hf28
                refine lv_iconst (v := 4) hx hb dL_law_174 (by decide) ?_
                refine lv_goto (tgt := 209) hx hb dL_law_175 (by decide) ?_
                exact w_L_law_209 l D a cy N hL K _ ih _ _ _ _ _ hf32 d0 hd0 H locs ls hP hS (lv_sub hl [3, 4, 5, 6, 7, 8, 9, 10, 11, 12, 2, 1] rfl)
            · have hf29 := m_it c_27 hf25
              clear hf25
              refine lv_iconst (v := 3) hx hb dL_law_163 (by decide) ?_
              refine lv_goto (tgt := 209) hx hb dL_law_164 (by decide) ?_
              exact w_L_law_209 l D a cy N hL K _ ih _ _ _ _ _ hf29 d0 hd0 H locs ls hP hS (lv_sub hl [3, 4, 5, 6, 7, 8, 9, 10, 11, 12, 2, 1] rfl)
          · have hf26 := m_ie c_24 hf22
            clear hf22
            refine lv_iconst (v := 2) hx hb dL_law_152 (by decide) ?_
            refine lv_goto (tgt := 209) hx hb dL_law_153 (by decide) ?_
            exact w_L_law_209 l D a cy N hL K _ ih _ _ _ _ _ hf26 d0 hd0 H locs ls hP hS (lv_sub hl [3, 4, 5, 6, 7, 8, 9, 10, 11, 12, 2, 1] rfl)
        · have hf23 := m_ie c_21 hf19
          clear hf19
          refine lv_iconst (v := 1) hx hb dL_law_141 (by decide) ?_
          refine lv_goto (tgt := 209) hx hb dL_law_142 (by decide) ?_
          exact w_L_law_209 l D a cy N hL K _ ih _ _ _ _ _ hf23 d0 hd0 H locs ls hP hS (lv_sub hl [3, 4, 5, 6, 7, 8, 9, 10, 11, 12, 2, 1] rfl)
      · have hf20 := m_ie c_18 hf17
        clear hf17
        refine lv_iconst (v := 0) hx hb dL_law_130 (by decide) ?_
        refine lv_goto (tgt := 209) hx hb dL_law_131 (by decide) ?_
        exact w_L_law_209 l D a cy N hL K _ ih _ _ _ _ _ hf20 d0 hd0 H locs ls hP hS (lv_sub hl [3, 4, 5, 6, 7, 8, 9, 10, 11, 12, 2, 1] rfl)
